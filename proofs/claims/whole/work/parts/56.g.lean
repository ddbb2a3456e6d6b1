/-! steps by an order; a round -/
/-- the reference's object but for its scratch -/
def FA (st st' : OSt) : Prop := (∀ k, k ≠ 24 → k ≠ 25 → st'.1 k = st.1 k) ∧ ∀ k, k ≠ 1 → k ≠ 20 → k ≠ 21 → k ≠ 22 → k ≠ 23 → k ≠ 27 → st'.2 k = st.2 k
theorem FA.rf (st : OSt) : FA st st := ⟨fun _ _ _ => rfl, fun _ _ _ _ _ _ _ => rfl⟩
theorem FA.tr {a b c : OSt} (h : FA a b) (g : FA b c) : FA a c := ⟨fun k h1 h2 => (g.1 k h1 h2).trans (h.1 k h1 h2), fun k h1 h2 h3 h4 h5 h6 => (g.2 k h1 h2 h3 h4 h5 h6).trans (h.2 k h1 h2 h3 h4 h5 h6)⟩
theorem FS.fa {a b : OSt} (h : FS a b) : FA a b := ⟨fun k _ _ => by rw [h.1], fun k _ h2 h3 h4 h5 _ => h.2 k h2 h3 h4 h5⟩
theorem FA.I (st : OSt) {j : Nat} (hj : j = 24 ∨ j = 25) (v : Int32) : FA st (sI st j v) := ⟨fun k h1 h2 => by rw [sI_1, if_neg (by omega)], fun _ _ _ _ _ _ _ => rfl⟩
theorem draw_ok (y : Int32) : ∃ u, u < 65536 ∧ (y.toUInt32 >>> ((16 : Int32).toUInt32 &&& Int32.toUInt32 31)).toInt32 = nI u := by
  obtain ⟨n, hn, rfl⟩ := nI_ex y
  exact ⟨n / 2 ^ 16, by omega, pk_ushrN hn 16 16 (by decide)⟩
/-- which of them is taken -/
def pick (o c : Nat) (s : Int32) (k : Nat) : Prop := (o = 0 ∧ k = 0) ∨ (o = 1 ∧ k = c - 1) ∨ (o = 2 ∧ ∃ u, u < 65536 ∧ ((s * 1103515245 + 12345).toUInt32 >>> ((16 : Int32).toUInt32 &&& Int32.toUInt32 31)).toInt32 = nI u ∧ k = u % c)
theorem pick_ex {o c : Nat} (ho : o ≤ 2) (hc : 0 < c) (s : Int32) : ∃ k, k < c ∧ pick o c s k := by
  have : o = 0 ∨ o = 1 ∨ o = 2 := by omega
  rcases this with rfl | rfl | rfl
  · exact ⟨0, hc, Or.inl ⟨rfl, rfl⟩⟩
  · exact ⟨c - 1, by omega, Or.inr (Or.inl ⟨rfl, rfl⟩)⟩
  · obtain ⟨u, hu, e⟩ := draw_ok (s * 1103515245 + 12345)
    exact ⟨u % c, Nat.mod_lt _ hc, Or.inr (Or.inr ⟨rfl, u, hu, e, rfl⟩)⟩
def dr (o : Nat) (s : Int32) : Int32 := if o = 2 then s * 1103515245 + 12345 else s
def st24 (st : OSt) (o : Nat) : OSt := if o = 2 then sI st 24 (dr o (st.1 24)) else st
theorem m_chosen_ok {st : OSt} {r : Nat → Nat} (hv : NV r) {o k x : Nat} (ho : o ≤ 2) (hx : x < 300) (hr : rd r x = true) (hk : fb_ct (rd r) x = k) (hp : pick o (fb_ct (rd r) 300) (st.1 24) k) : m_chosen (sR st r) (nI o) = some (nI x, sR (st24 st o) r) := by
  have hc := fb_ct_le (rd r) 300
  have hc0 : 0 < fb_ct (rd r) 300 := fb_ct_pos.mpr ⟨x, hx, hr⟩
  have h53 : ∀ st' : OSt, m_chosen_53 (sR st' r) (nI k) = some (nI x, sR st' r) := by
    intro st'
    unfold m_chosen_53
    have := m_chosen_56_ok (st := st') hv hx hr hk 20000 0 (Nat.zero_le _) (by omega)
    rw [show fb_ct (rd r) 0 = 0 from rfl, Nat.sub_zero] at this
    rw [i0, this, bd_s]
  unfold m_chosen
  simp only [nm_eq]
  rw [m_pairs_ok hv, show uP r 1 = rd r from if_neg (by decide), bd_s, if_neg (nI_ne0 hc0 (by omega))]
  rcases hp with ⟨rfl, rfl⟩ | ⟨rfl, rfl⟩ | ⟨rfl, u, hu, e, rfl⟩
  · rw [if_neg (show ¬ nI 0 = 2 by decide)]
    unfold m_chosen_44
    rw [if_neg (show ¬ nI 0 = 1 by decide), i0, h53]
    rfl
  · rw [if_neg (show ¬ nI 1 = 2 by decide)]
    unfold m_chosen_44
    rw [if_pos (show nI 1 = 1 from rfl), i1, n_sub (by omega), h53]
    rfl
  · rw [if_pos (show nI 2 = 2 from rfl), gn_nI hc0 (by omega), sR_I]
    have e2 : ((sR (sI st 24 ((sR st r).1 24 * 1103515245 + 12345)) r).1 24) = st.1 24 * 1103515245 + 12345 := rfl
    rw [e2, e, n_div (by omega) hc0 (by omega), pk_mul, n_sub (by rw [Nat.mul_comm]; exact Nat.mul_div_le _ _), sub_dm]
    unfold m_chosen_44
    rw [if_neg (show ¬ nI 2 = 1 by decide), h53]
    rfl
theorem n_pick_ok {r : Nat → Nat} {sn : NSt} (h : NC r sn) (hv : NV r) {k x : Nat} (hx : x < 300) (hr : rd r x = true) (hk : fb_ct (rd r) x = k) : p_at (np sn) (nI k) (if r 1 + 2 ≤ r 0 then 1 else 0) = some (nI x) := by
  have hc := fb_ct_le (rd r) x
  have m1 := fb_ct_mono (rd r) (show x + 1 ≤ 320 by omega)
  rw [fb_ct_succ, hr, if_pos rfl] at m1
  rcases p_at_ok (h.rdy hv) (k := k) (by omega) with ⟨a, _⟩ | ⟨z, _, b, c, d⟩
  · omega
  · rw [d, fb_ct_kth_one b hr (c.trans hk.symm)]
theorem steps_loop {o m : Nat} (ho : o ≤ 2) (hm : m ≤ 9999) : ∀ (fuel n : Nat) (st : OSt) (r : Nat → Nat) (sn : NSt), n ≤ m → m - n < fuel → NV r → NC r sn → 1020 ≤ nl sn → ni sn 14 = st.1 25 → (∃ pk, pk ≤ 300 ∧ st.1 25 = nI pk) →
    ∃ n' r' st' sn', m_steps_18 fuel (sR st r) (nI o) (nI m) (nI n) = some (nI n', sR st' r') ∧ n_goOn_14 fuel sn (nI o) (nI m) (st.1 24) (nI n) = some (nI n', sn') ∧ NV r' ∧ NC r' sn' ∧ nl sn' = nl sn ∧ FA st st' ∧ ni sn' 14 = st'.1 25 := by
  intro fuel
  induction fuel with
  | zero => intro n st r sn _ h; omega
  | succ f ih =>
    intro n st r sn hn hf hv h hl hpk hp
    rw [m_steps_18, n_goOn_14]
    by_cases q : n = m
    · subst q
      rw [if_pos (nI_le (Nat.le_refl _) (by omega)), if_pos (nI_le (Nat.le_refl _) (by omega))]
      exact ⟨n, r, st, sn, rfl, rfl, hv, h, rfl, FA.rf st, hpk⟩
    · have hc := fb_ct_le (rd r) 300
      rw [if_neg (nI_ge (by omega) (by omega)), if_neg (nI_ge (by omega) (by omega)), n_readyPairs_ok h hv, bd_s]
      rcases Nat.eq_zero_or_pos (fb_ct (rd r) 300) with z | z
      · have hch : m_chosen (sR st r) (nI o) = some (-1, sR st r) := by
          unfold m_chosen
          rw [m_pairs_ok hv, show uP r 1 = rd r from if_neg (by decide), bd_s, z, if_pos (show nI 0 = 0 from rfl)]
        rw [hch, bd_s, if_pos rfl, z, if_neg (show ¬ (0 : Int32) < nI 0 by decide)]
        exact ⟨n, r, st, sn, rfl, rfl, hv, h, rfl, FA.rf st, hpk⟩
      · obtain ⟨k, hk, pk⟩ := pick_ex ho z (st.1 24)
        obtain ⟨x, hx, hr, ck⟩ := fb_ct_kth hk
        rw [m_chosen_ok hv ho hx hr ck pk, bd_s, if_neg (ne_m1 (by omega))]
        obtain ⟨r', st', sn', a1, a2, a3, a4, a5, a6, a7⟩ := reduce_ok (st := st24 st o) hv h hl hr
        simp only
        rw [a1, bd_s]
        have e25 : st'.1 25 = st.1 25 := by
          rw [a2.1]
          unfold st24
          split <;> rfl
        have e24 : st'.1 24 = dr o (st.1 24) := by
          rw [a2.1]
          unfold st24 dr
          split
          · rfl
          · rfl
        obtain ⟨pk0, hpk0, epk⟩ := hp
        have w1 := a4.1.le1
        -- the most nodes there were
        have mx : ∃ pk1, pk1 ≤ 300 ∧ (if (sR st' r').2 1 1 ≤ (sR st' r').1 25 then nm (sI (sR st' r') 25 ((sR st' r').1 25)) fun s8 => m_steps_18 f s8 (nI o) (nI m) (nI n + 1) else nm (sI (sR st' r') 25 ((sR st' r').2 1 1)) fun s9 => m_steps_18 f s9 (nI o) (nI m) (nI n + 1)) = m_steps_18 f (sR (sI st' 25 (nI pk1)) r') (nI o) (nI m) (nI (n + 1)) ∧ (if ni sn' 14 < ni sn' 7 then ni sn' 7 else ni sn' 14) = nI pk1 := by
          have z1 : (sR st' r').2 1 1 = nI (r' 1) := rfl
          have z2 : (sR st' r').1 25 = nI pk0 := by rw [sR_1, e25, epk]
          have z3 : ni sn' 14 = nI pk0 := by rw [a6.2.2, hpk, epk]
          have z4 : ni sn' 7 = nI (r' 1) := a5.1.1.2.1
          rw [z1, z2, z3, z4]
          by_cases w : r' 1 ≤ pk0
          · rw [if_pos (nI_le w (by omega)), if_neg (nI_nlt w (by omega)), nm_eq, sR_I, nI_1]
            exact ⟨pk0, hpk0, rfl, rfl⟩
          · rw [if_neg (nI_ge (by omega) (by omega)), if_pos (nI_lt (by omega) (by omega)), nm_eq, sR_I, nI_1]
            exact ⟨r' 1, w1.2, rfl, rfl⟩
        obtain ⟨pk1, hpk1, b1, b2⟩ := mx
        rw [b1]
        have h' : NC r' (nsI sn' 14 (nI pk1)) := a5
        obtain ⟨n', r2, st2, sn2, c1, c2, c3, c4, c5, c6, c7⟩ := ih (n + 1) (sI st' 25 (nI pk1)) r' (nsI sn' 14 (nI pk1)) (by omega) (by omega) a4 h' (by show 1020 ≤ nl sn'; rw [a6.1]; exact hl) rfl ⟨pk1, hpk1, rfl⟩
        refine ⟨n', r2, st2, sn2, c1, ?_, c3, c4, c5.trans a6.1, ?_, c7⟩
        · rw [← c2]
          have e24' : (sI st' 25 (nI pk1)).1 24 = dr o (st.1 24) := e24
          rw [e24']
          have body : ∀ v : Int32, (bd (n_hasRoom sn 2) fun xr => bd (p_at (np sn) (nI k) xr) fun xx => bd (n_rewrite sn xx) fun x9 => nm (nsI x9.2 14 (if (ni x9.2 14) < (ni x9.2 7) then (ni x9.2 7) else (ni x9.2 14))) fun s10 => n_goOn_14 f s10 (nI o) (nI m) v (nI n + 1)) = n_goOn_14 f (nsI sn' 14 (nI pk1)) (nI o) (nI m) v (nI (n + 1)) := by
            intro v
            rw [n_room_ok h hv, bd_s, n_pick_ok h hv hx hr ck, bd_s, a3, bd_s, nm_eq]
            simp only
            rw [b2, nI_1]
          rw [if_pos (show (0 : Int32) < nI (fb_ct (rd r) 300) from nI_lt (a := 0) z (by omega))]
          rcases pk with ⟨rfl, rfl⟩ | ⟨rfl, rfl⟩ | ⟨rfl, u, hu, e, rfl⟩
          · rw [if_neg (show ¬ nI 0 = 1 by decide), if_neg (show ¬ nI 0 = 2 by decide)]
            exact body (st.1 24)
          · rw [if_pos (show nI 1 = 1 from rfl), if_neg (show ¬ nI 1 = 2 by decide), i1, n_sub (by omega)]
            exact body (st.1 24)
          · rw [if_neg (show ¬ nI 2 = 1 by decide), if_pos (show nI 2 = 2 from rfl), nm_eq, Int32.mul_comm, e, gn_nI z (by omega), nm_eq, n_div (by omega) z (by omega), pk_mul, n_sub (by rw [Nat.mul_comm]; exact Nat.mul_div_le _ _), sub_dm]
            exact body _
        · have f1 : FA st (st24 st o) := by
            unfold st24
            split
            · exact FA.I st (Or.inl rfl) _
            · exact FA.rf st
          exact ((f1.tr a2.fa).tr (FA.I st' (Or.inr rfl) _)).tr c6
theorem steps_ok {o m : Nat} (ho : o ≤ 2) (hm : m ≤ 9999) {st : OSt} {r : Nat → Nat} {sn : NSt} (hv : NV r) (h : NC r sn) (hl : 1020 ≤ nl sn) (s : Int32) :
    ∃ n' r' st' sn', m_steps (sR st r) (nI o) (nI m) s = some (nI n', sR st' r') ∧ n_goOn sn (nI o) (nI m) s = some (nI n', sn') ∧ NV r' ∧ NC r' sn' ∧ nl sn' = nl sn ∧ FA st st' ∧ ni sn' 14 = st'.1 25 := by
  have w1 := hv.1.le1
  have h' : NC r (nsI sn 14 (ni sn 7)) := h
  obtain ⟨n', r2, st2, sn2, c1, c2, c3, c4, c5, c6, c7⟩ := steps_loop ho hm 20000 0 (sI (sI st 24 s) 25 (nI (r 1))) r (nsI sn 14 (ni sn 7)) (by omega) (by omega) hv h' hl (by
    show ni sn 7 = nI (r 1)
    exact h.1.1.2.1) ⟨r 1, w1.2, rfl⟩
  refine ⟨n', r2, st2, sn2, ?_, ?_, c3, c4, c5, ((FA.I st (Or.inl rfl) s).tr (FA.I _ (Or.inr rfl) _)).tr c6, c7⟩
  · unfold m_steps
    rw [nm_eq, nm_eq, sR_I, sR_I, i0]
    exact c1
  · unfold n_goOn
    rw [nm_eq, i0]
    exact c2
/-- how many at most -/
theorem ct_inj {n : Nat} {p q : Nat → Bool} {g : Nat → Nat} (h : ∀ x, x < n → p x = true → g x < n ∧ q (g x) = true) (inj : ∀ x y, x < n → y < n → p x = true → p y = true → g x = g y → x = y) : fb_ct p n ≤ fb_ct q n := by
  have ch : ∀ i, ∃ x, i < fb_ct p n → x < n ∧ p x = true ∧ fb_ct p x = i := fun i => by
    by_cases hi : i < fb_ct p n
    · obtain ⟨x, a⟩ := fb_ct_kth hi
      exact ⟨x, fun _ => a⟩
    · exact ⟨0, fun z => absurd z hi⟩
  obtain ⟨X, hX⟩ := Classical.axiomOfChoice ch
  refine fb_holes (fb_ct q n) (fb_ct p n) (fun i => fb_ct q (g (X i))) (fun i hi => ?_) (fun i j hij hj e => ?_)
  · obtain ⟨a, b, c⟩ := hX i hi
    obtain ⟨d, e⟩ := h _ a b
    have m := fb_ct_mono q (show g (X i) + 1 ≤ n by omega)
    rw [fb_ct_succ, e, if_pos rfl] at m
    show fb_ct q (g (X i)) < _
    omega
  · obtain ⟨a, b, c⟩ := hX i (by omega)
    obtain ⟨a2, b2, c2⟩ := hX j hj
    have := inj _ _ a a2 b b2 (fb_ct_kth_one (h _ a b).2 (h _ a2 b2).2 e)
    rw [this] at c
    omega
theorem pairs_le {r : Nat → Nat} (hv : NV r) : fb_ct (iP r) 300 ≤ 150 := by
  have h1 : fb_ct (iP r) 300 ≤ fb_ct (fun y => !iP r y) 300 := by
    refine ct_inj (g := fun x => lk r (3 * x) / 3) (fun x _ hp => ?_) (fun x z _ _ hp hz e => ?_)
    · obtain ⟨y, ⟨x3, y3, xy⟩, ⟨e, e'⟩, _, _⟩ := iP_y hv hp
      have ey : lk r (3 * x) / 3 = y := by omega
      show lk r (3 * x) / 3 < 300 ∧ (!iP r (lk r (3 * x) / 3)) = true
      rw [ey]
      refine ⟨y3, ?_⟩
      have : iP r y = false := decide_eq_false (fun w => by
        have := w.2.2.2
        omega)
      rw [this]
      rfl
    · obtain ⟨y, ⟨x3, y3, xy⟩, ⟨e1, e1'⟩, _, _⟩ := iP_y hv hp
      obtain ⟨y2, ⟨z3, y23, zy⟩, ⟨e2, e2'⟩, _, _⟩ := iP_y hv hz
      have e : lk r (3 * x) / 3 = lk r (3 * z) / 3 := e
      have : y = y2 := by omega
      subst this
      omega
  have h2 := fb_ct_not (iP r) 300
  omega
theorem goesRound_4_ok {r : Nat → Nat} (hv : NV r) : ∀ (fuel x : Nat) (st : OSt), x ≤ 300 → 300 - x < fuel → (∀ z, z < x → iP r z = true → st.2 27 (fb_ct (iP r) z) = nI z) → ∃ st', m_goesRound_4 fuel (sR st r) (nI (fb_ct (iP r) x)) (nI x) = some (sR st' r, nI (fb_ct (iP r) 300)) ∧ FA st st' ∧ ∀ z, z < 300 → iP r z = true → st'.2 27 (fb_ct (iP r) z) = nI z := by
  intro fuel
  induction fuel with
  | zero => intro x st _ h; omega
  | succ f ih =>
    intro x st hx hf h0
    rw [m_goesRound_4]
    by_cases q : x = 300
    · subst q
      rw [if_pos (show (300 : Int32) ≤ nI 300 from nI_le (a := 300) (b := 300) (Nat.le_refl _) (by omega))]
      exact ⟨st, rfl, FA.rf st, h0⟩
    · have hc : fb_ct (iP r) (x + 1) = fb_ct (iP r) x + (if iP r x then 1 else 0) := rfl
      rw [if_neg (show ¬ (300 : Int32) ≤ nI x from nI_ge (b := 300) (by omega) (by omega)), m_isPair_ok hv (by omega), bd_s, nI_1]
      cases hi : iP r x with
      | false =>
        rw [if_pos (by rfl)]
        obtain ⟨st', a, b, c⟩ := ih (x + 1) st (by omega) (by omega) (fun z hz hp => by
          by_cases e : z = x
          · rw [e, hi] at hp; cases hp
          · exact h0 z (by omega) hp)
        rw [hc, hi] at a
        exact ⟨st', a, b, c⟩
      | true =>
        have hle := pairs_le hv
        have m1 := fb_ct_mono (iP r) (show x + 1 ≤ 300 by omega)
        rw [hc, hi, if_pos rfl] at m1
        rw [if_neg (by decide), gd_nI (by omega) (by omega), nm_eq, nc (by omega), sR_o _ _ (by decide), sR_A _ _ (by decide), nI_1]
        obtain ⟨st', a, b, c⟩ := ih (x + 1) (sA st 27 (upd (st.2 27) (fb_ct (iP r) x) (nI x))) (by omega) (by omega) (fun z hz hp => by
          show upd (st.2 27) (fb_ct (iP r) x) (nI x) (fb_ct (iP r) z) = nI z
          rw [upd_at]
          by_cases e : z = x
          · rw [e, if_pos rfl]
          · rw [if_neg (fun w => e (fb_ct_kth_one hp hi w))]
            exact h0 z (by omega) hp)
        rw [hc, hi, if_pos rfl] at a
        have fa1 : FA st (sA st 27 (upd (st.2 27) (fb_ct (iP r) x) (nI x))) := ⟨fun _ _ _ => rfl, fun k h1 h2 h3 h4 h5 h6 => by rw [sA_2, if_neg h6]⟩
        exact ⟨st', a, fa1.tr b, c⟩
theorem round_loop {U : Nat → Bool} {ps : PSt} (hU : PU ps 1 U) (hlt : ∀ z, U z = true → z < 300) (hle : fb_ct U 300 ≤ 150) : ∀ (fuel k w : Nat) (st : OSt) (r : Nat → Nat) (sn : NSt), k ≤ fb_ct U 300 → fb_ct U 300 - k < fuel → w ≤ k → NV r → NC r sn → 1020 ≤ nl sn → nh sn = ps → (∀ z, U z = true → st.2 27 (fb_ct U z) = nI z) → (∀ z, U z = true → k ≤ fb_ct U z → iP r z = true) →
    ∃ w' r' st' sn', m_goesRound_39 fuel (sR st r) (nI (fb_ct U 300)) (nI w) (nI k) = some (sR st' r', nI w') ∧ n_goRound_24 fuel sn (nI (fb_ct U 300)) (nI w) (nI k) = some (sn', nI w') ∧ NV r' ∧ NC r' sn' ∧ nl sn' = nl sn ∧ FA st st' ∧ w' ≤ 150 := by
  intro fuel
  induction fuel with
  | zero => intro k w st r sn _ h; omega
  | succ f ih =>
    intro k w st r sn hk hf hw hv h hl hnh h27 hi
    rw [m_goesRound_39, n_goRound_24]
    by_cases q : k = fb_ct U 300
    · rw [if_pos (nI_le (by omega) (by omega)), if_pos (nI_le (by omega) (by omega))]
      exact ⟨w, r, st, sn, rfl, rfl, hv, h, rfl, FA.rf st, by omega⟩
    · obtain ⟨x, hx, ux, cx⟩ := fb_ct_kth (p := U) (k := k) (n := 300) (by omega)
      have hp := hi x ux (by omega)
      have e27 : st.2 27 k = nI x := by rw [← cx]; exact h27 x ux
      have pa : p_at (nh sn) (nI k) 1 = some (nI x) := by
        rw [hnh]
        have m1 := fb_ct_mono U (show 300 ≤ 320 by omega)
        rcases p_at_ok hU (k := k) (by omega) with ⟨a, _⟩ | ⟨z, _, b, c, d⟩
        · omega
        · rw [d, fb_ct_kth_one b ux (c.trans cx.symm)]
      rw [if_neg (nI_ge (by omega) (by omega)), if_neg (nI_ge (by omega) (by omega)), gd_nI (by omega) (by omega), nc (by omega), sR_o _ _ (by decide), e27, m_canReduce_ok hv hp, bd_s, pa, bd_s, n_canGo_ok h hv hp, bd_s, nI_1]
      cases hr : rd r x with
      | false =>
        rw [if_pos (by rfl), if_pos (by rfl)]
        exact ih (k + 1) w st r sn (by omega) (by omega) (by omega) hv h hl hnh h27 (fun z uz hz => hi z uz (by omega))
      | true =>
        obtain ⟨r', st', sn', a1, a2, a3, a4, a5, a6, a7⟩ := reduce_ok (st := st) hv h hl hr
        rw [if_neg (by decide), if_neg (by decide), gd_nI (by omega) (by omega), a1, bd_s, a3, bd_s, nI_1]
        obtain ⟨w', r2, st2, sn2, c1, c2, c3, c4, c5, c6, c7⟩ := ih (k + 1) (w + 1) st' r' sn' (by omega) (by omega) (by omega) a4 a5 (by rw [a6.1]; exact hl) (a6.2.1.trans hnh) (fun z uz => by rw [a2.2 27 (by decide) (by decide) (by decide) (by decide)]; exact h27 z uz) (fun z uz hz => by
          refine (a7 z (hi z uz (by omega)) (fun e => ?_)).1
          rw [e] at hz
          omega)
        exact ⟨w', r2, st2, sn2, c1, c2, c3, c4, c5.trans a6.1, a2.fa.tr c6, c7⟩
theorem round_ok {st : OSt} {r : Nat → Nat} {sn : NSt} (hv : NV r) (h : NC r sn) (hl : 1020 ≤ nl sn) :
    ∃ w r' st' sn', m_goesRound (sR st r) = some (nI w, sR st' r') ∧ n_goRound sn = some (nI w, sn') ∧ NV r' ∧ NC r' sn' ∧ nl sn' = nl sn ∧ FA st st' ∧ w ≤ 150 := by
  obtain ⟨ps, e1, hps⟩ := p_become_ok (nh sn) (np sn)
  have hU : PU ps 1 (iP r) := by
    refine (hps h.pb).evy (fun x hx => ?_) (by decide)
    unfold iP pS pT hd
    rw [decide_eq_true_iff]
    constructor
    · rintro ⟨a, b, c, d⟩
      by_cases q : Kr r x + Kr r (lk r (3 * x) / 3) = 5
      · exact Or.inr ⟨a, (xP_hd a).mpr b, c, d, q⟩
      · exact Or.inl ⟨a, (xP_hd a).mpr b, c, d, q⟩
    · rintro (⟨a, b, c, d, _⟩ | ⟨a, b, c, d, _⟩) <;> exact ⟨a, (xP_hd a).mp b, c, d⟩
  obtain ⟨st1, b1, b2, b3⟩ := goesRound_4_ok hv 20000 0 st (by omega) (by omega) (fun z hz => absurd hz (Nat.not_lt_zero _))
  have lt300 : ∀ z, iP r z = true → z < 300 := fun z hz => (of_decide_eq_true hz).1
  have h' : NC r (nsH sn ps) := h
  obtain ⟨w', r2, st2, sn2, c1, c2, c3, c4, c5, c6, c7⟩ := round_loop hU lt300 (pairs_le hv) 20000 0 0 st1 r (nsH sn ps) (Nat.zero_le _) (by have := pairs_le hv; omega) (Nat.le_refl _) hv h' hl rfl (fun z uz => b3 z (lt300 z uz) uz) (fun z uz _ => uz)
  have sz : p_size ps 1 = some (nI (fb_ct (iP r) 300)) := by rw [p_size_ok hU, ct_320 (fun x hx => iP_out hx)]
  refine ⟨w', r2, st2, sn2, ?_, ?_, c3, c4, c5, b2.tr c6, c7⟩
  · unfold m_goesRound
    rw [show m_goesRound_4 20000 (sR st r) 0 0 = some (sR st1 r, nI (fb_ct (iP r) 300)) from b1, bd_s]
    simp only
    rw [i0, c1, bd_s]
  · unfold n_goRound
    rw [e1, bd_s]
    show bd (p_size ps 1) _ = _
    rw [sz, bd_s, i0, c2, bd_s]
