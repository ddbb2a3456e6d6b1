/-! numbers and lists that are read -/
def CH (r : Nat → Nat) (p0 n p : Nat) : Prop := ∃ c : Nat → Nat, (∀ i, i < n → c i < 300 ∧ r (30 + c i) = 2) ∧ (∀ i j, i < j → j < n → c i ≠ c j) ∧ (∀ i, i < n → lk r (3 * c i) = if i = 0 then p0 else 3 * c (i - 1) + 2) ∧ p = if n = 0 then p0 else 3 * c (n - 1) + 2
theorem CH.start (r : Nat → Nat) (p0 : Nat) : CH r p0 0 p0 := ⟨fun _ => 0, fun i hi => absurd hi (Nat.not_lt_zero _), fun i j _ hj => absurd hj (Nat.not_lt_zero _), fun i hi => absurd hi (Nat.not_lt_zero _), rfl⟩
theorem CH.step {r : Nat → Nat} (hv : NV r) {p0 n p z : Nat} (hp0 : p0 % 3 ≠ 2 ∨ 1000 ≤ p0) (h : CH r p0 n p) (hz : z < 300) (hk : r (30 + z) = 2) (e : lk r p = 3 * z) (hp : xP r p) : CH r p0 (n + 1) (3 * z + 2) := by
  obtain ⟨c, h1, h2, h3, h4⟩ := h
  have back : lk r (3 * z) = p := by rw [← e]; exact (hv.2.2 p hp).2.1
  have new : ∀ i, i < n → c i ≠ z := by
    intro i hi ez
    have a := h3 i hi
    rw [ez, back] at a
    have b := (h1 i hi).1
    have b2 := (h1 (n - 1) (by omega)).1
    rw [if_neg (by omega)] at h4
    by_cases q : i = 0
    · rw [if_pos q] at a
      omega
    · rw [if_neg q] at a
      exact h2 (i - 1) (n - 1) (by omega) (by omega) (by omega)
  refine ⟨fun i => if i = n then z else c i, fun i hi => ?_, fun i j hij hj => ?_, fun i hi => ?_, ?_⟩
  · show (if i = n then z else c i) < 300 ∧ r (30 + if i = n then z else c i) = 2
    by_cases q : i = n
    · rw [if_pos q]; exact ⟨hz, hk⟩
    · rw [if_neg q]; exact h1 i (by omega)
  · show (if i = n then z else c i) ≠ if j = n then z else c j
    rw [if_neg (by omega)]
    by_cases q : j = n
    · rw [if_pos q]; exact new i (by omega)
    · rw [if_neg q]; exact h2 i j hij (by omega)
  · show lk r (3 * if i = n then z else c i) = if i = 0 then p0 else 3 * (if i - 1 = n then z else c (i - 1)) + 2
    by_cases q : i = n
    · rw [if_pos q, back, h4, q]
      by_cases w : n = 0
      · rw [if_pos w, if_pos w]
      · rw [if_neg w, if_neg w, if_neg (by omega)]
    · rw [if_neg q, h3 i (by omega)]
      by_cases w : i = 0
      · rw [if_pos w, if_pos w]
      · rw [if_neg w, if_neg w, if_neg (by omega)]
  · show 3 * z + 2 = if n + 1 = 0 then p0 else 3 * (if n + 1 - 1 = n then z else c (n + 1 - 1)) + 2
    rw [if_neg (by omega), if_pos (by omega)]
theorem CH.lt {r : Nat → Nat} {p0 n p : Nat} (h : CH r p0 n p) (he : n = 0 ∨ ∃ e, e < 300 ∧ r (30 + e) = 1) : n < 300 := by
  obtain ⟨c, h1, h2, _, _⟩ := h
  have le := fb_holes 300 n c (fun i hi => (h1 i hi).1) h2
  rcases he with rfl | ⟨e, e3, ke⟩
  · omega
  · refine Classical.byContradiction fun q => ?_
    have hn : n = 300 := by omega
    subst hn
    obtain ⟨i, hi, ei⟩ := fb_onto (n := 300) (f := c) (fun i hi => (h1 i hi).1) h2 e3
    have := (h1 i hi).2
    rw [ei, ke] at this
    omega
/-- which node's head is there -/
def hA (q : Nat) : Int32 := if q < 900 ∧ q % 3 = 0 then nI (q / 3) else -1
theorem m_headAt_ok {st : OSt} {r : Nat → Nat} (hv : NV r) {p : Nat} (hp : xP r p) : m_headAt (sR st r) (nI p) = some (hA (lk r p)) := by
  have hq := (hv.2.2 p hp).1
  have lt := xP_lt hq
  unfold m_headAt hA
  rw [m_linkOf_ok (xP_lt hp), bd_s]
  show (if (1000 : Int32) ≤ nI (lk r p) then some (-1) else if nI (lk r p) - nI (lk r p) / 3 * 3 = 0 then some (nI (lk r p) / 3) else some (-1)) = _
  generalize lk r p = q at hq lt
  by_cases a : q < 900
  · rw [if_neg (show ¬ (1000 : Int32) ≤ nI q from nI_ge (b := 1000) (by omega) (by omega)), i3, n_div (by omega) (by omega) (by omega), pk_mul, n_sub (by omega), sub_dm]
    by_cases b : q % 3 = 0
    · rw [b, if_pos (show nI 0 = 0 from rfl), if_pos ⟨a, rfl⟩]
    · rw [if_neg (nI_ne0 (by omega) (by omega)), if_neg (fun z => b z.2)]
  · have : 1000 ≤ q := by rcases hq with z | z <;> omega
    rw [if_pos (show (1000 : Int32) ≤ nI q from nI_le (a := 1000) this (by omega)), if_neg (fun z => a z.1)]
theorem n_kindByHead_ok {r : Nat → Nat} {sn : NSt} (hc : NC r sn) {q : Nat} (hq : xP r q) : n_kindByHead sn (nI q) = some (if q < 900 ∧ q % 3 = 0 then nI (r (30 + q / 3) - 1) else -1) := by
  have lt := xP_lt hq
  unfold n_kindByHead
  rw [n_isHead_ok (by omega), bd_s]
  by_cases a : q < 900 ∧ q % 3 = 0
  · have k : 0 < r (30 + q / 3) := by rcases hq with z | z; exact z.2.1; omega
    rw [if_pos a, if_neg (by decide), i3, n_div (by omega) (by omega) (by omega), n_kindOf_in hc.1 (by omega), bd_s, kI_p k, if_pos a]
  · rw [if_neg a, if_pos rfl, if_neg a]
theorem ports {r : Nat → Nat} {z : Nat} (hz : z < 300) (hk : r (30 + z) = 2) : xP r (3 * z + 1) ∧ xP r (3 * z + 2) := by
  refine ⟨Or.inl ⟨by omega, ?_, Or.inr ?_⟩, Or.inl ⟨by omega, ?_, Or.inr ?_⟩⟩
  · rw [show (3 * z + 1) / 3 = z by omega]; omega
  · rw [show (3 * z + 1) / 3 = z by omega]; omega
  · rw [show (3 * z + 2) / 3 = z by omega]; omega
  · rw [show (3 * z + 2) / 3 = z by omega]; omega
def EX (r : Nat → Nat) : Prop := ∃ e, e < 300 ∧ r (30 + e) = 1
theorem number_loop {r : Nat → Nat} {sn : NSt} {st : OSt} (hv : NV r) (hc : NC r sn) {p0 : Nat} (hp0 : p0 % 3 ≠ 2 ∨ 1000 ≤ p0) : ∀ (fuel n p : Nat), n ≤ 300 → 300 - n < fuel → CH r p0 n p → xP r p → (n = 0 ∨ EX r) →
    ∃ x, n_numberAt_8 fuel sn (nI (lk r p)) (nI n) = some x ∧ m_numberAt_8 fuel (sR st r) (nI n) (hA (lk r p)) = some x ∧ (x = -2 ∨ ((∃ m, m < 300 ∧ x = nI m) ∧ EX r)) := by
  intro fuel
  induction fuel with
  | zero => intro n p _ h; omega
  | succ f ih =>
    intro n p hn hf hch hp he
    have hlt := hch.lt he
    have hq := (hv.2.2 p hp).1
    rw [n_numberAt_8, m_numberAt_8, if_neg (show ¬ (300 : Int32) ≤ nI n from nI_ge (b := 300) hlt (by omega)), n_kindByHead_ok hc hq, bd_s]
    unfold hA
    by_cases a : lk r p < 900 ∧ lk r p % 3 = 0
    · obtain ⟨z, hz, ez⟩ : ∃ z, z < 300 ∧ lk r p = 3 * z := ⟨lk r p / 3, by omega, by omega⟩
      have k : 0 < r (30 + z) := by rw [ez] at hq; exact (xP_hd hz).mp hq
      have k3 := (hv.1.2.1 z hz).1
      rw [if_pos a, if_pos a, ez, show 3 * z / 3 = z by omega, if_neg (ne_m1 (by omega)), m_kindOf_ok hz k, bd_s]
      by_cases k1 : r (30 + z) = 1
      · rw [k1, if_pos (show nI (1 - 1) = 0 from rfl), if_neg (show ¬ nI (1 - 1) = 1 by decide), if_neg (ne_m1 (by omega)), bd_s, if_pos (show nI (1 - 1) = 0 from rfl)]
        exact ⟨nI n, rfl, rfl, Or.inr ⟨⟨n, hlt, rfl⟩, z, hz, k1⟩⟩
      · rw [if_neg (nI_ne0 (by omega) (by omega))]
        by_cases k2 : r (30 + z) = 2
        · obtain ⟨q1, q2⟩ := ports hz k2
          have g1 := (hv.2.2 _ q1).1
          rw [k2, if_pos (show nI (2 - 1) = 1 from rfl), if_pos (show nI (2 - 1) = 1 from rfl), i1, i2, i3, pk_mul, nI_add, nI_add, n_at_ok hc.2.1 q1, bd_s, n_kindByHead_ok hc g1, bd_s, m_headAt_ok hv q1, bd_s]
          unfold hA
          by_cases b : lk r (3 * z + 1) < 900 ∧ lk r (3 * z + 1) % 3 = 0
          · obtain ⟨y, hy, ey⟩ : ∃ y, y < 300 ∧ lk r (3 * z + 1) = 3 * y := ⟨lk r (3 * z + 1) / 3, by omega, by omega⟩
            have ky : 0 < r (30 + y) := by rw [ey] at g1; exact (xP_hd hy).mp g1
            have ky3 := (hv.1.2.1 y hy).1
            rw [if_pos b, if_pos b, ey, show 3 * y / 3 = y by omega, if_neg (show ¬ nI y = -nI 1 from ne_m1 (by omega)), m_kindOf_ok hy ky, bd_s]
            by_cases w : r (30 + y) = 1
            · rw [w, if_pos (show nI (1 - 1) = 0 from rfl), if_pos (show nI (1 - 1) = 0 from rfl), n_at_ok hc.2.1 q2, bd_s, nI_add, m_headAt_ok hv q2, bd_s]
              exact ih (n + 1) (3 * z + 2) (by omega) (by omega) (hch.step hv hp0 hz k2 ez hp) q2 (Or.inr ⟨y, hy, w⟩)
            · rw [if_neg (nI_ne0 (by omega) (by omega)), if_neg (nI_ne0 (by omega) (by omega))]
              exact ⟨-2, rfl, rfl, Or.inl rfl⟩
          · rw [if_neg b, if_neg b, if_neg (by decide), if_pos (show (-1 : Int32) = -nI 1 from rfl)]
            exact ⟨-2, rfl, rfl, Or.inl rfl⟩
        · rw [if_neg (show ¬ nI (r (30 + z) - 1) = 1 by rw [i1, nI_eq (by omega) (by omega)]; omega), if_neg (show ¬ nI (r (30 + z) - 1) = 1 by rw [i1, nI_eq (by omega) (by omega)]; omega), if_neg (ne_m1 (by omega)), bd_s, if_neg (nI_ne0 (by omega) (by omega))]
          exact ⟨-2, rfl, rfl, Or.inl rfl⟩
    · rw [if_neg a, if_neg a, if_neg (by decide), if_neg (by decide), if_pos rfl, if_pos rfl]
      exact ⟨-2, rfl, rfl, Or.inl rfl⟩
theorem number_ok {r : Nat → Nat} {sn : NSt} {st : OSt} (hv : NV r) (hc : NC r sn) {p0 : Nat} (hp0 : p0 % 3 ≠ 2 ∨ 1000 ≤ p0) (hp : xP r p0) : ∃ x, n_numberAt sn (nI p0) = some x ∧ m_numberAt (sR st r) (nI p0) = some x ∧ (x = -2 ∨ ((∃ m, m < 300 ∧ x = nI m) ∧ EX r)) := by
  obtain ⟨x, a, b, c⟩ := number_loop (st := st) hv hc hp0 20000 0 p0 (by omega) (by omega) (CH.start r p0) hp (Or.inl rfl)
  refine ⟨x, ?_, ?_, c⟩
  · unfold n_numberAt
    rw [n_at_ok hc.2.1 hp, bd_s, i0]
    exact a
  · unfold m_numberAt
    rw [m_headAt_ok hv hp, bd_s, i0]
    exact b
theorem list_loop {r : Nat → Nat} {sn : NSt} {st : OSt} (hv : NV r) (hc : NC r sn) (v2 : Int32) {p0 : Nat} (hp0 : p0 % 3 ≠ 2 ∨ 1000 ≤ p0) : ∀ (fuel n p : Nat) (v4 : Int32), n ≤ 300 → 300 - n < fuel → CH r p0 n p → xP r p → (n = 0 ∨ EX r) →
    ∃ x, n_listAt_13 fuel sn v2 (nI (lk r p)) v4 (nI n) = some x ∧ m_list__43 fuel (sR st r) v2 (nI n) v4 (hA (lk r p)) = some (x, sR st r) := by
  intro fuel
  induction fuel with
  | zero => intro n p v4 _ h; omega
  | succ f ih =>
    intro n p v4 hn hf hch hp he
    have hlt := hch.lt he
    have hq := (hv.2.2 p hp).1
    rw [n_listAt_13, m_list__43, if_neg (show ¬ (300 : Int32) ≤ nI n from nI_ge (b := 300) hlt (by omega)), n_kindByHead_ok hc hq, bd_s]
    unfold hA
    by_cases a : lk r p < 900 ∧ lk r p % 3 = 0
    · obtain ⟨z, hz, ez⟩ : ∃ z, z < 300 ∧ lk r p = 3 * z := ⟨lk r p / 3, by omega, by omega⟩
      have k : 0 < r (30 + z) := by rw [ez] at hq; exact (xP_hd hz).mp hq
      have k3 := (hv.1.2.1 z hz).1
      rw [if_pos a, if_pos a, ez, show 3 * z / 3 = z by omega, if_neg (ne_m1 (by omega)), m_kindOf_ok hz k, bd_s]
      by_cases k1 : r (30 + z) = 1
      · rw [k1, if_pos (show nI (1 - 1) = 0 from rfl), if_neg (show ¬ nI (1 - 1) = 1 by decide)]
        unfold m_list__113
        rw [if_neg (ne_m1 (by omega)), m_kindOf_ok hz k, bd_s, k1, if_pos (show nI (1 - 1) = 0 from rfl)]
        by_cases w : v2 = -1
        · rw [if_pos w, if_pos w]; exact ⟨nI n, rfl, rfl⟩
        · rw [if_neg w, if_neg w]; exact ⟨v4, rfl, rfl⟩
      · rw [if_neg (nI_ne0 (by omega) (by omega))]
        by_cases k2 : r (30 + z) = 2
        · obtain ⟨q1, q2⟩ := ports hz k2
          obtain ⟨x, b1, b2, b3⟩ := number_ok (st := st) hv hc (p0 := 3 * z + 1) (Or.inl (by omega)) q1
          rw [k2, if_pos (show nI (2 - 1) = 1 from rfl), if_pos (show nI (2 - 1) = 1 from rfl), i1, i3, i2, pk_mul, nI_add, nI_add, nI_add, b1, bd_s, b2, bd_s]
          by_cases w : x = -nI 2
          · rw [if_pos w, if_pos w]
            exact ⟨-nI 2, rfl, rfl⟩
          · have he2 : EX r := (b3.resolve_left (fun e => w (by rw [e]; rfl))).2
            rw [if_neg w, if_neg w, n_at_ok hc.2.1 q2, bd_s, m_headAt_ok hv q2, bd_s]
            have nx := hch.step hv hp0 hz k2 ez hp
            by_cases u : nI n = v2
            · rw [if_pos u, if_pos u]
              exact ih (n + 1) (3 * z + 2) x (by omega) (by omega) nx q2 (Or.inr he2)
            · rw [if_neg u, if_neg u]
              exact ih (n + 1) (3 * z + 2) v4 (by omega) (by omega) nx q2 (Or.inr he2)
        · rw [if_neg (show ¬ nI (r (30 + z) - 1) = 1 by rw [i1, nI_eq (by omega) (by omega)]; omega), if_neg (show ¬ nI (r (30 + z) - 1) = 1 by rw [i1, nI_eq (by omega) (by omega)]; omega)]
          unfold m_list__113
          rw [if_neg (ne_m1 (by omega)), m_kindOf_ok hz k, bd_s, if_neg (nI_ne0 (by omega) (by omega))]
          exact ⟨-2, rfl, rfl⟩
    · rw [if_neg a, if_neg a, if_neg (by decide), if_neg (by decide), if_pos rfl]
      unfold m_list__113
      rw [if_pos rfl]
      exact ⟨-2, rfl, rfl⟩
theorem list_ok {r : Nat → Nat} {sn : NSt} {st : OSt} (hv : NV r) (hc : NC r sn) (v2 : Int32) {p0 : Nat} (hp0 : p0 % 3 ≠ 2 ∨ 1000 ≤ p0) (hp : xP r p0) : ∃ x, n_listAt sn (nI p0) v2 = some x ∧ (bd (m_headAt (sR st r) (nI p0)) fun x5 => m_list__43 20000 (sR st r) v2 0 (-2) x5) = some (x, sR st r) := by
  obtain ⟨x, a, b⟩ := list_loop (st := st) hv hc v2 hp0 20000 0 p0 (-2) (by omega) (by omega) (CH.start r p0) hp (Or.inl rfl)
  refine ⟨x, ?_, ?_⟩
  · unfold n_listAt
    rw [n_at_ok hc.2.1 hp, bd_s, i0]
    exact a
  · rw [m_headAt_ok hv hp, bd_s, i0]
    exact b
