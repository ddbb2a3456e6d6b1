/-! bits of the pairs' words -/
theorem fb_dec {N : Nat} (p : Nat → Bool) (h : (List.range N).all p = true) : ∀ a, a < N → p a = true := fun a ha => List.all_eq_true.mp h a (List.mem_range.mpr ha)
/-- 'and', by low and high parts -/
theorem land_split {a c b d : Nat} (ha : a < 256) (hc : c < 256) : (a + 256 * b) &&& (c + 256 * d) = (a &&& c) + 256 * (b &&& d) := by
  have hac : a &&& c < 2 ^ 8 := Nat.and_lt_two_pow _ (show c < 2 ^ 8 from hc)
  apply Nat.eq_of_testBit_eq
  intro i
  have e1 : a + 256 * b = 2 ^ 8 * b + a := by omega
  have e2 : c + 256 * d = 2 ^ 8 * d + c := by omega
  have e3 : (a &&& c) + 256 * (b &&& d) = 2 ^ 8 * (b &&& d) + (a &&& c) := by omega
  rw [Nat.testBit_and, e1, e2, e3, Nat.testBit_two_pow_mul_add b (show a < 2 ^ 8 from ha), Nat.testBit_two_pow_mul_add d (show c < 2 ^ 8 from hc), Nat.testBit_two_pow_mul_add _ hac]
  split
  · rw [Nat.testBit_and]
  · rw [Nat.testBit_and]
def bY1 (n m : Nat) : Nat := n - ((n / 2) &&& m)
def bY2 (y m : Nat) : Nat := (y &&& m) + ((y / 4) &&& m)
def bY3 (y m : Nat) : Nat := (y + y / 16) &&& m
def bM (c : Nat) : Nat → Nat
  | 0 => 0
  | k + 1 => c + 256 * bM c k
def bg (a : Nat) : Nat := bY3 (bY2 (bY1 a 85) 51) 15
def bG : Nat → Nat → Nat
  | 0, _ => 0
  | k + 1, n => bg (n % 256) + 256 * bG k (n / 256)
theorem bk1 : ∀ a, a < 512 → ((a % 256) / 2 + 128 * (a / 256)) &&& 85 = ((a % 256) / 2) &&& 85 ∧ ((a % 256) / 2) &&& 85 ≤ a % 256 := by decide +kernel
theorem bk2 : ∀ a, a < 1024 → ((a % 256) / 4 + 64 * (a / 256)) &&& 51 = ((a % 256) / 4) &&& 51 := by decide +kernel
theorem bk3 : ∀ a, a < 256 → bY2 (bY1 a 85) 51 ≤ 102 ∧ bY2 (bY1 a 85) 51 % 16 ≤ 6 ∧ bg a = fb_ct (fun i => a.testBit i) 8 ∧ bg a ≤ 8 := by decide +kernel
theorem bk4 : ∀ a, a < 721 → (a % 103 + a % 103 / 16 + 16 * (a / 103)) &&& 15 = (a % 103 + a % 103 / 16) &&& 15 := by decide +kernel
theorem bY1_s {a b m : Nat} (ha : a < 256) : bY1 (a + 256 * b) (85 + 256 * m) = bY1 a 85 + 256 * bY1 b m := by
  have h := bk1 (a + 256 * (b % 2)) (by omega)
  rw [show (a + 256 * (b % 2)) % 256 = a by omega, show (a + 256 * (b % 2)) / 256 = b % 2 by omega] at h
  unfold bY1
  have e : (a + 256 * b) / 2 = (a / 2 + 128 * (b % 2)) + 256 * (b / 2) := by omega
  rw [e, land_split (by omega) (by decide), h.1]
  have h2 : (b / 2) &&& m ≤ b := Nat.le_trans Nat.and_le_left (Nat.div_le_self _ _)
  have h3 := h.2
  omega
theorem bY1_le {n m : Nat} : bY1 n m ≤ n := Nat.sub_le _ _
theorem bY2_s {a b m : Nat} (ha : a < 256) : bY2 (a + 256 * b) (51 + 256 * m) = bY2 a 51 + 256 * bY2 b m := by
  have h := bk2 (a + 256 * (b % 4)) (by omega)
  rw [show (a + 256 * (b % 4)) % 256 = a by omega, show (a + 256 * (b % 4)) / 256 = b % 4 by omega] at h
  unfold bY2
  have e : (a + 256 * b) / 4 = (a / 4 + 64 * (b % 4)) + 256 * (b / 4) := by omega
  rw [e, land_split ha (by decide), land_split (by omega) (by decide), h]
  omega
theorem bY3_s {a b m : Nat} (ha : a ≤ 102) (hb : b % 16 ≤ 6) : bY3 (a + 256 * b) (15 + 256 * m) = bY3 a 15 + 256 * bY3 b m := by
  have h := bk4 (a + 103 * (b % 16)) (by omega)
  rw [show (a + 103 * (b % 16)) % 103 = a by omega, show (a + 103 * (b % 16)) / 103 = b % 16 by omega] at h
  unfold bY3
  have e : (a + 256 * b) + (a + 256 * b) / 16 = (a + a / 16 + 16 * (b % 16)) + 256 * (b + b / 16) := by omega
  rw [e, land_split (by omega) (by decide), h]
theorem bG_ok : ∀ (k n : Nat), n < 256 ^ k → bY3 (bY2 (bY1 n (bM 85 k)) (bM 51 k)) (bM 15 k) = bG k n ∧ bY2 (bY1 n (bM 85 k)) (bM 51 k) % 16 ≤ 6 := by
  intro k
  induction k with
  | zero =>
    intro n hn
    have : n = 0 := by rw [Nat.pow_zero] at hn; omega
    subst this
    exact ⟨rfl, by decide⟩
  | succ k ih =>
    intro n hn
    have hn2 : n / 256 < 256 ^ k := by rw [Nat.pow_succ] at hn; exact Nat.div_lt_of_lt_mul (by rw [Nat.mul_comm]; exact hn)
    obtain ⟨i1, i2⟩ := ih (n / 256) hn2
    have hb := bk3 (n % 256) (Nat.mod_lt _ (by decide))
    have e : n = n % 256 + 256 * (n / 256) := by omega
    have h1 : bY1 n (bM 85 (k + 1)) = bY1 (n % 256) 85 + 256 * bY1 (n / 256) (bM 85 k) := by
      rw [show bY1 n (bM 85 (k + 1)) = bY1 (n % 256 + 256 * (n / 256)) (85 + 256 * bM 85 k) by rw [← e]; rfl]
      exact bY1_s (Nat.mod_lt _ (by decide))
    have h2 : bY2 (bY1 n (bM 85 (k + 1))) (bM 51 (k + 1)) = bY2 (bY1 (n % 256) 85) 51 + 256 * bY2 (bY1 (n / 256) (bM 85 k)) (bM 51 k) := by
      rw [h1]
      exact bY2_s (Nat.lt_of_le_of_lt bY1_le (Nat.mod_lt _ (by decide)))
    rw [h2]
    constructor
    · rw [show bM 15 (k + 1) = 15 + 256 * bM 15 k from rfl, bY3_s hb.1 i2, i1]
      rfl
    · have := hb.2.1
      omega
def bS : Nat → Nat → Nat
  | 0, _ => 0
  | k + 1, n => bg (n % 256) + bS k (n / 256)
theorem bS_ok : ∀ (k n : Nat), fb_ct (fun i => n.testBit i) (8 * k) = bS k n := by
  intro k
  induction k with
  | zero => intro n; rfl
  | succ k ih =>
    intro n
    have e : 8 * (k + 1) = 8 + 8 * k := by omega
    have h1 : fb_ct (fun i => n.testBit i) 8 = bg (n % 256) := by
      rw [(bk3 _ (Nat.mod_lt _ (by decide))).2.2.1]
      apply fb_ct_cong
      intro i hi
      rw [show (256 : Nat) = 2 ^ 8 from rfl, Nat.testBit_mod_two_pow]
      simp [hi]
    have h2 : (fun i => n.testBit (8 + i)) = fun i => (n / 256).testBit i := by
      funext i
      rw [show (256 : Nat) = 2 ^ 8 from rfl, Nat.testBit_div_two_pow, Nat.add_comm]
    rw [e, fb_ct_split, h1, h2, ih]
    rfl
theorem bg_le (a : Nat) : bg (a % 256) ≤ 8 := (bk3 _ (Nat.mod_lt _ (by decide))).2.2.2
theorem bt_fin {p0 p1 p2 p3 p4 p5 p6 p7 A0 A1 A2 A3 A4 A5 A6 A7 : Nat} (h0 : p0 ≤ 8) (h1 : p1 ≤ 8) (h2 : p2 ≤ 8) (h3 : p3 ≤ 8) (h4 : p4 ≤ 8) (h5 : p5 ≤ 8) (h6 : p6 ≤ 8) (h7 : p7 ≤ 8) (e7 : A7 = p7 + 256 * 0) (e6 : A6 = p6 + 256 * A7) (e5 : A5 = p5 + 256 * A6) (e4 : A4 = p4 + 256 * A5) (e3 : A3 = p3 + 256 * A4) (e2 : A2 = p2 + 256 * A3) (e1 : A1 = p1 + 256 * A2) (e0 : A0 = p0 + 256 * A1) :
    A0 < 1000000000000000000 ∧ A0 + A0 / 256 < 2000000000000000000 ∧ (A0 + A0 / 256) + (A0 + A0 / 256) / 65536 < 4000000000000000000 ∧
    (((A0 + A0 / 256) + (A0 + A0 / 256) / 65536) + ((A0 + A0 / 256) + (A0 + A0 / 256) / 65536) / 4294967296) % 128 = p0 + (p1 + (p2 + (p3 + (p4 + (p5 + (p6 + (p7 + 0))))))) := by
  have b7 : A7 ≤ 8 := by omega
  have b6 : A6 ≤ 2056 := by omega
  have b5 : A5 ≤ 526344 := by omega
  have b4 : A4 ≤ 134744072 := by omega
  have b3 : A3 ≤ 34494482440 := by omega
  have b2 : A2 ≤ 8830587504648 := by omega
  have b1 : A1 ≤ 2260630401189896 := by omega
  have b0 : A0 ≤ 578721382704613384 := by omega
  have q1 : A0 / 256 = A1 := by omega
  rw [q1]
  have c0 : A0 + A1 = (p0 + p1) + 256 * (A1 + A2) := by omega
  have c1 : A1 + A2 = (p1 + p2) + 256 * (A2 + A3) := by omega
  have q2 : (A0 + A1) / 65536 = A2 + A3 := by
    clear e0 e1 e2 e3 e4 e5 e6 e7 q1
    omega
  rw [q2]
  have f0 : (A0 + A1) + (A2 + A3) = (p0 + p1 + p2 + p3) + 256 * ((A1 + A2) + (A3 + A4)) := by omega
  have f1 : (A1 + A2) + (A3 + A4) = (p1 + p2 + p3 + p4) + 256 * ((A2 + A3) + (A4 + A5)) := by omega
  have f2 : (A2 + A3) + (A4 + A5) = (p2 + p3 + p4 + p5) + 256 * ((A3 + A4) + (A5 + A6)) := by omega
  have f3 : (A3 + A4) + (A5 + A6) = (p3 + p4 + p5 + p6) + 256 * ((A4 + A5) + (A6 + A7)) := by omega
  have f4 : (A4 + A5) + (A6 + A7) = (p4 + p5 + p6 + p7) + 256 * ((A5 + A6) + A7) := by omega
  have q3 : ((A0 + A1) + (A2 + A3)) / 4294967296 = (A4 + A5) + (A6 + A7) := by
    rw [show (4294967296 : Nat) = 256 * (256 * (256 * 256)) from rfl, ← Nat.div_div_eq_div_mul, ← Nat.div_div_eq_div_mul, ← Nat.div_div_eq_div_mul, f0]
    rw [show (p0 + p1 + p2 + p3 + 256 * ((A1 + A2) + (A3 + A4))) / 256 = (A1 + A2) + (A3 + A4) by clear e0 e1 e2 e3 e4 e5 e6 e7 q1 q2 f0 f1 f2 f3 f4 c0 c1; omega, f1]
    rw [show (p1 + p2 + p3 + p4 + 256 * ((A2 + A3) + (A4 + A5))) / 256 = (A2 + A3) + (A4 + A5) by clear e0 e1 e2 e3 e4 e5 e6 e7 q1 q2 f0 f1 f2 f3 f4 c0 c1; omega, f2]
    rw [show (p2 + p3 + p4 + p5 + 256 * ((A3 + A4) + (A5 + A6))) / 256 = (A3 + A4) + (A5 + A6) by clear e0 e1 e2 e3 e4 e5 e6 e7 q1 q2 f0 f1 f2 f3 f4 c0 c1; omega, f3]
    clear e0 e1 e2 e3 e4 e5 e6 e7 q1 q2 f0 f1 f2 f3 f4 c0 c1
    omega
  rw [q3]
  refine ⟨by omega, by omega, by omega, ?_⟩
  rw [f0, f4]
  clear e0 e1 e2 e3 e4 e5 e6 e7 q1 q2 q3 f0 f1 f2 f3 f4 c0 c1
  omega
/-- Long.bitCount -/
theorem j_bitCount_ok (w : Int64) : j_bitCount w = some (nI (fb_ct (fun i => w.toBitVec.getLsbD i) 64)) := by
  obtain ⟨n, hn, rfl⟩ := wb_of w
  have hb : (fun i => (lN n).toBitVec.getLsbD i) = fun i => n.testBit i := by
    funext i
    show (lN n).toBitVec.toNat.testBit i = _
    rw [wb_tn hn]
  rw [hb]
  have hG := bG_ok 8 n (by exact hn)
  have e85 : bM 85 8 = 6148914691236517205 := by decide
  have e51 : bM 51 8 = 3689348814741910323 := by decide
  have e15 : bM 15 8 = 1085102592571150095 := by decide
  rw [e85, e51, e15] at hG
  have hF := bt_fin (A0 := bG 8 n) (A1 := bG 7 (n / 256)) (A2 := bG 6 (n / 256 / 256)) (A3 := bG 5 (n / 256 / 256 / 256)) (A4 := bG 4 (n / 256 / 256 / 256 / 256)) (A5 := bG 3 (n / 256 / 256 / 256 / 256 / 256)) (A6 := bG 2 (n / 256 / 256 / 256 / 256 / 256 / 256)) (A7 := bG 1 (n / 256 / 256 / 256 / 256 / 256 / 256 / 256)) (bg_le n) (bg_le (n / 256)) (bg_le (n / 256 / 256)) (bg_le (n / 256 / 256 / 256)) (bg_le (n / 256 / 256 / 256 / 256)) (bg_le (n / 256 / 256 / 256 / 256 / 256)) (bg_le (n / 256 / 256 / 256 / 256 / 256 / 256)) (bg_le (n / 256 / 256 / 256 / 256 / 256 / 256 / 256)) rfl rfl rfl rfl rfl rfl rfl rfl
  have hS : fb_ct (fun i => n.testBit i) 64 = bS 8 n := bS_ok 8 n
  have hFS := hF.2.2.2.trans (show _ = bS 8 n from rfl)
  rw [← hS] at hFS
  rw [← hG.1] at hF hFS
  have y1l : bY1 n 6148914691236517205 < 2 ^ 64 := Nat.lt_of_le_of_lt bY1_le hn
  have y2l : bY2 (bY1 n 6148914691236517205) 3689348814741910323 < 2 ^ 63 := by
    have a : bY1 n 6148914691236517205 &&& 3689348814741910323 ≤ 3689348814741910323 := Nat.and_le_right
    have b : bY1 n 6148914691236517205 / 4 &&& 3689348814741910323 ≤ 3689348814741910323 := Nat.and_le_right
    unfold bY2
    omega
  have l1 : (6148914691236517205 : Int64) = lN 6148914691236517205 := rfl
  have l2 : (3689348814741910323 : Int64) = lN 3689348814741910323 := rfl
  have l3 : (1085102592571150095 : Int64) = lN 1085102592571150095 := rfl
  unfold j_bitCount
  simp only [nm_eq, il]
  rw [wb_shr hn (by decide), l1, wb_and (Nat.lt_of_le_of_lt (Nat.div_le_self _ _) hn) (by decide), lN_sub (Nat.le_trans Nat.and_le_left (Nat.div_le_self _ _))]
  rw [show n - (n / 2 ^ 1 &&& 6148914691236517205) = bY1 n 6148914691236517205 from rfl]
  generalize bY1 n 6148914691236517205 = y1 at hG hF hFS y1l y2l
  rw [wb_shr y1l (by decide), l2, wb_and y1l (by decide), wb_and (Nat.lt_of_le_of_lt (Nat.div_le_self _ _) y1l) (by decide), lN_add]
  rw [show (y1 &&& 3689348814741910323) + (y1 / 2 ^ 2 &&& 3689348814741910323) = bY2 y1 3689348814741910323 from rfl]
  generalize bY2 y1 3689348814741910323 = y2 at hG hF hFS y2l
  rw [wb_shr (by omega) (by decide), lN_add, l3, wb_and (by omega) (by decide)]
  rw [show (y2 + y2 / 2 ^ 4 &&& 1085102592571150095) = bY3 y2 1085102592571150095 from rfl]
  generalize bY3 y2 1085102592571150095 = y3 at hG hF hFS
  have g1 := hF.1
  have g2 := hF.2.1
  have g3 := hF.2.2.1
  clear hF hG hS
  rw [wb_shr (by omega) (by decide), lN_add, wb_shr (by omega) (by decide), lN_add, wb_shr (by omega) (by decide), lN_add, lN_i]
  rw [← hFS]
  rw [show nI 127 = nI (2 ^ 7 - 1) from rfl, fa_mask]
