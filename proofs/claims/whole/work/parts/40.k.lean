/-! numbers: everything as nI of a natural number; -1 is mI, -2 is mJ -/
theorem il (n : Nat) : (OfNat.ofNat n : Int32) = nI n := rfl
def mI : Int32 := -1
def mJ : Int32 := -2
theorem ng1 : -nI 1 = mI := rfl
theorem ng2 : -nI 2 = mJ := rfl
theorem mI_int : mI.toInt = -1 := by decide
theorem mJ_int : mJ.toInt = -2 := by decide
theorem gd_nI {α : Type} {i n : Nat} {k : Option α} (h : i < n) (hn : n < 2147483648) : gd (nI i) n k = k := by
  unfold gd
  exact if_pos (vp_in_nI h hn)
theorem nm_eq {α β : Type} (x : α) (k : α → β) : nm x k = k x := rfl
theorem bd_s {α β : Type} (a : α) (k : α → Option β) : bd (some a) k = k a := rfl
theorem bd_n {α β : Type} (k : α → Option β) : bd none k = none := rfl
theorem bd_of {α β : Type} {x : Option α} {a : α} (h : x = some a) (k : α → Option β) : bd x k = k a := by rw [h]; rfl
theorem gb_0 {α : Type} (k : Option α) : gb 0 k = k := rfl
theorem gb_1 {α : Type} (k : Option α) : gb 1 k = k := rfl
theorem gb_n0 {α : Type} (k : Option α) : gb (nI 0) k = k := rfl
theorem gb_n1 {α : Type} (k : Option α) : gb (nI 1) k = k := rfl
theorem gl_le {α : Type} {a b : Nat} {k : Option α} (h : a ≤ b) : gl a b k = k := if_pos h
theorem gn_nI {α : Type} {i : Nat} {k : Option α} (h : 0 < i) (hi : i < 2147483648) : gn (nI i) k = k := if_neg (nI_ne0 h hi)
theorem nc {n : Nat} (h : n < 2147483648) : (nI n).toNatClampNeg = n := nI_clamp h
theorem n_le {a b : Nat} (ha : a < 2147483648) (hb : b < 2147483648) : (nI a ≤ nI b) = (a ≤ b) := propext (nI_leI ha hb)
theorem n_lt {a b : Nat} (ha : a < 2147483648) (hb : b < 2147483648) : (nI a < nI b) = (a < b) := propext (nI_ltI ha hb)
theorem n_eq {a b : Nat} (ha : a < 2147483648) (hb : b < 2147483648) : (nI a = nI b) = (a = b) := propext (nI_eq ha hb)
theorem n_sub {a b : Nat} (h : b ≤ a) : nI a - nI b = nI (a - b) := pk_sub h
theorem n_div {a d : Nat} (ha : a < 2147483648) (h0 : 0 < d) (hd : d < 2147483648) : nI a / nI d = nI (a / d) := pk_div ha h0 hd
theorem sub_dm (a d : Nat) : a - a / d * d = a % d := by
  have h := Nat.div_add_mod a d
  rw [Nat.mul_comm] at h
  omega
theorem n_em {a : Nat} (ha : a < 2147483648) : (nI a = mI) = False := eq_false (fun h => by
  have h1 := congrArg Int32.toInt h
  rw [nI_toInt ha, mI_int] at h1
  omega)
theorem m_en {a : Nat} (ha : a < 2147483648) : (mI = nI a) = False := eq_false (fun h => by
  have h1 := congrArg Int32.toInt h
  rw [nI_toInt ha, mI_int] at h1
  omega)
theorem n_ej {a : Nat} (ha : a < 2147483648) : (nI a = mJ) = False := eq_false (fun h => by
  have h1 := congrArg Int32.toInt h
  rw [nI_toInt ha, mJ_int] at h1
  omega)
theorem j_en {a : Nat} (ha : a < 2147483648) : (mJ = nI a) = False := eq_false (fun h => by
  have h1 := congrArg Int32.toInt h
  rw [nI_toInt ha, mJ_int] at h1
  omega)
theorem m_ej : (mI = mJ) = False := eq_false (by decide)
theorem j_em : (mJ = mI) = False := eq_false (by decide)
theorem m_lt {a : Nat} (ha : a < 2147483648) : (mI < nI a) = True := eq_true (by rw [fa_lt, nI_toInt ha, mI_int]; omega)
theorem m_le {a : Nat} (ha : a < 2147483648) : (mI ≤ nI a) = True := eq_true (by rw [fa_le, nI_toInt ha, mI_int]; omega)
theorem n_ltm {a : Nat} (ha : a < 2147483648) : (nI a < mI) = False := eq_false (by rw [fa_lt, nI_toInt ha, mI_int]; omega)
theorem n_lem {a : Nat} (ha : a < 2147483648) : (nI a ≤ mI) = False := eq_false (by rw [fa_le, nI_toInt ha, mI_int]; omega)
theorem j_lt {a : Nat} (ha : a < 2147483648) : (mJ < nI a) = True := eq_true (by rw [fa_lt, nI_toInt ha, mJ_int]; omega)
theorem j_le {a : Nat} (ha : a < 2147483648) : (mJ ≤ nI a) = True := eq_true (by rw [fa_le, nI_toInt ha, mJ_int]; omega)
theorem n_ltj {a : Nat} (ha : a < 2147483648) : (nI a < mJ) = False := eq_false (by rw [fa_lt, nI_toInt ha, mJ_int]; omega)
theorem n_lej {a : Nat} (ha : a < 2147483648) : (nI a ≤ mJ) = False := eq_false (by rw [fa_le, nI_toInt ha, mJ_int]; omega)
theorem n_s1 {a : Nat} (h : 0 < a) : nI a + mI = nI (a - 1) := sb_m1 h
theorem m_a1 {a : Nat} (h : 0 < a) : mI + nI a = nI (a - 1) := by rw [Int32.add_comm]; exact sb_m1 h
/-- a row of numbers, as ints -/
def ur (r : Nat → Nat) (k v : Nat) : Nat → Nat := fun j => if j = k then v else r j
theorem ur_s {r : Nat → Nat} {k v : Nat} : ur r k v k = v := if_pos rfl
theorem ur_n {r : Nat → Nat} {k v j : Nat} (h : j ≠ k) : ur r k v j = r j := if_neg h
theorem ur_at (r : Nat → Nat) (k v j : Nat) : ur r k v j = if j = k then v else r j := rfl
def nR (r : Nat → Nat) : Nat → Int32 := fun k => nI (r k)
theorem nR_at (r : Nat → Nat) (k : Nat) : nR r k = nI (r k) := rfl
theorem upd_nR (r : Nat → Nat) (k v : Nat) : upd (nR r) k (nI v) = nR (ur r k v) := by
  funext j
  simp only [upd, nR, ur]
  split <;> rfl
theorem upd_at (f : Nat → Int32) (k j : Nat) (x : Int32) : upd f k x j = if j = k then x else f j := rfl
/-- what stands in a plain object behind a store -/
theorem sA_1 (s : OSt) (k : Nat) (f : Nat → Int32) : (sA s k f).1 = s.1 := rfl
theorem sA_2 (s : OSt) (k j : Nat) (f : Nat → Int32) : (sA s k f).2 j = if j = k then f else s.2 j := rfl
theorem sI_2 (s : OSt) (k : Nat) (v : Int32) : (sI s k v).2 = s.2 := rfl
theorem sI_1 (s : OSt) (k j : Nat) (v : Int32) : (sI s k v).1 j = if j = k then v else s.1 j := rfl
theorem sA_sA (s : OSt) (k : Nat) (f g : Nat → Int32) : sA (sA s k f) k g = sA s k g := by
  unfold sA
  congr 1
  funext j
  simp only [vf_upd]
  split <;> rfl
theorem sI_sI (s : OSt) (k : Nat) (v w : Int32) : sI (sI s k v) k w = sI s k w := by
  unfold sI
  congr 1
  funext j
  simp only [upd]
  split <;> rfl
/-- the reference's object with the row r for its net -/
def sR (st : OSt) (r : Nat → Nat) : OSt := sA st 1 (nR r)
theorem sR_1 (st : OSt) (r : Nat → Nat) : (sR st r).1 = st.1 := rfl
theorem sR_2 (st : OSt) (r : Nat → Nat) : (sR st r).2 1 = nR r := rfl
theorem sR_o (st : OSt) (r : Nat → Nat) {k : Nat} (h : k ≠ 1) : (sR st r).2 k = st.2 k := if_neg h
theorem sR_A1 (st : OSt) (r t : Nat → Nat) : sA (sR st r) 1 (nR t) = sR st t := sA_sA st 1 _ _
theorem sR_I (st : OSt) (r : Nat → Nat) (k : Nat) (v : Int32) : sI (sR st r) k v = sR (sI st k v) r := rfl
theorem sR_A (st : OSt) (r : Nat → Nat) {k : Nat} (h : k ≠ 1) (f : Nat → Int32) : sA (sR st r) k f = sR (sA st k f) r := by
  unfold sR sA
  congr 1
  funext j
  simp only [vf_upd]
  by_cases a : j = k
  · subst a; rw [if_pos rfl, if_neg h, if_pos rfl]
  · rw [if_neg a]
    by_cases b : j = 1
    · rw [if_pos b, if_pos b]
    · rw [if_neg b, if_neg b, if_neg a]
theorem sR_of {st : OSt} {r : Nat → Nat} (h : st.2 1 = nR r) : st = sR st r := by
  unfold sR sA
  refine Prod.ext rfl ?_
  funext j
  simp only [vf_upd]
  by_cases b : j = 1
  · rw [if_pos b, b, h]
  · rw [if_neg b]
theorem sR_R (st : OSt) (r t : Nat → Nat) : sR (sR st r) t = sR st t := sA_sA st 1 _ _
/-- every int is nI of a number -/
theorem nI_ex (x : Int32) : ∃ n, n < 4294967296 ∧ x = nI n := wb_of32 x
theorem nR_ex (f : Nat → Int32) : ∃ r : Nat → Nat, f = nR r := ⟨fun k => (f k).toBitVec.toNat, by
  funext k
  show f k = nI _
  refine Int32.toBitVec_inj.mp ?_
  show _ = BitVec.ofNat 32 _
  simp⟩
/-- what stands in a net behind a store -/
theorem nl_I (s : NSt) (k : Nat) (v : Int32) : nl (nsI s k v) = nl s := rfl
theorem ni_I (s : NSt) (k j : Nat) (v : Int32) : ni (nsI s k v) j = if j = k then v else ni s j := rfl
theorem na_I (s : NSt) (k j : Nat) (v : Int32) : na (nsI s k v) j = na s j := rfl
theorem np_I (s : NSt) (k : Nat) (v : Int32) : np (nsI s k v) = np s := rfl
theorem nh_I (s : NSt) (k : Nat) (v : Int32) : nh (nsI s k v) = nh s := rfl
theorem nl_A (s : NSt) (k : Nat) (f : Nat → Int32) : nl (nsA s k f) = nl s := rfl
theorem ni_A (s : NSt) (k j : Nat) (f : Nat → Int32) : ni (nsA s k f) j = ni s j := rfl
theorem na_A (s : NSt) (k j : Nat) (f : Nat → Int32) : na (nsA s k f) j = if j = k then f else na s j := rfl
theorem np_A (s : NSt) (k : Nat) (f : Nat → Int32) : np (nsA s k f) = np s := rfl
theorem nh_A (s : NSt) (k : Nat) (f : Nat → Int32) : nh (nsA s k f) = nh s := rfl
theorem nl_P (s : NSt) (p : PSt) : nl (nsP s p) = nl s := rfl
theorem ni_P (s : NSt) (j : Nat) (p : PSt) : ni (nsP s p) j = ni s j := rfl
theorem na_P (s : NSt) (j : Nat) (p : PSt) : na (nsP s p) j = na s j := rfl
theorem np_P (s : NSt) (p : PSt) : np (nsP s p) = p := rfl
theorem nh_P (s : NSt) (p : PSt) : nh (nsP s p) = nh s := rfl
theorem nl_H (s : NSt) (p : PSt) : nl (nsH s p) = nl s := rfl
theorem ni_H (s : NSt) (j : Nat) (p : PSt) : ni (nsH s p) j = ni s j := rfl
theorem na_H (s : NSt) (j : Nat) (p : PSt) : na (nsH s p) j = na s j := rfl
theorem np_H (s : NSt) (p : PSt) : np (nsH s p) = np s := rfl
theorem nh_H (s : NSt) (p : PSt) : nh (nsH s p) = p := rfl
/-- the literals -/
theorem i0 : (0 : Int32) = nI 0 := rfl
theorem i1 : (1 : Int32) = nI 1 := rfl
theorem i2 : (2 : Int32) = nI 2 := rfl
theorem i3 : (3 : Int32) = nI 3 := rfl
theorem i4 : (4 : Int32) = nI 4 := rfl
theorem i5 : (5 : Int32) = nI 5 := rfl
theorem i6 : (6 : Int32) = nI 6 := rfl
theorem i7 : (7 : Int32) = nI 7 := rfl
theorem i8 : (8 : Int32) = nI 8 := rfl
theorem i9 : (9 : Int32) = nI 9 := rfl
theorem i10 : (10 : Int32) = nI 10 := rfl
theorem i11 : (11 : Int32) = nI 11 := rfl
theorem i12 : (12 : Int32) = nI 12 := rfl
theorem i13 : (13 : Int32) = nI 13 := rfl
theorem i14 : (14 : Int32) = nI 14 := rfl
theorem i15 : (15 : Int32) = nI 15 := rfl
theorem i16 : (16 : Int32) = nI 16 := rfl
theorem i17 : (17 : Int32) = nI 17 := rfl
theorem i18 : (18 : Int32) = nI 18 := rfl
theorem i19 : (19 : Int32) = nI 19 := rfl
theorem i20 : (20 : Int32) = nI 20 := rfl
theorem i21 : (21 : Int32) = nI 21 := rfl
theorem i22 : (22 : Int32) = nI 22 := rfl
theorem i23 : (23 : Int32) = nI 23 := rfl
theorem i24 : (24 : Int32) = nI 24 := rfl
theorem i25 : (25 : Int32) = nI 25 := rfl
theorem i26 : (26 : Int32) = nI 26 := rfl
theorem i27 : (27 : Int32) = nI 27 := rfl
theorem i28 : (28 : Int32) = nI 28 := rfl
theorem i29 : (29 : Int32) = nI 29 := rfl
theorem i30 : (30 : Int32) = nI 30 := rfl
theorem i31 : (31 : Int32) = nI 31 := rfl
theorem i32 : (32 : Int32) = nI 32 := rfl
theorem i33 : (33 : Int32) = nI 33 := rfl
theorem i34 : (34 : Int32) = nI 34 := rfl
theorem i35 : (35 : Int32) = nI 35 := rfl
theorem i36 : (36 : Int32) = nI 36 := rfl
theorem i37 : (37 : Int32) = nI 37 := rfl
theorem i38 : (38 : Int32) = nI 38 := rfl
theorem i39 : (39 : Int32) = nI 39 := rfl
theorem i40 : (40 : Int32) = nI 40 := rfl
theorem i41 : (41 : Int32) = nI 41 := rfl
theorem i42 : (42 : Int32) = nI 42 := rfl
theorem i43 : (43 : Int32) = nI 43 := rfl
theorem i44 : (44 : Int32) = nI 44 := rfl
theorem i45 : (45 : Int32) = nI 45 := rfl
theorem i46 : (46 : Int32) = nI 46 := rfl
theorem i47 : (47 : Int32) = nI 47 := rfl
theorem i48 : (48 : Int32) = nI 48 := rfl
theorem i49 : (49 : Int32) = nI 49 := rfl
theorem i50 : (50 : Int32) = nI 50 := rfl
theorem i51 : (51 : Int32) = nI 51 := rfl
theorem i52 : (52 : Int32) = nI 52 := rfl
theorem i53 : (53 : Int32) = nI 53 := rfl
theorem i54 : (54 : Int32) = nI 54 := rfl
theorem i55 : (55 : Int32) = nI 55 := rfl
theorem i56 : (56 : Int32) = nI 56 := rfl
theorem i57 : (57 : Int32) = nI 57 := rfl
theorem i58 : (58 : Int32) = nI 58 := rfl
theorem i59 : (59 : Int32) = nI 59 := rfl
theorem i60 : (60 : Int32) = nI 60 := rfl
theorem i61 : (61 : Int32) = nI 61 := rfl
theorem i62 : (62 : Int32) = nI 62 := rfl
theorem i63 : (63 : Int32) = nI 63 := rfl
theorem i64 : (64 : Int32) = nI 64 := rfl
theorem i91 : (91 : Int32) = nI 91 := rfl
theorem i93 : (93 : Int32) = nI 93 := rfl
theorem i96 : (96 : Int32) = nI 96 := rfl
theorem i97 : (97 : Int32) = nI 97 := rfl
theorem i122 : (122 : Int32) = nI 122 := rfl
theorem i126 : (126 : Int32) = nI 126 := rfl
theorem i127 : (127 : Int32) = nI 127 := rfl
theorem i128 : (128 : Int32) = nI 128 := rfl
theorem i149 : (149 : Int32) = nI 149 := rfl
theorem i150 : (150 : Int32) = nI 150 := rfl
theorem i199 : (199 : Int32) = nI 199 := rfl
theorem i200 : (200 : Int32) = nI 200 := rfl
theorem i249 : (249 : Int32) = nI 249 := rfl
theorem i250 : (250 : Int32) = nI 250 := rfl
theorem i255 : (255 : Int32) = nI 255 := rfl
theorem i299 : (299 : Int32) = nI 299 := rfl
theorem i300 : (300 : Int32) = nI 300 := rfl
theorem i330 : (330 : Int32) = nI 330 := rfl
theorem i499 : (499 : Int32) = nI 499 := rfl
theorem i500 : (500 : Int32) = nI 500 := rfl
theorem i600 : (600 : Int32) = nI 600 := rfl
theorem i601 : (601 : Int32) = nI 601 := rfl
theorem i630 : (630 : Int32) = nI 630 := rfl
theorem i631 : (631 : Int32) = nI 631 := rfl
theorem i632 : (632 : Int32) = nI 632 := rfl
theorem i900 : (900 : Int32) = nI 900 := rfl
theorem i999 : (999 : Int32) = nI 999 := rfl
theorem i1000 : (1000 : Int32) = nI 1000 := rfl
theorem i1015 : (1015 : Int32) = nI 1015 := rfl
theorem i1016 : (1016 : Int32) = nI 1016 := rfl
theorem i1017 : (1017 : Int32) = nI 1017 := rfl
theorem i1018 : (1018 : Int32) = nI 1018 := rfl
theorem i1019 : (1019 : Int32) = nI 1019 := rfl
theorem i1020 : (1020 : Int32) = nI 1020 := rfl
theorem i1100 : (1100 : Int32) = nI 1100 := rfl
theorem i1400 : (1400 : Int32) = nI 1400 := rfl
theorem i1630 : (1630 : Int32) = nI 1630 := rfl
theorem i1646 : (1646 : Int32) = nI 1646 := rfl
theorem i2000 : (2000 : Int32) = nI 2000 := rfl
theorem i3292 : (3292 : Int32) = nI 3292 := rfl
theorem i9999 : (9999 : Int32) = nI 9999 := rfl
theorem i10000 : (10000 : Int32) = nI 10000 := rfl
theorem i12345 : (12345 : Int32) = nI 12345 := rfl
theorem i18106 : (18106 : Int32) = nI 18106 := rfl
theorem i19752 : (19752 : Int32) = nI 19752 := rfl
theorem i20000 : (20000 : Int32) = nI 20000 := rfl
theorem i30000 : (30000 : Int32) = nI 30000 := rfl
theorem i441892441 : (441892441 : Int32) = nI 441892441 := rfl
theorem i1103515245 : (1103515245 : Int32) = nI 1103515245 := rfl
