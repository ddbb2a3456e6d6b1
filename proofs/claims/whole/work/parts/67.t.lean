/-! tokens, on both sides -/
def e27 : List Nat → Nat
  | [] => 0
  | d :: l => 27 * e27 l + d
def e32 : List Nat → Nat
  | [] => 0
  | d :: l => 32 * e32 l + d
def lett (l : List Nat) : Prop := ∀ d, d ∈ l → 1 ≤ d ∧ d ≤ 26
theorem lett_c {d : Nat} {l : List Nat} : lett (d :: l) ↔ (1 ≤ d ∧ d ≤ 26) ∧ lett l := by
  constructor
  · intro h
    exact ⟨h d (List.mem_cons_self ..), fun x hx => h x (List.mem_cons_of_mem _ hx)⟩
  · rintro ⟨h1, h2⟩ x hx
    rcases List.mem_cons.mp hx with e | e
    · rw [e]; exact h1
    · exact h2 x e
theorem e27_inj : ∀ (l m : List Nat), lett l → lett m → e27 l = e27 m → l = m
  | [], [], _, _, _ => rfl
  | [], d :: m, _, hm, h => by
    have := (lett_c.mp hm).1
    rw [e27, e27] at h
    omega
  | d :: l, [], hl, _, h => by
    have := (lett_c.mp hl).1
    rw [e27, e27] at h
    omega
  | d :: l, c :: m, hl, hm, h => by
    have h1 := (lett_c.mp hl).1
    have h2 := (lett_c.mp hm).1
    rw [e27, e27] at h
    have e : d = c := by omega
    have := e27_inj l m (lett_c.mp hl).2 (lett_c.mp hm).2 (by omega)
    rw [e, this]
theorem e32_inj : ∀ (l m : List Nat), lett l → lett m → e32 l = e32 m → l = m
  | [], [], _, _, _ => rfl
  | [], d :: m, _, hm, h => by
    have := (lett_c.mp hm).1
    rw [e32, e32] at h
    omega
  | d :: l, [], hl, _, h => by
    have := (lett_c.mp hl).1
    rw [e32, e32] at h
    omega
  | d :: l, c :: m, hl, hm, h => by
    have h1 := (lett_c.mp hl).1
    have h2 := (lett_c.mp hm).1
    rw [e32, e32] at h
    have e : d = c := by omega
    have := e32_inj l m (lett_c.mp hl).2 (lett_c.mp hm).2 (by omega)
    rw [e, this]
theorem e32_lt : ∀ (l : List Nat), lett l → e32 l < 32 ^ l.length
  | [], _ => by decide
  | d :: l, h => by
    have h1 := (lett_c.mp h).1
    have h2 := e32_lt l (lett_c.mp h).2
    rw [e32, List.length_cons, Nat.pow_succ]
    omega
theorem e27_lt : ∀ (l : List Nat), lett l → e27 l < 27 ^ l.length
  | [], _ => by decide
  | d :: l, h => by
    have h1 := (lett_c.mp h).1
    have h2 := e27_lt l (lett_c.mp h).2
    rw [e27, List.length_cons, Nat.pow_succ]
    omega
def memL : List Nat := [25, 18, 15, 13, 5, 13]
theorem memL_e : e32 memL = 441892441 := by decide
theorem memL_lett : lett memL := by
  intro d hd
  simp only [memL, List.mem_cons, List.not_mem_nil, or_false] at hd
  omega
def memC (k : Nat) : Nat := memL.getD (5 - k) 0
theorem memL_step : ∀ k, k < 6 → memL.drop (5 - k) = memC k :: memL.drop (6 - k) := by decide
theorem js_mem : ∀ k, k < 6 → js_charAt 0 (nI k) = some (nI (memC k + 96)) := by decide +kernel
theorem js_len0 : js_length 0 = some (nI 6) := by decide +kernel
def sgI (c : Nat) : Int32 := if c = 59 then 0 else if c = 126 then 1 else if c = 42 then 2 else if c = 35 then 3 else if c = 40 then 4 else if c = 41 then 5 else if c = 91 then 6 else if c = 93 then 7 else if c = 60 then 8 else if c = 62 then 9 else -1
theorem js_ix : ∀ c, c < 128 → js_indexOf 1 (((nI c).toUInt32 % 65536).toInt32) = some (sgI c) := by decide +kernel
def isSg (c : Nat) : Prop := c = 59 ∨ c = 126 ∨ c = 42 ∨ c = 35 ∨ c = 40 ∨ c = 41 ∨ c = 91 ∨ c = 93 ∨ c = 60 ∨ c = 62
theorem sgI_ok : ∀ c, c < 256 → ((c < 128 ∧ ¬ sgI c < 0) ↔ isSg c) ∧ (m_isSign (nI c) = some (if c < 128 ∧ ¬ sgI c < 0 then 1 else 0)) := by
  unfold isSg
  decide +kernel
/-- the two readers' states -/
def tS (tt : OSt) (p tok s v : Int32) : OSt := (fun k => if k = 3 then p else if k = 4 then tok else if k = 5 then s else if k = 6 then v else tt.1 k, tt.2)
theorem tS_3 (tt : OSt) (p tok s v x : Int32) : sI (tS tt p tok s v) 3 x = tS tt x tok s v := by
  refine Prod.ext ?_ rfl
  funext k
  show upd _ 3 x k = _
  unfold tS upd
  simp only
  by_cases h : k = 3
  · simp [h]
  · simp [h]
theorem tS_4 (tt : OSt) (p tok s v x : Int32) : sI (tS tt p tok s v) 4 x = tS tt p x s v := by
  refine Prod.ext ?_ rfl
  funext k
  show upd _ 4 x k = _
  unfold tS upd
  simp only
  by_cases h : k = 4
  · simp [h]
  · simp [h]
theorem tS_5 (tt : OSt) (p tok s v x : Int32) : sI (tS tt p tok s v) 5 x = tS tt p tok x v := by
  refine Prod.ext ?_ rfl
  funext k
  show upd _ 5 x k = _
  unfold tS upd
  simp only
  by_cases h : k = 5
  · simp [h]
  · simp [h]
theorem tS_6 (tt : OSt) (p tok s v x : Int32) : sI (tS tt p tok s v) 6 x = tS tt p tok s x := by
  refine Prod.ext ?_ rfl
  funext k
  show upd _ 6 x k = _
  unfold tS upd
  simp only
  by_cases h : k = 6
  · simp [h]
  · simp [h]
theorem tS_id (tt : OSt) : tS tt (tt.1 3) (tt.1 4) (tt.1 5) (tt.1 6) = tt := by
  refine Prod.ext ?_ rfl
  funext k
  show (if k = 3 then tt.1 3 else if k = 4 then tt.1 4 else if k = 5 then tt.1 5 else if k = 6 then tt.1 6 else tt.1 k) = tt.1 k
  repeat' split
  all_goals simp_all
def mS (st : OSt) (nx fr tk val wd : Int32) : OSt := (fun k => if k = 6 then nx else if k = 5 then fr else if k = 7 then tk else if k = 8 then val else if k = 9 then wd else st.1 k, st.2)
theorem mS_6 (st : OSt) (nx fr tk val wd x : Int32) : sI (mS st nx fr tk val wd) 6 x = mS st x fr tk val wd := by
  refine Prod.ext ?_ rfl
  funext k
  show upd _ 6 x k = _
  unfold mS upd
  simp only
  by_cases h : k = 6
  · simp [h]
  · simp [h]
theorem mS_5 (st : OSt) (nx fr tk val wd x : Int32) : sI (mS st nx fr tk val wd) 5 x = mS st nx x tk val wd := by
  refine Prod.ext ?_ rfl
  funext k
  show upd _ 5 x k = _
  unfold mS upd
  simp only
  by_cases h : k = 5
  · simp [h]
  · simp [h]
theorem mS_7 (st : OSt) (nx fr tk val wd x : Int32) : sI (mS st nx fr tk val wd) 7 x = mS st nx fr x val wd := by
  refine Prod.ext ?_ rfl
  funext k
  show upd _ 7 x k = _
  unfold mS upd
  simp only
  by_cases h : k = 7
  · simp [h]
  · simp [h]
theorem mS_8 (st : OSt) (nx fr tk val wd x : Int32) : sI (mS st nx fr tk val wd) 8 x = mS st nx fr tk x wd := by
  refine Prod.ext ?_ rfl
  funext k
  show upd _ 8 x k = _
  unfold mS upd
  simp only
  by_cases h : k = 8
  · simp [h]
  · simp [h]
theorem mS_9 (st : OSt) (nx fr tk val wd x : Int32) : sI (mS st nx fr tk val wd) 9 x = mS st nx fr tk val x := by
  refine Prod.ext ?_ rfl
  funext k
  show upd _ 9 x k = _
  unfold mS upd
  simp only
  by_cases h : k = 9
  · simp [h]
  · simp [h]
theorem mS_id (st : OSt) : mS st (st.1 6) (st.1 5) (st.1 7) (st.1 8) (st.1 9) = st := by
  refine Prod.ext ?_ rfl
  funext k
  show (if k = 6 then st.1 6 else if k = 5 then st.1 5 else if k = 7 then st.1 7 else if k = 8 then st.1 8 else if k = 9 then st.1 9 else st.1 k) = st.1 k
  repeat' split
  all_goals simp_all
section TP
variable {B : Nat → Nat} {N : Nat} {sa : Nat → Int32} {sn : NSt} {tt st : OSt}
def bA (B : Nat → Nat) (N p : Nat) : Int32 := if p < N then nI (B p) else -1
/-- both tapes hold the bytes B, N of them -/
def TP (B : Nat → Nat) (N : Nat) (sa : Nat → Int32) (tt st : OSt) : Prop := N ≤ 500 ∧ tt.1 2 = nI N ∧ st.1 4 = nI N ∧ ∀ i, i < N → B i < 256 ∧ sa i = nI (B i) ∧ st.2 2 i &&& 255 = nI (B i)
theorem t_byteAt_ok (h : TP B N sa tt st) {p : Nat} (hp : p ≤ N) (a b c d : Int32) : t_byteAt (tS tt a b c d) 500 sa sn (nI p) = some (bA B N p) := by
  obtain ⟨h5, h1, _, h2⟩ := h
  unfold t_byteAt bA
  rw [if_neg (nI_pos (by omega)), show (tS tt a b c d).1 2 = tt.1 2 from rfl, h1]
  by_cases q : p < N
  · rw [if_neg (nI_ge q (by omega)), if_neg (show ¬ nI 500 ≤ nI p from nI_ge (by omega) (by omega)), gd_nI (by omega) (by omega), nc (by omega), (h2 p q).2.1, if_pos q]
  · rw [if_pos (nI_le (by omega) (by omega)), if_neg q]
theorem m_byteAt_ok (h : TP B N sa tt st) {p : Nat} (hp : p ≤ N) (a b c d e : Int32) : m_byteAt (mS st a b c d e) (nI p) = some (bA B N p) := by
  obtain ⟨h5, _, h1, h2⟩ := h
  unfold m_byteAt bA
  rw [show (mS st a b c d e).1 4 = st.1 4 from rfl, h1]
  by_cases q : p < N
  · rw [if_neg (nI_ge q (by omega)), gd_nI (by omega) (by omega), nc (by omega), show (mS st a b c d e).2 2 = st.2 2 from rfl, (h2 p q).2.2, if_pos q]
  · rw [if_pos (nI_le (by omega) (by omega)), if_neg q]
theorem skip_ok (h : TP B N sa tt st) {t4 t5 t6 m5 m7 m8 m9 : Int32} : ∀ (fuel p : Nat), p ≤ N → N - p < fuel → ∃ q, p ≤ q ∧ q ≤ N ∧ t_skipBlanks_0 fuel (tS tt (nI p) t4 t5 t6) 500 sa sn = some (tS tt (nI q) t4 t5 t6) ∧ m_go_0 fuel (mS st (nI p) m5 m7 m8 m9) = some (mS st (nI q) m5 m7 m8 m9) ∧ (q < N → B q ≠ 32 ∧ B q ≠ 10) := by
  have hN := h.1
  intro fuel
  induction fuel with
  | zero => intro p _ h; omega
  | succ f ih =>
    intro p hp hf
    rw [t_skipBlanks_0, m_go_0, show (mS st (nI p) m5 m7 m8 m9).1 6 = nI p from rfl, m_byteAt_ok h hp, bd_s, show (tS tt (nI p) t4 t5 t6).1 3 = nI p from rfl, show (tS tt (nI p) t4 t5 t6).1 2 = nI N from h.2.1]
    by_cases q : p < N
    · have hb := (h.2.2.2 p q).1
      rw [if_neg (nI_ge q (by omega)), t_byteAt_ok h hp, bd_s]
      unfold bA
      rw [if_pos q]
      obtain ⟨x, x1, x2, x3, x4, x5⟩ := ih (p + 1) (by omega) (by omega)
      by_cases b32 : B p = 32
      · rw [b32, if_pos (show nI 32 = 32 from rfl), if_pos (show nI 32 = 32 from rfl), nm_eq, nm_eq, nI_1, tS_3, mS_6]
        exact ⟨x, by omega, x2, x3, x4, x5⟩
      · rw [if_neg (show ¬ nI (B p) = 32 by rw [i32, nI_eq (by omega) (by omega)]; exact b32), if_neg (show ¬ nI (B p) = 32 by rw [i32, nI_eq (by omega) (by omega)]; exact b32), bd_s, bd_s]
        by_cases b10 : B p = 10
        · rw [b10, if_pos (show nI 10 = 10 from rfl), if_pos (show nI 10 = 10 from rfl), nm_eq, nm_eq, nI_1, tS_3, mS_6]
          exact ⟨x, by omega, x2, x3, x4, x5⟩
        · rw [if_neg (show ¬ nI (B p) = 10 by rw [i10, nI_eq (by omega) (by omega)]; exact b10), if_neg (show ¬ nI (B p) = 10 by rw [i10, nI_eq (by omega) (by omega)]; exact b10)]
          exact ⟨p, Nat.le_refl _, hp, rfl, rfl, fun _ => ⟨b32, b10⟩⟩
    · rw [if_pos (nI_le (by omega) (by omega))]
      unfold bA
      rw [if_neg q, if_neg (by decide), bd_s, if_neg (by decide)]
      exact ⟨p, Nat.le_refl _, hp, rfl, rfl, fun z => absurd z q⟩
def isL (c : Nat) : Prop := 97 ≤ c ∧ c ≤ 122
theorem t_isLetter_ok {c : Nat} (hc : c < 256) : (isL c → t_isLetter (nI c) = some 1 ∧ m_within (nI c) 97 122 = some 1) ∧ (¬ isL c → t_isLetter (nI c) = some 0 ∧ m_within (nI c) 97 122 = some 0) := by
  unfold t_isLetter m_within isL
  by_cases a : c < 97
  · rw [if_pos (show nI c < (97 : Int32) from nI_lt (b := 97) a (by omega))]
    exact ⟨fun z => by omega, fun _ => ⟨rfl, rfl⟩⟩
  · rw [if_neg (show ¬ nI c < (97 : Int32) from nI_nlt (b := 97) (by omega) (by omega))]
    by_cases b : 122 < c
    · rw [if_pos (show (122 : Int32) < nI c from nI_lt (a := 122) b (by omega))]
      exact ⟨fun z => by omega, fun _ => ⟨rfl, rfl⟩⟩
    · rw [if_neg (show ¬ (122 : Int32) < nI c from nI_nlt (a := 122) (by omega) (by omega))]
      exact ⟨fun _ => ⟨rfl, rfl⟩, fun z => by omega⟩
def isD (c : Nat) : Prop := 48 ≤ c ∧ c ≤ 57
theorem t_isDigit_ok {c : Nat} (hc : c < 256) : (isD c → t_isDigit (nI c) = some 1 ∧ m_within (nI c) 48 57 = some 1) ∧ (¬ isD c → t_isDigit (nI c) = some 0 ∧ m_within (nI c) 48 57 = some 0) := by
  unfold t_isDigit m_within isD
  by_cases a : c < 48
  · rw [if_pos (show nI c < (48 : Int32) from nI_lt (b := 48) a (by omega))]
    exact ⟨fun z => by omega, fun _ => ⟨rfl, rfl⟩⟩
  · rw [if_neg (show ¬ nI c < (48 : Int32) from nI_nlt (b := 48) (by omega) (by omega))]
    by_cases b : 57 < c
    · rw [if_pos (show (57 : Int32) < nI c from nI_lt (a := 57) b (by omega))]
      exact ⟨fun z => by omega, fun _ => ⟨rfl, rfl⟩⟩
    · rw [if_neg (show ¬ (57 : Int32) < nI c from nI_nlt (a := 57) (by omega) (by omega))]
      exact ⟨fun _ => ⟨rfl, rfl⟩, fun z => by omega⟩
/-- does what was read so far begin the word memory -/
def flg (l : List Nat) : Int32 := if l.length ≤ 6 ∧ l = memL.drop (6 - l.length) then 1 else 0
theorem flg_step {l : List Nat} {d : Nat} : flg (d :: l) = if flg l = 1 ∧ l.length < 6 ∧ d = memC l.length then 1 else 0 := by
  unfold flg
  rw [List.length_cons]
  by_cases k : l.length < 6
  · have e := memL_step l.length k
    rw [show 6 - (l.length + 1) = 5 - l.length by omega, e]
    by_cases a : l = memL.drop (6 - l.length)
    · rw [if_pos (show l.length ≤ 6 ∧ l = memL.drop (6 - l.length) from ⟨by omega, a⟩)]
      by_cases b : d = memC l.length
      · rw [if_pos ⟨by omega, by rw [b, ← a]⟩, if_pos ⟨rfl, k, b⟩]
      · rw [if_neg (fun z => b (List.cons.inj z.2).1), if_neg (fun z => b z.2.2)]
    · rw [if_neg (fun z => a (List.cons.inj z.2).2), if_neg]
      intro z
      rw [if_neg (fun w => a w.2)] at z
      exact absurd z.1 (by decide)
  · rw [if_neg (fun z => by omega), if_neg (fun z => k z.2.1)]
theorem flg_01 (l : List Nat) : flg l = 0 ∨ flg l = 1 := by
  unfold flg
  split
  · exact Or.inr rfl
  · exact Or.inl rfl
theorem word_ok (h : TP B N sa tt st) {s : Nat} {t4 m7 m8 : Int32} : ∀ (fuel p : Nat) (l : List Nat) (w : Nat), p ≤ N → N - p < fuel → s + l.length = p → lett l → (l.length ≤ 6 → w = e32 l) →
    ∃ (e : Nat) (l' : List Nat) (w' : Nat), p ≤ e ∧ e ≤ N ∧ s + l'.length = e ∧ lett l' ∧ (l'.length ≤ 6 → w' = e32 l') ∧ t_readWord_7 fuel (tS tt (nI p) t4 (nI s) (nI (e27 l))) 500 sa sn (flg l) = some (tS tt (nI e) t4 (nI s) (nI (e27 l')), flg l') ∧ m_go_89 fuel (mS st (nI p) (nI s) m7 m8 (nI w)) = some (mS st (nI e) (nI s) m7 m8 (nI w')) ∧ (e < N → ¬ isL (B e)) ∧ (p < N → isL (B p) → p < e) := by
  have hN := h.1
  intro fuel
  induction fuel with
  | zero => intro p l w _ h; omega
  | succ f ih =>
    intro p l w hp hf hs hl hw
    rw [t_readWord_7, m_go_89, show (mS st (nI p) (nI s) m7 m8 (nI w)).1 6 = nI p from rfl, m_byteAt_ok h hp, bd_s, show (tS tt (nI p) t4 (nI s) (nI (e27 l))).1 3 = nI p from rfl, show (tS tt (nI p) t4 (nI s) (nI (e27 l))).1 2 = nI N from h.2.1]
    by_cases q : p < N
    · have hb := (h.2.2.2 p q).1
      rw [if_neg (nI_ge q (by omega)), t_byteAt_ok h hp]
      unfold bA
      rw [if_pos q]
      simp only [bd_s]
      by_cases z : isL (B p)
      · obtain ⟨z1, z2⟩ := (t_isLetter_ok hb).1 z
        have z97 := z.1
        have z122 := z.2
        rw [z1, bd_s, z2, bd_s, if_neg (show ¬ (1 : Int32) = 0 by decide), if_neg (show ¬ (1 : Int32) = 0 by decide)]
        have dl : lett ((B p - 96) :: l) := lett_c.mpr ⟨⟨by omega, by omega⟩, hl⟩
        have hv : 27 * nI (e27 l) + nI (B p) - 97 + 1 = nI (e27 ((B p - 96) :: l)) := by
          rw [i27, pk_mul, nI_add, i97, n_sub (by omega), i1, nI_add]
          congr 1
          rw [e27]
          omega
        -- the reference
        have rf : ∃ w2, (l.length + 1 ≤ 6 → w2 = e32 ((B p - 96) :: l)) ∧ (if (6 : Int32) ≤ nI p - (mS st (nI p) (nI s) m7 m8 (nI w)).1 5 then nm (sI (mS st (nI p) (nI s) m7 m8 (nI w)) 9 ((mS st (nI p) (nI s) m7 m8 (nI w)).1 9)) fun s49 => nm (sI s49 6 ((s49.1 6) + 1)) fun s50 => m_go_89 f s50 else nm (sI (mS st (nI p) (nI s) m7 m8 (nI w)) 9 (((32 * (mS st (nI p) (nI s) m7 m8 (nI w)).1 9) + nI (B p)) - 96)) fun s52 => nm (sI s52 6 ((s52.1 6) + 1)) fun s53 => m_go_89 f s53) = m_go_89 f (mS st (nI (p + 1)) (nI s) m7 m8 (nI w2)) := by
          rw [show (mS st (nI p) (nI s) m7 m8 (nI w)).1 5 = nI s from rfl, n_sub (by omega), show p - s = l.length by omega, show (mS st (nI p) (nI s) m7 m8 (nI w)).1 9 = nI w from rfl]
          by_cases k : l.length < 6
          · rw [if_neg (show ¬ (6 : Int32) ≤ nI l.length from nI_ge (b := 6) k (by omega)), nm_eq, nm_eq, mS_9, show (mS st (nI p) (nI s) m7 m8 (32 * nI w + nI (B p) - 96)).1 6 = nI p from rfl, nI_1, mS_6]
            refine ⟨e32 ((B p - 96) :: l), fun _ => rfl, ?_⟩
            have : 32 * nI w + nI (B p) - 96 = nI (e32 ((B p - 96) :: l)) := by
              rw [hw (by omega), i32, pk_mul, nI_add, show (96 : Int32) = nI 96 from rfl, n_sub (by omega), e32]
              congr 1
              omega
            rw [this]
          · have kl : l.length ≤ 1000 := by omega
            rw [if_pos (show (6 : Int32) ≤ nI l.length from nI_le (a := 6) (by omega) (by omega)), nm_eq, nm_eq, mS_9, show (mS st (nI p) (nI s) m7 m8 (nI w)).1 6 = nI p from rfl, nI_1, mS_6]
            exact ⟨w, fun z => by omega, rfl⟩
        obtain ⟨w2, hw2, er⟩ := rf
        rw [er]
        obtain ⟨e, l', w', x1, x2, x3, x4, x5, x6, x7, x8, x9⟩ := ih (p + 1) ((B p - 96) :: l) w2 (by omega) (by omega) (by rw [List.length_cons]; omega) dl (fun z => hw2 (by rw [List.length_cons] at z; exact z))
        refine ⟨e, l', w', by omega, x2, x3, x4, x5, ?_, x7, x8, fun _ _ => by omega⟩
        rw [← x6]
        have s6 : (tS tt (nI p) t4 (nI s) (nI (e27 l))).1 6 = nI (e27 l) := rfl
        have s5 : (tS tt (nI p) t4 (nI s) (nI (e27 l))).1 5 = nI s := rfl
        have upd2 : ∀ fl : Int32, (nm (sI (tS tt (nI p) t4 (nI s) (nI (e27 l))) 6 ((((27 * ((tS tt (nI p) t4 (nI s) (nI (e27 l))).1 6)) + nI (B p)) - 97) + 1)) fun s9 => nm (sI s9 3 ((s9.1 3) + 1)) fun s10 => t_readWord_7 f s10 500 sa sn fl) = t_readWord_7 f (tS tt (nI (p + 1)) t4 (nI s) (nI (e27 ((B p - 96) :: l)))) 500 sa sn fl := by
          intro fl
          rw [nm_eq, nm_eq, s6, hv, tS_6, show (tS tt (nI p) t4 (nI s) (nI (e27 ((B p - 96) :: l)))).1 3 = nI p from rfl, nI_1, tS_3]
        rw [flg_step]
        rcases flg_01 l with f0 | f1
        · rw [f0, if_pos rfl, if_neg (show ¬ ((0 : Int32) = 1 ∧ l.length < 6 ∧ B p - 96 = memC l.length) from fun z => absurd z.1 (by decide))]
          exact upd2 0
        · rw [f1, if_neg (show ¬ (1 : Int32) = 0 by decide), js_len0, bd_s, s5, n_sub (by omega), show p - s = l.length by omega]
          by_cases k : l.length < 6
          · rw [if_neg (nI_ge k (by omega)), js_mem _ k, bd_s]
            have mc : ∀ k, k < 6 → memC k + 96 < 256 := by decide
            have mk := mc _ k
            by_cases y : B p - 96 = memC l.length
            · rw [if_pos (show nI (B p) = nI (memC l.length + 96) by congr 1; omega), if_pos (show (1 : Int32) = 1 ∧ l.length < 6 ∧ B p - 96 = memC l.length from ⟨rfl, k, y⟩)]
              exact upd2 1
            · rw [if_neg (show ¬ nI (B p) = nI (memC l.length + 96) by rw [nI_eq (by omega) (by omega)]; omega), if_neg (show ¬ ((1 : Int32) = 1 ∧ l.length < 6 ∧ B p - 96 = memC l.length) from fun w => y w.2.2)]
              exact upd2 0
          · rw [if_pos (nI_le (by omega) (by omega)), if_neg (show ¬ ((1 : Int32) = 1 ∧ l.length < 6 ∧ B p - 96 = memC l.length) from fun w => k w.2.1)]
            exact upd2 0
      · obtain ⟨z1, z2⟩ := (t_isLetter_ok hb).2 z
        rw [z1, bd_s, z2, bd_s, if_pos rfl, if_pos rfl]
        exact ⟨p, l, w, Nat.le_refl _, hp, hs, hl, hw, rfl, rfl, fun _ => z, fun _ y => absurd y z⟩
    · rw [if_pos (nI_le (by omega) (by omega))]
      unfold bA
      rw [if_neg q, show m_within (-1) 97 122 = some 0 from rfl, bd_s, if_pos rfl]
      exact ⟨p, l, w, Nat.le_refl _, hp, hs, hl, hw, rfl, rfl, fun z => absurd z q, fun z => absurd z q⟩
end TP
