/-! numbers' digits; a token -/
section TP
variable {B : Nat → Nat} {N : Nat} {sa : Nat → Int32} {sn : NSt} {tt st : OSt}
theorem digits_ok (h : TP B N sa tt st) {s : Nat} {t4 m7 m9 : Int32} : ∀ (fuel p v u : Nat), p ≤ N → N - p < fuel → s ≤ p → (p - s ≤ 3 → u = v ∧ v < 10 ^ (p - s)) →
    ∃ (e v' u' : Nat), p ≤ e ∧ e ≤ N ∧ (e - s ≤ 3 → u' = v' ∧ v' < 10 ^ (e - s)) ∧ t_readDigits_5 fuel (tS tt (nI p) t4 (nI s) (nI v)) 500 sa sn = some (tS tt (nI e) t4 (nI s) (nI v')) ∧ m_go_223 fuel (mS st (nI p) (nI s) m7 (nI u) m9) = some (mS st (nI e) (nI s) m7 (nI u') m9) ∧ (p < N → isD (B p) → p < e) := by
  have hN := h.1
  intro fuel
  induction fuel with
  | zero => intro p v u _ h; omega
  | succ f ih =>
    intro p v u hp hf hs hw
    rw [t_readDigits_5, m_go_223, show (mS st (nI p) (nI s) m7 (nI u) m9).1 6 = nI p from rfl, m_byteAt_ok h hp, bd_s, show (tS tt (nI p) t4 (nI s) (nI v)).1 3 = nI p from rfl, show (tS tt (nI p) t4 (nI s) (nI v)).1 2 = nI N from h.2.1]
    by_cases q : p < N
    · have hb := (h.2.2.2 p q).1
      rw [if_neg (nI_ge q (by omega)), t_byteAt_ok h hp]
      unfold bA
      rw [if_pos q]
      simp only [bd_s]
      by_cases z : isD (B p)
      · obtain ⟨z1, z2⟩ := (t_isDigit_ok hb).1 z
        have z48 := z.1
        have z57 := z.2
        rw [z1, bd_s, z2, bd_s, if_neg (show ¬ (1 : Int32) = 0 by decide), if_neg (show ¬ (1 : Int32) = 0 by decide)]
        simp only [nm_eq]
        have hv : 10 * (tS tt (nI p) t4 (nI s) (nI v)).1 6 + nI (B p) - 48 = nI (10 * v + (B p - 48)) := by
          rw [show (tS tt (nI p) t4 (nI s) (nI v)).1 6 = nI v from rfl, i10, pk_mul, nI_add, i48, n_sub (by omega)]
          congr 1
          omega
        rw [hv, tS_6, show (tS tt (nI p) t4 (nI s) (nI (10 * v + (B p - 48)))).1 3 = nI p from rfl, nI_1, tS_3]
        rw [show (mS st (nI p) (nI s) m7 (nI u) m9).1 5 = nI s from rfl, n_sub hs, show (mS st (nI p) (nI s) m7 (nI u) m9).1 8 = nI u from rfl]
        by_cases k : p - s < 3
        · have hu := hw (by omega)
          have e8 : 10 * nI u + nI (B p) - 48 = nI (10 * v + (B p - 48)) := by
            rw [hu.1, i10, pk_mul, nI_add, i48, n_sub (by omega)]
            congr 1
            omega
          rw [if_neg (show ¬ (3 : Int32) ≤ nI (p - s) from nI_ge (b := 3) k (by omega)), e8, mS_8, show (mS st (nI p) (nI s) m7 (nI (10 * v + (B p - 48))) m9).1 6 = nI p from rfl, nI_1, mS_6]
          obtain ⟨e, v', u', x1, x2, x3, x4, x5, x6⟩ := ih (p + 1) (10 * v + (B p - 48)) (10 * v + (B p - 48)) (by omega) (by omega) (by omega) (fun _ => ⟨rfl, by rw [show p + 1 - s = (p - s) + 1 by omega, Nat.pow_succ]; omega⟩)
          exact ⟨e, v', u', by omega, x2, x3, x4, x5, fun _ _ => by omega⟩
        · rw [if_pos (show (3 : Int32) ≤ nI (p - s) from nI_le (a := 3) (by omega) (by omega)), mS_8, show (mS st (nI p) (nI s) m7 (nI u) m9).1 6 = nI p from rfl, nI_1, mS_6]
          obtain ⟨e, v', u', x1, x2, x3, x4, x5, x6⟩ := ih (p + 1) (10 * v + (B p - 48)) u (by omega) (by omega) (by omega) (fun w => by omega)
          exact ⟨e, v', u', by omega, x2, x3, x4, x5, fun _ _ => by omega⟩
      · obtain ⟨z1, z2⟩ := (t_isDigit_ok hb).2 z
        rw [z1, bd_s, z2, bd_s, if_pos rfl, if_pos rfl]
        exact ⟨p, v, u, Nat.le_refl _, hp, hw, rfl, rfl, fun _ y => absurd y z⟩
    · rw [if_pos (nI_le (by omega) (by omega))]
      unfold bA
      rw [if_neg q, show m_within (-1) 48 57 = some 0 from rfl, bd_s, if_pos rfl]
      exact ⟨p, v, u, Nat.le_refl _, hp, hw, rfl, rfl, fun z => absurd z q⟩
/-- what kind of token both have read, from s on -/
def TKR (B : Nat → Nat) (N : Nat) (tok v tk val wd : Int32) (s e e' : Nat) : Prop :=
  (tok = 0 ∧ tk = 0 ∧ s = N ∧ e = N ∧ e' = N) ∨
  (tok = 2 ∧ tk = 1 ∧ (e = e' ∧ s < e ∧ e ≤ N ∧ isL (B s) ∧ (e < N → ¬ isL (B e))) ∧ ∃ l : List Nat, lett l ∧ 1 ≤ l.length ∧ l.length ≤ 5 ∧ v = nI (e27 l) ∧ wd = nI (e32 l)) ∨
  (tok = 4 ∧ tk = 1 ∧ (e = e' ∧ s < e ∧ e ≤ N) ∧ wd = nI 441892441) ∨
  (tok = 3 ∧ tk = 2 ∧ (e = e' ∧ s < e ∧ e ≤ N) ∧ ∃ n, n ≤ 999 ∧ v = nI n ∧ val = nI n) ∨
  (∃ c, isSg c ∧ tok = nI c ∧ tk = 3 ∧ val = nI c ∧ (e = e' ∧ e = s + 1 ∧ e ≤ N)) ∨
  (tok = 1 ∧ tk = 4)
theorem advance_ok (h : TP B N sa tt st) (h7 : tt.1 7 = 0) {p : Nat} (hp : p ≤ N) (t4 t5 t6 m5 m7 m8 m9 : Int32) :
    ∃ (s e e' : Nat) (tok v tk val wd : Int32), p ≤ s ∧ s ≤ N ∧ t_advance (tS tt (nI p) t4 t5 t6) 500 sa sn = some (tS tt (nI e) tok (nI s) v) ∧ m_go (mS st (nI p) m5 m7 m8 m9) = some (mS st (nI e') (nI s) tk val wd) ∧ TKR B N tok v tk val wd s e e' := by
  have hN := h.1
  obtain ⟨s, s1, s2, s3, s4, s5⟩ := skip_ok (sn := sn) h (t4 := 1) (t5 := t5) (t6 := t6) (m5 := m5) (m7 := m7) (m8 := m8) (m9 := m9) 20000 p hp (by omega)
  unfold t_advance m_go
  simp only [nm_eq]
  rw [tS_4, show (tS tt (nI p) 1 t5 t6).1 7 = tt.1 7 from rfl, h7, if_pos rfl]
  unfold t_skipBlanks
  rw [s3, bd_s, bd_s, show (tS tt (nI s) 1 t5 t6).1 3 = nI s from rfl, tS_5, show (tS tt (nI s) 1 (nI s) t6).1 3 = nI s from rfl, t_byteAt_ok h s2, bd_s, show (tS tt (nI s) 1 (nI s) t6).1 2 = nI N from h.2.1]
  rw [s4, bd_s, show (mS st (nI s) m5 m7 m8 m9).1 6 = nI s from rfl, mS_5, mS_8, mS_9, show (mS st (nI s) (nI s) m7 0 0).1 6 = nI s from rfl, m_byteAt_ok h s2, bd_s]
  unfold bA
  by_cases q : s < N
  · have hb := (h.2.2.2 s q).1
    rw [if_pos q, if_pos (nI_lt q (by omega)), if_pos (show (0 : Int32) ≤ nI (B s) from nI_le (a := 0) (Nat.zero_le _) (by omega))]
    by_cases L : isL (B s)
    · obtain ⟨z1, z2⟩ := (t_isLetter_ok hb).1 L
      rw [z1, bd_s, if_neg (show ¬ (1 : Int32) = 0 by decide), z2, bd_s, if_neg (show ¬ (1 : Int32) = 0 by decide)]
      obtain ⟨e, l, w, x1, x2, x3, x4, x5, x6, x7, x8, x9⟩ := word_ok (sn := sn) h (s := s) (t4 := 1) (m7 := m7) (m8 := 0) 20000 s [] 0 s2 (by omega) rfl (fun d hd => absurd hd (List.not_mem_nil)) (fun _ => rfl)
      have le := x9 q L
      have ll : l.length = e - s := by omega
      unfold t_readWord
      rw [nm_eq, tS_6]
      rw [show t_readWord_7 20000 (tS tt (nI s) 1 (nI s) 0) 500 sa sn 1 = some (tS tt (nI e) 1 (nI s) (nI (e27 l)), flg l) from x6, bd_s]
      rw [show m_go_89 20000 (mS st (nI s) (nI s) m7 0 0) = some (mS st (nI e) (nI s) m7 0 (nI w)) from x7, bd_s]
      simp only
      unfold t_readWord_116
      rw [show (tS tt (nI e) 1 (nI s) (nI (e27 l))).1 3 = nI e from rfl, show (tS tt (nI e) 1 (nI s) (nI (e27 l))).1 5 = nI s from rfl, show (mS st (nI e) (nI s) m7 0 (nI w)).1 6 = nI e from rfl, show (mS st (nI e) (nI s) m7 0 (nI w)).1 5 = nI s from rfl, n_sub (by omega), show (mS st (nI e) (nI s) m7 0 (nI w)).1 9 = nI w from rfl]
      simp only [nm_eq, tS_4, mS_7]
      by_cases k5 : e - s ≤ 5
      · rw [if_neg (show ¬ (5 : Int32) < nI (e - s) from nI_nlt (a := 5) k5 (by omega)), bd_s, if_pos (show nI (e - s) ≤ (5 : Int32) from nI_le (b := 5) k5 (by omega))]
        exact ⟨s, e, e, _, _, _, _, _, s1, s2, rfl, rfl, Or.inr (Or.inl ⟨rfl, rfl, ⟨rfl, le, x2, L, x8⟩, l, x4, by omega, by omega, rfl, by rw [x5 (by omega)]⟩)⟩
      · rw [if_pos (show (5 : Int32) < nI (e - s) from nI_lt (a := 5) (by omega) (by omega)), if_neg (show ¬ nI (e - s) ≤ (5 : Int32) from nI_ge (a := 5) (by omega) (by omega)), js_len0]
        simp only [bd_s]
        by_cases k6 : e - s = 6
        · rw [k6, if_pos (show nI 6 = 6 from rfl)]
          have w6 := x5 (by omega)
          have ew : (nI w = 441892441) ↔ l = memL := by
            have lt := e32_lt l x4
            rw [ll, k6] at lt
            rw [i441892441, w6, nI_eq (by omega) (by omega), ← memL_e]
            exact ⟨fun z => e32_inj l memL x4 memL_lett z, fun z => by rw [z]⟩
          have fw : (flg l = 0) ↔ ¬ l = memL := by
            unfold flg
            rw [ll, k6, show (6 : Nat) - 6 = 0 from rfl, List.drop_zero]
            by_cases y : l = memL
            · rw [if_pos ⟨Nat.le_refl _, y⟩]
              exact ⟨fun z => absurd z (by decide), fun z => absurd y z⟩
            · rw [if_neg (fun z => y z.2)]
              exact ⟨fun _ => y, fun _ => rfl⟩
          by_cases y : l = memL
          · rw [if_neg (mt fw.mp (fun z => z y)), if_pos rfl, if_pos (ew.mpr y)]
            simp only [bd_s]
            exact ⟨s, e, e, _, _, _, _, _, s1, s2, rfl, rfl, Or.inr (Or.inr (Or.inl ⟨rfl, rfl, ⟨rfl, le, x2⟩, by rw [ew.mpr y]; rfl⟩))⟩
          · rw [if_pos (fw.mpr y), if_neg (mt ew.mp y)]
            simp only [bd_s]
            exact ⟨s, e, e, _, _, _, _, _, s1, s2, rfl, rfl, Or.inr (Or.inr (Or.inr (Or.inr (Or.inr ⟨rfl, rfl⟩))))⟩
        · rw [if_neg (show ¬ nI (e - s) = 6 by rw [i6, nI_eq (by omega) (by omega)]; exact k6), if_neg (show ¬ nI (e - s) = nI 6 by rw [nI_eq (by omega) (by omega)]; exact k6)]
          have : (if flg l = 0 then some (tS tt (nI e) 1 (nI s) (nI (e27 l))) else some (tS tt (nI e) 1 (nI s) (nI (e27 l)))) = some (tS tt (nI e) 1 (nI s) (nI (e27 l))) := by split <;> rfl
          rw [this, bd_s]
          exact ⟨s, e, e, _, _, _, _, _, s1, s2, rfl, rfl, Or.inr (Or.inr (Or.inr (Or.inr (Or.inr ⟨rfl, rfl⟩))))⟩
    · obtain ⟨z1, z2⟩ := (t_isLetter_ok hb).2 L
      rw [z1, bd_s, if_pos rfl, z2, bd_s, if_pos rfl]
      by_cases D : isD (B s)
      · obtain ⟨y1, y2⟩ := (t_isDigit_ok hb).1 D
        rw [y1, bd_s, if_neg (show ¬ (1 : Int32) = 0 by decide), y2, bd_s, if_neg (show ¬ (1 : Int32) = 0 by decide)]
        obtain ⟨e, v, u, x1, x2, x3, x4, x5, x6⟩ := digits_ok (sn := sn) h (s := s) (t4 := 1) (m7 := m7) (m9 := 0) 20000 s 0 0 s2 (by omega) (Nat.le_refl _) (fun _ => ⟨rfl, by rw [Nat.sub_self]; decide⟩)
        have le := x6 q D
        unfold t_readDigits
        simp only [nm_eq]
        rw [tS_6]
        rw [show t_readDigits_5 20000 (tS tt (nI s) 1 (nI s) 0) 500 sa sn = some (tS tt (nI e) 1 (nI s) (nI v)) from x4, bd_s]
        rw [show m_go_223 20000 (mS st (nI s) (nI s) m7 0 0) = some (mS st (nI e) (nI s) m7 (nI u) 0) from x5, bd_s]
        rw [show (tS tt (nI e) 1 (nI s) (nI v)).1 3 = nI e from rfl, show (tS tt (nI e) 1 (nI s) (nI v)).1 5 = nI s from rfl, show (mS st (nI e) (nI s) m7 (nI u) 0).1 6 = nI e from rfl, show (mS st (nI e) (nI s) m7 (nI u) 0).1 5 = nI s from rfl, n_sub (by omega), tS_4, mS_7, mS_7]
        by_cases k3 : e - s ≤ 3
        · obtain ⟨uv, vb⟩ := x3 k3
          have vb2 : v ≤ 999 := by
            have : 10 ^ (e - s) ≤ 10 ^ 3 := Nat.pow_le_pow_right (by decide) k3
            omega
          rw [if_neg (show ¬ (3 : Int32) < nI (e - s) from nI_nlt (a := 3) k3 (by omega)), if_neg (show ¬ (3 : Int32) < nI (e - s) from nI_nlt (a := 3) k3 (by omega)), bd_s]
          exact ⟨s, e, e, _, _, _, _, _, s1, s2, rfl, rfl, Or.inr (Or.inr (Or.inr (Or.inl ⟨rfl, rfl, ⟨rfl, le, x2⟩, v, vb2, rfl, by rw [uv]⟩)))⟩
        · rw [if_pos (show (3 : Int32) < nI (e - s) from nI_lt (a := 3) (by omega) (by omega)), if_pos (show (3 : Int32) < nI (e - s) from nI_lt (a := 3) (by omega) (by omega)), bd_s]
          exact ⟨s, e, e, _, _, _, _, _, s1, s2, rfl, rfl, Or.inr (Or.inr (Or.inr (Or.inr (Or.inr ⟨rfl, rfl⟩))))⟩
      · obtain ⟨y1, y2⟩ := (t_isDigit_ok hb).2 D
        rw [y1, bd_s, if_pos rfl, y2, bd_s, if_pos rfl]
        obtain ⟨g1, g2⟩ := sgI_ok _ hb
        rw [mS_6, mS_8, g2, bd_s, nI_1]
        by_cases sg : B s < 128 ∧ ¬ sgI (B s) < 0
        · rw [if_pos sg, if_neg (show ¬ (1 : Int32) = 0 by decide), mS_7, if_neg (show ¬ (128 : Int32) ≤ nI (B s) from nI_ge (b := 128) sg.1 (by omega)), js_ix _ sg.1, bd_s, if_neg sg.2, tS_4, show (tS tt (nI s) (nI (B s)) (nI s) t6).1 3 = nI s from rfl, nI_1, tS_3]
          exact ⟨s, s + 1, s + 1, _, _, _, _, _, s1, s2, rfl, rfl, Or.inr (Or.inr (Or.inr (Or.inr (Or.inl ⟨B s, g1.mp sg, rfl, rfl, rfl, rfl, rfl, q⟩))))⟩
        · rw [if_neg sg, if_pos rfl, mS_7]
          refine ⟨s, s, s + 1, 1, t6, 4, nI (B s), 0, s1, s2, ?_, rfl, Or.inr (Or.inr (Or.inr (Or.inr (Or.inr ⟨rfl, rfl⟩))))⟩
          by_cases k : B s < 128
          · rw [if_neg (show ¬ (128 : Int32) ≤ nI (B s) from nI_ge (b := 128) k (by omega)), js_ix _ k, bd_s, if_pos (Classical.byContradiction fun z => sg ⟨k, z⟩)]
          · rw [if_pos (show (128 : Int32) ≤ nI (B s) from nI_le (a := 128) (by omega) (by omega))]
  · rw [if_neg q, if_neg (nI_nlt (show N ≤ s by omega) (by omega)), if_neg (show ¬ (0 : Int32) ≤ -1 by decide), tS_4, mS_7]
    exact ⟨s, s, s, _, _, _, _, _, s1, s2, rfl, rfl, Or.inl ⟨rfl, rfl, by omega, by omega, by omega⟩⟩
end TP
