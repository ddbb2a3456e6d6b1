/-! names: the readers' states, a name read -/
def NMs (ρ : Nat → Nat) (tt st : OSt) (nc wc : Nat) (nm : Nat → List Nat) (fi gi so : Nat → Nat) : Prop :=
  (tt.1 11 = nI nc ∧ st.1 11 = nI nc ∧ tt.1 12 = nI wc ∧ nc ≤ wc) ∧
  (∀ i, i < nc → lett (nm i) ∧ 1 ≤ (nm i).length ∧ (nm i).length ≤ 5 ∧ tt.2 8 i = nI (e27 (nm i)) ∧ st.2 12 i = nI (e32 (nm i))) ∧
  (∀ i j, i < j → j < nc → nm i ≠ nm j) ∧
  (∀ i, i < nc → tt.2 9 i = nI (1016 + fi i) ∧ fi i < wc ∧ ρ (1016 + fi i) = 1100 + 2 * i ∧ st.2 13 i = nI (so i) ∧ ((so i = 1 ∧ tt.2 10 i = -1) ∨ (so i = 2 ∧ tt.2 10 i = nI (1016 + gi i) ∧ gi i < wc ∧ ρ (1016 + gi i) = 1100 + 2 * i + 1))) ∧
  (∀ j, j < wc → ∃ i, i < nc ∧ (j = fi i ∨ (so i = 2 ∧ j = gi i))) ∧ (∀ j, wc ≤ j → ρ (1016 + j) = 1600 + j)
/-- both readers, at the same place of the text -/
def RS (B : Nat → Nat) (N : Nat) (sa : Nat → Int32) (E : Nat → Prop) (L ρ wl r : Nat → Nat) (sn : NSt) (tt st : OSt) (nc wc : Nat) (nm : Nat → List Nat) (fi gi so : Nat → Nat) : Prop :=
  TP B N sa tt st ∧ BS E Q0 L ρ wl r sn ∧ nl sn = 1266 ∧ (∀ k, k < 500 → st.2 14 k = nI (wl k)) ∧ NMs ρ tt st nc wc nm fi gi so ∧ (∀ p, E p → 900 ≤ p → 1016 ≤ p ∧ p < 1016 + wc) ∧ tt.1 7 = 0 ∧ st.1 10 = 0
/-- what isn't linked yet -/
def uA (E : Nat → Prop) (r : Nat → Nat) (wc p : Nat) : Prop := uN E r p ∨ (1016 ≤ p ∧ p < 1016 + wc ∧ ¬ E p)
/-- names never touch -/
def WI (B : Nat → Nat) (N wc p : Nat) : Prop := 2 * wc ≤ p ∨ (2 * wc = p + 1 ∧ (p < N → ¬ isL (B p)))
def TOK (B : Nat → Nat) (N : Nat) (tt st : OSt) (s e e' : Nat) : Prop := tt.1 3 = nI e ∧ tt.1 5 = nI s ∧ st.1 6 = nI e' ∧ st.1 5 = nI s ∧ TKR B N (tt.1 4) (tt.1 6) (st.1 7) (st.1 8) (st.1 9) s e e'
/-- tokens alone have changed -/
def CF (tt tt' : OSt) : Prop := ∃ a b c d, tt' = tS tt a b c d
def RF (st st' : OSt) : Prop := ∃ a b c d e, st' = mS st a b c d e
theorem RS.tok {B : Nat → Nat} {N : Nat} {sa : Nat → Int32} {E : Nat → Prop} {L ρ wl r : Nat → Nat} {sn : NSt} {tt st tt' st' : OSt} {nc wc : Nat} {nm : Nat → List Nat} {fi gi so : Nat → Nat} (h : RS B N sa E L ρ wl r sn tt st nc wc nm fi gi so) (c : CF tt tt') (f : RF st st') : RS B N sa E L ρ wl r sn tt' st' nc wc nm fi gi so := by
  obtain ⟨a, b, c1, d, rfl⟩ := c
  obtain ⟨a', b', c', d', e', rfl⟩ := f
  exact h
theorem adv_ok {B : Nat → Nat} {N : Nat} {sa : Nat → Int32} {sn : NSt} {tt st : OSt} (h : TP B N sa tt st) (h7 : tt.1 7 = 0) {p : Nat} (hp : p ≤ N) (e1 : tt.1 3 = nI p) (e2 : st.1 6 = nI p) (r : Nat → Nat) : ∃ (tt' st' : OSt) (s e e' : Nat), t_advance tt 500 sa sn = some tt' ∧ m_go (sR st r) = some (sR st' r) ∧ TOK B N tt' st' s e e' ∧ (p ≤ s ∧ s ≤ N) ∧ CF tt tt' ∧ RF st st' := by
  have h' : TP B N sa tt (sR st r) := h
  obtain ⟨s, e, e', tok, v, tk, val, wd, x1, x2, x3, x4, x5⟩ := advance_ok (sn := sn) h' h7 hp (tt.1 4) (tt.1 5) (tt.1 6) (st.1 5) (st.1 7) (st.1 8) (st.1 9)
  refine ⟨tS tt (nI e) tok (nI s) v, mS st (nI e') (nI s) tk val wd, s, e, e', ?_, ?_, ⟨rfl, rfl, rfl, rfl, x5⟩, ⟨x1, x2⟩, ⟨_, _, _, _, rfl⟩, ⟨_, _, _, _, _, rfl⟩⟩
  · rw [← x3, ← e1, tS_id]
  · have : mS (sR st r) (nI p) (st.1 5) (st.1 7) (st.1 8) (st.1 9) = sR st r := by
      rw [← e2]
      exact mS_id (sR st r)
    rw [this] at x4
    exact x4
/-- a fault that both tell -/
def FLT (tt st : OSt) : Prop := ∃ F, 1 ≤ F ∧ F ≤ 5000 ∧ tt.1 7 = (-2) - nI F ∧ st.1 10 = nI F
theorem FLT.ne {tt st : OSt} (h : FLT tt st) : ¬ tt.1 7 = 0 := by
  obtain ⟨F, h1, h2, h3, _⟩ := h
  rw [h3]
  intro z
  have := (sub_z (-2) (nI F)).mp z
  have n := n_ej (a := F) (by omega)
  rw [show ((-2 : Int32)) = mJ from rfl] at this
  rw [n] at this
  exact this
theorem t_refuse_ok {tt : OSt} {sa : Nat → Int32} {sn : NSt} (h7 : tt.1 7 = 0) {a k : Nat} : t_refuse tt 500 sa sn (nI a) (nI k) = some (sI tt 7 ((-2) - nI (8 * a + k))) := by
  unfold t_refuse
  rw [h7, if_pos rfl, nm_eq, i8, pk_mul, nI_add]
theorem m_badAt_ok {st : OSt} {r : Nat → Nat} (h10 : st.1 10 = 0) {a k : Nat} : m_badAt (sR st r) (nI a) (nI k) = some (0, sR (sI st 10 (nI (8 * a + k))) r) := by
  unfold m_badAt
  rw [sR_1, h10, if_pos rfl, nm_eq, i8, pk_mul, nI_add, sR_I]
theorem m_bad_ok {st : OSt} {r : Nat → Nat} (h10 : st.1 10 = 0) {s k : Nat} (h5 : st.1 5 = nI s) : m_bad (sR st r) (nI k) = some (0, sR (sI st 10 (nI (8 * s + k))) r) := by
  unfold m_bad
  rw [sR_1, h5, m_badAt_ok h10, bd_s]
  rfl
theorem FLT.mk {tt st : OSt} {a k : Nat} (ha : a ≤ 500) (hk : 1 ≤ k ∧ k ≤ 6) : FLT (sI tt 7 ((-2) - nI (8 * a + k))) (sI st 10 (nI (8 * a + k))) := ⟨8 * a + k, by omega, by omega, rfl, rfl⟩
/-- which name it is -/
theorem nc_ {n : Nat} (h : n < 2147483648) : (nI n).toNatClampNeg = n := nI_clamp h
theorem index_ok {ρ : Nat → Nat} {tt st : OSt} {nc wc : Nat} {nm : Nat → List Nat} {fi gi so : Nat → Nat} {sa : Nat → Int32} {sn : NSt} (h : NMs ρ tt st nc wc nm fi gi so) (hn : nc ≤ 250) {l : List Nat} (hl : lett l) (l5 : l.length ≤ 5) (hw : st.1 9 = nI (e32 l)) (r : Nat → Nat) :
    ∃ k, k ≤ nc ∧ (k < nc → nm k = l) ∧ (∀ i, i < k → nm i ≠ l) ∧ t_indexOfName tt 500 sa sn (nI (e27 l)) = some (nI k) ∧ m_nameAt_2 20000 (sR st r) 0 = some (nI k) := by
  obtain ⟨⟨a1, a2, a3, a4⟩, b, _⟩ := h
  have l27 : ∀ m : List Nat, lett m → m.length ≤ 5 → e27 m < 2147483648 := fun m hm h5 => by
    have := e27_lt m hm
    have : 27 ^ m.length ≤ 27 ^ 5 := Nat.pow_le_pow_right (by decide) h5
    omega
  have l32 : ∀ m : List Nat, lett m → m.length ≤ 5 → e32 m < 2147483648 := fun m hm h5 => by
    have := e32_lt m hm
    have : 32 ^ m.length ≤ 32 ^ 5 := Nat.pow_le_pow_right (by decide) h5
    omega
  have key : ∀ (fuel i : Nat), i ≤ nc → nc - i < fuel → (∀ j, j < i → nm j ≠ l) → ∃ k, k ≤ nc ∧ (k < nc → nm k = l) ∧ (∀ i, i < k → nm i ≠ l) ∧ t_indexOfName_2 fuel tt 500 sa sn (nI (e27 l)) (nI i) = some (nI k) ∧ m_nameAt_2 fuel (sR st r) (nI i) = some (nI k) := by
    intro fuel
    induction fuel with
    | zero => intro i _ h; omega
    | succ f ih =>
      intro i hi hf h0
      rw [t_indexOfName_2, m_nameAt_2, a1, sR_1, a2]
      by_cases q : i = nc
      · rw [if_pos (nI_le (by omega) (by omega)), if_pos (nI_le (by omega) (by omega)), q]
        exact ⟨nc, Nat.le_refl _, fun z => absurd z (Nat.lt_irrefl _), fun j hj => h0 j (by omega), rfl, rfl⟩
      · obtain ⟨c1, c2, c3, c4, c5⟩ := b i (by omega)
        rw [if_neg (nI_ge (by omega) (by omega)), if_neg (nI_ge (by omega) (by omega)), gd_nI (by omega) (by omega), gd_nI (by omega) (by omega), nc_ (by omega), sR_o _ _ (by decide), c4, c5, hw, nI_1]
        by_cases z : nm i = l
        · rw [if_pos (by rw [z]), if_pos (by rw [z])]
          exact ⟨i, by omega, fun _ => z, h0, rfl, rfl⟩
        · rw [if_neg (fun y => z (e27_inj _ _ c1 hl ((nI_eq (l27 _ c1 c3) (l27 _ hl l5)).mp y))), if_neg (fun y => z (e32_inj _ _ c1 hl ((nI_eq (l32 _ c1 c3) (l32 _ hl l5)).mp y)))]
          exact ih (i + 1) (by omega) (by omega) (fun j hj => by
            by_cases y : j = i
            · rw [y]; exact z
            · exact h0 j (by omega))
  obtain ⟨k, x1, x2, x3, x4, x5⟩ := key 20000 0 (by omega) (by omega) (fun j hj => absurd hj (Nat.not_lt_zero _))
  exact ⟨k, x1, x2, x3, x4, x5⟩
