/-! the reference walks over wires: pairs of wires taken out on the way -/
theorem walk_step {X : Nat → Prop} {L0 : Nat → Nat} {l : List Nat} {p i t ov : Nat} (hm : MT X L0) (o : okl l X) (hp : cX l X p) (hM : cL l L0 p = t) (h1 : cX l X (wa i)) (h2 : cX l X (wb i)) (hao : (t = wa i ∧ ov = wb i) ∨ (t = wb i ∧ ov = wa i)) (hpo : p ≠ ov) (un : ∀ q, cX l X q → 1100 ≤ q → q ≠ t → q ≠ p → cL l L0 q = L0 q) :
    okl (l ++ [i]) X ∧ cX (l ++ [i]) X p ∧ cL (l ++ [i]) L0 p = L0 ov ∧ cC (l ++ [i]) L0 = cC l L0 ∧ cL l L0 ov = L0 ov ∧ (∀ q, cX (l ++ [i]) X q → 1100 ≤ q → q ≠ L0 ov → q ≠ p → cL (l ++ [i]) L0 q = L0 q) ∧ (∀ q, cX (l ++ [i]) X q → q ≠ p → q ≠ L0 ov → cL (l ++ [i]) L0 q = cL l L0 q) := by
  have mi := MT.cl l hm o
  obtain ⟨p1, p2, p3⟩ := mi p hp
  rw [hM] at p1 p2 p3
  have hov : cX l X ov := by rcases hao with ⟨_, z⟩ | ⟨_, z⟩ <;> rw [z] <;> assumption
  have ovt : ov ≠ t := by
    rcases hao with ⟨z1, z2⟩ | ⟨z1, z2⟩
    · rw [z1, z2]; exact Ne.symm (ab_ne i)
    · rw [z1, z2]; exact ab_ne i
  have ov11 : 1100 ≤ ov := by unfold wa wb at hao; omega
  have Mov : cL l L0 ov = L0 ov := un ov hov ov11 ovt (Ne.symm hpo)
  have pa : p ≠ wa i ∧ p ≠ wb i := by
    rcases hao with ⟨z1, z2⟩ | ⟨z1, z2⟩
    · rw [← z1, ← z2]; exact ⟨Ne.symm p3, hpo⟩
    · rw [← z1, ← z2]; exact ⟨hpo, Ne.symm p3⟩
  have hp' : cX (l ++ [i]) X p := by rw [cX_app]; exact ⟨hp, pa.1, pa.2⟩
  have last : ∀ q, cX (l ++ [i]) X q → q ≠ p → q ≠ L0 ov → cL (l ++ [i]) L0 q = cL l L0 q := by
    intro q hq qp qo
    rw [cX_app] at hq
    obtain ⟨q1, q2, q3⟩ := hq
    have nt : cL l L0 q ≠ t := fun z => by
      have := (mi q q1).2.1
      rw [z, p2] at this
      exact qp this.symm
    have no : cL l L0 q ≠ ov := fun z => by
      have := (mi q q1).2.1
      rw [z, Mov] at this
      exact qo this.symm
    rw [cL_app, ctr_at mi h1 h2 (ab_ne i) q1 q2 q3]
    rcases hao with ⟨z1, z2⟩ | ⟨z1, z2⟩
    · rw [if_neg (by rw [← z1]; exact nt), if_neg (by rw [← z2]; exact no)]
    · rw [if_neg (by rw [← z2]; exact no), if_neg (by rw [← z1]; exact nt)]
  refine ⟨okl_app i l o h1 h2, hp', ?_, ?_, Mov, fun q hq q11 qo qp => ?_, last⟩
  · rw [cL_app, ctr_at mi h1 h2 (ab_ne i) hp pa.1 pa.2, hM]
    rcases hao with ⟨z1, z2⟩ | ⟨z1, z2⟩
    · rw [if_pos z1, ← z2, Mov]
    · rw [if_neg (by rw [z1]; exact Ne.symm (ab_ne i)), if_pos z1, ← z2, Mov]
  · rw [cC_app]
    unfold lp
    rw [if_neg, Nat.add_zero]
    rcases hao with ⟨z1, z2⟩ | ⟨z1, z2⟩
    · rw [← z1, ← z2, p2]; exact hpo
    · intro z
      have := (sym_at mi h1 h2).mp z
      rw [← z1, p2] at this
      exact pa.1 this
  · rw [last q hq qp qo]
    have hq' := hq
    rw [cX_app] at hq'
    refine un q hq'.1 q11 ?_ qp
    rcases hao with ⟨z1, _⟩ | ⟨z1, _⟩
    · rw [z1]; exact hq'.2.1
    · rw [z1]; exact hq'.2.2
/-- pairs not taken out yet -/
def rmn (l : List Nat) (nc : Nat) : Nat := fb_ct (fun k => !decide (k ∈ l)) nc
theorem rmn_le (l : List Nat) (nc : Nat) : rmn l nc ≤ nc := fb_ct_le _ _
theorem rmn_app {l : List Nat} {nc i : Nat} (hi : i < nc) (h : i ∉ l) : rmn (l ++ [i]) nc + 1 = rmn l nc := by
  have u : fb_ct (fun k => if k = i then false else !decide (k ∈ l)) nc + (if (!decide (i ∈ l)) = true then 1 else 0) = fb_ct (fun k => !decide (k ∈ l)) nc + (if false = true then 1 else 0) := fb_ct_upd (fun k => !decide (k ∈ l)) false (i := i) (n := nc) hi
  have e : (fun k => if k = i then false else !decide (k ∈ l)) = (fun k => !decide (k ∈ l ++ [i])) := by
    funext k
    by_cases z : k = i
    · rw [if_pos z, decide_eq_true (show k ∈ l ++ [i] from List.mem_append.mpr (Or.inr (by rw [z]; exact List.mem_cons.mpr (Or.inl rfl))))]
      rfl
    · rw [if_neg z]
      have : (k ∈ l ++ [i]) ↔ k ∈ l := by
        rw [List.mem_append, List.mem_singleton]
        exact ⟨fun y => y.resolve_right z, Or.inl⟩
      rw [decide_eq_decide.mpr this]
  rw [e, if_pos (show (!decide (i ∈ l)) = true by rw [decide_eq_false h]; rfl), if_neg (by decide), Nat.add_zero] at u
  exact u
/-- wires as the reference has them -/
def WX (X : Nat → Prop) (L0 wl : Nat → Nat) (nc : Nat) : Prop := (MT X L0 ∧ nc ≤ 250) ∧ (∀ q, X q → 1100 ≤ q → ∃ j, j < nc ∧ (q = wa j ∨ q = wb j)) ∧ (∀ j, j < nc → X (wa j) ∧ X (wb j)) ∧ (∀ k, k < 2 * nc → L0 (1100 + k) = wl k) ∧ (∀ q, X q → q < 1100 → q < 1016)
def SE (st : OSt) (P : Nat → Prop) : Prop := ∀ k, k < 500 → (P (k / 2) → st.2 18 k = 1) ∧ (¬ P (k / 2) → st.2 18 k = 0)
theorem SE.cg {st : OSt} {P Q : Nat → Prop} (h : SE st P) (e : ∀ i, Q i ↔ P i) : SE st Q := fun k hk => ⟨fun z => (h k hk).1 ((e _).mp z), fun z => (h k hk).2 (fun y => z ((e _).mpr y))⟩
def ovk (k : Nat) : Nat := if k % 2 = 0 then k + 1 else k - 1
def mk2 (st : OSt) (k : Nat) : OSt := sA st 18 (upd (upd (st.2 18) k 1) (ovk k) 1)
theorem mk2_1 (st : OSt) (k : Nat) : (mk2 st k).1 = st.1 := rfl
theorem mk2_o (st : OSt) (k : Nat) {j : Nat} (h : j ≠ 18) : (mk2 st k).2 j = st.2 j := if_neg h
theorem SE_mk {st : OSt} {P : Nat → Prop} (h : SE st P) {k : Nat} : SE (mk2 st k) (fun j => P j ∨ j = k / 2) := by
  intro j hj
  have hov : ovk k = if k % 2 = 0 then k + 1 else k - 1 := rfl
  unfold mk2
  rw [sA_2, if_pos rfl, upd_at, upd_at]
  by_cases z : j = ovk k
  · rw [if_pos z]
    refine ⟨fun _ => rfl, fun y => absurd (Or.inr ?_) y⟩
    rw [z, hov]
    split <;> omega
  · rw [if_neg z]
    by_cases z2 : j = k
    · rw [if_pos z2]
      exact ⟨fun _ => rfl, fun y => absurd (Or.inr (by rw [z2])) y⟩
    · rw [if_neg z2]
      have nk : j / 2 ≠ k / 2 := by
        intro y
        apply z
        rw [hov]
        split <;> omega
      exact ⟨fun y => (h j hj).1 (y.resolve_right nk), fun y => (h j hj).2 (fun w => y (Or.inl w))⟩
theorem beyond_step {n : Nat} {st : OSt} {r : Nat → Nat} {k : Nat} (hk : k < 500) : m_beyond_2 (n + 1) (sR st r) (nI (1100 + k)) = m_beyond_2 n (sR (mk2 st k) r) (st.2 14 (ovk k)) := by
  rw [m_beyond_2]
  simp only [nm_eq]
  rw [if_neg (show ¬ nI (1100 + k) < (1100 : Int32) from nI_nlt (b := 1100) (by omega) (by omega)), i1100, n_sub (by omega), show 1100 + k - 1100 = k by omega, i2, n_div (by omega) (by omega) (by omega), pk_mul, n_sub (by omega), sub_dm, nb1]
  unfold mk2 ovk
  by_cases e : k % 2 = 0
  · rw [if_pos (show nI (k % 2) = (0 : Int32) by rw [e]; rfl), if_pos e, nI_1, gd_nI (by omega) (by omega), gd_nI (by omega) (by omega), gd_nI (by omega) (by omega), nc_ (by omega), nc_ (by omega), sR_o _ _ (by decide), sR_A _ _ (by decide), sR_o _ _ (by decide), sA_2, if_pos rfl, sR_A _ _ (by decide), sA_sA, sR_o _ _ (by decide), sA_2, if_neg (by decide)]
  · rw [if_neg (show ¬ nI (k % 2) = (0 : Int32) from nI_ne0 (by omega) (by omega)), if_neg e, i1, n_sub (by omega), gd_nI (by omega) (by omega), gd_nI (by omega) (by omega), gd_nI (by omega) (by omega), nc_ (by omega), nc_ (by omega), sR_o _ _ (by decide), sR_A _ _ (by decide), sR_o _ _ (by decide), sA_2, if_pos rfl, sR_A _ _ (by decide), sA_sA, sR_o _ _ (by decide), sA_2, if_neg (by decide)]
theorem cX_lo {l : List Nat} {X : Nat → Prop} {q : Nat} (h : q < 1100) : cX l X q ↔ X q := by
  rw [cX_iff]
  exact ⟨fun z => z.1, fun z => ⟨z, fun i _ => by unfold wa wb; omega⟩⟩
/-- a wire's end that isn't taken out yet, and the one over from it -/
theorem wire_at {X : Nat → Prop} {L0 wl : Nat → Nat} {nc : Nat} (w : WX X L0 wl nc) {l : List Nat} {t : Nat} (ht : cX l X t) (h11 : 1100 ≤ t) : ∃ i ov k, i < nc ∧ i ∉ l ∧ cX l X (wa i) ∧ cX l X (wb i) ∧ ((t = wa i ∧ ov = wb i) ∨ (t = wb i ∧ ov = wa i)) ∧ (t = 1100 + k ∧ k < 500 ∧ k / 2 = i ∧ ov = 1100 + ovk k ∧ ovk k < 500 ∧ L0 ov = wl (ovk k)) := by
  obtain ⟨⟨hm, hn⟩, w1, w2, w3, w4⟩ := w
  have ht' := (cX_iff l X t).mp ht
  obtain ⟨i, hi, ei⟩ := w1 t ht'.1 h11
  have nl : i ∉ l := fun z => by
    have := ht'.2 i z
    rcases ei with e | e
    · exact this.1 e
    · exact this.2 e
  have oth : ∀ j, j ∈ l → j ≠ i := fun j hj e => nl (e ▸ hj)
  have ca : cX l X (wa i) := (cX_iff l X _).mpr ⟨(w2 i hi).1, fun j hj => by have := oth j hj; unfold wa wb; omega⟩
  have cb : cX l X (wb i) := (cX_iff l X _).mpr ⟨(w2 i hi).2, fun j hj => by have := oth j hj; unfold wa wb; omega⟩
  rcases ei with e | e
  · have ek : ovk (2 * i) = 2 * i + 1 := if_pos (by omega)
    refine ⟨i, wb i, 2 * i, hi, nl, ca, cb, Or.inl ⟨e, rfl⟩, e, by omega, by omega, by rw [ek]; rfl, by omega, ?_⟩
    rw [ek, ← w3 (2 * i + 1) (by omega)]
    rfl
  · have ek : ovk (2 * i + 1) = 2 * i := by
      unfold ovk
      rw [if_neg (by omega)]
      omega
    refine ⟨i, wa i, 2 * i + 1, hi, nl, ca, cb, Or.inr ⟨e, rfl⟩, e, by omega, by omega, by rw [ek]; rfl, by omega, ?_⟩
    rw [ek, ← w3 (2 * i) (by omega)]
    rfl
theorem mem_app {l : List Nat} {i j : Nat} : j ∈ l ++ [i] ↔ (j ∈ l ∨ j = i) := by rw [List.mem_append, List.mem_singleton]
theorem beyond_ok {X : Nat → Prop} {L0 wl r : Nat → Nat} {nc : Nat} (w : WX X L0 wl nc) : ∀ (fuel : Nat) (l : List Nat) (st : OSt) (p t : Nat), okl l X → (∀ i, i ∈ l → i < nc) → cX l X p → p < 1100 → cL l L0 p = t → (∀ q, cX l X q → 1100 ≤ q → q ≠ t → cL l L0 q = L0 q) → SE st (fun i => i ∈ l) → (∀ k, k < 500 → st.2 14 k = nI (wl k)) → rmn l nc < fuel →
    ∃ (l' : List Nat) (st' : OSt) (to : Nat), m_beyond_2 fuel (sR st r) (nI t) = some (sR st' r, nI to) ∧ to < 1100 ∧ okl l' X ∧ (∀ i, i ∈ l' → i < nc) ∧ cC l' L0 = cC l L0 ∧ cL l' L0 p = to ∧ (∀ q, cX l' X q → 1100 ≤ q → cL l' L0 q = L0 q) ∧ (∀ q, X q → q < 1100 → q ≠ p → q ≠ to → cL l' L0 q = cL l L0 q) ∧ SE st' (fun i => i ∈ l') ∧ st'.1 = st.1 ∧ (∀ k, k ≠ 18 → st'.2 k = st.2 k) ∧ (t < 1100 → to = t) := by
  intro fuel
  induction fuel with
  | zero => intro l _ _ _ _ _ _ _ _ _ _ _ h; omega
  | succ n ih =>
    intro l st p t o hl hp p11 hM un hS hw hf
    have hm := w.1.1
    by_cases t11 : t < 1100
    · refine ⟨l, st, t, ?_, t11, o, hl, rfl, hM, fun q hq q11 => un q hq q11 (by omega), fun _ _ _ _ _ => rfl, hS, rfl, fun _ _ => rfl, fun _ => rfl⟩
      rw [m_beyond_2, if_pos (show nI t < (1100 : Int32) from nI_lt (b := 1100) t11 (by omega))]
    · have ht : cX l X t := by rw [← hM]; exact (MT.cl l hm o p hp).1
      obtain ⟨i, ov, k, i1', i2', ca, cb, hao, k1, k2, k3, k4, k5, k6⟩ := wire_at w ht (by omega)
      have po : p ≠ ov := by omega
      obtain ⟨s1, s2, s3, s4, s5, s6, s7⟩ := walk_step hm o hp hM ca cb hao po (fun q h1 h2 h3 _ => un q h1 h2 h3)
      have rm := rmn_app i1' i2'
      have e : m_beyond_2 (n + 1) (sR st r) (nI t) = m_beyond_2 n (sR (mk2 st k) r) (nI (L0 ov)) := by
        rw [k1, beyond_step k2, hw _ k5, k6]
      obtain ⟨l', st', to, f1, f2, f3, f4, f5, f6, f7, f8, f9, f10, f11, f12⟩ := ih (l ++ [i]) (mk2 st k) p (L0 ov) s1 (fun j hj => by
        rcases mem_app.mp hj with z | z
        · exact hl j z
        · omega) s2 p11 s3 (fun q h1 h2 h3 => s6 q h1 h2 h3 (by omega)) ((SE_mk hS).cg (fun j => by rw [mem_app, k3])) (fun j hj => by rw [mk2_o _ _ (by decide)]; exact hw j hj) (by omega)
      refine ⟨l', st', to, by rw [e]; exact f1, f2, f3, f4, f5.trans s4, f6, f7, fun q h1 h2 h3 h4 => ?_, f9, f10.trans (mk2_1 st k), fun j hj => (f11 j hj).trans (mk2_o st k hj), fun z => absurd z t11⟩
      rw [f8 q h1 h2 h3 h4]
      refine s7 q ((cX_lo h2).mpr h1) h3 (fun z => h4 ?_)
      rw [f12 (by omega)]
      exact z
