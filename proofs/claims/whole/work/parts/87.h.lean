/-! names that stand once, counted by both -/
def sgc (so : Nat → Nat) : Nat → Nat
  | 0 => 0
  | n + 1 => sgc so n + (if so n = 1 then 1 else 0)
theorem sgc_le (so : Nat → Nat) : ∀ n, sgc so n ≤ n
  | 0 => Nat.le_refl _
  | n + 1 => by
    have := sgc_le so n
    show sgc so n + (if so n = 1 then 1 else 0) ≤ n + 1
    split <;> omega
theorem singles_ok {ρ : Nat → Nat} {tt st : OSt} {nc wc : Nat} {nm : Nat → List Nat} {fi gi so : Nat → Nat} {sa : Nat → Int32} {sn : NSt} (h : NMs ρ tt st nc wc nm fi gi so) (hn : nc ≤ 250) (hw : wc ≤ 250) (r : Nat → Nat) : t_endNames_4 20000 tt 500 sa sn 0 0 = some (nI (sgc so nc)) ∧ m_rootsAll_4 20000 (sR st r) 0 0 = some (nI (sgc so nc)) := by
  obtain ⟨⟨a1, a2, a3, a4⟩, b, cd', d, f, g⟩ := h
  have key : ∀ (fuel i : Nat), i ≤ nc → nc - i < fuel → t_endNames_4 fuel tt 500 sa sn (nI (sgc so i)) (nI i) = some (nI (sgc so nc)) ∧ m_rootsAll_4 fuel (sR st r) (nI (sgc so i)) (nI i) = some (nI (sgc so nc)) := by
    intro fuel
    induction fuel with
    | zero => intro i _ h; omega
    | succ n ih =>
      intro i hi hf
      rw [t_endNames_4, m_rootsAll_4, a1, sR_1, a2]
      by_cases q : i = nc
      · rw [if_pos (nI_le (by omega) (by omega)), if_pos (nI_le (by omega) (by omega)), q]
        exact ⟨rfl, rfl⟩
      · obtain ⟨d1, d2, d3, d4, d5⟩ := d i (by omega)
        have ii := ih (i + 1) (by omega) (by omega)
        have e1 : nI i + 1 = nI (i + 1) := nI_add i 1
        rw [if_neg (nI_ge (by omega) (by omega)), if_neg (nI_ge (by omega) (by omega)), gd_nI (by omega) (by omega), gd_nI (by omega) (by omega), nc_ (by omega), sR_o _ _ (by decide), d4, e1]
        rcases d5 with ⟨y1, y2⟩ | ⟨y1, y2, y3, y4⟩
        · have es : sgc so (i + 1) = sgc so i + 1 := by
            show sgc so i + (if so i = 1 then 1 else 0) = _
            rw [if_pos y1]
          rw [es] at ii
          rw [y2, if_pos rfl, y1, if_pos (show nI 1 = (1 : Int32) from rfl), show nI (sgc so i) + 1 = nI (sgc so i + 1) from nI_add _ 1]
          exact ii
        · have es : sgc so (i + 1) = sgc so i := by
            show sgc so i + (if so i = 1 then 1 else 0) = _
            rw [if_neg (by omega)]
            rfl
          rw [es] at ii
          rw [y2, if_neg (ne_m1 (by omega)), y1, if_neg (show ¬ nI 2 = (1 : Int32) by decide), show nI (sgc so i) + 0 = nI (sgc so i) from nI_add _ 0]
          exact ii
  exact key 20000 0 (by omega) (by omega)
