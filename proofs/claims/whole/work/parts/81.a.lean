/-! a tree of the text read by both -/
theorem tree_ok {B : Nat → Nat} {N : Nat} {sa : Nat → Int32} : ∀ (D d : Nat), d ≤ 20 → 21 ≤ D + d → TREE B N sa D d := by
  intro D
  induction D with
  | zero => intro d h1 h2; omega
  | succ D ihD =>
    intro d hd hD E L ρ wl r sn tt st nc wc nm fi gi so s e e' p0 h tk h15 hwi hp0 hs
    have hC : t_readTree (D + 1) tt 500 sa sn (nI d) = t_readTreeB (t_readTree D) tt 500 sa sn (nI d) := by rw [t_readTree]
    have hR : m_tree (D + 1) (sR st r) = m_treeB (m_tree D) (sR st r) := by rw [m_tree]
    rw [hC, hR]
    have tk0 := tk
    obtain ⟨k1, k2, k3, k4, tkr⟩ := tk
    have h0 := h
    obtain ⟨tp, bs, hnl, hwl, nms, hEw, f7, f10⟩ := h
    have hN := tp.1
    have iseq : ∀ c, isSg c → m_is (sR st r) (nI c) = some (if tt.1 4 = nI c then 1 else 0) := fun c hc => by
      rw [m_is_ok]
      by_cases q : tt.1 4 = nI c
      · obtain ⟨y1, y2, _⟩ := tkr.sg hc q
        rw [if_pos q, if_pos ⟨y1, y2⟩]
      · rw [if_neg q, if_neg (tkr.nsg q)]
    have nsg : ∀ a b, a < 200 → b < 200 → a ≠ b → tt.1 4 = nI a → ¬ tt.1 4 = nI b := fun a b ha hb hab z w => by
      rw [z, nI_eq (by omega) (by omega)] at w
      exact hab w
    by_cases t2 : tt.1 4 = 2
    · have e1 : t_readTreeB (t_readTree D) tt 500 sa sn (nI d) = bd (t_readName tt 500 sa sn) fun x1 => some (x1.1, x1.2, sn) := by
        unfold t_readTreeB
        rw [if_pos t2]
      have e2 : m_treeB (m_tree D) (sR st r) = bd (m_name (sR st r)) fun x3 => gb x3.1 (some (x3.1, x3.2)) := by
        have : st.1 7 = 1 ∧ ¬ st.1 9 = 441892441 := by
          rcases tkr with ⟨z, _⟩ | ⟨_, z7, _, l, hl, _, l5, _, z9⟩ | ⟨z, _⟩ | ⟨z, _⟩ | ⟨c, hc, z, _⟩ | ⟨z, _⟩
          · rw [t2] at z; exact absurd z (by decide)
          · refine ⟨z7, fun w => ?_⟩
            have b1 := e32_lt l hl
            have b2 : 32 ^ l.length ≤ 32 ^ 5 := Nat.pow_le_pow_right (by decide) l5
            have : nI (e32 l) = nI 441892441 := z9.symm.trans w
            rw [nI_eq (by omega) (by omega)] at this
            omega
          · rw [t2] at z; exact absurd z (by decide)
          · rw [t2] at z; exact absurd z (by decide)
          · have : nI 2 = nI c := t2.symm.trans z
            have hc2 : 5 ≤ c ∧ c < 200 := by unfold isSg at hc; omega
            rw [nI_eq (by omega) (by omega)] at this
            omega
          · rw [t2] at z; exact absurd z (by decide)
        unfold m_treeB
        rw [sR_1, if_pos this.1, if_neg this.2]
      rw [e1, e2]
      exact name_ok h0 tk0 t2 hwi hp0
    have e2 : m_treeB (m_tree D) (sR st r) = m_treeB_22 (m_tree D) (sR st r) := by
      unfold m_treeB
      rw [sR_1]
      by_cases q : st.1 7 = 1
      · have : st.1 9 = 441892441 := by
          rcases tkr with ⟨_, z, _⟩ | ⟨z, _⟩ | ⟨_, _, _, z⟩ | ⟨_, z, _⟩ | ⟨c, hc, _, z, _⟩ | ⟨_, z⟩
          · rw [q] at z; exact absurd z (by decide)
          · exact absurd z t2
          · exact z
          · rw [q] at z; exact absurd z (by decide)
          · rw [q] at z; exact absurd z (by decide)
          · rw [q] at z; exact absurd z (by decide)
        rw [if_pos q, if_pos this]
      · rw [if_neg q]
    rw [e2]
    have i42' : m_is (sR st r) 42 = some (if tt.1 4 = nI 42 then 1 else 0) := iseq 42 (by unfold isSg; omega)
    have i40' : m_is (sR st r) 40 = some (if tt.1 4 = nI 40 then 1 else 0) := iseq 40 (by unfold isSg; omega)
    have i91' : m_is (sR st r) 91 = some (if tt.1 4 = nI 91 then 1 else 0) := iseq 91 (by unfold isSg; omega)
    have i35' : m_is (sR st r) 35 = some (if tt.1 4 = nI 35 then 1 else 0) := iseq 35 (by unfold isSg; omega)
    have i60' : m_is (sR st r) 60 = some (if tt.1 4 = nI 60 then 1 else 0) := iseq 60 (by unfold isSg; omega)
    have n10 : ¬ (1 : Int32) = 0 := by decide
    by_cases a42 : tt.1 4 = nI 42
    · refine eraser_ok h0 tk0 a42 hwi hp0 ?_ ?_
      · unfold t_readTreeB
        rw [if_neg t2, if_neg (show ¬ tt.1 4 = 35 from nsg 42 35 (by omega) (by omega) (by omega) a42), if_neg (show ¬ tt.1 4 = 40 from nsg 42 40 (by omega) (by omega) (by omega) a42), if_pos (show tt.1 4 = 42 from a42)]
      · unfold m_treeB_22
        rw [i42', if_pos a42, bd_s, if_neg n10]
    rw [if_neg a42] at i42'
    by_cases a40 : tt.1 4 = nI 40
    · refine node_ok hd (fun q => ihD (d + 1) (by omega) (by omega)) h0 tk0 h15 hwi hp0 (c := 40) (cl := 41) (k := 1) (by unfold isSg; omega) (by unfold isSg; omega) (Or.inl rfl) a40 ?_ ?_
      · unfold t_readTreeB t_readTreeB_132
        rw [if_neg t2, if_neg (show ¬ tt.1 4 = 35 from nsg 40 35 (by omega) (by omega) (by omega) a40), if_pos (show tt.1 4 = 40 from a40), if_pos (show tt.1 4 = 40 from a40), if_pos (show tt.1 4 = 40 from a40)]
        rfl
      · unfold m_treeB_22
        rw [i42', bd_s, if_pos rfl, i40', if_pos a40, bd_s, if_neg n10]
        rfl
    rw [if_neg a40] at i40'
    by_cases a91 : tt.1 4 = nI 91
    · refine node_ok hd (fun q => ihD (d + 1) (by omega) (by omega)) h0 tk0 h15 hwi hp0 (c := 91) (cl := 93) (k := 2) (by unfold isSg; omega) (by unfold isSg; omega) (Or.inr rfl) a91 ?_ ?_
      · unfold t_readTreeB t_readTreeB_132
        rw [if_neg t2, if_neg (show ¬ tt.1 4 = 35 from nsg 91 35 (by omega) (by omega) (by omega) a91), if_neg (show ¬ tt.1 4 = 40 from a40), if_neg (show ¬ tt.1 4 = 42 from a42), if_neg (show ¬ tt.1 4 = 60 from nsg 91 60 (by omega) (by omega) (by omega) a91), if_pos (show tt.1 4 = 91 from a91), if_neg (show ¬ tt.1 4 = 40 from a40), if_neg (show ¬ tt.1 4 = 40 from a40)]
        rfl
      · unfold m_treeB_22
        rw [i42', bd_s, if_pos rfl, i40', bd_s, if_pos rfl, i91', if_pos a91, bd_s, if_neg n10]
        rfl
    rw [if_neg a91] at i91'
    by_cases a35 : tt.1 4 = nI 35
    · refine leafnum_ok h0 tk0 a35 hwi hp0 ?_ ?_
      · unfold t_readTreeB
        rw [if_neg t2, if_pos (show tt.1 4 = 35 from a35)]
      · unfold m_treeB_22
        rw [i42', bd_s, if_pos rfl, i40', bd_s, if_pos rfl, i91', bd_s, if_pos rfl, i35', if_pos a35, bd_s, if_neg n10]
    rw [if_neg a35] at i35'
    by_cases a60 : tt.1 4 = nI 60
    · refine leaflist_ok h0 tk0 a60 hwi hp0 ?_ ?_
      · unfold t_readTreeB
        rw [if_neg t2, if_neg (show ¬ tt.1 4 = 35 from a35), if_neg (show ¬ tt.1 4 = 40 from a40), if_neg (show ¬ tt.1 4 = 42 from a42), if_pos (show tt.1 4 = 60 from a60)]
      · unfold m_treeB_22
        rw [i42', bd_s, if_pos rfl, i40', bd_s, if_pos rfl, i91', bd_s, if_pos rfl, i35', bd_s, if_pos rfl, i60', if_pos a60, bd_s, if_neg n10]
    rw [if_neg a60] at i60'
    right
    refine ⟨-1, sI tt 7 ((-2) - nI (8 * s + 1)), sI st 10 (nI (8 * s + 1)), sn, r, ?_, ?_, FLT.mk (by omega) (by omega), hnl, RFr.I st (by omega) _⟩
    · unfold t_readTreeB
      rw [if_neg t2, if_neg (show ¬ tt.1 4 = 35 from a35), if_neg (show ¬ tt.1 4 = 40 from a40), if_neg (show ¬ tt.1 4 = 42 from a42), if_neg (show ¬ tt.1 4 = 60 from a60), if_neg (show ¬ tt.1 4 = 91 from a91), k2, show t_refuse tt 500 sa sn (nI s) 1 = some (sI tt 7 ((-2) - nI (8 * s + 1))) from t_refuse_ok f7, bd_s]
    · unfold m_treeB_22
      rw [i42', bd_s, if_pos rfl, i40', bd_s, if_pos rfl, i91', bd_s, if_pos rfl, i35', bd_s, if_pos rfl, i60', bd_s, if_pos rfl, show m_bad (sR st r) 1 = some (0, sR (sI st 10 (nI (8 * s + 1))) r) from m_bad_ok f10 k4, bd_s]
      rfl
