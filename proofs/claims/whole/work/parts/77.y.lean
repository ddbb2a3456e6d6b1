/-! a node of the text read by both -/
theorem loop_ne {rt : OSt → Nat → (Nat → Int32) → NSt → Int32 → Option (Int32 × OSt × NSt)} {tt : OSt} {sa : Nat → Int32} {sn : NSt} (n : Nat) (h : ¬ tt.1 7 = 0) (v1 v2 v3 v4 : Int32) : t_readTreeB_155 rt (n + 1) tt 500 sa sn v1 v2 v3 v4 = some (tt, sn) := by
  unfold t_readTreeB_155
  rw [if_neg h]
  split <;> rfl
theorem loop_3 {rt : OSt → Nat → (Nat → Int32) → NSt → Int32 → Option (Int32 × OSt × NSt)} {tt : OSt} {sa : Nat → Int32} {sn : NSt} (n : Nat) (v1 v2 v3 : Int32) : t_readTreeB_155 rt (n + 1) tt 500 sa sn v1 v2 v3 (nI 3) = some (tt, sn) := by
  unfold t_readTreeB_155
  rw [if_pos (show (2 : Int32) < nI 3 by decide)]
theorem loop_at {rt : OSt → Nat → (Nat → Int32) → NSt → Int32 → Option (Int32 × OSt × NSt)} {tt : OSt} {sa : Nat → Int32} {sn : NSt} (n : Nat) (h7 : tt.1 7 = 0) (d x port : Nat) (hp : port ≤ 2) (v2 : Int32) : t_readTreeB_155 rt (n + 1) tt 500 sa sn (nI d) v2 (nI x) (nI port) = bd (t_advance tt 500 sa sn) fun x24 => bd (rt x24 500 sa sn (nI (d + 1))) fun x25 => bd (n_connect x25.2.2 (nI (x + port)) x25.1) fun x26 => t_readTreeB_155 rt n x25.2.1 500 sa x26 (nI d) v2 (nI x) (nI (port + 1)) := by
  rw [t_readTreeB_155, if_neg (show ¬ (2 : Int32) < nI port from nI_nlt (a := 2) hp (by omega)), if_pos h7, i1, nI_add, nI_add, nI_add]
theorem node_at {rt : OSt → Option (Int32 × OSt)} {st : OSt} (n m port : Nat) (hp : port ≤ 2) (v2 : Int32) : m_node_52 rt (n + 1) st v2 (nI m) (nI port) = bd (rt st) fun x13 => if x13.1 = 0 then some (0, x13.2) else bd (m_ties x13.2 (x13.2.1 16) (nI (3 * m + port))) fun x15 => m_node_52 rt n x15 v2 (nI m) (nI (port + 1)) := by
  rw [m_node_52, if_neg (show ¬ (3 : Int32) ≤ nI port from nI_ge (b := 3) (by omega) (by omega)), i1, i3, pk_mul, nI_add, nI_add]
theorem node_end {B : Nat → Nat} {N : Nat} {sa : Nat → Int32} {d : Nat} {E : Nat → Prop} {L ρ wl r : Nat → Nat} {sn : NSt} {tt stg : OSt} {nc wc : Nat} {nm : Nat → List Nat} {fi gi so : Nat → Nat} {p0 m cl : Nat} (h : PRE B N sa E L ρ wl r sn tt stg nc wc nm fi gi so p0 (d + 1)) (hcl : isSg cl) {rt : OSt → Option (Int32 × OSt)} (n : Nat) :
    (∃ (tt1 stE st' : OSt) (e : Nat), t_expect tt 500 sa sn (nI cl) = some tt1 ∧ m_node_52 rt (n + 1) (sR stg r) (nI cl) (nI m) (nI 3) = some (1, sR st' r) ∧ m_go (sR stE r) = some (sR st' r) ∧ RS B N sa E L ρ wl r sn tt1 stE nc wc nm fi gi so ∧ (tt1.1 3 = nI e ∧ stE.1 6 = nI e ∧ e ≤ N) ∧ (stE.1 16 = nI (3 * m) ∧ stE.1 15 = nI d) ∧ WI B N wc e ∧ RFr stg stE ∧ p0 < e) ∨
    (∃ (tt1 st' : OSt), t_expect tt 500 sa sn (nI cl) = some tt1 ∧ m_node_52 rt (n + 1) (sR stg r) (nI cl) (nI m) (nI 3) = some (0, sR st' r) ∧ FLT tt1 st' ∧ RFr stg st') := by
  obtain ⟨h7, hw, h15, tt1, s, e, e', ad, rs, tk, hp0, hs, hwi⟩ := h
  obtain ⟨stE, hE⟩ : ∃ u, u = sI (sI stg 15 (nI d)) 16 (nI (3 * m)) := ⟨_, rfl⟩
  have rsE : RS B N sa E L ρ wl r sn tt1 stE nc wc nm fi gi so := by rw [hE]; exact rs
  have tkE : TOK B N tt1 stE s e e' := by rw [hE]; exact tk
  have fE : RFr stg stE := by rw [hE]; exact (RFr.I stg (by omega) _).tr (RFr.I _ (by omega) _)
  have q16 : stE.1 16 = nI (3 * m) ∧ stE.1 15 = nI d := by rw [hE]; exact ⟨rfl, rfl⟩
  have hnode : m_node_52 rt (n + 1) (sR stg r) (nI cl) (nI m) (nI 3) = bd (m_sign (sR stE r) (nI cl)) fun x12 => gb x12.1 (some (x12.1, x12.2)) := by
    rw [m_node_52, if_pos (show (3 : Int32) ≤ nI 3 by decide), nm_eq, nm_eq, sR_1, h15, i1, n_sub (by omega), Nat.add_sub_cancel, i3, pk_mul, sR_I, sR_I, hE]
  have hN := rs.1.1
  have f7 := rsE.2.2.2.2.2.2.1
  have f10 := rsE.2.2.2.2.2.2.2
  obtain ⟨k1, k2, k3, k4, tkr⟩ := tkE
  by_cases t : tt1.1 4 = nI cl
  · left
    obtain ⟨y1, y2, ee, es, eN⟩ := tkr.sg hcl t
    subst ee
    obtain ⟨_, st', _, _, _, _, g2, _, _, _, _⟩ := adv_ok (sn := sn) rsE.1 f7 eN k1 k3 r
    refine ⟨tt1, stE, st', e, ?_, ?_, g2, rsE, ⟨k1, k3, eN⟩, q16, hwi.mono (by omega), fE, by omega⟩
    · unfold t_expect
      rw [ad, bd_s, if_pos t]
    · rw [hnode]
      unfold m_sign
      rw [m_is_ok, if_pos ⟨y1, y2⟩, bd_s, if_neg (show ¬ (1 : Int32) = 0 by decide), g2, bd_s, bd_s, gb_1]
  · right
    refine ⟨sI tt1 7 ((-2) - nI (8 * s + 1)), sI stE 10 (nI (8 * s + 1)), ?_, ?_, FLT.mk (by omega) (by omega), fE.tr (RFr.I _ (by omega) _)⟩
    · unfold t_expect
      rw [ad, bd_s, if_neg t, k2, show t_refuse tt1 500 sa sn (nI s) 1 = some (sI tt1 7 ((-2) - nI (8 * s + 1))) from t_refuse_ok f7, bd_s]
    · rw [hnode]
      unfold m_sign
      rw [m_is_ok, if_neg (tkr.nsg t), bd_s, if_pos rfl, show m_bad (sR stE r) 1 = some (0, sR (sI stE 10 (nI (8 * s + 1))) r) from m_bad_ok f10 k4, bd_s]
      rfl
