/-! the reference counts closed walks over wires -/
theorem j192_step {n : Nat} {st : OSt} {r : Nat → Nat} {v : Int32} {k : Nat} (hk : k < 500) (h0 : st.2 18 k = 0) : m_joinsWires_192 (n + 1) (sR st r) v (nI k) = m_joinsWires_192 n (sR (mk2 st k) r) v (st.2 14 (ovk k) - 1100) := by
  rw [m_joinsWires_192]
  simp only [nm_eq]
  rw [gd_nI hk (by omega), nc_ (by omega), sR_o _ _ (by decide), h0, if_pos rfl, i2, n_div (by omega) (by omega) (by omega), pk_mul, n_sub (by omega), sub_dm, nb1]
  unfold mk2 ovk
  by_cases e : k % 2 = 0
  · rw [if_pos (show nI (k % 2) = (0 : Int32) by rw [e]; rfl), if_pos e, nI_1, gd_nI (by omega) (by omega), gd_nI (by omega) (by omega), gd_nI (by omega) (by omega), nc_ (by omega), sR_A _ _ (by decide), sR_o _ _ (by decide), sA_2, if_pos rfl, sR_A _ _ (by decide), sA_sA, sR_o _ _ (by decide), sA_2, if_neg (by decide)]
  · rw [if_neg (show ¬ nI (k % 2) = (0 : Int32) from nI_ne0 (by omega) (by omega)), if_neg e, i1, n_sub (by omega), gd_nI (by omega) (by omega), gd_nI (by omega) (by omega), gd_nI (by omega) (by omega), nc_ (by omega), sR_A _ _ (by decide), sR_o _ _ (by decide), sA_2, if_pos rfl, sR_A _ _ (by decide), sA_sA, sR_o _ _ (by decide), sA_2, if_neg (by decide)]
theorem j192_stop {n : Nat} {st : OSt} {r : Nat → Nat} {v : Int32} {k : Nat} (hk : k < 500) (h1 : st.2 18 k = 1) : m_joinsWires_192 (n + 1) (sR st r) v (nI k) = some (sR st r) := by
  rw [m_joinsWires_192, gd_nI hk (by omega), nc_ (by omega), sR_o _ _ (by decide), h1, if_neg (by decide)]
/-- a closed walk: all its pairs taken out, the first one last -/
theorem loop_ok {X : Nat → Prop} {L0 wl r : Nat → Nat} {nc : Nat} (w : WX X L0 wl nc) {v : Int32} {i : Nat} (hi : i < nc) : ∀ (fuel : Nat) (l : List Nat) (st : OSt) (t : Nat), okl l X → (∀ j, j ∈ l → j < nc) → i ∉ l → cL l L0 (wb i) = t → (∀ q, cX l X q → 1100 ≤ q → q ≠ t → q ≠ wb i → cL l L0 q = L0 q) → (∀ q, cX l X q → 1100 ≤ q → 1100 ≤ cL l L0 q) → SE st (fun j => j ∈ l ∨ j = i) → (∀ k, k < 500 → st.2 14 k = nI (wl k)) → rmn l nc < fuel →
    ∃ (l' : List Nat) (st' : OSt), m_joinsWires_192 fuel (sR st r) v (nI (t - 1100)) = some (sR st' r) ∧ okl l' X ∧ (∀ j, j ∈ l' → j < nc) ∧ (∀ j, j ∈ l ∨ j = i → j ∈ l') ∧ cC l' L0 = cC l L0 + 1 ∧ (∀ q, cX l' X q → 1100 ≤ q → cL l' L0 q = L0 q) ∧ (∀ q, X q → q < 1100 → cL l' L0 q = cL l L0 q) ∧ SE st' (fun j => j ∈ l') ∧ st'.1 = st.1 ∧ (∀ k, k ≠ 18 → st'.2 k = st.2 k) := by
  intro fuel
  induction fuel with
  | zero => intro l _ _ _ _ _ _ _ _ _ _ h; omega
  | succ n ih =>
    intro l st t o hl il hM un al hS hw hf
    have hm := w.1.1
    have mi := MT.cl l hm o
    have oth : ∀ j, j ∈ l → j ≠ i := fun j hj e => il (e ▸ hj)
    have ca : cX l X (wa i) := (cX_iff l X _).mpr ⟨(w.2.2.1 i hi).1, fun j hj => by have := oth j hj; unfold wa wb; omega⟩
    have cb : cX l X (wb i) := (cX_iff l X _).mpr ⟨(w.2.2.1 i hi).2, fun j hj => by have := oth j hj; unfold wa wb; omega⟩
    obtain ⟨t1, t2, t3⟩ := mi (wb i) cb
    rw [hM] at t1 t2 t3
    have t11 : 1100 ≤ t := by rw [← hM]; exact al _ cb (by unfold wb; omega)
    obtain ⟨j, ov, k, j1, j2, cja, cjb, hao, k1, k2, k3, k4, k5, k6⟩ := wire_at w t1 t11
    have tk : t - 1100 = k := by omega
    rw [tk]
    by_cases ji : j = i
    · have ta : t = wa i := by
        rw [ji] at hao
        rcases hao with z | z
        · exact z.1
        · exact absurd z.1 t3
      have Ma : cL l L0 (wa i) = wb i := by rw [← ta]; exact t2
      have cLe : cL (l ++ [i]) L0 = cL l L0 := by
        rw [cL_app]
        unfold ctr
        rw [if_pos Ma]
      refine ⟨l ++ [i], st, j192_stop k2 ((hS k k2).1 (Or.inr (k3.trans ji))), okl_app i l o ca cb, fun a ha => ?_, fun a ha => mem_app.mpr ha, ?_, fun q hq q11 => ?_, fun q hq q11 => by rw [cLe], hS.cg (fun a => mem_app), rfl, fun _ _ => rfl⟩
      · rcases mem_app.mp ha with z | z
        · exact hl a z
        · omega
      · rw [cC_app]
        unfold lp
        rw [if_pos Ma]
      · rw [cLe]
        rw [cX_app] at hq
        exact un q hq.1 q11 (by rw [ta]; exact hq.2.1) hq.2.2
    · have po : wb i ≠ ov := by
        unfold wa wb at *
        omega
      obtain ⟨s1, s2, s3, s4, s5, s6, s7⟩ := walk_step hm o cb hM cja cjb hao po un
      have rm := rmn_app j1 j2
      have ovX : cX l X ov := by rcases hao with ⟨_, z⟩ | ⟨_, z⟩ <;> rw [z] <;> assumption
      have ov11 : 1100 ≤ ov := by omega
      have nx11 : 1100 ≤ L0 ov := by rw [← s5]; exact al ov ovX ov11
      have h0 : st.2 18 k = 0 := (hS k k2).2 (by
        rw [k3]
        rintro (z | z)
        · exact j2 z
        · exact ji z)
      have mj := MT.cl _ hm s1
      have e : m_joinsWires_192 (n + 1) (sR st r) v (nI k) = m_joinsWires_192 n (sR (mk2 st k) r) v (nI (L0 ov - 1100)) := by
        rw [j192_step k2 h0, hw _ k5, ← k6, i1100, n_sub nx11]
      obtain ⟨l', st', f1, f2, f3, f4, f5, f6, f7, f8, f9, f10⟩ := ih (l ++ [j]) (mk2 st k) (L0 ov) s1 (fun a ha => by
        rcases mem_app.mp ha with z | z
        · exact hl a z
        · omega) (fun z => by
        rcases mem_app.mp z with y | y
        · exact il y
        · exact ji y.symm) s3 s6 (fun q hq q11 => by
        by_cases y : q = wb i
        · rw [y, s3]; exact nx11
        · by_cases y2 : q = L0 ov
          · have := (mj _ s2).2.1
            rw [s3] at this
            rw [y2, this]
            unfold wb
            omega
          · rw [s7 q hq y y2]
            rw [cX_app] at hq
            exact al q hq.1 q11) ((SE_mk hS).cg (fun a => by
        rw [mem_app, k3]
        constructor
        · rintro ((z | z) | z)
          · exact Or.inl (Or.inl z)
          · exact Or.inr z
          · exact Or.inl (Or.inr z)
        · rintro ((z | z) | z)
          · exact Or.inl (Or.inl z)
          · exact Or.inr z
          · exact Or.inl (Or.inr z))) (fun a ha => by rw [mk2_o _ _ (by decide)]; exact hw a ha) (by omega)
      refine ⟨l', st', by rw [e]; exact f1, f2, f3, fun a ha => f4 a (ha.imp (fun z => mem_app.mpr (Or.inl z)) id), by rw [f5, s4], f6, fun q hq q11 => ?_, f8, f9.trans (mk2_1 st k), fun a ha => (f10 a ha).trans (mk2_o st k ha)⟩
      rw [f7 q hq q11]
      exact s7 q ((cX_lo q11).mpr hq) (by unfold wb; omega) (by omega)
theorem joins160_ok {X : Nat → Prop} {L0 wl : Nat → Nat} {nc : Nat} (w : WX X L0 wl nc) : ∀ (fuel i : Nat) (l : List Nat) (st : OSt) (r : Nat → Nat), i ≤ nc → nc - i < fuel → okl l X → (∀ j, j ∈ l → j < nc) → (∀ j, j < i → j ∈ l) → (∀ q, cX l X q → 1100 ≤ q → cL l L0 q = L0 q) → (∀ q, X q → q < 1100 → cL l L0 q = lk r q ∧ lk r q < 1100) → SE st (fun j => j ∈ l) → (∀ k, k < 500 → st.2 14 k = nI (wl k)) → st.1 11 = nI nc →
    ∃ (l' : List Nat) (st' : OSt) (r' : Nat → Nat), m_joinsWires_160 fuel (sR st r) (nI (2 * i)) = some (sR st' r') ∧ okl l' X ∧ (∀ j, j ∈ l' ↔ j < nc) ∧ (r' 7 + cC l L0 = r 7 + cC l' L0) ∧ (∀ q, X q → q < 1100 → cL l' L0 q = lk r' q) ∧ (∀ j, j ≠ 7 → r' j = r j) ∧ st'.1 = st.1 ∧ (∀ k, k ≠ 18 → st'.2 k = st.2 k) := by
  intro fuel
  induction fuel with
  | zero => intro i _ _ _ _ h; omega
  | succ n ih =>
    intro i l st r hi hf o hl hli un hr hS hw h11
    have hm := w.1.1
    have n25 := w.1.2
    have e0 : m_joinsWires_160 (n + 1) (sR st r) (nI (2 * i)) = if nI (2 * nc) ≤ nI (2 * i) then some (sR st r) else gd (nI (2 * i)) 500 (if (st.2 18 (nI (2 * i)).toNatClampNeg) = 0 then bd (m_joinsWires_192 20000 (sA (sR st r) 1 (upd ((sR st r).2 1) 7 (((sR st r).2 1 7) + 1))) (nI (2 * i)) (nI (2 * i))) fun x25 => m_joinsWires_160 n x25 (nI (2 * i) + 2) else m_joinsWires_160 n (sR st r) (nI (2 * i) + 2)) := by
      rw [m_joinsWires_160, sR_1, h11, sR_o _ _ (by decide), ← pk_mul 2 nc]
      rfl
    by_cases q : i = nc
    · rw [if_pos (nI_le (by omega) (by omega))] at e0
      exact ⟨l, st, r, e0, o, fun j => ⟨hl j, fun z => hli j (by omega)⟩, rfl, fun q h1 h2 => (hr q h1 h2).1, fun _ _ => rfl, rfl, fun _ _ => rfl⟩
    have ilt : i < nc := by omega
    have i22 : nI (2 * i) + 2 = nI (2 * (i + 1)) := by
      rw [i2, nI_add]
      rfl
    rw [if_neg (nI_ge (by omega) (by omega)), gd_nI (by omega) (by omega), nc_ (by omega), i22] at e0
    by_cases il : i ∈ l
    · rw [(hS (2 * i) (by omega)).1 (by rw [show 2 * i / 2 = i by omega]; exact il), if_neg (by decide)] at e0
      obtain ⟨l', st', r', f1, f2⟩ := ih (i + 1) l st r (by omega) (by omega) o hl (fun j hj => by
        by_cases y : j = i
        · rw [y]; exact il
        · exact hli j (by omega)) un hr hS hw h11
      exact ⟨l', st', r', e0.trans f1, f2⟩
    · have h0 : st.2 18 (2 * i) = 0 := (hS (2 * i) (by omega)).2 (by rw [show 2 * i / 2 = i by omega]; exact il)
      rw [h0, if_pos rfl, sR_2, nR_at, nI_1, upd_nR, sR_A1] at e0
      have mi := MT.cl l hm o
      have oth : ∀ j, j ∈ l → j ≠ i := fun j hj e => il (e ▸ hj)
      have cb : cX l X (wb i) := (cX_iff l X _).mpr ⟨(w.2.2.1 i ilt).2, fun j hj => by have := oth j hj; unfold wa wb; omega⟩
      have al : ∀ q, cX l X q → 1100 ≤ q → 1100 ≤ cL l L0 q := fun q hq q11 => by
        refine Nat.le_of_not_lt (fun z => ?_)
        obtain ⟨y1, y2, _⟩ := mi q hq
        have hq1 := hr (cL l L0 q) ((cX_lo z).mp y1) z
        rw [← hq1.1, y2] at hq1
        omega
      have ek : ovk (2 * i) = 2 * i + 1 := if_pos (by omega)
      have t11 := al _ cb (by unfold wb; omega)
      have Mb : cL l L0 (wb i) = wl (2 * i + 1) := by
        rw [un _ cb (by unfold wb; omega), ← w.2.2.2.1 (2 * i + 1) (by omega)]
        rfl
      have e1 : m_joinsWires_192 20000 (sR st (ur r 7 (r 7 + 1))) (nI (2 * i)) (nI (2 * i)) = m_joinsWires_192 19999 (sR (mk2 st (2 * i)) (ur r 7 (r 7 + 1))) (nI (2 * i)) (nI (cL l L0 (wb i) - 1100)) := by
        rw [j192_step (n := 19999) (by omega) h0, ek, hw _ (by omega), ← Mb, i1100, n_sub t11]
      obtain ⟨l1, st1, f1, f2, f3, f4, f5, f6, f7, f8, f9, f10⟩ := loop_ok (r := ur r 7 (r 7 + 1)) w (v := nI (2 * i)) ilt 19999 l (mk2 st (2 * i)) (cL l L0 (wb i)) o hl il rfl (fun q h1 h2 _ _ => un q h1 h2) al ((SE_mk hS).cg (fun a => by rw [show 2 * i / 2 = i by omega])) (fun a ha => by rw [mk2_o _ _ (by decide)]; exact hw a ha) (by have := rmn_le l nc; omega)
      rw [e1, f1, bd_s] at e0
      obtain ⟨l', st', r', g1, g2, g3, g4, g5, g6, g7, g8⟩ := ih (i + 1) l1 st1 (ur r 7 (r 7 + 1)) (by omega) (by omega) f2 f3 (fun j hj => by
        by_cases y : j = i
        · exact f4 j (Or.inr y)
        · exact f4 j (Or.inl (hli j (by omega)))) f6 (fun q h1 h2 => by rw [f7 q h1 h2, lk_ur (by omega)]; exact hr q h1 h2) f8 (fun a ha => by rw [f10 14 (by decide), mk2_o _ _ (by decide)]; exact hw a ha) (by rw [f9, mk2_1]; exact h11)
      refine ⟨l', st', r', e0.trans g1, g2, g3, ?_, g5, fun j hj => by rw [g6 j hj, ur_n hj], g7.trans (f9.trans (mk2_1 _ _)), fun a ha => (g8 a ha).trans ((f10 a ha).trans (mk2_o _ _ ha))⟩
      rw [f5, ur_s] at g4
      omega
theorem joins2_ok : ∀ (fuel i : Nat) (st : OSt) (r : Nat → Nat), i ≤ 500 → 500 - i < fuel → (∀ k, k < i → st.2 18 k = 0) → ∃ st', m_joinsWires_2 fuel (sR st r) (nI i) = some (sR st' r) ∧ SE st' (fun j => j ∈ ([] : List Nat)) ∧ st'.1 = st.1 ∧ (∀ k, k ≠ 18 → st'.2 k = st.2 k) := by
  intro fuel
  induction fuel with
  | zero => intro i _ _ _ h; omega
  | succ n ih =>
    intro i st r hi hf h0
    by_cases q : i = 500
    · refine ⟨st, ?_, fun k hk => ⟨fun z => absurd z List.not_mem_nil, fun _ => h0 k (by omega)⟩, rfl, fun _ _ => rfl⟩
      rw [m_joinsWires_2, if_pos (show (500 : Int32) ≤ nI i from nI_le (a := 500) (by omega) (by omega))]
    · obtain ⟨st', f1, f2, f3, f4⟩ := ih (i + 1) (sA st 18 (upd (st.2 18) i 0)) r (by omega) (by omega) (fun k hk => by
        rw [sA_2, if_pos rfl, upd_at]
        split
        · rfl
        · exact h0 k (by omega))
      refine ⟨st', ?_, f2, f3, fun k hk => by rw [f4 k hk, sA_2, if_neg hk]⟩
      rw [m_joinsWires_2, if_neg (show ¬ (500 : Int32) ≤ nI i from nI_ge (b := 500) (by omega) (by omega)), gd_nI (by omega) (by omega), nm_eq, nc_ (by omega), nb0, sR_o _ _ (by decide), sR_A _ _ (by decide), nI_1]
      exact f1
/-- wires joined by the reference: as if all pairs were taken out one by one -/
theorem joins_ok {X : Nat → Prop} {L0 wl : Nat → Nat} {nc : Nat} (w : WX X L0 wl nc) {st : OSt} {r : Nat → Nat} (hx : ∀ q, q < 1100 → (xP r q ↔ X q)) (hr : ∀ q, X q → q < 1100 → L0 q = lk r q) (hw : ∀ k, k < 500 → st.2 14 k = nI (wl k)) (hk : ∀ m, m < 300 → r (30 + m) ≤ 3) (h14 : ∀ i, i < 16 → r (14 + i) ≤ 1) (h11 : st.1 11 = nI nc) :
    ∃ (st' : OSt) (r' : Nat → Nat), m_joinsWires (sR st r) = some (sR st' r') ∧ (∀ q, X q → q < 1100 → lk r' q = cL (List.range nc) L0 q) ∧ r' 7 = r 7 + cC (List.range nc) L0 ∧ (∀ j, j < 630 → j ≠ 7 → r' j = r j) ∧ st'.1 = st.1 ∧ (∀ k, k ≠ 18 → st'.2 k = st.2 k) := by
  obtain ⟨st1, a1, a2, a3, a4⟩ := joins2_ok 20000 0 st r (by omega) (by omega) (fun k hk => by omega)
  obtain ⟨l2, st2, r2, b1, b2, b3, b4, b5, b6, b7, b8, b9, b10⟩ := joins24_ok w 20000 0 [] st1 r (by omega) (by omega) trivial (fun i hi => absurd hi List.not_mem_nil) rfl (fun _ _ _ => rfl) hx hr (fun q _ h => by omega) a2 (fun k hk5 => by rw [a4 14 (by decide)]; exact hw k hk5) hk h14
  obtain ⟨l3, st3, r3, c1, c2, c3, c4, c5, c6, c7, c8⟩ := joins160_ok w 20000 0 l2 st2 r2 (by omega) (by have := w.1.2; omega) b2 b3 (fun j h => by omega) b5 b6 b7 (fun k hk5 => by rw [b10 14 (by decide), a4 14 (by decide)]; exact hw k hk5) (by rw [b9, a3]; exact h11)
  obtain ⟨d1, d2⟩ := cl_all w.1.1 c2 c3
  refine ⟨st3, r3, ?_, fun q hq q11 => ?_, ?_, fun j hj h7 => (c6 j h7).trans (b8 j hj), c7.trans (b9.trans a3), fun k hk18 => (c8 k hk18).trans ((b10 k hk18).trans (a4 k hk18))⟩
  · unfold m_joinsWires
    rw [show m_joinsWires_2 20000 (sR st r) 0 = some (sR st1 r) from a1, bd_s, show m_joinsWires_24 20000 (sR st1 r) 0 = some (sR st2 r2) from b1, bd_s, show m_joinsWires_160 20000 (sR st2 r2) 0 = some (sR st3 r3) from c1, bd_s]
  · rw [← c5 q hq q11]
    exact d1 q ((cX_lo q11).mpr hq)
  · rw [b4, d2, b8 7 (by omega)] at c4
    omega
