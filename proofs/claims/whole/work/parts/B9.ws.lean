/-! the law from its entry -/
theorem hfs_X4 : ∀ j, j < 12 → defaultValue (tyX4 j) = vp_V [.null, .int 0, .null, .null, .null, .null, .null, .null, .null, .null, .int 0, .int 0] j := fun j hj => by
  rcases (show j = 0 ∨ j = 1 ∨ j = 2 ∨ j = 3 ∨ j = 4 ∨ j = 5 ∨ j = 6 ∨ j = 7 ∨ j = 8 ∨ j = 9 ∨ j = 10 ∨ j = 11 by omega) with rfl | rfl | rfl | rfl | rfl | rfl | rfl | rfl | rfl | rfl | rfl | rfl <;> rfl
theorem hfs_X5 : ∀ j, j < 42 → defaultValue (tyX5 j) = vp_V [.int 0, .null, .null, .int 0, .int 0, .int 0, .int 0, .int 0, .int 0, .int 0, .int 0, .int 0, .null, .null, .null, .int 0, .int 0, .null, .null, .null, .null, .null, .null, .null, .int 0, .int 0, .int 0, .null, .int 0, .null, .null, .null, .int 0, .null, .null, .int 0, .null, .int 0, .null, .null, .null, .null] j := fun j hj => by
  rcases (show j = 0 ∨ j = 1 ∨ j = 2 ∨ j = 3 ∨ j = 4 ∨ j = 5 ∨ j = 6 ∨ j = 7 ∨ j = 8 ∨ j = 9 ∨ j = 10 ∨ j = 11 ∨ j = 12 ∨ j = 13 ∨ j = 14 ∨ j = 15 ∨ j = 16 ∨ j = 17 ∨ j = 18 ∨ j = 19 ∨ j = 20 ∨ j = 21 ∨ j = 22 ∨ j = 23 ∨ j = 24 ∨ j = 25 ∨ j = 26 ∨ j = 27 ∨ j = 28 ∨ j = 29 ∨ j = 30 ∨ j = 31 ∨ j = 32 ∨ j = 33 ∨ j = 34 ∨ j = 35 ∨ j = 36 ∨ j = 37 ∨ j = 38 ∨ j = 39 ∨ j = 40 ∨ j = 41 by omega) with rfl | rfl | rfl | rfl | rfl | rfl | rfl | rfl | rfl | rfl | rfl | rfl | rfl | rfl | rfl | rfl | rfl | rfl | rfl | rfl | rfl | rfl | rfl | rfl | rfl | rfl | rfl | rfl | rfl | rfl | rfl | rfl | rfl | rfl | rfl | rfl | rfl | rfl | rfl | rfl | rfl | rfl <;> rfl
theorem imO_none : imO (fun _ => none) = fun _ => none := by
  funext j
  unfold imO vO
  split <;> rfl
theorem paO_none : paO (fun _ => none) = fun _ => none := by
  funext j
  unfold paO vO
  split <;> rfl
theorem wZ_none {G : Gx} {q : Nat → Nat} {da : Nat} {qc qh qt qn qs qo : Nat → Nat} {b9 : Nat} {x4 x250 : NSt} : wR G q da qc qh qt qs qo (fun _ => none) (fun _ => none) o0 ++ (wA G da 500 (fun _ => 0) ++ (wN G qc x4 ++ (wN G qh x4 ++ (wT G qt b9 (qn 15) o0 ++ (wN G qn x250 ++ (wS G qs o0 ++ (wS G qo o0 ++ []))))))) = wZ G q da qc qh qt qn qs qo (fun _ => none) o0 (fun _ => 0) x4 x4 (b9, o0) x250 o0 o0 := by
  unfold wZ
  rw [imO_none, paO_none]
  rfl
theorem pm_ini {a b c : va_W} : ((a ++ b) ++ c).Perm (c ++ (b ++ a)) := List.perm_append_comm.trans (List.Perm.append_left _ List.perm_append_comm)
theorem flags_off {l : Launch} (h : l.flags = flags0) : l.stackTraces = false := by
  unfold Launch.stackTraces
  rw [h]
  decide +kernel
set_option maxHeartbeats 4000000 in
set_option maxRecDepth 100000 in
theorem whole_start {p : Program} {e : Env} {s : State} {m : MethodId} {below : List Frame} {meth : Method} {c : Code} (l : Launch) (hflags : l.flags = flags0) {b L : Nat} {xs : Nat → Int32} (hL : L ≤ 3072) (C0 : lw_At p s m meth c b L xs) : W p l e room_1 s m #[Value.ref b] below meth c s.heap [] 0 0 (lw_Z below #[Value.ref b] s) (entryFrame m ([Value.ref b] : List Value).toArray 7) := by
  obtain ⟨hx, hb, hr, hml, hown, hts, hX, hbl, hlocks, hgv⟩ := id C0
  have hfl := flags_off hflags
  obtain ⟨G, hK, hXg⟩ := start_ok hts hgv (A := fun q : Nat => s.heap.size ≤ q) (fun a h1 h2 => absurd h1 (Nat.not_lt.mpr h2))
  have C : Cx p s m #[Value.ref b] meth c G cL_law wsL_law RL ret 7 (fun q : Nat => s.heap.size ≤ q) := ⟨hx, hb, hml, hown, fun w hw => hts w (wsL_law_in w hw), hr, hlocks, hK, hXg, fun q h => h⟩
  obtain ⟨x4, h4, _⟩ := n_clear_any (sn := n0 4) (Nat.le_of_ble_eq_true rfl) 200
  obtain ⟨x250, h250, _⟩ := n_clear_any (sn := n0 250) (Nat.le_of_ble_eq_true rfl) 200
  obtain ⟨x00, h00, _⟩ := n_clear_any (sn := n0 0) (Nat.le_of_ble_eq_true rfl) 200
  obtain ⟨r0, m1, m2⟩ := empties_ok (st := o0) (a := 200) (fun _ => 0)
  have m1' : m_empties o0 200 = some (sR o0 r0) := by
    have : o0 = sR o0 (fun _ => 0) := sR_of (by funext k; rfl)
    rw [← this] at m1
    exact m1
  have hS : va_S (fun q : Nat => s.heap.size ≤ q) s.heap s.heap [] := va_S.rf
  have hP : va_P G.1 vwCl [] s.heap := fun k q h => by simp at h
  have hD : va_D (fun q : Nat => s.heap.size ≤ q) [] := ⟨fun i j p q h => by simp at h, fun k q h => by simp at h⟩
  have hl := lv_entry ([.ref b]) (n := 7) (Nat.le_of_ble_eq_true rfl)
  rw [lg_entry_eq]
  generalize (lg_sl ([.ref b]) ++ List.replicate (7 - (lg_sl ([.ref b])).length) Slot.unset).toArray = ls at hl ⊢
  have hl : lv_has ls 7 [(0, .ref b)] := hl
  refine q_new C (ci := 4) (fs := [.null, .int 0, .null, .null, .null, .null, .null, .null, .null, .null, .int 0, .int 0]) inlX4 tyX4_ok (mem_1 0 0 rfl) (mem_1 0 1 rfl) (mem_1 0 2 rfl) hP hD hS rfl hfs_X4 (Nat.le_of_ble_eq_true rfl) (Nat.le_of_ble_eq_true rfl) dL_law_0 (fun b1 H hP hD hS => ?_)
  refine lv_dup hx hb dL_law_3 rfl ?_
  refine q_I C (wr := []) (wc := [(b1, .inr (4, [.null, .int 0, .null, .null, .null, .null, .null, .null, .null, .null, .int 0, .int 0]))]) (c_X4_init h4 h250) gL_law_X4_init rfl ⟨rfl, rfl⟩ (mem_1 0 2 rfl) (mem_1 0 7 rfl) (mem_1 0 8 rfl) rfl hdcX4_init ⟨(Nat.le_of_ble_eq_true rfl), (Nat.le_of_ble_eq_true rfl)⟩ rfl hP hD hS (List.Perm.refl _) hl.1 (Nat.le_of_ble_eq_true rfl) ⟨(Nat.le_of_ble_eq_true rfl), (Nat.le_of_ble_eq_true rfl)⟩ rfl dL_law_4 (fun r9 w9 H locs hBB hP hD hS => ?_)
  obtain ⟨rfl, q, da, qc, qh, qt, qn, qs, qo, b9, rfl, rfl⟩ := hBB
  rw [wZ_none] at hP hD
  have hP : va_P G.1 vwCl (wZ G q da qc qh qt qn qs qo (fun _ => none) o0 (fun _ => 0) x4 x4 (b9, o0) x250 o0 o0) H := hP
  have hD : va_D (fun q : Nat => s.heap.size ≤ q) (wZ G q da qc qh qt qn qs qo (fun _ => none) o0 (fun _ => 0) x4 x4 (b9, o0) x250 o0 o0) := hD
  refine lv_astore_n (lv' := [(1, .ref (q 12)), (0, .ref b)]) hx hb dL_law_7 rfl hl (by decide) rfl (fun ls hl => ?_)
  refine q_new C (ci := 5) (fs := [.int 0, .null, .null, .int 0, .int 0, .int 0, .int 0, .int 0, .int 0, .int 0, .int 0, .int 0, .null, .null, .null, .int 0, .int 0, .null, .null, .null, .null, .null, .null, .null, .int 0, .int 0, .int 0, .null, .int 0, .null, .null, .null, .int 0, .null, .null, .int 0, .null, .int 0, .null, .null, .null, .null]) inlX5 tyX5_ok (mem_1 0 3 rfl) (mem_1 0 4 rfl) (mem_1 0 5 rfl) hP hD hS rfl hfs_X5 (Nat.le_of_ble_eq_true rfl) (Nat.le_of_ble_eq_true rfl) dL_law_8 (fun b2 H hP hD hS => ?_)
  refine lv_dup hx hb dL_law_11 rfl ?_
  refine q_I C (wr := wZ G q da qc qh qt qn qs qo (fun _ => none) o0 (fun _ => 0) x4 x4 (b9, o0) x250 o0 o0) (wc := [(b2, .inr (5, [.int 0, .null, .null, .int 0, .int 0, .int 0, .int 0, .int 0, .int 0, .int 0, .int 0, .int 0, .null, .null, .null, .int 0, .int 0, .null, .null, .null, .null, .null, .null, .null, .int 0, .int 0, .int 0, .null, .int 0, .null, .null, .null, .int 0, .null, .null, .int 0, .null, .int 0, .null, .null, .null, .null]))]) (c_X5_init m1') gL_law_X5_init rfl ⟨rfl, rfl⟩ (mem_1 0 5 rfl) (mem_1 4 8 rfl) (mem_1 4 9 rfl) rfl hdcX5_init ⟨(Nat.le_of_ble_eq_true rfl), (Nat.le_of_ble_eq_true rfl)⟩ rfl hP hD hS (List.Perm.refl _) hl.1 (Nat.le_of_ble_eq_true rfl) ⟨(Nat.le_of_ble_eq_true rfl), (Nat.le_of_ble_eq_true rfl)⟩ rfl dL_law_12 (fun r9 w9 H locs hBB hP hD hS => ?_)
  obtain ⟨rfl, qm, rfl, rfl⟩ := hBB
  refine lv_astore_n (lv' := [(2, .ref (qm 42)), (1, .ref (q 12)), (0, .ref b)]) hx hb dL_law_15 rfl hl (by decide) rfl (fun ls hl => ?_)
  refine lv_iconst (v := 1) hx hb dL_law_16 (by decide) ?_
  refine q_newI C (atype := .long) (t := 1) (mem_1 0 6 rfl) rfl rfl (q_ra1 hK) hP hD hS (N := 1) (a0 := (1, .inr (.inl (fun _ => 0)))) (q_z1 _) (by decide +kernel) (by decide +kernel) (Nat.le_of_ble_eq_true rfl) (Nat.le_of_ble_eq_true rfl) (Nat.le_of_ble_eq_true rfl) dL_law_17 (fun oa H hP hD hS => ?_)
  refine lv_astore_n (lv' := [(3, .ref oa), (2, .ref (qm 42)), (1, .ref (q 12)), (0, .ref b)]) hx hb dL_law_19 rfl hl (by decide) rfl (fun ls hl => ?_)
  refine lv_iconst (v := 0) hx hb dL_law_20 (by decide) ?_
  refine lv_istore (lv' := [(4, .int 0), (3, .ref oa), (2, .ref (qm 42)), (1, .ref (q 12)), (0, .ref b)]) hx hb dL_law_21 hl (by decide) rfl (fun ls hl => ?_)
  have hRI := RI_start (st := o0) (r := r0) h4 h250 m2 rfl rfl ⟨rfl, rfl⟩
  refine W.widen (k := 100 + 16 * 0) (n := 50000 + 2000 * 0) (Nat.le_of_ble_eq_true rfl) (Nat.le_of_ble_eq_true rfl) ?_
  exact law_loop C hX hbl hL h00 hfl (L + 1) 0 (by omega) (by omega) H locs ls ⟨fun _ => 0, fun _ => none, o0, fun _ => 0, x4, x4, (b9, o0), x250, o0, o0, o0, r0, hRI, hP.perm pm_ini, hD.perm pm_ini, hS⟩ (lv_sub hl [4, 3, 2, 1, 0] rfl)
