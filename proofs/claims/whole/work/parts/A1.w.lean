/-! the state is remembered -/
def REM (x00 : NSt) (V : VS) (sr : OSt) (sc : NSt) (V' : VS) (sr' : OSt) : Prop := ∃ (f c : Nat) (q' : Nat → Nat) (s0 s' : NSt), (sr.1 10 = nI f ∧ sr.1 11 = nI c ∧ f < 12 ∧ c ≤ 12) ∧ (V ((f + c) % 12 + 2) = some (q', s0) ∨ (V ((f + c) % 12 + 2) = none ∧ s0 = x00)) ∧ n_become s0 sc = some s' ∧ V' = vup V ((f + c) % 12 + 2) (some (q', s')) ∧ sr' = sI (sI sr 10 (nI (if c = 12 then (f + 1) % 12 else f))) 11 (nI (if c = 12 then 12 else c + 1))
def RH (x00 : NSt) (V : VS) (sr : OSt) (sc : NSt) : Prop := n_clear (n0 0) 200 = some x00 ∧ ∃ f c, (sr.1 10 = nI f ∧ sr.1 11 = nI c ∧ f < 12 ∧ c ≤ 12) ∧ ∀ s0, ((∃ q, V ((f + c) % 12 + 2) = some (q, s0)) ∨ (V ((f + c) % 12 + 2) = none ∧ s0 = x00)) → ∃ s', n_become s0 sc = some s'
theorem hiX4_remember_X4 : ∀ w ∈ u_ws RX4 TX4 12, w ∈ wsX4_remember := mem_run (i := 74) (by decide +kernel)
theorem hiX4_remember_X0 : ∀ w ∈ u_ws RX0 TX0 15, w ∈ wsX4_remember := mem_run (i := 86) (by decide +kernel)
theorem wdX4_remember_1 : (Cond.fieldLink RX4 60 "CombinatorRing" "pastCount" "I") ∈ wsX4_remember := List.mem_of_getElem? (i := 1) rfl
theorem wdX4_remember_2 : (Cond.fieldLink RX4 57 "CombinatorRing" "pastFirst" "I") ∈ wsX4_remember := List.mem_of_getElem? (i := 2) rfl
theorem wdX4_remember_3 : (Cond.fieldLink RX4 50 "CombinatorRing" "past" "[LCombinatorRing$Net;") ∈ wsX4_remember := List.mem_of_getElem? (i := 3) rfl
theorem wdX4_remember_4 : (Cond.classLink RX4 13 RX0) ∈ wsX4_remember := List.mem_of_getElem? (i := 4) rfl
theorem wdX4_remember_5 : (Cond.instantiable RX0 15) ∈ wsX4_remember := List.mem_of_getElem? (i := 5) rfl
theorem wdX4_remember_6 : (Cond.initialized RX0) ∈ wsX4_remember := List.mem_of_getElem? (i := 6) rfl
theorem wdX4_remember_7 : (Cond.fieldLink RX4 18 "CombinatorRing" "current" "LCombinatorRing$Net;") ∈ wsX4_remember := List.mem_of_getElem? (i := 7) rfl
theorem wdX4_remember_8 : (Cond.methodLink RX4 15 yX0_init) ∈ wsX4_remember := List.mem_of_getElem? (i := 8) rfl
theorem wdX4_remember_9 : (Cond.instanceMethod yX0_init) ∈ wsX4_remember := List.mem_of_getElem? (i := 9) rfl
abbrev rmX4_remember : Room := { frames := 4, cells := 11, slots := 1661, locals := 86 }
theorem hdX4_remember : yX4_remember.cls = RX4 ∧ yX4_remember.cls ≠ "java/lang/invoke/MethodHandle" ∧ yX4_remember.cls ≠ "java/lang/invoke/VarHandle" ∧ (parseMethodDescriptor yX4_remember.desc).map (fun d => d.parameters.length) = some 0 := by decide +kernel
theorem pm_bec {R n C X : va_W} : (R ++ (n ++ (C ++ X))).Perm ((R ++ X) ++ (n ++ C)) := by
  have : (n ++ (C ++ X)).Perm (X ++ (n ++ C)) := by
    rw [← List.append_assoc]
    exact List.perm_append_comm
  refine (List.Perm.append_left _ this).trans ?_
  rw [List.append_assoc]
theorem sI_id (s : OSt) (k : Nat) : sI s k (s.1 k) = s := by
  unfold sI
  refine Prod.ext ?_ rfl
  funext j
  simp only [upd]
  split
  · rename_i h; rw [h]
  · rfl
set_option maxHeartbeats 4000000 in
set_option maxRecDepth 100000 in
theorem t_X4_remember_68 {p : Program} {l : Launch} {e : Env} {s : State} {m : MethodId} {args : Array Value} {below : List Frame} {meth : Method} {c : Code} {A : Nat → Prop} {G : Gx} {q : Nat → Nat} {da : Nat} {qc qh qt qn qs qo : Nat → Nat} {V : VS} {sr : OSt} {ta : Nat → Int32} {sc sh : NSt} {tb : Nat × OSt} {sn : NSt} {ss so : OSt} {H : Heap} {locs : List Loc} {ls : Array Slot} {cells slots : Nat} {B : Option Value → va_W → Prop} (C : Cx p s m args meth c G cX4_remember wsX4_remember RX4 none 2 A) {k c1 : Nat} (hk : k < 12) {q' : Nat → Nat} {s0 s' : NSt} (h11 : sr.1 11 = nI c1) (hbe : n_become s0 sc = some s')
    (hD : va_D A (wR G q da qc qh qt qs qo (imO V) (va_up (paO V) k (some (q' 15))) sr ++ (wN G q' s0 ++ (wN G qc sc ++ wX G da qh qt qn qs qo ta sh tb sn ss so (wV G (vup V (k + 2) none) 14))))) (hP : va_P G.1 vwCl (wR G q da qc qh qt qs qo (imO V) (va_up (paO V) k (some (q' 15))) sr ++ (wN G q' s0 ++ (wN G qc sc ++ wX G da qh qt qn qs qo ta sh tb sn ss so (wV G (vup V (k + 2) none) 14)))) H) (hS : va_S A s.heap H locs) (hl : lv_has ls 2 [(1, .int (nI k)), (0, .ref (q 12))]) (hcl : cells ≤ 11) (hsl : slots ≤ 1661)
    (hB : B none (wZ G q da qc qh qt qn qs qo (vup V (k + 2) (some (q', s'))) (sI sr 11 (nI (c1 + 1))) ta sc sh tb sn ss so)) :
    W p l e rmX4_remember s m args below meth c H locs cells slots (MQ below (qG G A B) args s 11 1661 A) (F0 m 68 ls []) := by
  have hx := C.1
  have hb := C.2.1
  refine lv_aload_n hx hb dX4_remember_68 rfl (lv_at hl 1 rfl) ?_
  refine q_get (q0 := 0) C hP rfl rfl hiX4_remember_X4 9 (by decide) wdX4_remember_3 rfl dX4_remember_69 ?_
  refine lv_iload_n hx hb dX4_remember_72 rfl (lv_at hl 0 rfl) ?_
  refine q_aldq C hP (q0 := 3) rfl (nc_ (by omega)) (vp_in_nI hk (by omega)) (v := .ref (q' 15)) (by unfold va_up; rw [if_pos rfl]; rfl) dX4_remember_73 ?_
  refine lv_aload_n hx hb dX4_remember_74 rfl (lv_at hl 1 rfl) ?_
  refine q_get (q0 := 0) C hP rfl rfl hiX4_remember_X4 2 (by decide) wdX4_remember_7 rfl dX4_remember_75 ?_
  refine q_Vv C (rc := (RX0, TX0, 15)) (q0 := 4) (ci := 0) (ws' := wR G q da qc qh qt qs qo (imO V) (va_up (paO V) k (some (q' 15))) sr ++ (wN G q' s' ++ (wN G qc sc ++ wX G da qh qt qn qs qo ta sh tb sn ss so (wV G (vup V (k + 2) none) 14)))) (c_X0_become (qn := q') (qn2 := qc) hbe) gX4_remember_X0_become rfl ⟨rfl, rfl⟩ hdX0_become ⟨(Nat.le_of_ble_eq_true rfl), (Nat.le_of_ble_eq_true rfl)⟩ rfl hP hD hS rfl rfl pm_bec pm_bec.symm hl.1 (Nat.le_of_ble_eq_true rfl) ⟨hcl, hsl⟩ rfl dX4_remember_78 (fun H locs hP hS => ?_)
  have hD : va_D A (wR G q da qc qh qt qs qo (imO V) (va_up (paO V) k (some (q' 15))) sr ++ (wN G q' s' ++ (wN G qc sc ++ wX G da qh qt qn qs qo ta sh tb sn ss so (wV G (vup V (k + 2) none) 14)))) := hD.ad rfl
  refine lv_aload_n hx hb dX4_remember_81 rfl (lv_at hl 1 rfl) ?_
  refine lv_dup hx hb dX4_remember_82 rfl ?_
  refine q_get (q0 := 0) C hP rfl rfl hiX4_remember_X4 11 (by decide) wdX4_remember_1 rfl dX4_remember_83 ?_
  refine lv_tI h11 ?_
  refine lv_iconst (v := 1) hx hb dX4_remember_86 (by decide) ?_
  refine lv_iadd hx hb dX4_remember_87 ?_
  refine lv_tI (nI_1 c1) ?_
  refine q_put C hP hD hS (q0 := 0) rfl rfl hiX4_remember_X4 tyX4_ok nmX4 11 (by decide) wdX4_remember_1 rfl rfl rfl (Nat.le_of_ble_eq_true rfl) rfl dX4_remember_88 (fun H locs hP hS => ?_)
  have hP : va_P G.1 vwCl (wR G q da qc qh qt qs qo (imO V) (va_up (paO V) k (some (q' 15))) (sI sr 11 (nI (c1 + 1))) ++ (wN G q' s' ++ (wN G qc sc ++ wX G da qh qt qn qs qo ta sh tb sn ss so (wV G (vup V (k + 2) none) 14)))) H := hP
  have hD : va_D A (wR G q da qc qh qt qs qo (imO V) (va_up (paO V) k (some (q' 15))) (sI sr 11 (nI (c1 + 1))) ++ (wN G q' s' ++ (wN G qc sc ++ wX G da qh qt qn qs qo ta sh tb sn ss so (wV G (vup V (k + 2) none) 14)))) := hD.ad rfl
  have pp := wZ_out (G := G) (q := q) (da := da) (qc := qc) (qh := qh) (qt := qt) (qn := qn) (qs := qs) (qo := qo) (V := vup V (k + 2) (some (q', s'))) (sr := sI sr 11 (nI (c1 + 1))) (ta := ta) (sc := sc) (sh := sh) (tb := tb) (sn := sn) (ss := ss) (so := so) (i := k + 2) (q' := q') (s' := s') (by omega) vup_s
  rw [imO_vup, paO_vup V hk, vup_vup] at pp
  exact q_Gv C hB (hP.perm pp.symm) (hD.perm pp.symm) hS hcl hsl rfl dX4_remember_91
set_option maxHeartbeats 4000000 in
set_option maxRecDepth 100000 in
theorem t_X4_remember_32 {p : Program} {l : Launch} {e : Env} {s : State} {m : MethodId} {args : Array Value} {below : List Frame} {meth : Method} {c : Code} {A : Nat → Prop} {G : Gx} {q : Nat → Nat} {da : Nat} {qc qh qt qn qs qo : Nat → Nat} {V : VS} {sr : OSt} {ta : Nat → Int32} {sc sh : NSt} {tb : Nat × OSt} {sn : NSt} {ss so : OSt} {H : Heap} {locs : List Loc} {ls : Array Slot} {B : Option Value → va_W → Prop} (C : Cx p s m args meth c G cX4_remember wsX4_remember RX4 none 2 A) {k f1 c1 : Nat} {x00 : NSt} (h00 : n_clear (n0 0) 200 = some x00) (hk : (f1 + c1) % 12 = k) (hf1 : f1 < 12) (hc1 : c1 < 12) (h10 : sr.1 10 = nI f1) (h11 : sr.1 11 = nI c1)
    (hbe : ∀ s0, ((∃ q, V (k + 2) = some (q, s0)) ∨ (V (k + 2) = none ∧ s0 = x00)) → ∃ s', n_become s0 sc = some s')
    (hD : va_D A (wZ G q da qc qh qt qn qs qo V sr ta sc sh tb sn ss so)) (hP : va_P G.1 vwCl (wZ G q da qc qh qt qn qs qo V sr ta sc sh tb sn ss so) H) (hS : va_S A s.heap H locs) (hl : lv_has ls 2 [(0, .ref (q 12))])
    (hB : ∀ (q' : Nat → Nat) (s0 s' : NSt), (V (k + 2) = some (q', s0) ∨ (V (k + 2) = none ∧ s0 = x00)) → n_become s0 sc = some s' → B none (wZ G q da qc qh qt qn qs qo (vup V (k + 2) (some (q', s'))) (sI sr 11 (nI (c1 + 1))) ta sc sh tb sn ss so)) :
    W p l e rmX4_remember s m args below meth c H locs 0 0 (MQ below (qG G A B) args s 11 1661 A) (F0 m 32 ls []) := by
  have hx := C.1
  have hb := C.2.1
  have k12 : k < 12 := by omega
  refine lv_aload_n hx hb dX4_remember_32 rfl (lv_at hl 0 rfl) ?_
  refine q_get (q0 := 0) C hP rfl rfl hiX4_remember_X4 10 (by decide) wdX4_remember_2 rfl dX4_remember_33 ?_
  refine lv_tI h10 ?_
  refine lv_aload_n hx hb dX4_remember_36 rfl (lv_at hl 0 rfl) ?_
  refine q_get (q0 := 0) C hP rfl rfl hiX4_remember_X4 11 (by decide) wdX4_remember_1 rfl dX4_remember_37 ?_
  refine lv_tI h11 ?_
  refine lv_iadd hx hb dX4_remember_40 ?_
  refine lv_tI (nI_add f1 c1) ?_
  refine lv_bipush (v := 12) hx hb dX4_remember_41 (by decide) ?_
  refine lv_irem hx hb dX4_remember_43 (by decide) ?_
  refine lv_tI (show nI (f1 + c1) - nI (f1 + c1) / 12 * 12 = nI k by rw [i12, n_div (by omega) (by omega) (by omega), pk_mul, n_sub (by omega), sub_dm, hk]) ?_
  refine lv_istore_n (lv' := [(1, .int (nI k)), (0, .ref (q 12))]) hx hb dX4_remember_44 rfl hl (by decide) rfl (fun ls hl => ?_)
  refine lv_aload_n hx hb dX4_remember_45 rfl (lv_at hl 1 rfl) ?_
  refine q_get (q0 := 0) C hP rfl rfl hiX4_remember_X4 9 (by decide) wdX4_remember_3 rfl dX4_remember_46 ?_
  refine lv_iload_n hx hb dX4_remember_49 rfl (lv_at hl 0 rfl) ?_
  rcases hv : V (k + 2) with _ | ⟨q', s0⟩
  · refine q_aldq C hP (q0 := 3) rfl (nc_ (by omega)) (vp_in_nI k12 (by omega)) (v := .null) (by rw [paO_at k12]; unfold vO; rw [hv]; rfl) dX4_remember_50 ?_
    refine lv_ifnonnullN hx hb dX4_remember_51 ?_
    refine lv_aload_n hx hb dX4_remember_54 rfl (lv_at hl 1 rfl) ?_
    refine q_get (q0 := 0) C hP rfl rfl hiX4_remember_X4 9 (by decide) wdX4_remember_3 rfl dX4_remember_55 ?_
    refine lv_iload_n hx hb dX4_remember_58 rfl (lv_at hl 0 rfl) ?_
    refine q_new C (ci := 0) (fs := [.null, .null, .null, .null, .null, .null, .int 0, .int 0, .int 0, .int 0, .int 0, .int 0, .int 0, .int 0, .int 0]) hiX4_remember_X0 tyX0_ok wdX4_remember_4 wdX4_remember_5 wdX4_remember_6 hP hD hS rfl hfs_X0 (Nat.le_of_ble_eq_true rfl) (Nat.le_of_ble_eq_true rfl) dX4_remember_59 (fun b1 H hP hD hS => ?_)
    refine lv_dup hx hb dX4_remember_62 rfl ?_
    refine lv_iconst (v := 0) hx hb dX4_remember_63 (by decide) ?_
    refine q_I C (wr := wZ G q da qc qh qt qn qs qo V sr ta sc sh tb sn ss so) (wc := [(b1, .inr (0, [.null, .null, .null, .null, .null, .null, .int 0, .int 0, .int 0, .int 0, .int 0, .int 0, .int 0, .int 0, .int 0]))]) (c_X0_init0 h00) gX4_remember_X0_init rfl ⟨rfl, rfl⟩ wdX4_remember_6 wdX4_remember_8 wdX4_remember_9 rfl hdcX0_init ⟨(Nat.le_of_ble_eq_true rfl), (Nat.le_of_ble_eq_true rfl)⟩ rfl hP hD hS (List.Perm.refl _) hl.1 (Nat.le_of_ble_eq_true rfl) ⟨(Nat.le_of_ble_eq_true rfl), (Nat.le_of_ble_eq_true rfl)⟩ rfl dX4_remember_64 (fun r w' H locs hBB hP hD hS => ?_)
    obtain ⟨rfl, q', rfl, rfl⟩ := hBB
    have hP := hP.perm wZ_new
    have hD := hD.perm wZ_new
    have ev : vup V (k + 2) none = V := vup_id hv
    refine q_astq C hP hD hS (q0 := 3) (qk := 4) (ws' := wR G q da qc qh qt qs qo (imO V) (va_up (paO V) k (some (q' 15))) sr ++ (wN G q' x00 ++ (wN G qc sc ++ wX G da qh qt qn qs qo ta sh tb sn ss so (wV G V 14)))) rfl rfl (nc_ (by omega)) (vp_in_nI k12 (by omega)) rfl dX4_remember_67 (fun H locs hP hD hS => ?_)
    obtain ⟨s', hs'⟩ := hbe x00 (Or.inr ⟨hv, rfl⟩)
    exact t_X4_remember_68 (V := V) (q' := q') (s0 := x00) C k12 h11 hs' (by rw [ev]; exact hD) (by rw [ev]; exact hP) hS hl (Nat.le_of_ble_eq_true rfl) (Nat.le_of_ble_eq_true rfl) (hB q' x00 s' (Or.inr ⟨hv, rfl⟩) hs')
  · have e0 : paO V k = some (q' 15) := by rw [paO_at k12]; unfold vO; rw [hv]; rfl
    refine q_aldq C hP (q0 := 3) rfl (nc_ (by omega)) (vp_in_nI k12 (by omega)) (v := .ref (q' 15)) (by rw [e0]; rfl) dX4_remember_50 ?_
    refine lv_ifnonnull (tgt := 68) hx hb dX4_remember_51 (by decide) ?_
    obtain ⟨s', hs'⟩ := hbe s0 (Or.inl ⟨q', hv⟩)
    have hP := hP.perm (wZ_out (i := k + 2) (by omega) hv)
    have hD := hD.perm (wZ_out (i := k + 2) (by omega) hv)
    rw [← va_up_id e0] at hP hD
    exact t_X4_remember_68 C k12 h11 hs' hD hP hS hl (Nat.le_of_ble_eq_true rfl) (Nat.le_of_ble_eq_true rfl) (hB q' s0 s' (Or.inl hv) hs')
set_option maxHeartbeats 4000000 in
set_option maxRecDepth 100000 in
theorem c_X4_remember {l : Launch} {G : Gx} {q : Nat → Nat} {da : Nat} {qc qh qt qn qs qo : Nat → Nat} {V : VS} {sr : OSt} {ta : Nat → Int32} {sc sh : NSt} {tb : Nat × OSt} {sn : NSt} {ss so : OSt} {x00 : NSt} (hr : RH x00 V sr sc) : QG l G yX4_remember wsX4_remember rmX4_remember 11 1661 [.ref (q 12)] (wZ G q da qc qh qt qn qs qo V sr ta sc sh tb sn ss so) (fun r w' => r = none ∧ ∃ V' sr', REM x00 V sr sc V' sr' ∧ w' = wZ G q da qc qh qt qn qs qo V' sr' ta sc sh tb sn ss so) := by
  obtain ⟨h00, f, k, ⟨h10, h11, hf, hk⟩, hbe⟩ := hr
  refine QG.of (cc := cX4_remember) (maxL := 2) (ret := none) (by decide) rfl (Nat.le_of_ble_eq_true rfl) ?_
  intro p e s m below meth c A ls hmn C hD hP hS hl
  have hx := C.1
  have hb := C.2.1
  have hl : lv_has ls 2 [(0, .ref (q 12))] := hl
  refine lv_aload_n hx hb dX4_remember_0 rfl (lv_at hl 0 rfl) ?_
  refine q_get (q0 := 0) C hP rfl rfl hiX4_remember_X4 11 (by decide) wdX4_remember_1 rfl dX4_remember_1 ?_
  refine lv_tI h11 ?_
  refine lv_bipush (v := 12) hx hb dX4_remember_4 (by decide) ?_
  refine lv_icmp_ne (tgt := 32) hx hb dX4_remember_6 (by decide) (fun c1 => ?_) (fun c1 => ?_)
  · have k12 : k ≠ 12 := fun z => c1 (by rw [z]; rfl)
    refine t_X4_remember_32 C h00 (f1 := f) (c1 := k) rfl hf (by omega) h10 h11 hbe hD hP hS hl (fun q' s0 s' hv hs' => ⟨rfl, _, _, ⟨f, k, q', s0, s', ⟨h10, h11, hf, hk⟩, hv, hs', rfl, ?_⟩, rfl⟩)
    rw [if_neg k12, if_neg k12, ← h10, sI_id]
  · have k12 : k = 12 := (nI_eq (a := k) (b := 12) (by omega) (by omega)).mp c1
    refine lv_aload_n hx hb dX4_remember_9 rfl (lv_at hl 0 rfl) ?_
    refine lv_aload_n hx hb dX4_remember_10 rfl (lv_at hl 0 rfl) ?_
    refine q_get (q0 := 0) C hP rfl rfl hiX4_remember_X4 10 (by decide) wdX4_remember_2 rfl dX4_remember_11 ?_
    refine lv_tI h10 ?_
    refine lv_iconst (v := 1) hx hb dX4_remember_14 (by decide) ?_
    refine lv_iadd hx hb dX4_remember_15 ?_
    refine lv_tI (nI_1 f) ?_
    refine lv_bipush (v := 12) hx hb dX4_remember_16 (by decide) ?_
    refine lv_irem hx hb dX4_remember_18 (by decide) ?_
    refine lv_tI (show nI (f + 1) - nI (f + 1) / 12 * 12 = nI ((f + 1) % 12) by rw [i12, n_div (by omega) (by omega) (by omega), pk_mul, n_sub (by omega), sub_dm]) ?_
    refine q_put C hP hD hS (q0 := 0) rfl rfl hiX4_remember_X4 tyX4_ok nmX4 10 (by decide) wdX4_remember_2 rfl rfl rfl (Nat.le_of_ble_eq_true rfl) rfl dX4_remember_19 (fun H locs hP hS => ?_)
    have hP : va_P G.1 vwCl (wZ G q da qc qh qt qn qs qo V (sI sr 10 (nI ((f + 1) % 12))) ta sc sh tb sn ss so) H := hP
    have hD : va_D A (wZ G q da qc qh qt qn qs qo V (sI sr 10 (nI ((f + 1) % 12))) ta sc sh tb sn ss so) := hD.ad rfl
    refine lv_aload_n hx hb dX4_remember_22 rfl (lv_at hl 0 rfl) ?_
    refine lv_dup hx hb dX4_remember_23 rfl ?_
    refine q_get (q0 := 0) C hP rfl rfl hiX4_remember_X4 11 (by decide) wdX4_remember_1 rfl dX4_remember_24 ?_
    refine lv_tI (y := nI 12) (by rw [← k12]; exact h11) ?_
    refine lv_iconst (v := 1) hx hb dX4_remember_27 (by decide) ?_
    refine lv_isub hx hb dX4_remember_28 ?_
    refine lv_tI (show nI 12 - 1 = nI 11 by decide) ?_
    refine q_put C hP hD hS (q0 := 0) rfl rfl hiX4_remember_X4 tyX4_ok nmX4 11 (by decide) wdX4_remember_1 rfl rfl rfl (Nat.le_of_ble_eq_true rfl) rfl dX4_remember_29 (fun H locs hP hS => ?_)
    have hP : va_P G.1 vwCl (wZ G q da qc qh qt qn qs qo V (sI (sI sr 10 (nI ((f + 1) % 12))) 11 (nI 11)) ta sc sh tb sn ss so) H := hP
    have hD : va_D A (wZ G q da qc qh qt qn qs qo V (sI (sI sr 10 (nI ((f + 1) % 12))) 11 (nI 11)) ta sc sh tb sn ss so) := hD.ad rfl
    have ek : ((f + 1) % 12 + 11) % 12 = (f + k) % 12 := by omega
    refine t_X4_remember_32 C h00 (f1 := (f + 1) % 12) (c1 := 11) ek (by omega) (by omega) rfl rfl hbe hD hP hS hl (fun q' s0 s' hv hs' => ⟨rfl, _, _, ⟨f, k, q', s0, s', ⟨h10, h11, hf, hk⟩, hv, hs', rfl, ?_⟩, rfl⟩)
    rw [if_pos k12, if_pos k12, sI_sI]
