/-! nets that are kept: images, the past -/
abbrev VS : Type := Nat → Option ((Nat → Nat) × NSt)
def vup (V : VS) (i : Nat) (x : Option ((Nat → Nat) × NSt)) : VS := fun j => if j = i then x else V j
def vO (V : VS) (i : Nat) : Option Nat := (V i).map (fun x => x.1 15)
def imO (V : VS) : Nat → Option Nat := fun k => if k < 2 then vO V k else none
def paO (V : VS) : Nat → Option Nat := fun k => if k < 12 then vO V (k + 2) else none
def wO (G : Gx) (o : Option ((Nat → Nat) × NSt)) : va_W := match o with
  | none => []
  | some x => wN G x.1 x.2
def wV (G : Gx) (V : VS) : Nat → va_W
  | 0 => []
  | n + 1 => wV G V n ++ wO G (V n)
theorem vup_s {V : VS} {i : Nat} {x : Option ((Nat → Nat) × NSt)} : vup V i x i = x := if_pos rfl
theorem vup_n {V : VS} {i j : Nat} {x : Option ((Nat → Nat) × NSt)} (h : j ≠ i) : vup V i x j = V j := if_neg h
theorem vup_vup (V : VS) (i : Nat) (x y : Option ((Nat → Nat) × NSt)) : vup (vup V i x) i y = vup V i y := by
  funext j
  unfold vup
  split <;> rfl
theorem vup_id {V : VS} {i : Nat} {x : Option ((Nat → Nat) × NSt)} (h : V i = x) : vup V i x = V := by
  funext j
  unfold vup
  split
  · rename_i e; rw [e, h]
  · rfl
theorem wV_cong {G : Gx} {V V' : VS} : ∀ {n : Nat}, (∀ i, i < n → V' i = V i) → wV G V' n = wV G V n
  | 0, _ => rfl
  | n + 1, h => by
    show wV G V' n ++ wO G (V' n) = wV G V n ++ wO G (V n)
    rw [wV_cong (fun i hi => h i (by omega)), h n (by omega)]
theorem wV_out {G : Gx} {V : VS} {k : Nat} : ∀ {n : Nat}, k < n → (wV G V n).Perm (wV G (vup V k none) n ++ wO G (V k))
  | 0, h => absurd h (Nat.not_lt_zero _)
  | n + 1, h => by
    show (wV G V n ++ wO G (V n)).Perm ((wV G (vup V k none) n ++ wO G (vup V k none n)) ++ wO G (V k))
    by_cases e : n = k
    · rw [e, vup_s]
      show (wV G V k ++ wO G (V k)).Perm ((wV G (vup V k none) k ++ []) ++ wO G (V k))
      rw [List.append_nil, wV_cong (V' := vup V k none) (V := V) (fun i hi => vup_n (by omega))]
    · rw [vup_n e]
      have p := wV_out (G := G) (V := V) (k := k) (n := n) (by omega)
      refine (List.Perm.append_right _ p).trans ?_
      rw [List.append_assoc, List.append_assoc]
      exact List.Perm.append_left _ List.perm_append_comm
theorem imO_vup (V : VS) (k : Nat) (x : Option ((Nat → Nat) × NSt)) : imO (vup V (k + 2) x) = imO V := by
  funext j
  unfold imO vO
  by_cases h : j < 2
  · rw [if_pos h, if_pos h, vup_n (by omega)]
  · rw [if_neg h, if_neg h]
theorem paO_vup (V : VS) {k : Nat} (hk : k < 12) (q : Nat → Nat) (s : NSt) : paO (vup V (k + 2) (some (q, s))) = va_up (paO V) k (some (q 15)) := by
  funext j
  unfold paO vO va_up
  by_cases h : j = k
  · rw [if_pos h, h, if_pos hk, vup_s]
    rfl
  · rw [if_neg h, vup_n (by omega)]
theorem paO_at {V : VS} {k : Nat} (hk : k < 12) : paO V k = vO V (k + 2) := if_pos hk
theorem va_up_id {f : Nat → Option Nat} {k : Nat} {v : Option Nat} (h : f k = v) : va_up f k v = f := by
  funext j
  unfold va_up
  split
  · rename_i e; rw [e, h]
  · rfl
/-- the ring's world -/
def wX (G : Gx) (da : Nat) (qh qt qn qs qo : Nat → Nat) (ta : Nat → Int32) (sh : NSt) (tb : Nat × OSt) (sn : NSt) (ss so : OSt) (Y : va_W) : va_W := wA G da 500 ta ++ (wN G qh sh ++ (wT G qt tb.1 (qn 15) tb.2 ++ (wN G qn sn ++ (wS G qs ss ++ (wS G qo so ++ Y)))))
def wZ (G : Gx) (q : Nat → Nat) (da : Nat) (qc qh qt qn qs qo : Nat → Nat) (V : VS) (sr : OSt) (ta : Nat → Int32) (sc sh : NSt) (tb : Nat × OSt) (sn : NSt) (ss so : OSt) : va_W := wR G q da qc qh qt qs qo (imO V) (paO V) sr ++ (wA G da 500 ta ++ (wN G qc sc ++ (wN G qh sh ++ (wT G qt tb.1 (qn 15) tb.2 ++ (wN G qn sn ++ (wS G qs ss ++ (wS G qo so ++ wV G V 14)))))))
theorem pm_mdZ {a b h t u s o Y Y0 n : va_W} (p : Y.Perm (Y0 ++ n)) : (a ++ (b ++ (h ++ (t ++ (u ++ (s ++ (o ++ Y))))))).Perm (n ++ (b ++ (a ++ (h ++ (t ++ (u ++ (s ++ (o ++ Y0)))))))) := by
  have z : (h ++ (t ++ (u ++ (s ++ (o ++ Y))))).Perm (n ++ (h ++ (t ++ (u ++ (s ++ (o ++ Y0)))))) := by
    refine (List.Perm.append_left _ (List.Perm.append_left _ (List.Perm.append_left _ (List.Perm.append_left _ (List.Perm.append_left _ p))))).trans ?_
    have : h ++ (t ++ (u ++ (s ++ (o ++ (Y0 ++ n))))) = (h ++ (t ++ (u ++ (s ++ (o ++ Y0))))) ++ n := by simp only [List.append_assoc]
    rw [this]
    exact List.perm_append_comm
  refine (List.Perm.append_left _ (List.Perm.append_left _ z)).trans ?_
  refine (List.perm_append_comm_assoc _ _ _).trans ?_
  refine (List.Perm.append_left _ (List.perm_append_comm_assoc _ _ _)).trans ?_
  exact List.perm_append_comm_assoc _ _ _
/-- a kept net brought up beside the current one -/
theorem wZ_out {G : Gx} {q : Nat → Nat} {da : Nat} {qc qh qt qn qs qo : Nat → Nat} {V : VS} {sr : OSt} {ta : Nat → Int32} {sc sh : NSt} {tb : Nat × OSt} {sn : NSt} {ss so : OSt} {i : Nat} {q' : Nat → Nat} {s' : NSt} (hi : i < 14) (h : V i = some (q', s')) : (wZ G q da qc qh qt qn qs qo V sr ta sc sh tb sn ss so).Perm (wR G q da qc qh qt qs qo (imO V) (paO V) sr ++ (wN G q' s' ++ (wN G qc sc ++ wX G da qh qt qn qs qo ta sh tb sn ss so (wV G (vup V i none) 14)))) := by
  have p := wV_out (G := G) (V := V) hi
  rw [h] at p
  exact List.Perm.append_left _ (pm_mdZ p)
theorem wZ_new {G : Gx} {q : Nat → Nat} {da : Nat} {qc qh qt qn qs qo : Nat → Nat} {V : VS} {sr : OSt} {ta : Nat → Int32} {sc sh : NSt} {tb : Nat × OSt} {sn : NSt} {ss so : OSt} {w : va_W} : (wZ G q da qc qh qt qn qs qo V sr ta sc sh tb sn ss so ++ w).Perm (wR G q da qc qh qt qs qo (imO V) (paO V) sr ++ (w ++ (wN G qc sc ++ wX G da qh qt qn qs qo ta sh tb sn ss so (wV G V 14)))) := by
  have p := pm_mdZ (a := wA G da 500 ta) (b := wN G qc sc) (h := wN G qh sh) (t := wT G qt tb.1 (qn 15) tb.2) (u := wN G qn sn) (s := wS G qs ss) (o := wS G qo so) (List.Perm.refl (wV G V 14 ++ w))
  unfold wZ wX
  simp only [List.append_assoc] at p ⊢
  exact List.Perm.append_left _ p
section QRV
variable {p : Program} {l : Launch} {e : Env} {R : Room} {s : State} {m : MethodId} {args : Array Value} {below : List Frame} {meth : Method} {c : Code} {H : Heap} {locs : List Loc} {cells slots : Nat} {Q : State → Prop}
variable {G : Gx} {cc : ByteArray} {Ts : List Cond} {own : String} {ret : Option FieldType} {nL : Nat} {A : Nat → Prop} {pc : Nat} {ls : Array Slot} {rest : List Value} {ws : va_W} {a : Nat}
/-- rows of nets -/
theorem q_aldq (C : Cx p s m args meth c G cc Ts own ret nL A) (hP : va_P G.1 vwCl ws H) {q0 n : Nat} {f : Nat → Option Nat} (he : ws[q0]? = some (a, .inl (G.2.1 4, n, .inr (.inr (.inr (.inr f)))))) {i : Int32} {j : Nat} (hj : i.toNatClampNeg = j) (hin : vp_in i n) {v : Value} (hv : va_rf (f j) = v) (hdg : decode cc pc = .ok (.aaload, 1))
    (kk : W p l e R s m args below meth c H locs cells slots Q (F0 m (pc + 1) ls (v :: rest))) : W p l e R s m args below meth c H locs cells slots Q (F0 m pc ls (.int i :: .ref a :: rest)) := by
  subst hj
  subst hv
  exact va_aldq C.1 C.2.1 C.2.2.2.2.2.2.2.1 hP q0 4 he rfl hin hdg kk
theorem q_astq (C : Cx p s m args meth c G cc Ts own ret nL A) (hP : va_P G.1 vwCl ws H) (hD : va_D A ws) (hS : va_S A s.heap H locs) {q0 qk n v : Nat} {f : Nat → Option Nat} {vs : List Value} (he : ws[q0]? = some (a, .inl (G.2.1 4, n, .inr (.inr (.inr (.inr f)))))) (hv : ws[qk]? = some (v, .inr (0, vs))) {i : Int32} {j : Nat} (hj : i.toNatClampNeg = j) (hin : vp_in i n) {ws' : va_W} (hs : ws.set q0 (a, .inl (G.2.1 4, n, .inr (.inr (.inr (.inr (va_up f j (some v))))))) = ws') (hdg : decode cc pc = .ok (.aastore, 1))
    (kk : ∀ (H1 : Heap) (locs1 : List Loc), va_P G.1 vwCl ws' H1 → va_D A ws' → va_S A s.heap H1 locs1 → W p l e R s m args below meth c H1 locs1 cells slots Q (F0 m (pc + 1) ls rest)) : W p l e R s m args below meth c H locs cells slots Q (F0 m pc ls (.ref v :: .int i :: .ref a :: rest)) := by
  subst hj
  subst hs
  exact va_astq C.1 C.2.1 C.2.2.2.2.2.2.2.1 hP hD hS q0 4 qk 0 (r := (RX0, TX0, 15)) he rfl hv rfl hin hdg kk
end QRV
