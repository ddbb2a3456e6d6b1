/-! pairs of wires taken out, in any order -/
theorem ctr_at {E : Nat → Prop} {L : Nat → Nat} (h : MT E L) {a b : Nat} (ha : E a) (hb : E b) (hab : a ≠ b) {q : Nat} (hq : E q) (qa : q ≠ a) (qb : q ≠ b) : ctr L a b q = if L q = a then L b else if L q = b then L a else L q := by
  obtain ⟨a1, a2, a3⟩ := h a ha
  obtain ⟨b1, b2, b3⟩ := h b hb
  obtain ⟨q1, q2, q3⟩ := h q hq
  unfold ctr
  by_cases z : L a = b
  · have n1 : L q ≠ a := fun e => qb (by rw [← q2, e, z])
    have n2 : L q ≠ b := fun e => qa (by rw [← q2, e, ← z, a2])
    rw [if_pos z, if_neg n1, if_neg n2]
  · rw [if_neg z]
    by_cases e1 : L q = a
    · have e : q = L a := by rw [← e1, q2]
      rw [if_pos e1, e, lk2_a _ (fun e => hab (by rw [← a2, e, b2]))]
    · rw [if_neg e1]
      by_cases e2 : L q = b
      · have e : q = L b := by rw [← e2, q2]
        rw [if_pos e2, e, lk2_b]
      · rw [if_neg e2, lk2_o]
        · intro e; exact e1 (by rw [e, a2])
        · intro e; exact e2 (by rw [e, b2])
theorem sym_at {E : Nat → Prop} {L : Nat → Nat} (h : MT E L) {x y : Nat} (hx : E x) (hy : E y) : L x = y ↔ L y = x := ⟨fun e => by rw [← e]; exact (h x hx).2.1, fun e => by rw [← e]; exact (h y hy).2.1⟩
theorem sw_nat {a b c d q A B C D Q : Nat} (qa : q ≠ a) (qb : q ≠ b) (qc : q ≠ c) (qd : q ≠ d) (ab : a ≠ b) (ac : a ≠ c) (ad : a ≠ d) (bc : b ≠ c) (bd : b ≠ d) (cd : c ≠ d) (s1 : Q = a ↔ A = q) (s2 : Q = b ↔ B = q) (s3 : Q = c ↔ C = q) (s4 : Q = d ↔ D = q) (s5 : A = b ↔ B = a) (s6 : A = c ↔ C = a) (s7 : A = d ↔ D = a) (s8 : B = c ↔ C = b) (s9 : B = d ↔ D = b) (s0 : C = d ↔ D = c) {L1q L1c L1d L2q L2a L2b : Nat} (e1 : L1q = if Q = a then B else if Q = b then A else Q) (e2 : L1c = if C = a then B else if C = b then A else C) (e3 : L1d = if D = a then B else if D = b then A else D) (f1 : L2q = if Q = c then D else if Q = d then C else Q) (f2 : L2a = if A = c then D else if A = d then C else A) (f3 : L2b = if B = c then D else if B = d then C else B) : (if L1q = c then L1d else if L1q = d then L1c else L1q) = if L2q = a then L2b else if L2q = b then L2a else L2q := by
  by_cases q1 : Q = a
  · have n1 : Q ≠ c := fun z => ac (q1.symm.trans z)
    have n2 : Q ≠ d := fun z => ad (q1.symm.trans z)
    have aq := s1.mp q1
    rw [if_pos q1] at e1
    rw [if_neg n1, if_neg n2] at f1
    rw [if_pos (f1.trans q1), f3, e1]
    by_cases z : B = c
    · rw [if_pos z, if_pos z, e3, if_neg (fun w => qd (aq.symm.trans (s7.mpr w))), if_neg (fun w => cd (z.symm.trans (s9.mpr w)))]
    · rw [if_neg z, if_neg z]
      by_cases z2 : B = d
      · rw [if_pos z2, if_pos z2, e2, if_neg (fun w => qc (aq.symm.trans (s6.mpr w))), if_neg (fun w => z (s8.mpr w))]
      · rw [if_neg z2, if_neg z2]
  rw [if_neg q1] at e1
  by_cases q2 : Q = b
  · have n1 : Q ≠ c := fun z => bc (q2.symm.trans z)
    have n2 : Q ≠ d := fun z => bd (q2.symm.trans z)
    have bq := s2.mp q2
    rw [if_pos q2] at e1
    rw [if_neg n1, if_neg n2] at f1
    rw [if_neg (show ¬ L2q = a from fun w => ab (w.symm.trans (f1.trans q2))), if_pos (f1.trans q2), f2, e1]
    by_cases z : A = c
    · rw [if_pos z, if_pos z, e3, if_neg (fun w => cd (z.symm.trans (s7.mpr w))), if_neg (fun w => qd (bq.symm.trans (s9.mpr w)))]
    · rw [if_neg z, if_neg z]
      by_cases z2 : A = d
      · rw [if_pos z2, if_pos z2, e2, if_neg (fun w => z (s6.mpr w)), if_neg (fun w => qc (bq.symm.trans (s8.mpr w)))]
      · rw [if_neg z2, if_neg z2]
  rw [if_neg q2] at e1
  by_cases q3 : Q = c
  · have cq := s3.mp q3
    rw [if_pos q3] at f1
    rw [if_pos (e1.trans q3), e3, f1]
    by_cases z : D = a
    · rw [if_pos z, if_pos z, f3, if_neg (fun w => qb (cq.symm.trans (s8.mp w))), if_neg (fun w => ab (z.symm.trans (s9.mp w)))]
    · rw [if_neg z, if_neg z]
      by_cases z2 : D = b
      · rw [if_pos z2, if_pos z2, f2, if_neg (fun w => qa (cq.symm.trans (s6.mp w))), if_neg (fun w => z (s7.mp w))]
      · rw [if_neg z2, if_neg z2]
  rw [if_neg q3] at f1
  by_cases q4 : Q = d
  · have dq := s4.mp q4
    rw [if_pos q4] at f1
    rw [if_neg (fun w => cd (w.symm.trans (e1.trans q4))), if_pos (e1.trans q4), e2, f1]
    by_cases z : C = a
    · rw [if_pos z, if_pos z, f3, if_neg (fun w => ab (z.symm.trans (s8.mp w))), if_neg (fun w => qb (dq.symm.trans (s9.mp w)))]
    · rw [if_neg z, if_neg z]
      by_cases z2 : C = b
      · rw [if_pos z2, if_pos z2, f2, if_neg (fun w => z (s6.mp w)), if_neg (fun w => qa (dq.symm.trans (s7.mp w)))]
      · rw [if_neg z2, if_neg z2]
  rw [if_neg q4] at f1
  rw [if_neg (fun w => q3 (e1.symm.trans w)), if_neg (fun w => q4 (e1.symm.trans w)), if_neg (fun w => q1 (f1.symm.trans w)), if_neg (fun w => q2 (f1.symm.trans w)), e1, f1]
theorem sw_lp {a b c d A B C D : Nat} (ab : a ≠ b) (ac : a ≠ c) (ad : a ≠ d) (bc : b ≠ c) (bd : b ≠ d) (cd : c ≠ d) (s5 : A = b ↔ B = a) (s6 : A = c ↔ C = a) (s7 : A = d ↔ D = a) (s8 : B = c ↔ C = b) (s9 : B = d ↔ D = b) (s0 : C = d ↔ D = c) {L1c L2a : Nat} (e2 : L1c = if C = a then B else if C = b then A else C) (f2 : L2a = if A = c then D else if A = d then C else A) : (if A = b then 1 else 0) + (if L1c = d then 1 else 0) = (if C = d then 1 else 0) + (if L2a = b then 1 else 0) := by
  by_cases z1 : A = c
  · have ca := s6.mp z1
    rw [if_pos z1] at f2
    rw [if_pos ca] at e2
    rw [if_neg (fun w => bc (w.symm.trans z1)), if_neg (fun w => ad (ca.symm.trans w)), e2, f2]
    by_cases z : B = d
    · rw [if_pos z, if_pos (s9.mp z)]
    · rw [if_neg z, if_neg (fun w => z (s9.mpr w))]
  rw [if_neg z1] at f2
  rw [if_neg (fun w => z1 (s6.mpr w))] at e2
  by_cases z2 : A = d
  · have da' := s7.mp z2
    have nCd : ¬ C = d := fun w => ac (da'.symm.trans (s0.mp w))
    rw [if_pos z2] at f2
    rw [if_neg (fun w => bd (w.symm.trans z2)), if_neg nCd, f2]
    by_cases z : C = b
    · rw [if_pos z] at e2
      rw [if_pos z, if_pos (e2.trans z2)]
    · rw [if_neg z] at e2
      rw [if_neg z, if_neg (fun w => nCd (e2.symm.trans w))]
  rw [if_neg z2] at f2
  by_cases z3 : C = b
  · have nAb : ¬ A = b := fun w => ac ((s5.mp w).symm.trans (s8.mpr z3))
    rw [if_pos z3] at e2
    rw [if_neg nAb, if_neg (fun w => z2 (e2.symm.trans w)), if_neg (fun w => bd (z3.symm.trans w)), if_neg (fun w => nAb (f2.symm.trans w))]
  rw [if_neg z3] at e2
  rw [e2, f2, Nat.add_comm]
theorem ctr_swap {E : Nat → Prop} {L : Nat → Nat} (h : MT E L) {a b c d : Nat} (ha : E a) (hb : E b) (hc : E c) (hd : E d) (ab : a ≠ b) (ac : a ≠ c) (ad : a ≠ d) (bc : b ≠ c) (bd : b ≠ d) (cd : c ≠ d) : (∀ q, Em (Em E a b) c d q → ctr (ctr L a b) c d q = ctr (ctr L c d) a b q) ∧ lp L a b + lp (ctr L a b) c d = lp L c d + lp (ctr L c d) a b := by
  have m1 := h.ct ha hb ab
  have m2 := h.ct hc hd cd
  have c1 : Em E a b c := ⟨hc, Ne.symm ac, Ne.symm bc⟩
  have d1 : Em E a b d := ⟨hd, Ne.symm ad, Ne.symm bd⟩
  have a1 : Em E c d a := ⟨ha, ac, ad⟩
  have b1 : Em E c d b := ⟨hb, bc, bd⟩
  have s := fun {x y : Nat} => sym_at h (x := x) (y := y)
  constructor
  · rintro q ⟨⟨hq, qa, qb⟩, qc, qd⟩
    rw [ctr_at m1 c1 d1 cd ⟨hq, qa, qb⟩ qc qd, ctr_at m2 a1 b1 ab ⟨hq, qc, qd⟩ qa qb]
    exact sw_nat qa qb qc qd ab ac ad bc bd cd (s hq ha) (s hq hb) (s hq hc) (s hq hd) (s ha hb) (s ha hc) (s ha hd) (s hb hc) (s hb hd) (s hc hd) (ctr_at h ha hb ab hq qa qb) (ctr_at h ha hb ab hc (Ne.symm ac) (Ne.symm bc)) (ctr_at h ha hb ab hd (Ne.symm ad) (Ne.symm bd)) (ctr_at h hc hd cd hq qc qd) (ctr_at h hc hd cd ha ac ad) (ctr_at h hc hd cd hb bc bd)
  · unfold lp
    exact sw_lp ab ac ad bc bd cd (s ha hb) (s ha hc) (s ha hd) (s hb hc) (s hb hd) (s hc hd) (ctr_at h ha hb ab hc (Ne.symm ac) (Ne.symm bc)) (ctr_at h hc hd cd ha ac ad)
def wa (i : Nat) : Nat := 1100 + 2 * i
def wb (i : Nat) : Nat := 1100 + 2 * i + 1
def cL : List Nat → (Nat → Nat) → Nat → Nat
  | [], L => L
  | i :: l, L => cL l (ctr L (wa i) (wb i))
def cC : List Nat → (Nat → Nat) → Nat
  | [], _ => 0
  | i :: l, L => lp L (wa i) (wb i) + cC l (ctr L (wa i) (wb i))
def cX : List Nat → (Nat → Prop) → Nat → Prop
  | [], X => X
  | i :: l, X => cX l (Em X (wa i) (wb i))
def okl : List Nat → (Nat → Prop) → Prop
  | [], _ => True
  | i :: l, X => (X (wa i) ∧ X (wb i)) ∧ okl l (Em X (wa i) (wb i))
theorem ab_ne (i : Nat) : wa i ≠ wb i := by unfold wa wb; omega
theorem cX_iff : ∀ (l : List Nat) (X : Nat → Prop) (q : Nat), cX l X q ↔ (X q ∧ ∀ i, i ∈ l → q ≠ wa i ∧ q ≠ wb i)
  | [], X, q => ⟨fun z => ⟨z, fun i hi => absurd hi (List.not_mem_nil)⟩, fun z => z.1⟩
  | i :: l, X, q => by
    show cX l (Em X (wa i) (wb i)) q ↔ _
    rw [cX_iff l]
    unfold Em
    constructor
    · rintro ⟨⟨z1, z2, z3⟩, z4⟩
      refine ⟨z1, fun j hj => ?_⟩
      rcases List.mem_cons.mp hj with z | z
      · rw [z]; exact ⟨z2, z3⟩
      · exact z4 j z
    · rintro ⟨z1, z2⟩
      have z3 := z2 i (List.mem_cons.mpr (Or.inl rfl))
      exact ⟨⟨z1, z3.1, z3.2⟩, fun j hj => z2 j (List.mem_cons.mpr (Or.inr hj))⟩
theorem MT.cl : ∀ (l : List Nat) {X : Nat → Prop} {L : Nat → Nat}, MT X L → okl l X → MT (cX l X) (cL l L)
  | [], _, _, h, _ => h
  | i :: l, _, _, h, o => MT.cl l (h.ct o.1.1 o.1.2 (ab_ne i)) o.2
theorem cl_cong : ∀ (l : List Nat) {X : Nat → Prop} {L L' : Nat → Nat}, MT X L → okl l X → (∀ q, X q → L' q = L q) → (∀ q, cX l X q → cL l L' q = cL l L q) ∧ cC l L' = cC l L
  | [], _, _, _, _, _, e => ⟨e, rfl⟩
  | i :: l, X, L, L', h, o, e => by
    have h' : MT X L' := h.cong (fun _ => Iff.rfl) e
    have e2 : ∀ q, Em X (wa i) (wb i) q → ctr L' (wa i) (wb i) q = ctr L (wa i) (wb i) q := by
      rintro q ⟨z1, z2, z3⟩
      rw [ctr_at h o.1.1 o.1.2 (ab_ne i) z1 z2 z3, ctr_at h' o.1.1 o.1.2 (ab_ne i) z1 z2 z3, e q z1, e _ o.1.1, e _ o.1.2]
    obtain ⟨f1, f2⟩ := cl_cong l (h.ct o.1.1 o.1.2 (ab_ne i)) o.2 e2
    refine ⟨f1, ?_⟩
    show lp L' (wa i) (wb i) + cC l (ctr L' (wa i) (wb i)) = lp L (wa i) (wb i) + cC l (ctr L (wa i) (wb i))
    rw [f2]
    unfold lp
    rw [e _ o.1.1]
theorem okl_mem : ∀ (l : List Nat) {X : Nat → Prop}, okl l X → ∀ i, i ∈ l → X (wa i) ∧ X (wb i)
  | [], _, _, i, hi => absurd hi (List.not_mem_nil)
  | j :: l, X, o, i, hi => by
    rcases List.mem_cons.mp hi with z | z
    · rw [z]; exact o.1
    · have := okl_mem l o.2 i z
      exact ⟨this.1.1, this.2.1⟩
theorem okl_nodup : ∀ (l : List Nat) {X : Nat → Prop}, okl l X → l.Nodup
  | [], _, _ => List.nodup_nil
  | j :: l, X, o => by
    refine List.nodup_cons.mpr ⟨fun z => ?_, okl_nodup l o.2⟩
    exact (okl_mem l o.2 j z).1.2.1 rfl
theorem okl_of : ∀ (l : List Nat) {X : Nat → Prop}, l.Nodup → (∀ i, i ∈ l → X (wa i) ∧ X (wb i)) → okl l X
  | [], _, _, _ => trivial
  | j :: l, X, n, h => by
    obtain ⟨n1, n2⟩ := List.nodup_cons.mp n
    refine ⟨h j (List.mem_cons.mpr (Or.inl rfl)), okl_of l n2 (fun i hi => ?_)⟩
    have hh := h i (List.mem_cons.mpr (Or.inr hi))
    have : i ≠ j := fun e => n1 (e ▸ hi)
    unfold Em wa wb at *
    exact ⟨⟨hh.1, by omega, by omega⟩, hh.2, by omega, by omega⟩
theorem cl_perm {l1 l2 : List Nat} (p : List.Perm l1 l2) : ∀ {X : Nat → Prop} {L : Nat → Nat}, MT X L → okl l1 X → okl l2 X ∧ (∀ q, cX l1 X q → cX l2 X q ∧ cL l1 L q = cL l2 L q) ∧ cC l1 L = cC l2 L := by
  induction p with
  | nil => exact fun _ _ => ⟨trivial, fun q hq => ⟨hq, rfl⟩, rfl⟩
  | cons x p ih =>
    intro X L h o
    obtain ⟨a, b, c⟩ := ih (h.ct o.1.1 o.1.2 (ab_ne x)) o.2
    refine ⟨⟨o.1, a⟩, b, ?_⟩
    show lp L (wa x) (wb x) + _ = lp L (wa x) (wb x) + _
    rw [c]
  | swap x y l =>
    intro X L h o
    obtain ⟨⟨y1, y2⟩, ⟨⟨x1, x1a, x1b⟩, x2, x2a, x2b⟩, o3⟩ := o
    obtain ⟨s1, s2⟩ := ctr_swap h y1 y2 x1 x2 (ab_ne y) (Ne.symm x1a) (Ne.symm x2a) (Ne.symm x1b) (Ne.symm x2b) (ab_ne x)
    have e : Em (Em X (wa y) (wb y)) (wa x) (wb x) = Em (Em X (wa x) (wb x)) (wa y) (wb y) := by
      funext q
      refine propext ⟨?_, ?_⟩
      · rintro ⟨⟨z1, z2, z3⟩, z4, z5⟩; exact ⟨⟨z1, z4, z5⟩, z2, z3⟩
      · rintro ⟨⟨z1, z2, z3⟩, z4, z5⟩; exact ⟨⟨z1, z4, z5⟩, z2, z3⟩
    have m := (h.ct y1 y2 (ab_ne y)).ct ⟨x1, x1a, x1b⟩ ⟨x2, x2a, x2b⟩ (ab_ne x)
    obtain ⟨f1, f2⟩ := cl_cong l m o3 (fun q hq => (s1 q hq).symm)
    refine ⟨⟨⟨x1, x2⟩, ⟨⟨y1, Ne.symm x1a, Ne.symm x2a⟩, y2, Ne.symm x1b, Ne.symm x2b⟩, ?_⟩, fun q hq => ⟨?_, ?_⟩, ?_⟩
    · rw [← e]; exact o3
    · show cX l (Em (Em X (wa x) (wb x)) (wa y) (wb y)) q
      rw [← e]; exact hq
    · exact (f1 q hq).symm
    · show lp L (wa y) (wb y) + (lp (ctr L (wa y) (wb y)) (wa x) (wb x) + cC l _) = lp L (wa x) (wb x) + (lp (ctr L (wa x) (wb x)) (wa y) (wb y) + cC l _)
      rw [← Nat.add_assoc, ← Nat.add_assoc, s2, f2]
  | trans p1 p2 ih1 ih2 =>
    intro X L h o
    obtain ⟨a, b, c⟩ := ih1 h o
    obtain ⟨a', b', c'⟩ := ih2 h a
    refine ⟨a', fun q hq => ?_, c.trans c'⟩
    obtain ⟨g1, g2⟩ := b q hq
    obtain ⟨g3, g4⟩ := b' q g1
    exact ⟨g3, g2.trans g4⟩
theorem cL_app (i : Nat) : ∀ (l : List Nat) (L : Nat → Nat), cL (l ++ [i]) L = ctr (cL l L) (wa i) (wb i)
  | [], _ => rfl
  | j :: l, L => cL_app i l (ctr L (wa j) (wb j))
theorem cC_app (i : Nat) : ∀ (l : List Nat) (L : Nat → Nat), cC (l ++ [i]) L = cC l L + lp (cL l L) (wa i) (wb i)
  | [], L => by show lp L (wa i) (wb i) + 0 = 0 + _; rw [Nat.add_zero, Nat.zero_add]; rfl
  | j :: l, L => by
    show lp L (wa j) (wb j) + cC (l ++ [i]) _ = lp L (wa j) (wb j) + cC l _ + _
    rw [cC_app i l, Nat.add_assoc]
    rfl
theorem cX_app (i : Nat) : ∀ (l : List Nat) (X : Nat → Prop), cX (l ++ [i]) X = Em (cX l X) (wa i) (wb i)
  | [], _ => rfl
  | j :: l, X => cX_app i l (Em X (wa j) (wb j))
theorem okl_app (i : Nat) : ∀ (l : List Nat) {X : Nat → Prop}, okl l X → cX l X (wa i) → cX l X (wb i) → okl (l ++ [i]) X
  | [], _, _, h1, h2 => ⟨⟨h1, h2⟩, trivial⟩
  | j :: l, _, o, h1, h2 => ⟨o.1, okl_app i l o.2 h1 h2⟩
/-- all pairs taken out, in whatever order -/
theorem cl_all {nc : Nat} {l : List Nat} {X : Nat → Prop} {L : Nat → Nat} (h : MT X L) (o : okl l X) (hl : ∀ i, i ∈ l ↔ i < nc) : (∀ q, cX l X q → cL l L q = cL (List.range nc) L q) ∧ cC l L = cC (List.range nc) L := by
  have p : List.Perm l (List.range nc) := (List.perm_ext_iff_of_nodup (okl_nodup l o) List.nodup_range).mpr (fun a => by rw [hl a, List.mem_range])
  obtain ⟨a, b, c⟩ := cl_perm p h o
  exact ⟨fun q hq => (b q hq).2, c⟩
