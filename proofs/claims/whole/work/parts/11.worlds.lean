/-! worlds: the cells of each object, from a plain state -/
abbrev OSt : Type := (Nat → Int32) × (Nat → Nat → Int32)
abbrev PSt : Type := (Nat → Int64) × (Nat → Int64)
abbrev NSt : Type := Nat × (Nat → Int32) × (Nat → Nat → Int32) × PSt × PSt
def nl (s : NSt) : Nat := s.1
def ni (s : NSt) (k : Nat) : Int32 := s.2.1 k
def na (s : NSt) (k : Nat) : Nat → Int32 := s.2.2.1 k
def np (s : NSt) : PSt := s.2.2.2.1
def nh (s : NSt) : PSt := s.2.2.2.2
def nsI (s : NSt) (k : Nat) (v : Int32) : NSt := (s.1, upd s.2.1 k v, s.2.2)
def nsA (s : NSt) (k : Nat) (f : Nat → Int32) : NSt := (s.1, s.2.1, vf_upd s.2.2.1 k f, s.2.2.2)
def nsP (s : NSt) (p : PSt) : NSt := (s.1, s.2.1, s.2.2.1, p, s.2.2.2.2)
def nsH (s : NSt) (p : PSt) : NSt := (s.1, s.2.1, s.2.2.1, s.2.2.2.1, p)
def wA (G : Gx) (a n : Nat) (f : Nat → Int32) : va_W := [(a, .inl (G.2.1 0, n, .inl f))]
def wL (G : Gx) (a n : Nat) (f : Nat → Int64) : va_W := [(a, .inl (G.2.1 1, n, .inr (.inl f)))]
def fM (q : Nat → Nat) (s : OSt) : List Value := [.int (s.1 0), .ref (q 1), .ref (q 2), .int (s.1 3), .int (s.1 4), .int (s.1 5), .int (s.1 6), .int (s.1 7), .int (s.1 8), .int (s.1 9), .int (s.1 10), .int (s.1 11), .ref (q 12), .ref (q 13), .ref (q 14), .int (s.1 15), .int (s.1 16), .ref (q 17), .ref (q 18), .ref (q 19), .ref (q 20), .ref (q 21), .ref (q 22), .ref (q 23), .int (s.1 24), .int (s.1 25), .int (s.1 26), .ref (q 27), .int (s.1 28), .ref (q 29), .ref (q 30), .ref (q 31), .int (s.1 32), .ref (q 33), .ref (q 34), .int (s.1 35), .ref (q 36), .int (s.1 37), .ref (q 38), .ref (q 39), .ref (q 40), .ref (q 41)]
def wM (G : Gx) (q : Nat → Nat) (s : OSt) : va_W := [(q 42, .inr (5, fM q s)), (q 1, .inl (G.2.1 0, 1646, .inl (s.2 1))), (q 2, .inl (G.2.1 3, 500, .inl (s.2 2))), (q 12, .inl (G.2.1 0, 250, .inl (s.2 12))), (q 13, .inl (G.2.1 0, 250, .inl (s.2 13))), (q 14, .inl (G.2.1 0, 500, .inl (s.2 14))), (q 17, .inl (G.2.1 0, 10, .inl (s.2 17))), (q 18, .inl (G.2.1 2, 500, .inl (s.2 18))), (q 19, .inl (G.2.1 0, 1646, .inl (s.2 19))), (q 20, .inl (G.2.1 0, 4, .inl (s.2 20))), (q 21, .inl (G.2.1 0, 4, .inl (s.2 21))), (q 22, .inl (G.2.1 0, 4, .inl (s.2 22))), (q 23, .inl (G.2.1 2, 4, .inl (s.2 23))), (q 27, .inl (G.2.1 0, 150, .inl (s.2 27))), (q 29, .inl (G.2.1 0, 300, .inl (s.2 29))), (q 30, .inl (G.2.1 0, 300, .inl (s.2 30))), (q 31, .inl (G.2.1 0, 300, .inl (s.2 31))), (q 33, .inl (G.2.1 0, 1400, .inl (s.2 33))), (q 34, .inl (G.2.1 0, 1000, .inl (s.2 34))), (q 36, .inl (G.2.1 0, 1400, .inl (s.2 36))), (q 38, .inl (G.2.1 0, 19752, .inl (s.2 38))), (q 39, .inl (G.2.1 0, 1646, .inl (s.2 39))), (q 40, .inl (G.2.1 2, 2, .inl (s.2 40))), (q 41, .inl (G.2.1 0, 3292, .inl (s.2 41)))]
theorem wM_o {G : Gx} {q : Nat → Nat} {s : OSt} : (wM G q s)[0]? = some (q 42, .inr (5, fM q s)) := rfl
theorem wM_sI_0 {G : Gx} {q : Nat → Nat} {s : OSt} {v : Int32} : (wM G q s).set 0 (q 42, .inr (5, (fM q s).set 0 (.int v))) = wM G q (sI s 0 v) := rfl
theorem wM_a_1 {G : Gx} {q : Nat → Nat} {s : OSt} : (wM G q s)[1]? = some (q 1, .inl (G.2.1 0, 1646, .inl (s.2 1))) := rfl
theorem wM_sA_1 {G : Gx} {q : Nat → Nat} {s : OSt} {f : Nat → Int32} : (wM G q s).set 1 (q 1, .inl (G.2.1 0, 1646, .inl f)) = wM G q (sA s 1 f) := rfl
theorem wM_a_2 {G : Gx} {q : Nat → Nat} {s : OSt} : (wM G q s)[2]? = some (q 2, .inl (G.2.1 3, 500, .inl (s.2 2))) := rfl
theorem wM_sA_2 {G : Gx} {q : Nat → Nat} {s : OSt} {f : Nat → Int32} : (wM G q s).set 2 (q 2, .inl (G.2.1 3, 500, .inl f)) = wM G q (sA s 2 f) := rfl
theorem wM_sI_3 {G : Gx} {q : Nat → Nat} {s : OSt} {v : Int32} : (wM G q s).set 0 (q 42, .inr (5, (fM q s).set 3 (.int v))) = wM G q (sI s 3 v) := rfl
theorem wM_sI_4 {G : Gx} {q : Nat → Nat} {s : OSt} {v : Int32} : (wM G q s).set 0 (q 42, .inr (5, (fM q s).set 4 (.int v))) = wM G q (sI s 4 v) := rfl
theorem wM_sI_5 {G : Gx} {q : Nat → Nat} {s : OSt} {v : Int32} : (wM G q s).set 0 (q 42, .inr (5, (fM q s).set 5 (.int v))) = wM G q (sI s 5 v) := rfl
theorem wM_sI_6 {G : Gx} {q : Nat → Nat} {s : OSt} {v : Int32} : (wM G q s).set 0 (q 42, .inr (5, (fM q s).set 6 (.int v))) = wM G q (sI s 6 v) := rfl
theorem wM_sI_7 {G : Gx} {q : Nat → Nat} {s : OSt} {v : Int32} : (wM G q s).set 0 (q 42, .inr (5, (fM q s).set 7 (.int v))) = wM G q (sI s 7 v) := rfl
theorem wM_sI_8 {G : Gx} {q : Nat → Nat} {s : OSt} {v : Int32} : (wM G q s).set 0 (q 42, .inr (5, (fM q s).set 8 (.int v))) = wM G q (sI s 8 v) := rfl
theorem wM_sI_9 {G : Gx} {q : Nat → Nat} {s : OSt} {v : Int32} : (wM G q s).set 0 (q 42, .inr (5, (fM q s).set 9 (.int v))) = wM G q (sI s 9 v) := rfl
theorem wM_sI_10 {G : Gx} {q : Nat → Nat} {s : OSt} {v : Int32} : (wM G q s).set 0 (q 42, .inr (5, (fM q s).set 10 (.int v))) = wM G q (sI s 10 v) := rfl
theorem wM_sI_11 {G : Gx} {q : Nat → Nat} {s : OSt} {v : Int32} : (wM G q s).set 0 (q 42, .inr (5, (fM q s).set 11 (.int v))) = wM G q (sI s 11 v) := rfl
theorem wM_a_12 {G : Gx} {q : Nat → Nat} {s : OSt} : (wM G q s)[3]? = some (q 12, .inl (G.2.1 0, 250, .inl (s.2 12))) := rfl
theorem wM_sA_12 {G : Gx} {q : Nat → Nat} {s : OSt} {f : Nat → Int32} : (wM G q s).set 3 (q 12, .inl (G.2.1 0, 250, .inl f)) = wM G q (sA s 12 f) := rfl
theorem wM_a_13 {G : Gx} {q : Nat → Nat} {s : OSt} : (wM G q s)[4]? = some (q 13, .inl (G.2.1 0, 250, .inl (s.2 13))) := rfl
theorem wM_sA_13 {G : Gx} {q : Nat → Nat} {s : OSt} {f : Nat → Int32} : (wM G q s).set 4 (q 13, .inl (G.2.1 0, 250, .inl f)) = wM G q (sA s 13 f) := rfl
theorem wM_a_14 {G : Gx} {q : Nat → Nat} {s : OSt} : (wM G q s)[5]? = some (q 14, .inl (G.2.1 0, 500, .inl (s.2 14))) := rfl
theorem wM_sA_14 {G : Gx} {q : Nat → Nat} {s : OSt} {f : Nat → Int32} : (wM G q s).set 5 (q 14, .inl (G.2.1 0, 500, .inl f)) = wM G q (sA s 14 f) := rfl
theorem wM_sI_15 {G : Gx} {q : Nat → Nat} {s : OSt} {v : Int32} : (wM G q s).set 0 (q 42, .inr (5, (fM q s).set 15 (.int v))) = wM G q (sI s 15 v) := rfl
theorem wM_sI_16 {G : Gx} {q : Nat → Nat} {s : OSt} {v : Int32} : (wM G q s).set 0 (q 42, .inr (5, (fM q s).set 16 (.int v))) = wM G q (sI s 16 v) := rfl
theorem wM_a_17 {G : Gx} {q : Nat → Nat} {s : OSt} : (wM G q s)[6]? = some (q 17, .inl (G.2.1 0, 10, .inl (s.2 17))) := rfl
theorem wM_sA_17 {G : Gx} {q : Nat → Nat} {s : OSt} {f : Nat → Int32} : (wM G q s).set 6 (q 17, .inl (G.2.1 0, 10, .inl f)) = wM G q (sA s 17 f) := rfl
theorem wM_a_18 {G : Gx} {q : Nat → Nat} {s : OSt} : (wM G q s)[7]? = some (q 18, .inl (G.2.1 2, 500, .inl (s.2 18))) := rfl
theorem wM_sA_18 {G : Gx} {q : Nat → Nat} {s : OSt} {f : Nat → Int32} : (wM G q s).set 7 (q 18, .inl (G.2.1 2, 500, .inl f)) = wM G q (sA s 18 f) := rfl
theorem wM_a_19 {G : Gx} {q : Nat → Nat} {s : OSt} : (wM G q s)[8]? = some (q 19, .inl (G.2.1 0, 1646, .inl (s.2 19))) := rfl
theorem wM_sA_19 {G : Gx} {q : Nat → Nat} {s : OSt} {f : Nat → Int32} : (wM G q s).set 8 (q 19, .inl (G.2.1 0, 1646, .inl f)) = wM G q (sA s 19 f) := rfl
theorem wM_a_20 {G : Gx} {q : Nat → Nat} {s : OSt} : (wM G q s)[9]? = some (q 20, .inl (G.2.1 0, 4, .inl (s.2 20))) := rfl
theorem wM_sA_20 {G : Gx} {q : Nat → Nat} {s : OSt} {f : Nat → Int32} : (wM G q s).set 9 (q 20, .inl (G.2.1 0, 4, .inl f)) = wM G q (sA s 20 f) := rfl
theorem wM_a_21 {G : Gx} {q : Nat → Nat} {s : OSt} : (wM G q s)[10]? = some (q 21, .inl (G.2.1 0, 4, .inl (s.2 21))) := rfl
theorem wM_sA_21 {G : Gx} {q : Nat → Nat} {s : OSt} {f : Nat → Int32} : (wM G q s).set 10 (q 21, .inl (G.2.1 0, 4, .inl f)) = wM G q (sA s 21 f) := rfl
theorem wM_a_22 {G : Gx} {q : Nat → Nat} {s : OSt} : (wM G q s)[11]? = some (q 22, .inl (G.2.1 0, 4, .inl (s.2 22))) := rfl
theorem wM_sA_22 {G : Gx} {q : Nat → Nat} {s : OSt} {f : Nat → Int32} : (wM G q s).set 11 (q 22, .inl (G.2.1 0, 4, .inl f)) = wM G q (sA s 22 f) := rfl
theorem wM_a_23 {G : Gx} {q : Nat → Nat} {s : OSt} : (wM G q s)[12]? = some (q 23, .inl (G.2.1 2, 4, .inl (s.2 23))) := rfl
theorem wM_sA_23 {G : Gx} {q : Nat → Nat} {s : OSt} {f : Nat → Int32} : (wM G q s).set 12 (q 23, .inl (G.2.1 2, 4, .inl f)) = wM G q (sA s 23 f) := rfl
theorem wM_sI_24 {G : Gx} {q : Nat → Nat} {s : OSt} {v : Int32} : (wM G q s).set 0 (q 42, .inr (5, (fM q s).set 24 (.int v))) = wM G q (sI s 24 v) := rfl
theorem wM_sI_25 {G : Gx} {q : Nat → Nat} {s : OSt} {v : Int32} : (wM G q s).set 0 (q 42, .inr (5, (fM q s).set 25 (.int v))) = wM G q (sI s 25 v) := rfl
theorem wM_sI_26 {G : Gx} {q : Nat → Nat} {s : OSt} {v : Int32} : (wM G q s).set 0 (q 42, .inr (5, (fM q s).set 26 (.int v))) = wM G q (sI s 26 v) := rfl
theorem wM_a_27 {G : Gx} {q : Nat → Nat} {s : OSt} : (wM G q s)[13]? = some (q 27, .inl (G.2.1 0, 150, .inl (s.2 27))) := rfl
theorem wM_sA_27 {G : Gx} {q : Nat → Nat} {s : OSt} {f : Nat → Int32} : (wM G q s).set 13 (q 27, .inl (G.2.1 0, 150, .inl f)) = wM G q (sA s 27 f) := rfl
theorem wM_sI_28 {G : Gx} {q : Nat → Nat} {s : OSt} {v : Int32} : (wM G q s).set 0 (q 42, .inr (5, (fM q s).set 28 (.int v))) = wM G q (sI s 28 v) := rfl
theorem wM_a_29 {G : Gx} {q : Nat → Nat} {s : OSt} : (wM G q s)[14]? = some (q 29, .inl (G.2.1 0, 300, .inl (s.2 29))) := rfl
theorem wM_sA_29 {G : Gx} {q : Nat → Nat} {s : OSt} {f : Nat → Int32} : (wM G q s).set 14 (q 29, .inl (G.2.1 0, 300, .inl f)) = wM G q (sA s 29 f) := rfl
theorem wM_a_30 {G : Gx} {q : Nat → Nat} {s : OSt} : (wM G q s)[15]? = some (q 30, .inl (G.2.1 0, 300, .inl (s.2 30))) := rfl
theorem wM_sA_30 {G : Gx} {q : Nat → Nat} {s : OSt} {f : Nat → Int32} : (wM G q s).set 15 (q 30, .inl (G.2.1 0, 300, .inl f)) = wM G q (sA s 30 f) := rfl
theorem wM_a_31 {G : Gx} {q : Nat → Nat} {s : OSt} : (wM G q s)[16]? = some (q 31, .inl (G.2.1 0, 300, .inl (s.2 31))) := rfl
theorem wM_sA_31 {G : Gx} {q : Nat → Nat} {s : OSt} {f : Nat → Int32} : (wM G q s).set 16 (q 31, .inl (G.2.1 0, 300, .inl f)) = wM G q (sA s 31 f) := rfl
theorem wM_sI_32 {G : Gx} {q : Nat → Nat} {s : OSt} {v : Int32} : (wM G q s).set 0 (q 42, .inr (5, (fM q s).set 32 (.int v))) = wM G q (sI s 32 v) := rfl
theorem wM_a_33 {G : Gx} {q : Nat → Nat} {s : OSt} : (wM G q s)[17]? = some (q 33, .inl (G.2.1 0, 1400, .inl (s.2 33))) := rfl
theorem wM_sA_33 {G : Gx} {q : Nat → Nat} {s : OSt} {f : Nat → Int32} : (wM G q s).set 17 (q 33, .inl (G.2.1 0, 1400, .inl f)) = wM G q (sA s 33 f) := rfl
theorem wM_a_34 {G : Gx} {q : Nat → Nat} {s : OSt} : (wM G q s)[18]? = some (q 34, .inl (G.2.1 0, 1000, .inl (s.2 34))) := rfl
theorem wM_sA_34 {G : Gx} {q : Nat → Nat} {s : OSt} {f : Nat → Int32} : (wM G q s).set 18 (q 34, .inl (G.2.1 0, 1000, .inl f)) = wM G q (sA s 34 f) := rfl
theorem wM_sI_35 {G : Gx} {q : Nat → Nat} {s : OSt} {v : Int32} : (wM G q s).set 0 (q 42, .inr (5, (fM q s).set 35 (.int v))) = wM G q (sI s 35 v) := rfl
theorem wM_a_36 {G : Gx} {q : Nat → Nat} {s : OSt} : (wM G q s)[19]? = some (q 36, .inl (G.2.1 0, 1400, .inl (s.2 36))) := rfl
theorem wM_sA_36 {G : Gx} {q : Nat → Nat} {s : OSt} {f : Nat → Int32} : (wM G q s).set 19 (q 36, .inl (G.2.1 0, 1400, .inl f)) = wM G q (sA s 36 f) := rfl
theorem wM_sI_37 {G : Gx} {q : Nat → Nat} {s : OSt} {v : Int32} : (wM G q s).set 0 (q 42, .inr (5, (fM q s).set 37 (.int v))) = wM G q (sI s 37 v) := rfl
theorem wM_a_38 {G : Gx} {q : Nat → Nat} {s : OSt} : (wM G q s)[20]? = some (q 38, .inl (G.2.1 0, 19752, .inl (s.2 38))) := rfl
theorem wM_sA_38 {G : Gx} {q : Nat → Nat} {s : OSt} {f : Nat → Int32} : (wM G q s).set 20 (q 38, .inl (G.2.1 0, 19752, .inl f)) = wM G q (sA s 38 f) := rfl
theorem wM_a_39 {G : Gx} {q : Nat → Nat} {s : OSt} : (wM G q s)[21]? = some (q 39, .inl (G.2.1 0, 1646, .inl (s.2 39))) := rfl
theorem wM_sA_39 {G : Gx} {q : Nat → Nat} {s : OSt} {f : Nat → Int32} : (wM G q s).set 21 (q 39, .inl (G.2.1 0, 1646, .inl f)) = wM G q (sA s 39 f) := rfl
theorem wM_a_40 {G : Gx} {q : Nat → Nat} {s : OSt} : (wM G q s)[22]? = some (q 40, .inl (G.2.1 2, 2, .inl (s.2 40))) := rfl
theorem wM_sA_40 {G : Gx} {q : Nat → Nat} {s : OSt} {f : Nat → Int32} : (wM G q s).set 22 (q 40, .inl (G.2.1 2, 2, .inl f)) = wM G q (sA s 40 f) := rfl
theorem wM_a_41 {G : Gx} {q : Nat → Nat} {s : OSt} : (wM G q s)[23]? = some (q 41, .inl (G.2.1 0, 3292, .inl (s.2 41))) := rfl
theorem wM_sA_41 {G : Gx} {q : Nat → Nat} {s : OSt} {f : Nat → Int32} : (wM G q s).set 23 (q 41, .inl (G.2.1 0, 3292, .inl f)) = wM G q (sA s 41 f) := rfl
theorem dd_M {A : Nat → Prop} {G : Gx} {q : Nat → Nat} {s t : OSt} (h : va_D A (wM G q s)) : va_D A (wM G q t) := h.ad rfl
def wP (G : Gx) (q : Nat → Nat) (s : PSt) : va_W := [(q 2, .inr (1, [.ref (q 0), .ref (q 1)])), (q 0, .inl (G.2.1 1, 5, .inr (.inl s.1))), (q 1, .inl (G.2.1 1, 5, .inr (.inl s.2)))]
def qPp (q : Nat → Nat) (k : Nat) : Nat := q (16 + k)
def qPh (q : Nat → Nat) (k : Nat) : Nat := q (19 + k)
def wNo (G : Gx) (q : Nat → Nat) (s : NSt) : va_W := [(q 15, .inr (0, [.ref (q 0), .ref (q 1), .ref (q 2), .ref (q 3), .ref (q 18), .ref (q 21), .int (ni s 6), .int (ni s 7), .int (ni s 8), .int (ni s 9), .int (ni s 10), .int (ni s 11), .int (ni s 12), .int (ni s 13), .int (ni s 14)])), (q 0, .inl (G.2.1 0, 300, .inl (na s 0))), (q 1, .inl (G.2.1 0, nl s, .inl (na s 1))), (q 2, .inl (G.2.1 0, 300, .inl (na s 2))), (q 3, .inl (G.2.1 0, 6, .inl (na s 3)))]
def wN (G : Gx) (q : Nat → Nat) (s : NSt) : va_W := wNo G q s ++ (wP G (qPp q) (np s) ++ wP G (qPh q) (nh s))
def wS (G : Gx) (q : Nat → Nat) (s : OSt) : va_W := [(q 8, .inr (2, [.ref (q 0), .ref (q 1), .ref (q 2), .int (s.1 3), .ref (q 4), .int (s.1 5), .ref (q 6), .int (s.1 7)])), (q 0, .inl (G.2.1 0, 300, .inl (s.2 0))), (q 1, .inl (G.2.1 0, 300, .inl (s.2 1))), (q 2, .inl (G.2.1 0, 300, .inl (s.2 2))), (q 4, .inl (G.2.1 0, 632, .inl (s.2 4))), (q 6, .inl (G.2.1 0, 601, .inl (s.2 6)))]
def wT (G : Gx) (q : Nat → Nat) (b n : Nat) (s : OSt) : va_W := [(q 14, .inr (3, [.ref n, .ref b, .int (s.1 2), .int (s.1 3), .int (s.1 4), .int (s.1 5), .int (s.1 6), .int (s.1 7), .ref (q 8), .ref (q 9), .ref (q 10), .int (s.1 11), .int (s.1 12), .ref (q 13)])), (q 8, .inl (G.2.1 0, 250, .inl (s.2 8))), (q 9, .inl (G.2.1 0, 250, .inl (s.2 9))), (q 10, .inl (G.2.1 0, 250, .inl (s.2 10))), (q 13, .inl (G.2.1 0, 10, .inl (s.2 13)))]
theorem dd_A {A : Nat → Prop} {G : Gx} {a n : Nat} {f g : Nat → Int32} (h : va_D A (wA G a n f)) : va_D A (wA G a n g) := h.ad rfl
theorem dd_L {A : Nat → Prop} {G : Gx} {a n : Nat} {f g : Nat → Int64} (h : va_D A (wL G a n f)) : va_D A (wL G a n g) := h.ad rfl
theorem dd_AA {A : Nat → Prop} {G : Gx} {a n a2 n2 : Nat} {f g f2 g2 : Nat → Int32} (h : va_D A (wA G a n f ++ wA G a2 n2 f2)) : va_D A (wA G a n g ++ wA G a2 n2 g2) := h.ad rfl
theorem dd_P {A : Nat → Prop} {G : Gx} {q : Nat → Nat} {s t : PSt} (h : va_D A (wP G q s)) : va_D A (wP G q t) := h.ad rfl
theorem dd_PP {A : Nat → Prop} {G : Gx} {q q2 : Nat → Nat} {s t s2 t2 : PSt} (h : va_D A (wP G q s ++ wP G q2 s2)) : va_D A (wP G q t ++ wP G q2 t2) := h.ad rfl
theorem dd_N {A : Nat → Prop} {G : Gx} {q : Nat → Nat} {s t : NSt} (h : va_D A (wN G q s)) : va_D A (wN G q t) := h.ad rfl
theorem dd_NN {A : Nat → Prop} {G : Gx} {q q2 : Nat → Nat} {s t s2 t2 : NSt} (h : va_D A (wN G q s ++ wN G q2 s2)) : va_D A (wN G q t ++ wN G q2 t2) := h.ad rfl
theorem dd_NA {A : Nat → Prop} {G : Gx} {q : Nat → Nat} {s t : NSt} {a n : Nat} {f g : Nat → Int32} (h : va_D A (wN G q s ++ wA G a n f)) : va_D A (wN G q t ++ wA G a n g) := h.ad rfl
theorem dd_S {A : Nat → Prop} {G : Gx} {q : Nat → Nat} {s t : OSt} (h : va_D A (wS G q s)) : va_D A (wS G q t) := h.ad rfl
theorem dd_SS {A : Nat → Prop} {G : Gx} {q q2 : Nat → Nat} {s t s2 t2 : OSt} (h : va_D A (wS G q s ++ wS G q2 s2)) : va_D A (wS G q t ++ wS G q2 t2) := h.ad rfl
theorem dd_SN {A : Nat → Prop} {G : Gx} {q q2 : Nat → Nat} {s t : OSt} {s2 t2 : NSt} (h : va_D A (wS G q s ++ wN G q2 s2)) : va_D A (wS G q t ++ wN G q2 t2) := h.ad rfl
theorem dd_TAN {A : Nat → Prop} {G : Gx} {q q2 : Nat → Nat} {b m a n : Nat} {s t : OSt} {f g : Nat → Int32} {b' : Nat} {s2 t2 : NSt} (h : va_D A (wT G q b m s ++ (wA G a n f ++ wN G q2 s2))) : va_D A (wT G q b' m t ++ (wA G a n g ++ wN G q2 t2)) := h.ad rfl
theorem pm_mid {a b c : va_W} : (a ++ (b ++ c)).Perm ((a ++ c) ++ b) := by
  rw [List.append_assoc]
  exact List.Perm.append_left a List.perm_append_comm
theorem pm_mid' {a b c : va_W} : ((a ++ c) ++ b).Perm (a ++ (b ++ c)) := pm_mid.symm
theorem pm_abc {a b c : va_W} : (a ++ (b ++ c)).Perm ((a ++ b) ++ c) := by rw [List.append_assoc]
theorem pm_abc2 {a b c : va_W} : ((a ++ b) ++ c).Perm (a ++ (b ++ c)) := by rw [List.append_assoc]
theorem pm_NP1 {G : Gx} {q : Nat → Nat} {s : NSt} : (wN G q s).Perm ((wNo G q s ++ wP G (qPh q) (nh s)) ++ wP G (qPp q) (np s)) := pm_mid
theorem pm_NP1' {G : Gx} {q : Nat → Nat} {s : NSt} {t : PSt} : ((wNo G q s ++ wP G (qPh q) (nh s)) ++ wP G (qPp q) t).Perm (wN G q (nsP s t)) := pm_mid'
theorem pm_NP2 {G : Gx} {q : Nat → Nat} {s : NSt} : (wN G q s).Perm ((wNo G q s ++ wP G (qPp q) (np s)) ++ wP G (qPh q) (nh s)) := pm_abc
theorem pm_NP2' {G : Gx} {q : Nat → Nat} {s : NSt} {t : PSt} : ((wNo G q s ++ wP G (qPp q) (np s)) ++ wP G (qPh q) t).Perm (wN G q (nsH s t)) := pm_abc2
theorem pm_NPP {G : Gx} {q : Nat → Nat} {s : NSt} : (wN G q s).Perm (wNo G q s ++ (wP G (qPh q) (nh s) ++ wP G (qPp q) (np s))) := List.Perm.append_left _ List.perm_append_comm
theorem pm_NPP' {G : Gx} {q : Nat → Nat} {s : NSt} {t : PSt} : (wNo G q s ++ (wP G (qPh q) t ++ wP G (qPp q) (np s))).Perm (wN G q (nsH s t)) := List.Perm.append_left _ List.perm_append_comm
theorem pm_at {w : va_W} : ∀ {p : Nat} {x : Nat × va_E}, w[p]? = some x → w.Perm (w.eraseIdx p ++ [x]) := by
  induction w with
  | nil => intro p x h; simp at h
  | cons a w ih =>
    intro p x h
    cases p with
    | zero =>
      simp at h
      subst h
      exact List.perm_append_comm (l₁ := [a])
    | succ p => exact (ih (by simpa using h)).cons a
theorem pm_at' {w w' : va_W} {p : Nat} {x : Nat × va_E} (h : w'[p]? = some x) (e : w.eraseIdx p = w'.eraseIdx p) : (w.eraseIdx p ++ [x]).Perm w' := by
  rw [e]
  exact (pm_at h).symm
theorem pm_M2 {w : va_W} {i j : Nat} {x y : Nat × va_E} (hi : w[i]? = some x) (hj : w[j]? = some y) (hne : i ≠ j) : w.Perm ((w.eraseIdx (max i j)).eraseIdx (min i j) ++ [x, y]) := by
  have key : ∀ {i j : Nat} {x y : Nat × va_E}, w[i]? = some x → w[j]? = some y → i < j → w.Perm ((w.eraseIdx j).eraseIdx i ++ [x, y]) := by
    intro i j x y hi hj hlt
    refine (pm_at hj).trans ?_
    have h1 : (w.eraseIdx j)[i]? = some x := by rw [List.getElem?_eraseIdx_of_lt hlt]; exact hi
    have h2 := (pm_at h1).append_right [y]
    rw [List.append_assoc] at h2
    exact h2
  rcases Nat.lt_or_gt_of_ne hne with h | h
  · rw [Nat.max_eq_right (Nat.le_of_lt h), Nat.min_eq_left (Nat.le_of_lt h)]
    exact key hi hj h
  · rw [Nat.max_eq_left (Nat.le_of_lt h), Nat.min_eq_right (Nat.le_of_lt h)]
    exact (key hj hi h).trans (List.Perm.append_left _ (List.Perm.swap _ _ _))
theorem pm_M2' {w w' : va_W} {i j : Nat} {x y : Nat × va_E} (hi : w'[i]? = some x) (hj : w'[j]? = some y) (hne : i ≠ j) (e : (w.eraseIdx (max i j)).eraseIdx (min i j) = (w'.eraseIdx (max i j)).eraseIdx (min i j)) : ((w.eraseIdx (max i j)).eraseIdx (min i j) ++ [x, y]).Perm w' := by
  rw [e]
  exact (pm_M2 hi hj hne).symm
theorem pm_4 {x b y d : va_W} : ((x ++ b) ++ (y ++ d)).Perm ((x ++ y) ++ (b ++ d)) := by
  rw [List.append_assoc, List.append_assoc]
  refine List.Perm.append_left x ?_
  rw [← List.append_assoc, ← List.append_assoc]
  exact List.Perm.append_right d List.perm_append_comm
theorem pm_NNPP {G : Gx} {q q2 : Nat → Nat} {s s2 : NSt} : (wN G q s ++ wN G q2 s2).Perm (((wNo G q s ++ wP G (qPh q) (nh s)) ++ (wNo G q2 s2 ++ wP G (qPh q2) (nh s2))) ++ (wP G (qPp q) (np s) ++ wP G (qPp q2) (np s2))) := (pm_NP1.append pm_NP1).trans pm_4
theorem pm_NNPP' {G : Gx} {q q2 : Nat → Nat} {s s2 : NSt} {t : PSt} : (((wNo G q s ++ wP G (qPh q) (nh s)) ++ (wNo G q2 s2 ++ wP G (qPh q2) (nh s2))) ++ (wP G (qPp q) t ++ wP G (qPp q2) (np s2))).Perm (wN G q (nsP s t) ++ wN G q2 s2) := (pm_4.symm).trans (pm_NP1'.append (pm_NP1 (s := s2)).symm)
def wTo (G : Gx) (q : Nat → Nat) (b n : Nat) (s : OSt) : va_W := [(q 14, .inr (3, [.ref n, .ref b, .int (s.1 2), .int (s.1 3), .int (s.1 4), .int (s.1 5), .int (s.1 6), .int (s.1 7), .ref (q 8), .ref (q 9), .ref (q 10), .int (s.1 11), .int (s.1 12), .ref (q 13)])), (q 8, .inl (G.2.1 0, 250, .inl (s.2 8))), (q 9, .inl (G.2.1 0, 250, .inl (s.2 9))), (q 10, .inl (G.2.1 0, 250, .inl (s.2 10)))]
theorem pm_TL {G : Gx} {q q2 : Nat → Nat} {b m a n : Nat} {s : OSt} {f : Nat → Int32} {s2 : NSt} : (wT G q b m s ++ (wA G a n f ++ wN G q2 s2)).Perm ((wTo G q b m s ++ wA G a n f) ++ (wN G q2 s2 ++ wA G (q 13) 10 (s.2 13))) :=
  (pm_4 (x := wTo G q b m s) (b := wA G (q 13) 10 (s.2 13))).trans (List.Perm.append_left _ List.perm_append_comm)
theorem pm_TL2 {G : Gx} {q q2 : Nat → Nat} {b m a n : Nat} {s : OSt} {f : Nat → Int32} {s2 : NSt} : ((wTo G q b m s ++ wA G a n f) ++ (wN G q2 s2 ++ wA G (q 13) 10 (s.2 13))).Perm (wT G q b m s ++ (wA G a n f ++ wN G q2 s2)) := pm_TL.symm
