-- what ties the reference's state M to the class's state (I, J, LP, P)
/-- an owner's number as the class keeps it: 0 .. 3 a transaction, 4 changes not flushed, 5 nobody -/
def own32 (n : Nat) : Int32 := if n = 5 then (-1) else nI n
/-- THE LOG: K tells the key of each place; the order is the how many-th of its key -/
def LogOK (K : Nat → Nat) (en fl : Nat) (m8 m9 m10 m11 : Nat → Int32) (j2 : Nat → Option Nat) (LP : List Nat) (P : St) : Prop :=
  fl ≤ en ∧ en ≤ 400 ∧
  (∀ p, p < en → K p < 6 ∧ m8 p = nI (K p) ∧ m10 p = nI (cnt K (K p) p + 1) ∧ (m11 p = 0 ∨ m11 p = 1) ∧ ∃ a, j2 p = some a ∧ a ∈ LP ∧ P a 0 = nI p ∧ P a 1 = nI (K p) ∧ P a 2 = m9 p ∧ P a 3 = nI (cnt K (K p) p + 1) ∧ P a 4 = m11 p) ∧
  (∀ p q, fl ≤ p → p < q → q < en → K p ≠ K q) ∧ (fl = 0 ∨ m11 (fl - 1) = 1) ∧ (en = 0 ∨ m11 (en - 1) = 1)
/-- THE SOURCE: ow tells each key's owner -/
def SrcOK (K ow : Nat → Nat) (en fl : Nat) (m0 m1 m2 m3 m4 i4 i5 i6 i7 i8 : Nat → Int32) : Prop :=
  (∀ t, t < 4 → i8 t = m0 t ∧ (m0 t = 0 ∨ m0 t = 1)) ∧
  (∀ k, k < 6 → i4 k = m3 k ∧ i5 k = nI (cnt K k fl) ∧ m4 k = nI (cnt K k fl)) ∧
  (∀ k, k < 6 → ow k ≤ 5 ∧ i6 k = own32 (ow k) ∧ (∀ t, t < 4 → m1 (6 * t + k) = if ow k = t then 1 else 0) ∧ (ow k < 4 → m0 (ow k) = 1 ∧ i7 k = m2 (6 * ow k + k)) ∧ (ow k = 4 ↔ uw K fl en k))
/-- the numbers of the log and of THE RELAY -/
def NumOK (en fl fi po ma : Nat) (M I : St) : Prop :=
  M 5 0 = nI en ∧ M 6 0 = nI fl ∧ M 7 0 = nI fi ∧ M 12 0 = nI po ∧ M 13 0 = nI ma ∧
  I 1 2 = nI en ∧ I 1 1 = nI fl ∧ I 1 0 = nI fi ∧ I 9 0 = nI po ∧ I 9 1 = nI ma ∧ fi ≤ ma ∧ ma ≤ po ∧ po ≤ fl
/-- a row of letters: n of them, at off .. in the reference's arrays, in the class's row j; LT tells their places -/
def RowOK (fl n : Nat) (LT : Nat → Nat) (off : Nat) (mAt mKey mOrd mVal m8 m9 m10 : Nat → Int32) (j j2 : Nat → Option Nat) : Prop :=
  ∀ i, i < n → LT i < fl ∧ mAt (off + i) = nI (LT i) ∧ mKey (off + i) = m8 (LT i) ∧ mOrd (off + i) = m10 (LT i) ∧ mVal (off + i) = m9 (LT i) ∧ j i = j2 (LT i)
def RelOK (fl : Nat) (sz : Nat → Nat) (LT : Nat → Nat → Nat) (M I : St) (J : Rf) : Prop :=
  ∀ n, n < 3 → sz n ≤ 40 ∧ M 14 n = nI (sz n) ∧ I (11 + n) 0 = nI (sz n) ∧ RowOK fl (sz n) (LT n) (40 * n) (M 15) (M 16) (M 17) (M 18) (M 8) (M 9) (M 10) (J (15 + n)) (J 2)
/-- the change at place p is done, where d tells how many of each key are -/
def dn (K : Nat → Nat) (d : Nat → Nat) (p : Nat) : Prop := cnt K (K p) p < d (K p)
/-- a state of THE TARGET -/
def TgOK (K : Nat → Nat) (fl : Nat) (d : Nat → Nat) (up : Nat) (mv md mh m9 iv id : Nat → Int32) (iu : Int32) : Prop :=
  (∀ k, k < 6 → md k = nI (d k) ∧ id k = nI (d k) ∧ iv k = mv k ∧ d k ≤ cnt K k fl ∧ ((d k = 0 ∧ mv k = 0) ∨ ∃ p, p < fl ∧ K p = k ∧ cnt K k p + 1 = d k ∧ m9 p = mv k)) ∧
  (∀ p, p < 400 → (p < fl ∧ dn K d p ∧ mh p = 1) ∨ (¬ (p < fl ∧ dn K d p) ∧ mh p = 0)) ∧
  iu = nI up ∧ up ≤ fl ∧ (∀ p, p < up → dn K d p) ∧ ¬ (up < fl ∧ dn K d up)
/-- what is HELD -/
def HeldOK (K : Nat → Nat) (fl hd : Nat) (d : Nat → Nat) (HT : Nat → Nat) (M I : St) (J : Rf) : Prop :=
  hd ≤ 8 ∧ M 25 0 = nI hd ∧ I 14 0 = nI hd ∧ RowOK fl hd HT 0 (M 29) (M 26) (M 27) (M 28) (M 8) (M 9) (M 10) (J 18) (J 2) ∧
  (∀ i, i < hd → d (K (HT i)) < cnt K (K (HT i)) (HT i)) ∧ ∀ i i', i < i' → i' < hd → HT i ≠ HT i'
def CtrOK (M I : St) : Prop := M 30 0 = I 9 2 ∧ M 31 0 = I 19 0 ∧ M 32 0 = I 19 1 ∧ M 33 0 = I 9 3 + I 19 2 ∧ M 34 0 = I 0 0
def Sim (K ow : Nat → Nat) (en fl fi po ma : Nat) (sz : Nat → Nat) (LT : Nat → Nat → Nat) (d dd : Nat → Nat) (up ud hd : Nat) (HT : Nat → Nat) (M I : St) (J : Rf) (LP : List Nat) (P : St) : Prop :=
  LogOK K en fl (M 8) (M 9) (M 10) (M 11) (J 2) LP P ∧ SrcOK K ow en fl (M 0) (M 1) (M 2) (M 3) (M 4) (I 4) (I 5) (I 6) (I 7) (I 8) ∧ NumOK en fl fi po ma M I ∧ RelOK fl sz LT M I J ∧
  TgOK K fl d up (M 19) (M 20) (M 21) (M 9) (I 22) (I 24) (I 20 0) ∧ TgOK K fl dd ud (M 22) (M 23) (M 24) (M 9) (I 23) (I 25) (I 21 0) ∧ HeldOK K fl hd d HT M I J ∧ CtrOK M I
def SimE (M I : St) (J : Rf) (LP : List Nat) (P : St) : Prop := ∃ K ow en fl fi po ma sz LT d dd up ud hd HT, Sim K ow en fl fi po ma sz LT d dd up ud hd HT M I J LP P
/-- the two answers are one, and the states still belong together -/
def Same (r : Int32) (I : St) (J : Rf) (LP : List Nat) (P : St) (r' : Int32) (M : St) : Prop := r = r' ∧ SimE M I J LP P
