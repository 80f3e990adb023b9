abbrev St : Type := Nat → Nat → Int32
abbrev Rf : Type := Nat → Nat → Option Nat
abbrev CS : Type := St × Rf × List Nat × St
def st (I : St) (c k : Nat) (v : Int32) : St := va_up I c (upd (I c) k v)
def stJ (J : Rf) (c k : Nat) (r : Option Nat) : Rf := va_up J c (va_up (J c) k r)
abbrev wT (cy : Nat → ClassId) : List (ClassId × FieldType) := [(cy 0, .int), (cy 1, .boolean), (cy 2, .object RX0), (cy 3, .object RX3)]
def nestF : List (String × Nat × String × String × String × String) := [(RX7, 197, "OutboxHouse$ChangeLog", "first", "I", "OutboxHouse"), (RX4, 48, "OutboxHouse$ChangeLog", "flushed", "I", "OutboxHouse"), (RX7, 191, "OutboxHouse$ChangeLog", "flushed", "I", "OutboxHouse"), (RX4, 67, "OutboxHouse$ChangeLog", "end", "I", "OutboxHouse"), (RX7, 188, "OutboxHouse$ChangeLog", "end", "I", "OutboxHouse"), (RX7, 85, "OutboxHouse$Source", "values", "[I", "OutboxHouse"), (RX7, 89, "OutboxHouse$Source", "counts", "[I", "OutboxHouse"), (RX2, 72, "OutboxHouse$Row", "size", "I", "OutboxHouse"), (RX7, 213, "OutboxHouse$Row", "size", "I", "OutboxHouse"), (RX7, 221, "OutboxHouse$Relay", "lanes", "[LOutboxHouse$Row;", "OutboxHouse"), (RX7, 194, "OutboxHouse$Relay", "position", "I", "OutboxHouse"), (RX7, 136, "OutboxHouse$Relay", "mark", "I", "OutboxHouse"), (RX7, 203, "OutboxHouse$Relay", "sentEver", "I", "OutboxHouse"), (RX7, 153, "OutboxHouse$Relay", "lostUnderWay", "I", "OutboxHouse"), (RX7, 99, "OutboxHouse$TargetState", "values", "[I", "OutboxHouse"), (RX5, 54, "OutboxHouse$TargetState", "done", "[I", "OutboxHouse"), (RX7, 102, "OutboxHouse$TargetState", "done", "[I", "OutboxHouse"), (RX7, 165, "OutboxHouse$TargetState", "upTo", "I", "OutboxHouse"), (RX7, 95, "OutboxHouse$Target", "memory", "LOutboxHouse$TargetState;", "OutboxHouse"), (RX7, 105, "OutboxHouse$Target", "disk", "LOutboxHouse$TargetState;", "OutboxHouse"), (RX7, 209, "OutboxHouse$Target", "held", "LOutboxHouse$Row;", "OutboxHouse"), (RX7, 171, "OutboxHouse$Target", "doneEver", "I", "OutboxHouse"), (RX7, 206, "OutboxHouse$Target", "twiceEver", "I", "OutboxHouse"), (RX7, 218, "OutboxHouse$Target", "lostForRoom", "I", "OutboxHouse")]
def nestM : List (String × Nat × MethodName × String) := [(RX7, 9, yX1_init, "OutboxHouse"), (RX5, 11, yX6_init, "OutboxHouse"), (RX2, 53, yX7_isLane, "OutboxHouse")]
def wN (U : State) : Prop := (∀ q ∈ nestF, va_Nw (.fieldLinkNest q.1 q.2.1 q.2.2.1 q.2.2.2.1 q.2.2.2.2.1 q.2.2.2.2.2) U) ∧ ∀ q ∈ nestM, va_Nw (.methodLinkNest q.1 q.2.1 q.2.2.1 q.2.2.2) U
theorem wN.warm {s U : State} (hW : s.WarmedH U.vm) (h : wN s) : wN U := ⟨fun q hq => va_Nw.warmF hW (h.1 q hq), fun q hq => va_Nw.warmM hW (h.2 q hq)⟩
theorem wN.same {u U : State} (e : u.vm = U.vm) (h : wN u) : wN U := ⟨fun q hq => va_Nw.same rfl e (h.1 q hq), fun q hq => va_Nw.same rfl e (h.2 q hq)⟩
def wPre (D : va_G) (cy : Nat → ClassId) (A : Nat → Prop) (ws : va_W) (U : State) : Prop := va_P D vwCl ws U.heap ∧ va_K D vwCl (wT cy) U ∧ wN U ∧ ∀ q, U.heap.size ≤ q → A q
def wPost (D : va_G) (A : Nat → Prop) (ws : va_W) (t : State) : Prop := va_P D vwCl ws t.heap ∧ va_D A ws
theorem wPre.blind {D : va_G} {cy : Nat → ClassId} {A : Nat → Prop} {ws : va_W} {av : List Value} : FrameBlind (va_Pc av (wPre D cy A ws)) := fun a U g mk q => ⟨q.1, q.2.1, va_K.moved (u := U) (U := U.calling g mk a) (Vm.Alike.refl U.vm) q.2.2.1, wN.same (u := U) (U := U.calling g mk a) rfl q.2.2.2.1, q.2.2.2.2⟩
theorem wPre.at {D : va_G} {cy : Nat → ClassId} {A : Nat → Prop} {ws : va_W} {H H0 : Heap} {locs : List Loc} {s : State} {av : List Value} (hP : va_P D vwCl ws H) (hK : va_K D vwCl (wT cy) s) (hN : wN s) (hS : va_S A H0 H locs) (hA : ∀ q, H0.size ≤ q → A q) : ∀ U : State, U.heap = H → s.WarmedH U.vm → va_Pc av (wPre D cy A ws) av.toArray U := fun U hU hW => ⟨rfl, by rw [hU]; exact hP, va_K.moved hW.alike hK, hN.warm hW, by rw [hU]; exact fun q h => hA q (Nat.le_trans hS.1 h)⟩
theorem wP {D : va_G} {H : Heap} {w1 w2 : va_W} (e : w1 = w2) (h : va_P D vwCl w1 H) : va_P D vwCl w2 H := e ▸ h
theorem wD {A : Nat → Prop} {w1 w2 : va_W} (e : w1 = w2) (h : va_D A w1) : va_D A w2 := e ▸ h
-- the reference
def rO (ad : Nat → Nat) (I : St) : List Value := [.ref (ad 0), .ref (ad 1), .ref (ad 2), .ref (ad 3), .ref (ad 4), .int (I 5 0), .int (I 6 0), .int (I 7 0), .ref (ad 8), .ref (ad 9), .ref (ad 10), .ref (ad 11), .int (I 12 0), .int (I 13 0), .ref (ad 14), .ref (ad 15), .ref (ad 16), .ref (ad 17), .ref (ad 18), .ref (ad 19), .ref (ad 20), .ref (ad 21), .ref (ad 22), .ref (ad 23), .ref (ad 24), .int (I 25 0), .ref (ad 26), .ref (ad 27), .ref (ad 28), .ref (ad 29), .int (I 30 0), .int (I 31 0), .int (I 32 0), .int (I 33 0), .int (I 34 0)]
def rW (ad : Nat → Nat) (cy : Nat → ClassId) (I : St) : va_W := [(ad 40, .inr (8, rO ad I)), (ad 0, .inl (cy 1, 4, .inl (I 0))), (ad 1, .inl (cy 1, 24, .inl (I 1))), (ad 2, .inl (cy 0, 24, .inl (I 2))), (ad 3, .inl (cy 0, 6, .inl (I 3))), (ad 4, .inl (cy 0, 6, .inl (I 4))), (ad 8, .inl (cy 0, 400, .inl (I 8))), (ad 9, .inl (cy 0, 400, .inl (I 9))), (ad 10, .inl (cy 0, 400, .inl (I 10))), (ad 11, .inl (cy 1, 400, .inl (I 11))), (ad 14, .inl (cy 0, 3, .inl (I 14))), (ad 15, .inl (cy 0, 120, .inl (I 15))), (ad 16, .inl (cy 0, 120, .inl (I 16))), (ad 17, .inl (cy 0, 120, .inl (I 17))), (ad 18, .inl (cy 0, 120, .inl (I 18))), (ad 19, .inl (cy 0, 6, .inl (I 19))), (ad 20, .inl (cy 0, 6, .inl (I 20))), (ad 21, .inl (cy 1, 400, .inl (I 21))), (ad 22, .inl (cy 0, 6, .inl (I 22))), (ad 23, .inl (cy 0, 6, .inl (I 23))), (ad 24, .inl (cy 1, 400, .inl (I 24))), (ad 26, .inl (cy 0, 8, .inl (I 26))), (ad 27, .inl (cy 0, 8, .inl (I 27))), (ad 28, .inl (cy 0, 8, .inl (I 28))), (ad 29, .inl (cy 0, 8, .inl (I 29)))]
section RG
variable {ad : Nat → Nat} {cy : Nat → ClassId} {I I1 : St} {k : Nat} {v : Int32}
theorem rG_o : (rW ad cy I)[0]? = some (ad 40, .inr (8, rO ad I)) := rfl
theorem rG_0 : (rW ad cy I)[1]? = some (ad 0, .inl (cy 1, 4, .inl (I 0))) := rfl
theorem rG_1 : (rW ad cy I)[2]? = some (ad 1, .inl (cy 1, 24, .inl (I 1))) := rfl
theorem rG_2 : (rW ad cy I)[3]? = some (ad 2, .inl (cy 0, 24, .inl (I 2))) := rfl
theorem rG_3 : (rW ad cy I)[4]? = some (ad 3, .inl (cy 0, 6, .inl (I 3))) := rfl
theorem rG_4 : (rW ad cy I)[5]? = some (ad 4, .inl (cy 0, 6, .inl (I 4))) := rfl
theorem rG_8 : (rW ad cy I)[6]? = some (ad 8, .inl (cy 0, 400, .inl (I 8))) := rfl
theorem rG_9 : (rW ad cy I)[7]? = some (ad 9, .inl (cy 0, 400, .inl (I 9))) := rfl
theorem rG_10 : (rW ad cy I)[8]? = some (ad 10, .inl (cy 0, 400, .inl (I 10))) := rfl
theorem rG_11 : (rW ad cy I)[9]? = some (ad 11, .inl (cy 1, 400, .inl (I 11))) := rfl
theorem rG_14 : (rW ad cy I)[10]? = some (ad 14, .inl (cy 0, 3, .inl (I 14))) := rfl
theorem rG_15 : (rW ad cy I)[11]? = some (ad 15, .inl (cy 0, 120, .inl (I 15))) := rfl
theorem rG_16 : (rW ad cy I)[12]? = some (ad 16, .inl (cy 0, 120, .inl (I 16))) := rfl
theorem rG_17 : (rW ad cy I)[13]? = some (ad 17, .inl (cy 0, 120, .inl (I 17))) := rfl
theorem rG_18 : (rW ad cy I)[14]? = some (ad 18, .inl (cy 0, 120, .inl (I 18))) := rfl
theorem rG_19 : (rW ad cy I)[15]? = some (ad 19, .inl (cy 0, 6, .inl (I 19))) := rfl
theorem rG_20 : (rW ad cy I)[16]? = some (ad 20, .inl (cy 0, 6, .inl (I 20))) := rfl
theorem rG_21 : (rW ad cy I)[17]? = some (ad 21, .inl (cy 1, 400, .inl (I 21))) := rfl
theorem rG_22 : (rW ad cy I)[18]? = some (ad 22, .inl (cy 0, 6, .inl (I 22))) := rfl
theorem rG_23 : (rW ad cy I)[19]? = some (ad 23, .inl (cy 0, 6, .inl (I 23))) := rfl
theorem rG_24 : (rW ad cy I)[20]? = some (ad 24, .inl (cy 1, 400, .inl (I 24))) := rfl
theorem rG_26 : (rW ad cy I)[21]? = some (ad 26, .inl (cy 0, 8, .inl (I 26))) := rfl
theorem rG_27 : (rW ad cy I)[22]? = some (ad 27, .inl (cy 0, 8, .inl (I 27))) := rfl
theorem rG_28 : (rW ad cy I)[23]? = some (ad 28, .inl (cy 0, 8, .inl (I 28))) := rfl
theorem rG_29 : (rW ad cy I)[24]? = some (ad 29, .inl (cy 0, 8, .inl (I 29))) := rfl
theorem rE_0 (e : I1 = st I 0 k v) : (rW ad cy I).set 1 (ad 0, .inl (cy 1, 4, .inl (upd (I 0) k v))) = rW ad cy I1 := by subst e; rfl
theorem rE_1 (e : I1 = st I 1 k v) : (rW ad cy I).set 2 (ad 1, .inl (cy 1, 24, .inl (upd (I 1) k v))) = rW ad cy I1 := by subst e; rfl
theorem rE_2 (e : I1 = st I 2 k v) : (rW ad cy I).set 3 (ad 2, .inl (cy 0, 24, .inl (upd (I 2) k v))) = rW ad cy I1 := by subst e; rfl
theorem rE_3 (e : I1 = st I 3 k v) : (rW ad cy I).set 4 (ad 3, .inl (cy 0, 6, .inl (upd (I 3) k v))) = rW ad cy I1 := by subst e; rfl
theorem rE_4 (e : I1 = st I 4 k v) : (rW ad cy I).set 5 (ad 4, .inl (cy 0, 6, .inl (upd (I 4) k v))) = rW ad cy I1 := by subst e; rfl
theorem rE_5 (e : I1 = st I 5 0 v) : (rW ad cy I).set 0 (ad 40, .inr (8, (rO ad I).set 5 (.int v))) = rW ad cy I1 := by subst e; rfl
theorem rE_6 (e : I1 = st I 6 0 v) : (rW ad cy I).set 0 (ad 40, .inr (8, (rO ad I).set 6 (.int v))) = rW ad cy I1 := by subst e; rfl
theorem rE_7 (e : I1 = st I 7 0 v) : (rW ad cy I).set 0 (ad 40, .inr (8, (rO ad I).set 7 (.int v))) = rW ad cy I1 := by subst e; rfl
theorem rE_8 (e : I1 = st I 8 k v) : (rW ad cy I).set 6 (ad 8, .inl (cy 0, 400, .inl (upd (I 8) k v))) = rW ad cy I1 := by subst e; rfl
theorem rE_9 (e : I1 = st I 9 k v) : (rW ad cy I).set 7 (ad 9, .inl (cy 0, 400, .inl (upd (I 9) k v))) = rW ad cy I1 := by subst e; rfl
theorem rE_10 (e : I1 = st I 10 k v) : (rW ad cy I).set 8 (ad 10, .inl (cy 0, 400, .inl (upd (I 10) k v))) = rW ad cy I1 := by subst e; rfl
theorem rE_11 (e : I1 = st I 11 k v) : (rW ad cy I).set 9 (ad 11, .inl (cy 1, 400, .inl (upd (I 11) k v))) = rW ad cy I1 := by subst e; rfl
theorem rE_12 (e : I1 = st I 12 0 v) : (rW ad cy I).set 0 (ad 40, .inr (8, (rO ad I).set 12 (.int v))) = rW ad cy I1 := by subst e; rfl
theorem rE_13 (e : I1 = st I 13 0 v) : (rW ad cy I).set 0 (ad 40, .inr (8, (rO ad I).set 13 (.int v))) = rW ad cy I1 := by subst e; rfl
theorem rE_14 (e : I1 = st I 14 k v) : (rW ad cy I).set 10 (ad 14, .inl (cy 0, 3, .inl (upd (I 14) k v))) = rW ad cy I1 := by subst e; rfl
theorem rE_15 (e : I1 = st I 15 k v) : (rW ad cy I).set 11 (ad 15, .inl (cy 0, 120, .inl (upd (I 15) k v))) = rW ad cy I1 := by subst e; rfl
theorem rE_16 (e : I1 = st I 16 k v) : (rW ad cy I).set 12 (ad 16, .inl (cy 0, 120, .inl (upd (I 16) k v))) = rW ad cy I1 := by subst e; rfl
theorem rE_17 (e : I1 = st I 17 k v) : (rW ad cy I).set 13 (ad 17, .inl (cy 0, 120, .inl (upd (I 17) k v))) = rW ad cy I1 := by subst e; rfl
theorem rE_18 (e : I1 = st I 18 k v) : (rW ad cy I).set 14 (ad 18, .inl (cy 0, 120, .inl (upd (I 18) k v))) = rW ad cy I1 := by subst e; rfl
theorem rE_19 (e : I1 = st I 19 k v) : (rW ad cy I).set 15 (ad 19, .inl (cy 0, 6, .inl (upd (I 19) k v))) = rW ad cy I1 := by subst e; rfl
theorem rE_20 (e : I1 = st I 20 k v) : (rW ad cy I).set 16 (ad 20, .inl (cy 0, 6, .inl (upd (I 20) k v))) = rW ad cy I1 := by subst e; rfl
theorem rE_21 (e : I1 = st I 21 k v) : (rW ad cy I).set 17 (ad 21, .inl (cy 1, 400, .inl (upd (I 21) k v))) = rW ad cy I1 := by subst e; rfl
theorem rE_22 (e : I1 = st I 22 k v) : (rW ad cy I).set 18 (ad 22, .inl (cy 0, 6, .inl (upd (I 22) k v))) = rW ad cy I1 := by subst e; rfl
theorem rE_23 (e : I1 = st I 23 k v) : (rW ad cy I).set 19 (ad 23, .inl (cy 0, 6, .inl (upd (I 23) k v))) = rW ad cy I1 := by subst e; rfl
theorem rE_24 (e : I1 = st I 24 k v) : (rW ad cy I).set 20 (ad 24, .inl (cy 1, 400, .inl (upd (I 24) k v))) = rW ad cy I1 := by subst e; rfl
theorem rE_25 (e : I1 = st I 25 0 v) : (rW ad cy I).set 0 (ad 40, .inr (8, (rO ad I).set 25 (.int v))) = rW ad cy I1 := by subst e; rfl
theorem rE_26 (e : I1 = st I 26 k v) : (rW ad cy I).set 21 (ad 26, .inl (cy 0, 8, .inl (upd (I 26) k v))) = rW ad cy I1 := by subst e; rfl
theorem rE_27 (e : I1 = st I 27 k v) : (rW ad cy I).set 22 (ad 27, .inl (cy 0, 8, .inl (upd (I 27) k v))) = rW ad cy I1 := by subst e; rfl
theorem rE_28 (e : I1 = st I 28 k v) : (rW ad cy I).set 23 (ad 28, .inl (cy 0, 8, .inl (upd (I 28) k v))) = rW ad cy I1 := by subst e; rfl
theorem rE_29 (e : I1 = st I 29 k v) : (rW ad cy I).set 24 (ad 29, .inl (cy 0, 8, .inl (upd (I 29) k v))) = rW ad cy I1 := by subst e; rfl
theorem rE_30 (e : I1 = st I 30 0 v) : (rW ad cy I).set 0 (ad 40, .inr (8, (rO ad I).set 30 (.int v))) = rW ad cy I1 := by subst e; rfl
theorem rE_31 (e : I1 = st I 31 0 v) : (rW ad cy I).set 0 (ad 40, .inr (8, (rO ad I).set 31 (.int v))) = rW ad cy I1 := by subst e; rfl
theorem rE_32 (e : I1 = st I 32 0 v) : (rW ad cy I).set 0 (ad 40, .inr (8, (rO ad I).set 32 (.int v))) = rW ad cy I1 := by subst e; rfl
theorem rE_33 (e : I1 = st I 33 0 v) : (rW ad cy I).set 0 (ad 40, .inr (8, (rO ad I).set 33 (.int v))) = rW ad cy I1 := by subst e; rfl
theorem rE_34 (e : I1 = st I 34 0 v) : (rW ad cy I).set 0 (ad 40, .inr (8, (rO ad I).set 34 (.int v))) = rW ad cy I1 := by subst e; rfl
end RG
-- the class
def cO_0 (ad : Nat → Nat) (I : St) : List Value := [.ref (ad 1), .ref (ad 3), .ref (ad 9), .ref (ad 19), .int (I 0 0)]
def cO_1 (ad : Nat → Nat) (I : St) : List Value := [.ref (ad 2), .int (I 1 0), .int (I 1 1), .int (I 1 2)]
def cO_3 (ad : Nat → Nat) (I : St) : List Value := [.ref (ad 1), .ref (ad 4), .ref (ad 5), .ref (ad 6), .ref (ad 7), .ref (ad 8)]
def cO_9 (ad : Nat → Nat) (I : St) : List Value := [.ref (ad 1), .ref (ad 10), .int (I 9 0), .int (I 9 1), .int (I 9 2), .int (I 9 3)]
def cO_11 (ad : Nat → Nat) (I : St) : List Value := [.ref (ad 15), .int (I 11 0)]
def cO_12 (ad : Nat → Nat) (I : St) : List Value := [.ref (ad 16), .int (I 12 0)]
def cO_13 (ad : Nat → Nat) (I : St) : List Value := [.ref (ad 17), .int (I 13 0)]
def cO_14 (ad : Nat → Nat) (I : St) : List Value := [.ref (ad 18), .int (I 14 0)]
def cO_19 (ad : Nat → Nat) (I : St) : List Value := [.ref (ad 1), .ref (ad 20), .ref (ad 21), .ref (ad 14), .int (I 19 0), .int (I 19 1), .int (I 19 2)]
def cO_20 (ad : Nat → Nat) (I : St) : List Value := [.ref (ad 22), .ref (ad 24), .int (I 20 0)]
def cO_21 (ad : Nat → Nat) (I : St) : List Value := [.ref (ad 23), .ref (ad 25), .int (I 21 0)]
def cLn (ad : Nat → Nat) : Nat → Option Nat := fun i => some (ad (11 + i))
def rlen (j : Nat) : Nat := if j = 14 then 8 else 40
def cX (ad : Nat → Nat) (cy : Nat → ClassId) (I : St) (J : Rf) : va_W := [(ad 0, .inr (7, cO_0 ad I)), (ad 1, .inr (1, cO_1 ad I)), (ad 2, .inl (cy 2, 400, .inr (.inr (.inr (.inr (J 2)))))), (ad 3, .inr (4, cO_3 ad I)), (ad 4, .inl (cy 0, 6, .inl (I 4))), (ad 5, .inl (cy 0, 6, .inl (I 5))), (ad 6, .inl (cy 0, 6, .inl (I 6))), (ad 7, .inl (cy 0, 6, .inl (I 7))), (ad 8, .inl (cy 1, 4, .inl (I 8))), (ad 9, .inr (2, cO_9 ad I)), (ad 10, .inl (cy 3, 3, .inr (.inr (.inr (.inr (cLn ad)))))), (ad 11, .inr (3, cO_11 ad I)), (ad 12, .inr (3, cO_12 ad I)), (ad 13, .inr (3, cO_13 ad I)), (ad 14, .inr (3, cO_14 ad I)), (ad 15, .inl (cy 2, 40, .inr (.inr (.inr (.inr (J 15)))))), (ad 16, .inl (cy 2, 40, .inr (.inr (.inr (.inr (J 16)))))), (ad 17, .inl (cy 2, 40, .inr (.inr (.inr (.inr (J 17)))))), (ad 18, .inl (cy 2, 8, .inr (.inr (.inr (.inr (J 18)))))), (ad 19, .inr (5, cO_19 ad I)), (ad 20, .inr (6, cO_20 ad I)), (ad 21, .inr (6, cO_21 ad I)), (ad 22, .inl (cy 0, 6, .inl (I 22))), (ad 23, .inl (cy 0, 6, .inl (I 23))), (ad 24, .inl (cy 0, 6, .inl (I 24))), (ad 25, .inl (cy 0, 6, .inl (I 25)))]
def cF (P : St) : Nat → va_E := fun a => .inr (0, [.int (P a 0), .int (P a 1), .int (P a 2), .int (P a 3), .int (P a 4)])
def cW (ad : Nat → Nat) (cy : Nat → ClassId) (I : St) (J : Rf) (LP : List Nat) (P : St) : va_W := cX ad cy I J ++ va_pl LP (cF P)
section CG
variable {ad : Nat → Nat} {cy : Nat → ClassId} {I I1 : St} {J J1 : Rf} {LP : List Nat} {P : St} {k j : Nat} {v : Int32} {r : Option Nat}
theorem cG_0 : (cW ad cy I J LP P)[0]? = some (ad 0, .inr (7, cO_0 ad I)) := rfl
theorem cG_1 : (cW ad cy I J LP P)[1]? = some (ad 1, .inr (1, cO_1 ad I)) := rfl
theorem cG_2 : (cW ad cy I J LP P)[2]? = some (ad 2, .inl (cy 2, 400, .inr (.inr (.inr (.inr (J 2)))))) := rfl
theorem cG_3 : (cW ad cy I J LP P)[3]? = some (ad 3, .inr (4, cO_3 ad I)) := rfl
theorem cG_4 : (cW ad cy I J LP P)[4]? = some (ad 4, .inl (cy 0, 6, .inl (I 4))) := rfl
theorem cG_5 : (cW ad cy I J LP P)[5]? = some (ad 5, .inl (cy 0, 6, .inl (I 5))) := rfl
theorem cG_6 : (cW ad cy I J LP P)[6]? = some (ad 6, .inl (cy 0, 6, .inl (I 6))) := rfl
theorem cG_7 : (cW ad cy I J LP P)[7]? = some (ad 7, .inl (cy 0, 6, .inl (I 7))) := rfl
theorem cG_8 : (cW ad cy I J LP P)[8]? = some (ad 8, .inl (cy 1, 4, .inl (I 8))) := rfl
theorem cG_9 : (cW ad cy I J LP P)[9]? = some (ad 9, .inr (2, cO_9 ad I)) := rfl
theorem cG_10 : (cW ad cy I J LP P)[10]? = some (ad 10, .inl (cy 3, 3, .inr (.inr (.inr (.inr (cLn ad)))))) := rfl
theorem cG_11 : (cW ad cy I J LP P)[11]? = some (ad 11, .inr (3, cO_11 ad I)) := rfl
theorem cG_12 : (cW ad cy I J LP P)[12]? = some (ad 12, .inr (3, cO_12 ad I)) := rfl
theorem cG_13 : (cW ad cy I J LP P)[13]? = some (ad 13, .inr (3, cO_13 ad I)) := rfl
theorem cG_14 : (cW ad cy I J LP P)[14]? = some (ad 14, .inr (3, cO_14 ad I)) := rfl
theorem cG_15 : (cW ad cy I J LP P)[15]? = some (ad 15, .inl (cy 2, 40, .inr (.inr (.inr (.inr (J 15)))))) := rfl
theorem cG_16 : (cW ad cy I J LP P)[16]? = some (ad 16, .inl (cy 2, 40, .inr (.inr (.inr (.inr (J 16)))))) := rfl
theorem cG_17 : (cW ad cy I J LP P)[17]? = some (ad 17, .inl (cy 2, 40, .inr (.inr (.inr (.inr (J 17)))))) := rfl
theorem cG_18 : (cW ad cy I J LP P)[18]? = some (ad 18, .inl (cy 2, 8, .inr (.inr (.inr (.inr (J 18)))))) := rfl
theorem cG_19 : (cW ad cy I J LP P)[19]? = some (ad 19, .inr (5, cO_19 ad I)) := rfl
theorem cG_20 : (cW ad cy I J LP P)[20]? = some (ad 20, .inr (6, cO_20 ad I)) := rfl
theorem cG_21 : (cW ad cy I J LP P)[21]? = some (ad 21, .inr (6, cO_21 ad I)) := rfl
theorem cG_22 : (cW ad cy I J LP P)[22]? = some (ad 22, .inl (cy 0, 6, .inl (I 22))) := rfl
theorem cG_23 : (cW ad cy I J LP P)[23]? = some (ad 23, .inl (cy 0, 6, .inl (I 23))) := rfl
theorem cG_24 : (cW ad cy I J LP P)[24]? = some (ad 24, .inl (cy 0, 6, .inl (I 24))) := rfl
theorem cG_25 : (cW ad cy I J LP P)[25]? = some (ad 25, .inl (cy 0, 6, .inl (I 25))) := rfl
theorem cG_row (hj : 11 ≤ j ∧ j ≤ 14) : (cW ad cy I J LP P)[j]? = some (ad j, .inr (3, [.ref (ad (j + 4)), .int (I j 0)])) := by rcases (show j = 11 ∨ j = 12 ∨ j = 13 ∨ j = 14 by omega) with rfl | rfl | rfl | rfl <;> rfl
theorem cG_slots (hj : 11 ≤ j ∧ j ≤ 14) : (cW ad cy I J LP P)[j + 4]? = some (ad (j + 4), .inl (cy 2, rlen j, .inr (.inr (.inr (.inr (J (j + 4))))))) := by rcases (show j = 11 ∨ j = 12 ∨ j = 13 ∨ j = 14 by omega) with rfl | rfl | rfl | rfl <;> rfl
theorem cG_ts (hj : 20 ≤ j ∧ j ≤ 21) : (cW ad cy I J LP P)[j]? = some (ad j, .inr (6, [.ref (ad (j + 2)), .ref (ad (j + 4)), .int (I j 0)])) := by rcases (show j = 20 ∨ j = 21 by omega) with rfl | rfl <;> rfl
theorem cG_tsv (hj : 20 ≤ j ∧ j ≤ 21) : (cW ad cy I J LP P)[j + 2]? = some (ad (j + 2), .inl (cy 0, 6, .inl (I (j + 2)))) := by rcases (show j = 20 ∨ j = 21 by omega) with rfl | rfl <;> rfl
theorem cG_tsd (hj : 20 ≤ j ∧ j ≤ 21) : (cW ad cy I J LP P)[j + 4]? = some (ad (j + 4), .inl (cy 0, 6, .inl (I (j + 4)))) := by rcases (show j = 20 ∨ j = 21 by omega) with rfl | rfl <;> rfl
theorem cG_p {a : Nat} (h : a ∈ LP) : ∃ k : Nat, (cW ad cy I J LP P)[k]? = some (a, .inr (0, [.int (P a 0), .int (P a 1), .int (P a 2), .int (P a 3), .int (P a 4)])) := va_pl_get (X := cX ad cy I J) (f := cF P) h
theorem cE_0_0 (e : I1 = st I 0 0 v) : (cW ad cy I J LP P).set 0 (ad 0, .inr (7, (cO_0 ad I).set 4 (.int v))) = cW ad cy I1 J LP P := by subst e; rfl
theorem cE_1_0 (e : I1 = st I 1 0 v) : (cW ad cy I J LP P).set 1 (ad 1, .inr (1, (cO_1 ad I).set 1 (.int v))) = cW ad cy I1 J LP P := by subst e; rfl
theorem cE_1_1 (e : I1 = st I 1 1 v) : (cW ad cy I J LP P).set 1 (ad 1, .inr (1, (cO_1 ad I).set 2 (.int v))) = cW ad cy I1 J LP P := by subst e; rfl
theorem cE_1_2 (e : I1 = st I 1 2 v) : (cW ad cy I J LP P).set 1 (ad 1, .inr (1, (cO_1 ad I).set 3 (.int v))) = cW ad cy I1 J LP P := by subst e; rfl
theorem cE_9_0 (e : I1 = st I 9 0 v) : (cW ad cy I J LP P).set 9 (ad 9, .inr (2, (cO_9 ad I).set 2 (.int v))) = cW ad cy I1 J LP P := by subst e; rfl
theorem cE_9_1 (e : I1 = st I 9 1 v) : (cW ad cy I J LP P).set 9 (ad 9, .inr (2, (cO_9 ad I).set 3 (.int v))) = cW ad cy I1 J LP P := by subst e; rfl
theorem cE_9_2 (e : I1 = st I 9 2 v) : (cW ad cy I J LP P).set 9 (ad 9, .inr (2, (cO_9 ad I).set 4 (.int v))) = cW ad cy I1 J LP P := by subst e; rfl
theorem cE_9_3 (e : I1 = st I 9 3 v) : (cW ad cy I J LP P).set 9 (ad 9, .inr (2, (cO_9 ad I).set 5 (.int v))) = cW ad cy I1 J LP P := by subst e; rfl
theorem cE_19_0 (e : I1 = st I 19 0 v) : (cW ad cy I J LP P).set 19 (ad 19, .inr (5, (cO_19 ad I).set 4 (.int v))) = cW ad cy I1 J LP P := by subst e; rfl
theorem cE_19_1 (e : I1 = st I 19 1 v) : (cW ad cy I J LP P).set 19 (ad 19, .inr (5, (cO_19 ad I).set 5 (.int v))) = cW ad cy I1 J LP P := by subst e; rfl
theorem cE_19_2 (e : I1 = st I 19 2 v) : (cW ad cy I J LP P).set 19 (ad 19, .inr (5, (cO_19 ad I).set 6 (.int v))) = cW ad cy I1 J LP P := by subst e; rfl
theorem cE_4 (e : I1 = st I 4 k v) : (cW ad cy I J LP P).set 4 (ad 4, .inl (cy 0, 6, .inl (upd (I 4) k v))) = cW ad cy I1 J LP P := by subst e; rfl
theorem cE_5 (e : I1 = st I 5 k v) : (cW ad cy I J LP P).set 5 (ad 5, .inl (cy 0, 6, .inl (upd (I 5) k v))) = cW ad cy I1 J LP P := by subst e; rfl
theorem cE_6 (e : I1 = st I 6 k v) : (cW ad cy I J LP P).set 6 (ad 6, .inl (cy 0, 6, .inl (upd (I 6) k v))) = cW ad cy I1 J LP P := by subst e; rfl
theorem cE_7 (e : I1 = st I 7 k v) : (cW ad cy I J LP P).set 7 (ad 7, .inl (cy 0, 6, .inl (upd (I 7) k v))) = cW ad cy I1 J LP P := by subst e; rfl
theorem cE_8 (e : I1 = st I 8 k v) : (cW ad cy I J LP P).set 8 (ad 8, .inl (cy 1, 4, .inl (upd (I 8) k v))) = cW ad cy I1 J LP P := by subst e; rfl
theorem cE_22 (e : I1 = st I 22 k v) : (cW ad cy I J LP P).set 22 (ad 22, .inl (cy 0, 6, .inl (upd (I 22) k v))) = cW ad cy I1 J LP P := by subst e; rfl
theorem cE_23 (e : I1 = st I 23 k v) : (cW ad cy I J LP P).set 23 (ad 23, .inl (cy 0, 6, .inl (upd (I 23) k v))) = cW ad cy I1 J LP P := by subst e; rfl
theorem cE_24 (e : I1 = st I 24 k v) : (cW ad cy I J LP P).set 24 (ad 24, .inl (cy 0, 6, .inl (upd (I 24) k v))) = cW ad cy I1 J LP P := by subst e; rfl
theorem cE_25 (e : I1 = st I 25 k v) : (cW ad cy I J LP P).set 25 (ad 25, .inl (cy 0, 6, .inl (upd (I 25) k v))) = cW ad cy I1 J LP P := by subst e; rfl
theorem cE_2 (e : J1 = stJ J 2 k r) : (cW ad cy I J LP P).set 2 (ad 2, .inl (cy 2, 400, .inr (.inr (.inr (.inr (va_up (J 2) k r)))))) = cW ad cy I J1 LP P := by subst e; rfl
theorem cE_row (hj : 11 ≤ j ∧ j ≤ 14) (e : I1 = st I j 0 v) : (cW ad cy I J LP P).set j (ad j, .inr (3, ([.ref (ad (j + 4)), .int (I j 0)] : List Value).set 1 (.int v))) = cW ad cy I1 J LP P := by subst e; rcases (show j = 11 ∨ j = 12 ∨ j = 13 ∨ j = 14 by omega) with rfl | rfl | rfl | rfl <;> rfl
theorem cE_slots (hj : 11 ≤ j ∧ j ≤ 14) (e : J1 = stJ J (j + 4) k r) : (cW ad cy I J LP P).set (j + 4) (ad (j + 4), .inl (cy 2, rlen j, .inr (.inr (.inr (.inr (va_up (J (j + 4)) k r)))))) = cW ad cy I J1 LP P := by subst e; rcases (show j = 11 ∨ j = 12 ∨ j = 13 ∨ j = 14 by omega) with rfl | rfl | rfl | rfl <;> rfl
theorem cE_ts (hj : 20 ≤ j ∧ j ≤ 21) (e : I1 = st I j 0 v) : (cW ad cy I J LP P).set j (ad j, .inr (6, ([.ref (ad (j + 2)), .ref (ad (j + 4)), .int (I j 0)] : List Value).set 2 (.int v))) = cW ad cy I1 J LP P := by subst e; rcases (show j = 20 ∨ j = 21 by omega) with rfl | rfl <;> rfl
theorem cE_tsv (hj : 20 ≤ j ∧ j ≤ 21) (e : I1 = st I (j + 2) k v) : (cW ad cy I J LP P).set (j + 2) (ad (j + 2), .inl (cy 0, 6, .inl (upd (I (j + 2)) k v))) = cW ad cy I1 J LP P := by subst e; rcases (show j = 20 ∨ j = 21 by omega) with rfl | rfl <;> rfl
theorem cE_tsd (hj : 20 ≤ j ∧ j ≤ 21) (e : I1 = st I (j + 4) k v) : (cW ad cy I J LP P).set (j + 4) (ad (j + 4), .inl (cy 0, 6, .inl (upd (I (j + 4)) k v))) = cW ad cy I1 J LP P := by subst e; rcases (show j = 20 ∨ j = 21 by omega) with rfl | rfl <;> rfl
end CG
theorem lane_j {x : Int32} (h : vp_in x 3) : 11 ≤ 11 + x.toNatClampNeg ∧ 11 + x.toNatClampNeg ≤ 14 := by
  have : x.toNatClampNeg < 3 := Nat.not_le.mp fun q => h (Or.inr q)
  omega
