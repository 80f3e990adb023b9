theorem ws_at {ws : va_W} {q0 : Nat} {x e : Nat × va_E} (h : ws[q0]? = some x) : (ws.set q0 e)[q0]? = some e := List.getElem?_set_self (List.getElem?_eq_some_iff.mp h).1
theorem ws_ss {ws : va_W} {q0 : Nat} {e1 e2 : Nat × va_E} : (ws.set q0 e1).set q0 e2 = ws.set q0 e2 := List.set_set ..
abbrev rmX0_init : Room := { frames := 1, cells := 0, slots := 0, locals := 12 }
set_option maxHeartbeats 4000000 in
set_option maxRecDepth 100000 in
theorem m_X0_init (l : Launch) (dC : Nat → ClassId) (dI : Nat → Nat → Nat) (cy : Nat → ClassId) (A : Nat → Prop) (ws : va_W) (q0 q : Nat) (p1 p2 p3 p4 p5 : Int32) (hz : narrow .boolean (.int p5) = .int p5 ∧ fits .boolean (.int p5) = true) (hD : va_D A ws) (he : ws[q0]? = some (q, .inr (0, [.int 0, .int 0, .int 0, .int 0, .int 0]))) : Met l yX0_init wsX0_init rmX0_init (va_Pc [.ref q, .int p1, .int p2, .int p3, .int p4, .int p5] (wPre (dC, dI) cy A ws)) (va_Qv (fun _ : Unit => True) (fun _ t => wPost (dC, dI) A (ws.set q0 (q, .inr (0, [.int p1, .int p2, .int p3, .int p4, .int p5]))) t) A) 0 0 A := by
  refine Met.ofW (cc := cX0_init) (maxL := 6) (ret := none) (by decide) rfl ?_
  intro p e s m args below meth c s₁ B hml hv
  obtain ⟨rfl, hP, hK, hN, hA⟩ := hv
  have hx := B.exec
  have hb := B.bytes
  have hr := B.returns
  have hts := atoms_spec (ws := wsX0_init) B.pre
  have hown : s.vm.findClass RX0 = some m.cls := findClass_of_methodNamed B.named
  have hlocks := B.notSynchronized
  have hin : meth.name = "<init>" := (name_of_methodNamed B.named B.method).1
  have hinX0 : ∀ w ∈ wsX00, w ∈ wsX0_init := fun _ h9 => List.mem_cons_of_mem _ (List.mem_append_right _ h9)
  have hS : va_S A s.heap s.heap [] := va_S.rf
  have hl := lv_entry ([.ref q, .int p1, .int p2, .int p3, .int p4, .int p5]) (n := 6) (Nat.le_of_ble_eq_true rfl)
  rw [lg_entry_eq]
  generalize (lg_sl ([.ref q, .int p1, .int p2, .int p3, .int p4, .int p5]) ++ List.replicate (6 - (lg_sl ([.ref q, .int p1, .int p2, .int p3, .int p4, .int p5])).length) Slot.unset).toArray = ls at hl ⊢
  have hl : lv_has ls 6 [(0, .ref q), (1, .int p1), (2, .int p2), (3, .int p3), (4, .int p4), (5, .int p5)] := hl
  refine lv_aload_n hx hb dX0_init_0 rfl (lv_at hl 0 rfl) ?_
  refine W.objInit hx hb hown (hts (.methodLink RX0 1 objectInit) (by decide +kernel)) (hts (.instanceMethod objectInit) (by decide +kernel)) (hts _ (List.mem_cons_of_mem _ (List.mem_append_left _ (List.mem_of_getElem? (i := 2) rfl)))) rfl (by rw [hml]; exact hl.1) rfl dX0_init_1 (Nat.le_of_ble_eq_true rfl) (Nat.le_of_ble_eq_true rfl) ?_
  refine W.eq (g2 := F0 m 4 ls []) rfl ?_
  refine lv_aload_n hx hb dX0_init_4 rfl (lv_at hl 0 rfl) ?_
  refine lv_iload_n hx hb dX0_init_5 rfl (lv_at hl 1 rfl) ?_
  refine va_putF (D := (dC, dI)) (ci := 0) (v := .int p1) (ty := .int) (C := RX0) (T := TX0) (N := 5) hx hb hts hinX0 tyX0 tyX0_ok nmX0 hown hK hP hD hS q0 he rfl 0 (by decide) (hts (.fieldLink RX0 7 "OutboxHouse$Change" "place" "I") (by decide +kernel)) (fun _ h9 => h9) rfl hin rfl (by decide +kernel) rfl rfl (Nat.le_of_ble_eq_true rfl) dX0_init_6 (fun H locs hP hD hS => ?_)
  refine lv_aload_n hx hb dX0_init_9 rfl (lv_at hl 0 rfl) ?_
  refine lv_iload_n hx hb dX0_init_10 rfl (lv_at hl 2 rfl) ?_
  refine va_putF (D := (dC, dI)) (ci := 0) (v := .int p2) (ty := .int) (C := RX0) (T := TX0) (N := 5) hx hb hts hinX0 tyX0 tyX0_ok nmX0 hown hK hP hD hS q0 (ws_at he) rfl 1 (by decide) (hts (.fieldLink RX0 13 "OutboxHouse$Change" "key" "I") (by decide +kernel)) (fun _ h9 => h9) rfl hin rfl (by decide +kernel) rfl rfl (Nat.le_of_ble_eq_true rfl) dX0_init_11 (fun H locs hP hD hS => ?_)
  rw [ws_ss] at hP hD
  refine lv_aload_n hx hb dX0_init_14 rfl (lv_at hl 0 rfl) ?_
  refine lv_iload_n hx hb dX0_init_15 rfl (lv_at hl 3 rfl) ?_
  refine va_putF (D := (dC, dI)) (ci := 0) (v := .int p3) (ty := .int) (C := RX0) (T := TX0) (N := 5) hx hb hts hinX0 tyX0 tyX0_ok nmX0 hown hK hP hD hS q0 (ws_at he) rfl 2 (by decide) (hts (.fieldLink RX0 16 "OutboxHouse$Change" "value" "I") (by decide +kernel)) (fun _ h9 => h9) rfl hin rfl (by decide +kernel) rfl rfl (Nat.le_of_ble_eq_true rfl) dX0_init_16 (fun H locs hP hD hS => ?_)
  rw [ws_ss] at hP hD
  refine lv_aload_n hx hb dX0_init_19 rfl (lv_at hl 0 rfl) ?_
  refine lv_iload hx hb dX0_init_20 (lv_at hl 4 rfl) ?_
  refine va_putF (D := (dC, dI)) (ci := 0) (v := .int p4) (ty := .int) (C := RX0) (T := TX0) (N := 5) hx hb hts hinX0 tyX0 tyX0_ok nmX0 hown hK hP hD hS q0 (ws_at he) rfl 3 (by decide) (hts (.fieldLink RX0 19 "OutboxHouse$Change" "order" "I") (by decide +kernel)) (fun _ h9 => h9) rfl hin rfl (by decide +kernel) rfl rfl (Nat.le_of_ble_eq_true rfl) dX0_init_22 (fun H locs hP hD hS => ?_)
  rw [ws_ss] at hP hD
  refine lv_aload_n hx hb dX0_init_25 rfl (lv_at hl 0 rfl) ?_
  refine lv_iload hx hb dX0_init_26 (lv_at hl 5 rfl) ?_
  refine va_putF (D := (dC, dI)) (ci := 0) (v := .int p5) (ty := .boolean) (C := RX0) (T := TX0) (N := 5) hx hb hts hinX0 tyX0 tyX0_ok nmX0 hown hK hP hD hS q0 (ws_at he) rfl 4 (by decide) (hts (.fieldLink RX0 22 "OutboxHouse$Change" "last" "Z") (by decide +kernel)) (fun _ h9 => h9) rfl hin rfl (by decide +kernel) hz.1 hz.2 (Nat.le_of_ble_eq_true rfl) dX0_init_28 (fun H locs hP hD hS => ?_)
  rw [ws_ss] at hP hD
  exact W.vret hx hb hr (fun t ht hW => ⟨⟨(), rfl, trivial, by rw [ht]; exact hP, hD⟩, hS.F ht⟩) hS.2.2 dX0_init_31
theorem cW_push {ad : Nat → Nat} {cy : Nat → ClassId} {I : St} {J : Rf} {LP : List Nat} {P P1 : St} {q : Nat} {a b c d e : Int32} (hq : q ∉ LP) (h1 : P1 = va_up P q (chg a b c d e)) : cW ad cy I J LP P ++ [(q, .inr (0, [.int a, .int b, .int c, .int d, .int e]))] = cW ad cy I J (LP ++ [q]) P1 := by
  unfold cW
  rw [List.append_assoc, va_pl_push hq]
  refine congrArg (fun z => cX ad cy I J ++ z) (va_pl_congr (fun x => ?_))
  rw [h1]
  by_cases hx : x = q
  · rw [hx]; simp [cF, va_up, chg]
  · simp [cF, va_up, hx]
abbrev rmX1_append : Room := { frames := 2, cells := 1, slots := 5, locals := 37 }
set_option maxHeartbeats 4000000 in
set_option maxRecDepth 100000 in
theorem m_X1_append (l : Launch) (dC : Nat → ClassId) (dI : Nat → Nat → Nat) (cy : Nat → ClassId) (ad : Nat → Nat) (A : Nat → Prop) (I : St) (J : Rf) (LP : List Nat) (P : St) (p1 p2 p3 p4 : Int32) {post : St → Rf → List Nat → St → Prop} (hD : va_D A (cW ad cy I J LP P)) (h : wp_X1_append I J LP P p1 p2 p3 p4 post) : Met l yX1_append wsX1_append rmX1_append (va_Pc [.ref (ad 1), .int p1, .int p2, .int p3, .int p4] (wPre (dC, dI) cy A (cW ad cy I J LP P))) (va_Qv (fun (u : CS) => post u.1 u.2.1 u.2.2.1 u.2.2.2) (fun (u : CS) t => wPost (dC, dI) A (cW ad cy u.1 u.2.1 u.2.2.1 u.2.2.2) t) A) 1 5 A := by
  refine Met.ofW (cc := cX1_append) (maxL := 5) (ret := none) (by decide) rfl ?_
  intro p e s m args below meth c s₁ B hml hv
  obtain ⟨rfl, hP, hK, hN, hA⟩ := hv
  have hx := B.exec
  have hb := B.bytes
  have hr := B.returns
  have hts := atoms_spec (ws := wsX1_append) B.pre
  have hown : s.vm.findClass RX1 = some m.cls := findClass_of_methodNamed B.named
  have hlocks := B.notSynchronized
  have hinX1 : ∀ w ∈ wsX10, w ∈ wsX1_append := fun _ h9 => List.mem_cons_of_mem _ (List.mem_append_left _ (List.mem_append_right _ h9))
  have hinX0 : ∀ w ∈ wsX00, w ∈ wsX1_append := fun _ h9 => List.mem_cons_of_mem _ (List.mem_append_right _ h9)
  have hS : va_S A s.heap s.heap [] := va_S.rf
  unfold wp_X1_append at h
  have hl := lv_entry ([.ref (ad 1), .int p1, .int p2, .int p3, .int p4]) (n := 5) (Nat.le_of_ble_eq_true rfl)
  rw [lg_entry_eq]
  generalize (lg_sl ([.ref (ad 1), .int p1, .int p2, .int p3, .int p4]) ++ List.replicate (5 - (lg_sl ([.ref (ad 1), .int p1, .int p2, .int p3, .int p4])).length) Slot.unset).toArray = ls at hl ⊢
  have hl : lv_has ls 5 [(0, .ref (ad 1)), (1, .int p1), (2, .int p2), (3, .int p3), (4, .int p4)] := hl
  refine lv_aload_n hx hb dX1_append_0 rfl (lv_at hl 0 rfl) ?_
  refine va_get (D := (dC, dI)) (ci := 1) (v := .int (I 1 2)) (C := RX1) (T := TX1) (N := 4) hx hb hts hinX1 hown hK hP 1 cG_1 rfl 3 (by decide) (hts (.fieldLink RX1 17 "OutboxHouse$ChangeLog" "end" "I") (by decide +kernel)) (fun _ h9 => h9) rfl dX1_append_1 ?_
  refine lv_sipush (v := 400) hx hb dX1_append_4 (by decide) ?_
  refine lv_icmp_ge (tgt := 45) hx hb dX1_append_7 (by decide) (fun c => ?_) (fun c => ?_)
  · have h := h.1 c
    refine W.widen (k := 1) (n := 5) (by omega) (by omega) ?_
    exact W.vret hx hb hr (fun t ht hW => ⟨⟨(I, J, LP, P), rfl, h, by rw [ht]; exact hP, hD⟩, hS.F ht⟩) hS.2.2 dX1_append_45
  · obtain ⟨hz, hv, h⟩ := h.2 c
    refine lv_aload_n hx hb dX1_append_10 rfl (lv_at hl 0 rfl) ?_
    refine va_get (D := (dC, dI)) (ci := 1) (v := .ref (ad 2)) (C := RX1) (T := TX1) (N := 4) hx hb hts hinX1 hown hK hP 1 cG_1 rfl 0 (by decide) (hts (.fieldLink RX1 11 "OutboxHouse$ChangeLog" "rows" "[LOutboxHouse$Change;") (by decide +kernel)) (fun _ h9 => h9) rfl dX1_append_11 ?_
    refine lv_aload_n hx hb dX1_append_14 rfl (lv_at hl 0 rfl) ?_
    refine va_get (D := (dC, dI)) (ci := 1) (v := .int (I 1 2)) (C := RX1) (T := TX1) (N := 4) hx hb hts hinX1 hown hK hP 1 cG_1 rfl 3 (by decide) (hts (.fieldLink RX1 17 "OutboxHouse$ChangeLog" "end" "I") (by decide +kernel)) (fun _ h9 => h9) rfl dX1_append_15 ?_
    refine va_new (ci := 0) (fs := [.int 0, .int 0, .int 0, .int 0, .int 0]) (C := RX0) (T := TX0) (N := 5) hx hb hts hinX0 tyX0 tyX0_ok hown (hts (.classLink RX1 9 RX0) (by decide +kernel)) (hts (.instantiable RX0 5) (by decide +kernel)) (hts (.initialized RX0) (by decide +kernel)) hK hP hD hS hA rfl (fun j hj => by rcases (show j = 0 ∨ j = 1 ∨ j = 2 ∨ j = 3 ∨ j = 4 by omega) with rfl | rfl | rfl | rfl | rfl <;> rfl) (Nat.le_of_ble_eq_true rfl) (Nat.le_of_ble_eq_true rfl) dX1_append_18 (fun q H hP hD hS => ?_)
    have hq : q ∉ LP := va_pl_fresh2 hD
    refine lv_dup hx hb dX1_append_21 rfl ?_
    refine lv_aload_n hx hb dX1_append_22 rfl (lv_at hl 0 rfl) ?_
    refine va_get (D := (dC, dI)) (ci := 1) (v := .int (I 1 2)) (C := RX1) (T := TX1) (N := 4) hx hb hts hinX1 hown hK hP 1 rfl rfl 3 (by decide) (hts (.fieldLink RX1 17 "OutboxHouse$ChangeLog" "end" "I") (by decide +kernel)) (fun _ h9 => h9) rfl dX1_append_23 ?_
    refine lv_iload_n hx hb dX1_append_26 rfl (lv_at hl 1 rfl) ?_
    refine lv_iload_n hx hb dX1_append_27 rfl (lv_at hl 2 rfl) ?_
    refine lv_iload_n hx hb dX1_append_28 rfl (lv_at hl 3 rfl) ?_
    refine lv_iload hx hb dX1_append_29 (lv_at hl 4 rfl) ?_
    have heq : (cW ad cy I J LP P ++ [(q, .inr (0, [.int 0, .int 0, .int 0, .int 0, .int 0]))])[(cW ad cy I J LP P).length]? = some (q, .inr (0, [.int 0, .int 0, .int 0, .int 0, .int 0])) := by rw [List.getElem?_append_right (Nat.le_refl _), Nat.sub_self]; rfl
    refine va_callv (va_runI (As := [.int (I 1 2), .int p1, .int p2, .int p3, .int p4]) (rest := [.ref q, .int (I 1 2), .ref (ad 2)]) ⟨hx, hb, hml, hown, hts⟩ (m_X0_init l dC dI cy A _ _ q (I 1 2) p1 p2 p3 p4 hz hD heq) (cwI 5 hts gX1_append_X0_init rfl rfl rfl (hts (.initialized RX0) (by decide +kernel)) (hts (.methodLink RX1 21 yX0_init) (by decide +kernel)) (hts (.instanceMethod yX0_init) (by decide +kernel)) rfl (by decide +kernel) ⟨Nat.le_of_ble_eq_true rfl, Nat.le_of_ble_eq_true rfl⟩) ⟨wPre.blind, wPre.at hP hK hN hS hA⟩ rfl rfl hl.1 rfl (lv_room (Nat.le_of_ble_eq_true rfl)) dX1_append_31 ⟨Nat.le_of_ble_eq_true rfl, Nat.le_of_ble_eq_true rfl⟩) hS (fun q _ h => h) (fun q h => h) (fun u t H locs ht hvm hw hB hz1 hk1 hS => ?_)
    obtain ⟨hP, hD⟩ := hB; rw [ht] at hP
    obtain ⟨P1, hP1⟩ : ∃ z : St, z = va_up P q (chg (I 1 2) p1 p2 p3 p4) := ⟨_, rfl⟩
    have e1 : (cW ad cy I J LP P ++ [(q, (.inr (0, [.int 0, .int 0, .int 0, .int 0, .int 0]) : va_E))]).set (cW ad cy I J LP P).length (q, .inr (0, [.int (I 1 2), .int p1, .int p2, .int p3, .int p4])) = cW ad cy I J (LP ++ [q]) P1 := by
      rw [List.set_append_right _ _ (Nat.le_refl _), Nat.sub_self]
      exact cW_push hq hP1
    replace hP := wP e1 hP; replace hD := wD e1 hD
    replace h := h q hq P1 hP1
    obtain ⟨q2, hq2⟩ := cG_p (ad := ad) (cy := cy) (I := I) (J := J) (P := P1) (show q ∈ LP ++ [q] by simp)
    refine va_astq hx hb hK hP hD hS 2 2 q2 0 cG_2 rfl hq2 rfl hv dX1_append_34 (fun H locs hP hD hS => ?_)
    obtain ⟨J1, hJ1⟩ : ∃ z : Rf, z = stJ J 2 (I 1 2).toNatClampNeg (some q) := ⟨_, rfl⟩
    replace hP := wP (cE_2 hJ1) hP; replace hD := wD (cE_2 hJ1) hD; replace h := h _ hJ1
    refine lv_aload_n hx hb dX1_append_35 rfl (lv_at hl 0 rfl) ?_
    refine lv_dup hx hb dX1_append_36 rfl ?_
    refine va_get (D := (dC, dI)) (ci := 1) (v := .int (I 1 2)) (C := RX1) (T := TX1) (N := 4) hx hb hts hinX1 hown hK hP 1 cG_1 rfl 3 (by decide) (hts (.fieldLink RX1 17 "OutboxHouse$ChangeLog" "end" "I") (by decide +kernel)) (fun _ h9 => h9) rfl dX1_append_37 ?_
    refine lv_iconst (v := 1) hx hb dX1_append_40 (by decide) ?_
    refine lv_iadd hx hb dX1_append_41 ?_
    refine va_put (D := (dC, dI)) (ci := 1) (v := .int ((I 1 2) + 1)) (ty := .int) (C := RX1) (T := TX1) (N := 4) hx hb hts hinX1 tyX1 tyX1_ok nmX1 hown hK hP hD hS 1 cG_1 rfl 3 (by decide) (hts (.fieldLink RX1 17 "OutboxHouse$ChangeLog" "end" "I") (by decide +kernel)) (fun _ h9 => h9) rfl (by decide +kernel) rfl rfl (Nat.le_of_ble_eq_true rfl) dX1_append_42 (fun H locs hP hD hS => ?_)
    obtain ⟨I1, hI1⟩ : ∃ z : St, z = st I 1 2 ((I 1 2) + 1) := ⟨_, rfl⟩
    replace hP := wP (cE_1_2 hI1) hP; replace hD := wD (cE_1_2 hI1) hD; replace h := h _ hI1
    exact W.vret hx hb hr (fun t ht hW => ⟨⟨(I1, J1, LP ++ [q], P1), rfl, h, by rw [ht]; exact hP, hD⟩, hS.F ht⟩) hS.2.2 dX1_append_45
abbrev rmX4_putIntoLog : Room := { frames := 3, cells := 7, slots := 35, locals := 61 }
set_option maxHeartbeats 4000000 in
set_option maxRecDepth 100000 in
theorem g_X4_putIntoLog (l : Launch) (dC : Nat → ClassId) (dI : Nat → Nat → Nat) (cy : Nat → ClassId) (ad : Nat → Nat) (A : Nat → Prop) (I : St) (J : Rf) (LP : List Nat) (P : St) (p1 : Int32) (p2 : Int32) {post : St → Rf → List Nat → St → Prop} (hD : va_D A (cW ad cy I J LP P)) (h : wp_X4_putIntoLog I J LP P p1 p2 post) {Qc : Array Value → State → Outcome → State → Prop} (hQ : ∀ (a : Array Value) (s0 t : State) (I' : St) (J' : Rf) (LP' : List Nat) (P' : St), post I' J' LP' P' → wPost (dC, dI) A (cW ad cy I' J' LP' P') t → va_F A s0 t → Qc a s0 (.returned (none)) t) : Met l yX4_putIntoLog wsX4_putIntoLog rmX4_putIntoLog (va_Pc [.ref (ad 3), .int p1, .int p2] (wPre (dC, dI) cy A (cW ad cy I J LP P))) Qc 7 35 A := by
  refine Met.ofW (cc := cX4_putIntoLog) (maxL := 5) (ret := none) (by decide) rfl ?_
  intro p e s m args below meth c s₁ B hml hv
  obtain ⟨rfl, hP, hK, hN, hA⟩ := hv
  have hx := B.exec
  have hb := B.bytes
  have hr := B.returns
  have hts := atoms_spec (ws := wsX4_putIntoLog) B.pre
  have hown : s.vm.findClass RX4 = some m.cls := findClass_of_methodNamed B.named
  have hlocks := B.notSynchronized
  have hinX4 : ∀ w ∈ wsX40, w ∈ wsX4_putIntoLog := fun _ h9 => List.mem_cons_of_mem _ (List.mem_append_left _ (List.mem_append_left _ (List.mem_append_right _ h9)))
  have hS : va_S A s.heap s.heap [] := va_S.rf
  unfold wp_X4_putIntoLog at h
  have hl := lv_entry ([.ref (ad 3), .int p1, .int p2]) (n := 5) (Nat.le_of_ble_eq_true rfl)
  rw [lg_entry_eq]
  generalize (lg_sl ([.ref (ad 3), .int p1, .int p2]) ++ List.replicate (5 - (lg_sl ([.ref (ad 3), .int p1, .int p2])).length) Slot.unset).toArray = ls at hl ⊢
  have hl : lv_has ls 5 [(0, .ref (ad 3)), (1, .int p1), (2, .int p2)] := hl
  refine lv_iconst (v := 0) hx hb dX4_putIntoLog_0 (by decide) ?_
  refine lv_istore_n (lv' := [(3, .int 0), (0, .ref (ad 3)), (1, .int p1), (2, .int p2)]) hx hb dX4_putIntoLog_1 rfl hl (by decide) rfl (fun ls hl => ?_)
  refine lv_iconst (v := 0) hx hb dX4_putIntoLog_2 (by decide) ?_
  refine lv_istore (lv' := [(4, .int 0), (3, .int 0), (0, .ref (ad 3)), (1, .int p1), (2, .int p2)]) hx hb dX4_putIntoLog_3 hl (by decide) rfl (fun ls hl => ?_)
  obtain ⟨V1, ⟨n20, hV0, hn0⟩, hstepn2⟩ := h
  have hlpn2 : ∀ (n2 : Nat) (x3 : Int32) (x4 : Int32) (I5 : St) (J6 : Rf) (LP7 : List Nat) (P8 : St) (H : Heap) (locs : List Loc) (cl : Nat), cl + n2 ≤ 6 → va_P (dC, dI) vwCl (cW ad cy I5 J6 LP7 P8) H → va_D A (cW ad cy I5 J6 LP7 P8) → va_S A s.heap H locs → ∀ ls : Array Slot, lv_has ls 5 [(0, .ref (ad 3)), (1, .int p1), (2, .int p2), (3, .int x3), (4, .int x4)] → V1 n2 x3 x4 I5 J6 LP7 P8 → W p l e (headSpec wsX4_putIntoLog rmX4_putIntoLog).room s m ([.ref (ad 3), .int p1, .int p2] : List Value).toArray below meth c H locs cl (5 * cl) (MQ below Qc ([.ref (ad 3), .int p1, .int p2] : List Value).toArray s 7 35 A) (F0 m 5 ls []) := by
    intro n2
    induction n2 using Nat.strongRecOn with
    | _ n2 ihn2 =>
      intro x3 x4 I5 J6 LP7 P8 H locs cl hcl hP hD hS ls hl hV
      have h := hstepn2 n2 x3 x4 I5 J6 LP7 P8 hV
      refine lv_iload hx hb dX4_putIntoLog_5 (lv_at hl 4 rfl) ?_
      refine lv_bipush (v := 6) hx hb dX4_putIntoLog_7 (by decide) ?_
      refine lv_icmp_ge (tgt := 67) hx hb dX4_putIntoLog_9 (by decide) (fun hc => ?_) (fun hc => ?_)
      · have h := h.1 hc
        refine lv_aload_n hx hb dX4_putIntoLog_67 rfl (lv_at hl 0 rfl) ?_
        refine lv_iload_n hx hb dX4_putIntoLog_68 rfl (lv_at hl 1 rfl) ?_
        refine lv_iconst (v := 4) hx hb dX4_putIntoLog_69 (by decide) ?_
        refine va_callv (va_runV (As := [.int p1, .int 4]) (rest := []) ⟨hx, hb, hml, hown, hts⟩ (m_X4_finish l dC dI cy ad A I5 J6 LP7 P8 p1 4 hD h) (cwV 2 hts gX4_putIntoLog_X4_finish rfl rfl rfl (by decide +kernel) ⟨Nat.le_of_ble_eq_true rfl, Nat.le_of_ble_eq_true rfl⟩) ⟨wPre.blind, va_recv hK hP (ci := 4) (q0 := 3) rfl cG_3, wPre.at hP hK hN hS hA⟩ rfl rfl hl.1 rfl (lv_room (Nat.le_of_ble_eq_true rfl)) dX4_putIntoLog_70 ⟨by first | exact Nat.le_of_ble_eq_true rfl | (show _ ≤ 7; omega), by first | exact Nat.le_of_ble_eq_true rfl | (show _ ≤ 35; omega)⟩) hS (fun q _ h => h) (fun q h => h) (fun u t H locs ht hvm hw hB hz1 hk1 hS => ?_)
        obtain ⟨I10, J11, LP12, P13⟩ := u
        obtain ⟨hP, hD⟩ := hB; rw [ht] at hP; replace h := hw; try dsimp only at h hP hD
        refine W.widen (k := 7) (n := 35) (by omega) (by omega) ?_
        exact W.vret hx hb hr (fun t ht hW => hQ _ _ t I10 J11 LP12 P13 h ⟨by rw [ht]; exact hP, hD⟩ (hS.F ht)) hS.2.2 dX4_putIntoLog_73
      · have h := h.2 hc
        refine lv_aload_n hx hb dX4_putIntoLog_12 rfl (lv_at hl 0 rfl) ?_
        refine va_get (D := (dC, dI)) (ci := 4) (v := .ref (ad 6)) (C := RX4) (T := TX4) (N := 6) hx hb hts hinX4 hown hK hP 3 cG_3 rfl 3 (by decide) (hts (.fieldLink RX4 18 "OutboxHouse$Source" "owners" "[I") (by decide +kernel)) (fun _ h9 => h9) rfl dX4_putIntoLog_13 ?_
        refine lv_iload hx hb dX4_putIntoLog_16 (lv_at hl 4 rfl) ?_
        have hv := h.1; replace h := h.2
        refine va_iald hx hb hK hP 6 0 cG_6 rfl hv dX4_putIntoLog_18 ?_
        refine lv_iload_n hx hb dX4_putIntoLog_19 rfl (lv_at hl 1 rfl) ?_
        refine lv_icmp_ne (tgt := 61) hx hb dX4_putIntoLog_20 (by decide) (fun hc => ?_) (fun hc => ?_)
        · have h := h.1 hc
          refine lv_iinc (v := x4 + 1) (lv' := [(4, .int (x4 + 1)), (0, .ref (ad 3)), (1, .int p1), (2, .int p2), (3, .int x3)]) hx hb dX4_putIntoLog_61 hl (k := 4) rfl rfl (by decide) rfl (fun ls hl => ?_)
          refine lv_goto (tgt := 5) hx hb dX4_putIntoLog_64 (by decide) ?_
          obtain ⟨n14, hlt, hV⟩ := h
          refine W.widen (k := cl + 1) (n := 5 * (cl + 1)) (by omega) (by omega) ?_
          exact ihn2 n14 hlt _ _ _ _ _ _ _ _ (cl + 1) (by omega) hP hD hS ls (lv_sub hl [1, 2, 3, 4, 0] rfl) hV
        · have h := h.2 hc
          refine lv_iinc (v := x3 + 1) (lv' := [(3, .int (x3 + 1)), (0, .ref (ad 3)), (1, .int p1), (2, .int p2), (4, .int x4)]) hx hb dX4_putIntoLog_23 hl (k := 3) rfl rfl (by decide) rfl (fun ls hl => ?_)
          refine lv_aload_n hx hb dX4_putIntoLog_26 rfl (lv_at hl 1 rfl) ?_
          refine va_get (D := (dC, dI)) (ci := 4) (v := .ref (ad 1)) (C := RX4) (T := TX4) (N := 6) hx hb hts hinX4 hown hK hP 3 cG_3 rfl 0 (by decide) (hts (.fieldLink RX4 28 "OutboxHouse$Source" "changes" "LOutboxHouse$ChangeLog;") (by decide +kernel)) (fun _ h9 => h9) rfl dX4_putIntoLog_27 ?_
          refine lv_iload hx hb dX4_putIntoLog_30 (lv_at hl 4 rfl) ?_
          refine lv_aload_n hx hb dX4_putIntoLog_32 rfl (lv_at hl 1 rfl) ?_
          refine va_get (D := (dC, dI)) (ci := 4) (v := .ref (ad 7)) (C := RX4) (T := TX4) (N := 6) hx hb hts hinX4 hown hK hP 3 cG_3 rfl 4 (by decide) (hts (.fieldLink RX4 21 "OutboxHouse$Source" "drafts" "[I") (by decide +kernel)) (fun _ h9 => h9) rfl dX4_putIntoLog_33 ?_
          refine lv_iload hx hb dX4_putIntoLog_36 (lv_at hl 4 rfl) ?_
          have hv := h.1; replace h := h.2
          refine va_iald hx hb hK hP 7 0 cG_7 rfl hv dX4_putIntoLog_38 ?_
          refine lv_aload_n hx hb dX4_putIntoLog_39 rfl (lv_at hl 1 rfl) ?_
          refine va_get (D := (dC, dI)) (ci := 4) (v := .ref (ad 5)) (C := RX4) (T := TX4) (N := 6) hx hb hts hinX4 hown hK hP 3 cG_3 rfl 2 (by decide) (hts (.fieldLink RX4 15 "OutboxHouse$Source" "counts" "[I") (by decide +kernel)) (fun _ h9 => h9) rfl dX4_putIntoLog_40 ?_
          refine lv_iload hx hb dX4_putIntoLog_43 (lv_at hl 4 rfl) ?_
          have hv := h.1; replace h := h.2
          refine va_iald hx hb hK hP 5 0 cG_5 rfl hv dX4_putIntoLog_45 ?_
          refine lv_iconst (v := 1) hx hb dX4_putIntoLog_46 (by decide) ?_
          refine lv_iadd hx hb dX4_putIntoLog_47 ?_
          refine lv_iload_n hx hb dX4_putIntoLog_48 rfl (lv_at hl 0 rfl) ?_
          refine lv_iload_n hx hb dX4_putIntoLog_49 rfl (lv_at hl 3 rfl) ?_
          refine lv_icmp_ne (tgt := 57) hx hb dX4_putIntoLog_50 (by decide) (fun hc => ?_) (fun hc => ?_)
          · have h := h.1 hc
            refine lv_iconst (v := 0) hx hb dX4_putIntoLog_57 (by decide) ?_
            refine va_callv (va_runV (As := [.int x4, .int (I5 7 x4.toNatClampNeg), .int ((I5 5 x4.toNatClampNeg) + 1), .int 0]) (rest := []) ⟨hx, hb, hml, hown, hts⟩ (m_X1_append l dC dI cy ad A I5 J6 LP7 P8 x4 (I5 7 x4.toNatClampNeg) ((I5 5 x4.toNatClampNeg) + 1) 0 hD h) (cwV 4 hts gX4_putIntoLog_X1_append rfl rfl rfl (by decide +kernel) ⟨Nat.le_of_ble_eq_true rfl, Nat.le_of_ble_eq_true rfl⟩) ⟨wPre.blind, va_recv hK hP (ci := 1) (q0 := 1) rfl cG_1, wPre.at hP hK hN hS hA⟩ rfl rfl hl.1 rfl (lv_room (Nat.le_of_ble_eq_true rfl)) dX4_putIntoLog_58 ⟨by first | exact Nat.le_of_ble_eq_true rfl | (show _ ≤ 7; omega), by first | exact Nat.le_of_ble_eq_true rfl | (show _ ≤ 35; omega)⟩) hS (fun q _ h => h) (fun q h => h) (fun u t H locs ht hvm hw hB hz1 hk1 hS => ?_)
            obtain ⟨I16, J17, LP18, P19⟩ := u
            obtain ⟨hP, hD⟩ := hB; rw [ht] at hP; replace h := hw; try dsimp only at h hP hD
            refine lv_iinc (v := x4 + 1) (lv' := [(4, .int (x4 + 1)), (3, .int (x3 + 1)), (0, .ref (ad 3)), (1, .int p1), (2, .int p2)]) hx hb dX4_putIntoLog_61 hl (k := 4) rfl rfl (by decide) rfl (fun ls hl => ?_)
            refine lv_goto (tgt := 5) hx hb dX4_putIntoLog_64 (by decide) ?_
            obtain ⟨n20, hlt, hV⟩ := h
            refine W.widen (k := cl + 1) (n := 5 * (cl + 1)) (by omega) (by omega) ?_
            exact ihn2 n20 hlt _ _ _ _ _ _ _ _ (cl + 1) (by omega) hP hD hS ls (lv_sub hl [2, 3, 4, 1, 0] rfl) hV
          · have h := h.2 hc
            refine lv_iconst (v := 1) hx hb dX4_putIntoLog_53 (by decide) ?_
            refine lv_goto (tgt := 58) hx hb dX4_putIntoLog_54 (by decide) ?_
            refine va_callv (va_runV (As := [.int x4, .int (I5 7 x4.toNatClampNeg), .int ((I5 5 x4.toNatClampNeg) + 1), .int 1]) (rest := []) ⟨hx, hb, hml, hown, hts⟩ (m_X1_append l dC dI cy ad A I5 J6 LP7 P8 x4 (I5 7 x4.toNatClampNeg) ((I5 5 x4.toNatClampNeg) + 1) 1 hD h) (cwV 4 hts gX4_putIntoLog_X1_append rfl rfl rfl (by decide +kernel) ⟨Nat.le_of_ble_eq_true rfl, Nat.le_of_ble_eq_true rfl⟩) ⟨wPre.blind, va_recv hK hP (ci := 1) (q0 := 1) rfl cG_1, wPre.at hP hK hN hS hA⟩ rfl rfl hl.1 rfl (lv_room (Nat.le_of_ble_eq_true rfl)) dX4_putIntoLog_58 ⟨by first | exact Nat.le_of_ble_eq_true rfl | (show _ ≤ 7; omega), by first | exact Nat.le_of_ble_eq_true rfl | (show _ ≤ 35; omega)⟩) hS (fun q _ h => h) (fun q h => h) (fun u t H locs ht hvm hw hB hz1 hk1 hS => ?_)
            obtain ⟨I22, J23, LP24, P25⟩ := u
            obtain ⟨hP, hD⟩ := hB; rw [ht] at hP; replace h := hw; try dsimp only at h hP hD
            refine lv_iinc (v := x4 + 1) (lv' := [(4, .int (x4 + 1)), (3, .int (x3 + 1)), (0, .ref (ad 3)), (1, .int p1), (2, .int p2)]) hx hb dX4_putIntoLog_61 hl (k := 4) rfl rfl (by decide) rfl (fun ls hl => ?_)
            refine lv_goto (tgt := 5) hx hb dX4_putIntoLog_64 (by decide) ?_
            obtain ⟨n26, hlt, hV⟩ := h
            refine W.widen (k := cl + 1) (n := 5 * (cl + 1)) (by omega) (by omega) ?_
            exact ihn2 n26 hlt _ _ _ _ _ _ _ _ (cl + 1) (by omega) hP hD hS ls (lv_sub hl [2, 3, 4, 1, 0] rfl) hV
  exact hlpn2 n20 _ _ _ _ _ _ _ _ 0 (by omega) hP hD hS ls (lv_sub hl [2, 3, 4, 1, 0] rfl) hV0
theorem m_X4_putIntoLog (l : Launch) (dC : Nat → ClassId) (dI : Nat → Nat → Nat) (cy : Nat → ClassId) (ad : Nat → Nat) (A : Nat → Prop) (I : St) (J : Rf) (LP : List Nat) (P : St) (p1 : Int32) (p2 : Int32) {post : St → Rf → List Nat → St → Prop} (hD : va_D A (cW ad cy I J LP P)) (h : wp_X4_putIntoLog I J LP P p1 p2 post) : Met l yX4_putIntoLog wsX4_putIntoLog rmX4_putIntoLog (va_Pc [.ref (ad 3), .int p1, .int p2] (wPre (dC, dI) cy A (cW ad cy I J LP P))) (va_Qv (fun (u : CS) => post u.1 u.2.1 u.2.2.1 u.2.2.2) (fun (u : CS) t => wPost (dC, dI) A (cW ad cy u.1 u.2.1 u.2.2.1 u.2.2.2) t) A) 7 35 A := g_X4_putIntoLog l dC dI cy ad A I J LP P p1 p2 hD h (fun a s0 t I' J' LP' P' h1 h2 h3 => ⟨⟨(I', J', LP', P'), rfl, h1, h2⟩, h3⟩)
abbrev rmX7_commit : Room := { frames := 4, cells := 7, slots := 35, locals := 85 }
set_option maxHeartbeats 4000000 in
set_option maxRecDepth 100000 in
theorem g_X7_commit (l : Launch) (dC : Nat → ClassId) (dI : Nat → Nat → Nat) (cy : Nat → ClassId) (ad : Nat → Nat) (A : Nat → Prop) (I : St) (J : Rf) (LP : List Nat) (P : St) (p1 : Int32) {post : Int32 → St → Rf → List Nat → St → Prop} (hD : va_D A (cW ad cy I J LP P)) (h : wp_X7_commit I J LP P p1 post) {Qc : Array Value → State → Outcome → State → Prop} (hQ : ∀ (a : Array Value) (s0 t : State) (r : Int32) (I' : St) (J' : Rf) (LP' : List Nat) (P' : St), post r I' J' LP' P' → wPost (dC, dI) A (cW ad cy I' J' LP' P') t → va_F A s0 t → Qc a s0 (.returned (some (.int r))) t) : Met l yX7_commit wsX7_commit rmX7_commit (va_Pc [.ref (ad 0), .int p1] (wPre (dC, dI) cy A (cW ad cy I J LP P))) Qc 7 35 A := by
  refine Met.ofW (cc := cX7_commit) (maxL := 3) (ret := (some .int)) (by decide) rfl ?_
  intro p e s m args below meth c s₁ B hml hv
  obtain ⟨rfl, hP, hK, hN, hA⟩ := hv
  have hx := B.exec
  have hb := B.bytes
  have hr := B.returns
  have hts := atoms_spec (ws := wsX7_commit) B.pre
  have hown : s.vm.findClass RX7 = some m.cls := findClass_of_methodNamed B.named
  have hlocks := B.notSynchronized
  have hinX7 : ∀ w ∈ wsX70, w ∈ wsX7_commit := fun _ h9 => List.mem_cons_of_mem _ (List.mem_append_left _ (List.mem_append_left _ (List.mem_append_left _ (List.mem_append_right _ h9))))
  have hS : va_S A s.heap s.heap [] := va_S.rf
  unfold wp_X7_commit at h
  have hl := lv_entry ([.ref (ad 0), .int p1]) (n := 3) (Nat.le_of_ble_eq_true rfl)
  rw [lg_entry_eq]
  generalize (lg_sl ([.ref (ad 0), .int p1]) ++ List.replicate (3 - (lg_sl ([.ref (ad 0), .int p1])).length) Slot.unset).toArray = ls at hl ⊢
  have hl : lv_has ls 3 [(0, .ref (ad 0)), (1, .int p1)] := hl
  refine lv_aload_n hx hb dX7_commit_0 rfl (lv_at hl 0 rfl) ?_
  refine va_get (D := (dC, dI)) (ci := 7) (v := .ref (ad 3)) (C := RX7) (T := TX7) (N := 5) hx hb hts hinX7 hown hK hP 0 cG_0 rfl 1 (by decide) (hts (.fieldLink RX7 21 "OutboxHouse" "source" "LOutboxHouse$Source;") (by decide +kernel)) (fun _ h9 => h9) rfl dX7_commit_1 ?_
  refine lv_iload_n hx hb dX7_commit_4 rfl (lv_at hl 1 rfl) ?_
  refine va_calli (va_runV (As := [.int p1]) (rest := []) ⟨hx, hb, hml, hown, hts⟩ (m_X4_isOpen l dC dI cy ad A I J LP P p1 hD h) (cwV 1 hts gX7_commit_X4_isOpen rfl rfl rfl (by decide +kernel) ⟨Nat.le_of_ble_eq_true rfl, Nat.le_of_ble_eq_true rfl⟩) ⟨wPre.blind, va_recv hK hP (ci := 4) (q0 := 3) rfl cG_3, wPre.at hP hK hN hS hA⟩ rfl rfl hl.1 rfl (lv_room (Nat.le_of_ble_eq_true rfl)) dX7_commit_5 ⟨by first | exact Nat.le_of_ble_eq_true rfl | (show _ ≤ 7; omega), by first | exact Nat.le_of_ble_eq_true rfl | (show _ ≤ 35; omega)⟩) hS (fun q _ h => h) (fun q h => h) (fun r1 u t H locs ht hvm hw hB hz1 hk1 hS => ?_)
  obtain ⟨I2, J3, LP4, P5⟩ := u
  obtain ⟨hP, hD⟩ := hB; rw [ht] at hP; replace h := hw; try dsimp only at h hP hD
  refine lv_if_ne (tgt := 13) hx hb dX7_commit_8 (by decide) (fun hc => ?_) (fun hc => ?_)
  · have h := h.1 hc
    refine lv_aload_n hx hb dX7_commit_13 rfl (lv_at hl 0 rfl) ?_
    refine va_get (D := (dC, dI)) (ci := 7) (v := .ref (ad 3)) (C := RX7) (T := TX7) (N := 5) hx hb hts hinX7 hown hK hP 0 cG_0 rfl 1 (by decide) (hts (.fieldLink RX7 21 "OutboxHouse" "source" "LOutboxHouse$Source;") (by decide +kernel)) (fun _ h9 => h9) rfl dX7_commit_14 ?_
    refine lv_iload_n hx hb dX7_commit_17 rfl (lv_at hl 1 rfl) ?_
    refine va_calli (va_runV (As := [.int p1]) (rest := []) ⟨hx, hb, hml, hown, hts⟩ (m_X4_lockedKeys l dC dI cy ad A I2 J3 LP4 P5 p1 hD h) (cwV 1 hts gX7_commit_X4_lockedKeys rfl rfl rfl (by decide +kernel) ⟨Nat.le_of_ble_eq_true rfl, Nat.le_of_ble_eq_true rfl⟩) ⟨wPre.blind, va_recv hK hP (ci := 4) (q0 := 3) rfl cG_3, wPre.at hP hK hN hS hA⟩ rfl rfl hl.1 rfl (lv_room (Nat.le_of_ble_eq_true rfl)) dX7_commit_18 ⟨by first | exact Nat.le_of_ble_eq_true rfl | (show _ ≤ 7; omega), by first | exact Nat.le_of_ble_eq_true rfl | (show _ ≤ 35; omega)⟩) hS (fun q _ h => h) (fun q h => h) (fun r6 u t H locs ht hvm hw hB hz1 hk1 hS => ?_)
    obtain ⟨I7, J8, LP9, P10⟩ := u
    obtain ⟨hP, hD⟩ := hB; rw [ht] at hP; replace h := hw; try dsimp only at h hP hD
    refine lv_istore_n (lv' := [(2, .int r6), (0, .ref (ad 0)), (1, .int p1)]) hx hb dX7_commit_21 rfl hl (by decide) rfl (fun ls hl => ?_)
    refine lv_aload_n hx hb dX7_commit_22 rfl (lv_at hl 1 rfl) ?_
    refine va_get (D := (dC, dI)) (ci := 7) (v := .ref (ad 1)) (C := RX7) (T := TX7) (N := 5) hx hb hts hinX7 hown hK hP 0 cG_0 rfl 0 (by decide) (hts (.fieldLink RX7 10 "OutboxHouse" "changes" "LOutboxHouse$ChangeLog;") (by decide +kernel)) (fun _ h9 => h9) rfl dX7_commit_23 ?_
    refine lv_iload_n hx hb dX7_commit_26 rfl (lv_at hl 0 rfl) ?_
    refine va_calli (va_runV (As := [.int r6]) (rest := []) ⟨hx, hb, hml, hown, hts⟩ (m_X1_hasRoomFor l dC dI cy ad A I7 J8 LP9 P10 r6 hD h) (cwV 1 hts gX7_commit_X1_hasRoomFor rfl rfl rfl (by decide +kernel) ⟨Nat.le_of_ble_eq_true rfl, Nat.le_of_ble_eq_true rfl⟩) ⟨wPre.blind, va_recv hK hP (ci := 1) (q0 := 1) rfl cG_1, wPre.at hP hK hN hS hA⟩ rfl rfl hl.1 rfl (lv_room (Nat.le_of_ble_eq_true rfl)) dX7_commit_27 ⟨by first | exact Nat.le_of_ble_eq_true rfl | (show _ ≤ 7; omega), by first | exact Nat.le_of_ble_eq_true rfl | (show _ ≤ 35; omega)⟩) hS (fun q _ h => h) (fun q h => h) (fun r11 u t H locs ht hvm hw hB hz1 hk1 hS => ?_)
    obtain ⟨I12, J13, LP14, P15⟩ := u
    obtain ⟨hP, hD⟩ := hB; rw [ht] at hP; replace h := hw; try dsimp only at h hP hD
    refine lv_if_ne (tgt := 36) hx hb dX7_commit_30 (by decide) (fun hc => ?_) (fun hc => ?_)
    · have h := h.1 hc
      refine lv_aload_n hx hb dX7_commit_36 rfl (lv_at hl 1 rfl) ?_
      refine va_get (D := (dC, dI)) (ci := 7) (v := .ref (ad 3)) (C := RX7) (T := TX7) (N := 5) hx hb hts hinX7 hown hK hP 0 cG_0 rfl 1 (by decide) (hts (.fieldLink RX7 21 "OutboxHouse" "source" "LOutboxHouse$Source;") (by decide +kernel)) (fun _ h9 => h9) rfl dX7_commit_37 ?_
      refine lv_iload_n hx hb dX7_commit_40 rfl (lv_at hl 2 rfl) ?_
      refine lv_iload_n hx hb dX7_commit_41 rfl (lv_at hl 0 rfl) ?_
      refine va_callv (va_runV (As := [.int p1, .int r6]) (rest := []) ⟨hx, hb, hml, hown, hts⟩ (m_X4_putIntoLog l dC dI cy ad A I12 J13 LP14 P15 p1 r6 hD h) (cwV 2 hts gX7_commit_X4_putIntoLog rfl rfl rfl (by decide +kernel) ⟨Nat.le_of_ble_eq_true rfl, Nat.le_of_ble_eq_true rfl⟩) ⟨wPre.blind, va_recv hK hP (ci := 4) (q0 := 3) rfl cG_3, wPre.at hP hK hN hS hA⟩ rfl rfl hl.1 rfl (lv_room (Nat.le_of_ble_eq_true rfl)) dX7_commit_42 ⟨by first | exact Nat.le_of_ble_eq_true rfl | (show _ ≤ 7; omega), by first | exact Nat.le_of_ble_eq_true rfl | (show _ ≤ 35; omega)⟩) hS (fun q _ h => h) (fun q h => h) (fun u t H locs ht hvm hw hB hz1 hk1 hS => ?_)
      obtain ⟨I17, J18, LP19, P20⟩ := u
      obtain ⟨hP, hD⟩ := hB; rw [ht] at hP; replace h := hw; try dsimp only at h hP hD
      refine lv_iload_n hx hb dX7_commit_45 rfl (lv_at hl 0 rfl) ?_
      refine W.widen (k := 7) (n := 35) (by omega) (by omega) ?_
      exact W.iret (v := r6) hx hb hr (fun t ht hW => hQ _ _ t r6 I17 J18 LP19 P20 h ⟨by rw [ht]; exact hP, hD⟩ (hS.F ht)) hS.2.2 dX7_commit_46
    · have h := h.2 hc
      refine lv_bipush (v := (-3)) hx hb dX7_commit_33 (by decide) ?_
      refine W.widen (k := 7) (n := 35) (by omega) (by omega) ?_
      exact W.iret (v := (-3)) hx hb hr (fun t ht hW => hQ _ _ t (-3) I12 J13 LP14 P15 h ⟨by rw [ht]; exact hP, hD⟩ (hS.F ht)) hS.2.2 dX7_commit_35
  · have h := h.2 hc
    refine lv_iconst (v := (-1)) hx hb dX7_commit_11 (by decide) ?_
    refine W.widen (k := 7) (n := 35) (by omega) (by omega) ?_
    exact W.iret (v := (-1)) hx hb hr (fun t ht hW => hQ _ _ t (-1) I2 J3 LP4 P5 h ⟨by rw [ht]; exact hP, hD⟩ (hS.F ht)) hS.2.2 dX7_commit_12
theorem m_X7_commit (l : Launch) (dC : Nat → ClassId) (dI : Nat → Nat → Nat) (cy : Nat → ClassId) (ad : Nat → Nat) (A : Nat → Prop) (I : St) (J : Rf) (LP : List Nat) (P : St) (p1 : Int32) {post : Int32 → St → Rf → List Nat → St → Prop} (hD : va_D A (cW ad cy I J LP P)) (h : wp_X7_commit I J LP P p1 post) : Met l yX7_commit wsX7_commit rmX7_commit (va_Pc [.ref (ad 0), .int p1] (wPre (dC, dI) cy A (cW ad cy I J LP P))) (va_Qi (fun r (u : CS) => post r u.1 u.2.1 u.2.2.1 u.2.2.2) (fun (u : CS) t => wPost (dC, dI) A (cW ad cy u.1 u.2.1 u.2.2.1 u.2.2.2) t) A) 7 35 A := g_X7_commit l dC dI cy ad A I J LP P p1 hD h (fun a s0 t r I' J' LP' P' h1 h2 h3 => ⟨⟨r, (I', J', LP', P'), rfl, h1, h2⟩, h3⟩)
