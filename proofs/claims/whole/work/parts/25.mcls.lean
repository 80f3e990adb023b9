abbrev rmX7_read : Room := { frames := 1, cells := 0, slots := 0, locals := 22 }
set_option maxHeartbeats 4000000 in
set_option maxRecDepth 100000 in
theorem g_X7_read (l : Launch) (dC : Nat → ClassId) (dI : Nat → Nat → Nat) (cy : Nat → ClassId) (ad : Nat → Nat) (A : Nat → Prop) (I : St) (J : Rf) (LP : List Nat) (P : St) (p1 : Int32) (p2 : Int32) {post : Int32 → St → Rf → List Nat → St → Prop} (hD : va_D A (cW ad cy I J LP P)) (h : wp_X7_read I J LP P p1 p2 post) {Qc : Array Value → State → Outcome → State → Prop} (hQ : ∀ (a : Array Value) (s0 t : State) (r : Int32) (I' : St) (J' : Rf) (LP' : List Nat) (P' : St), post r I' J' LP' P' → wPost (dC, dI) A (cW ad cy I' J' LP' P') t → va_F A s0 t → Qc a s0 (.returned (some (.int r))) t) : Met l yX7_read wsX7_read rmX7_read (va_Pc [.ref (ad 0), .int p1, .int p2] (wPre (dC, dI) cy A (cW ad cy I J LP P))) Qc 0 0 A := by
  refine Met.ofW (cc := cX7_read) (maxL := 3) (ret := (some .int)) (by decide) rfl ?_
  intro p e s m args below meth c s₁ B hml hv
  obtain ⟨rfl, hP, hK, hN, hA⟩ := hv
  have hx := B.exec
  have hb := B.bytes
  have hr := B.returns
  have hts := atoms_spec (ws := wsX7_read) B.pre
  have hown : s.vm.findClass RX7 = some m.cls := findClass_of_methodNamed B.named
  have hlocks := B.notSynchronized
  have hinX7 : ∀ w ∈ wsX70, w ∈ wsX7_read := fun _ h9 => List.mem_cons_of_mem _ (List.mem_append_left _ (List.mem_append_right _ h9))
  have hS : va_S A s.heap s.heap [] := va_S.rf
  unfold wp_X7_read at h
  have hl := lv_entry ([.ref (ad 0), .int p1, .int p2]) (n := 3) (Nat.le_of_ble_eq_true rfl)
  rw [lg_entry_eq]
  generalize (lg_sl ([.ref (ad 0), .int p1, .int p2]) ++ List.replicate (3 - (lg_sl ([.ref (ad 0), .int p1, .int p2])).length) Slot.unset).toArray = ls at hl ⊢
  have hl : lv_has ls 3 [(0, .ref (ad 0)), (1, .int p1), (2, .int p2)] := hl
  refine lv_aload_n hx hb dX7_read_0 rfl (lv_at hl 0 rfl) ?_
  refine va_get (D := (dC, dI)) (ci := 7) (v := .ref (ad 3)) (C := RX7) (T := TX7) (N := 5) hx hb hts hinX7 hown hK hP 0 cG_0 rfl 1 (by decide) (hts (.fieldLink RX7 21 "OutboxHouse" "source" "LOutboxHouse$Source;") (by decide +kernel)) (fun _ h9 => h9) rfl dX7_read_1 ?_
  refine lv_iload_n hx hb dX7_read_4 rfl (lv_at hl 1 rfl) ?_
  refine va_calli (va_runV (As := [.int p1]) (rest := []) ⟨hx, hb, hml, hown, hts⟩ (m_X4_isOpen l dC dI cy ad A I J LP P p1 hD h) (cwV 1 hts gX7_read_X4_isOpen rfl rfl rfl (by decide +kernel) ⟨Nat.le_of_ble_eq_true rfl, Nat.le_of_ble_eq_true rfl⟩) ⟨wPre.blind, va_recv hK hP (ci := 4) (q0 := 3) rfl cG_3, wPre.at hP hK hN hS hA⟩ rfl rfl hl.1 rfl (lv_room (Nat.le_of_ble_eq_true rfl)) dX7_read_5 ⟨by first | exact Nat.le_of_ble_eq_true rfl | (show _ ≤ 0; omega), by first | exact Nat.le_of_ble_eq_true rfl | (show _ ≤ 0; omega)⟩) hS (fun q _ h => h) (fun q h => h) (fun r1 u t H locs ht hvm hw hB hz1 hk1 hS => ?_)
  obtain ⟨I2, J3, LP4, P5⟩ := u
  obtain ⟨hP, hD⟩ := hB; rw [ht] at hP; replace h := hw; try dsimp only at h hP hD
  refine lv_if_eq (tgt := 18) hx hb dX7_read_8 (by decide) (fun hc => ?_) (fun hc => ?_)
  · have h := h.1 hc
    refine lv_iconst (v := 0) hx hb dX7_read_18 (by decide) ?_
    exact W.iret (v := 0) hx hb hr (fun t ht hW => hQ _ _ t 0 I2 J3 LP4 P5 h ⟨by rw [ht]; exact hP, hD⟩ (hS.F ht)) hS.2.2 dX7_read_19
  · have h := h.2 hc
    refine lv_iload_n hx hb dX7_read_11 rfl (lv_at hl 2 rfl) ?_
    refine va_calli (va_runS (As := [.int p2]) (rest := []) ⟨hx, hb, hml, hown, hts⟩ (m_X7_isKey l dC dI cy ad A I2 J3 LP4 P5 p2 hD h) (va_cwS 1 hts gX7_read_X7_isKey rfl rfl rfl (by decide +kernel) ⟨Nat.le_of_ble_eq_true rfl, Nat.le_of_ble_eq_true rfl⟩) ⟨wPre.blind, wPre.at hP hK hN hS hA⟩ rfl rfl hl.1 rfl (lv_room (Nat.le_of_ble_eq_true rfl)) dX7_read_12 ⟨by first | exact Nat.le_of_ble_eq_true rfl | (show _ ≤ 0; omega), by first | exact Nat.le_of_ble_eq_true rfl | (show _ ≤ 0; omega)⟩) hS (fun q _ h => h) (fun q h => h) (fun r6 u t H locs ht hvm hw hB hz1 hk1 hS => ?_)
    obtain ⟨I7, J8, LP9, P10⟩ := u
    obtain ⟨hP, hD⟩ := hB; rw [ht] at hP; replace h := hw; try dsimp only at h hP hD
    refine lv_if_ne (tgt := 20) hx hb dX7_read_15 (by decide) (fun hc => ?_) (fun hc => ?_)
    · have h := h.1 hc
      refine lv_aload_n hx hb dX7_read_20 rfl (lv_at hl 0 rfl) ?_
      refine va_get (D := (dC, dI)) (ci := 7) (v := .ref (ad 3)) (C := RX7) (T := TX7) (N := 5) hx hb hts hinX7 hown hK hP 0 cG_0 rfl 1 (by decide) (hts (.fieldLink RX7 21 "OutboxHouse" "source" "LOutboxHouse$Source;") (by decide +kernel)) (fun _ h9 => h9) rfl dX7_read_21 ?_
      refine lv_iload_n hx hb dX7_read_24 rfl (lv_at hl 1 rfl) ?_
      refine lv_iload_n hx hb dX7_read_25 rfl (lv_at hl 2 rfl) ?_
      refine va_calli (va_runV (As := [.int p1, .int p2]) (rest := []) ⟨hx, hb, hml, hown, hts⟩ (m_X4_seenBy l dC dI cy ad A I7 J8 LP9 P10 p1 p2 hD h) (cwV 2 hts gX7_read_X4_seenBy rfl rfl rfl (by decide +kernel) ⟨Nat.le_of_ble_eq_true rfl, Nat.le_of_ble_eq_true rfl⟩) ⟨wPre.blind, va_recv hK hP (ci := 4) (q0 := 3) rfl cG_3, wPre.at hP hK hN hS hA⟩ rfl rfl hl.1 rfl (lv_room (Nat.le_of_ble_eq_true rfl)) dX7_read_26 ⟨by first | exact Nat.le_of_ble_eq_true rfl | (show _ ≤ 0; omega), by first | exact Nat.le_of_ble_eq_true rfl | (show _ ≤ 0; omega)⟩) hS (fun q _ h => h) (fun q h => h) (fun r11 u t H locs ht hvm hw hB hz1 hk1 hS => ?_)
      obtain ⟨I12, J13, LP14, P15⟩ := u
      obtain ⟨hP, hD⟩ := hB; rw [ht] at hP; replace h := hw; try dsimp only at h hP hD
      exact W.iret (v := r11) hx hb hr (fun t ht hW => hQ _ _ t r11 I12 J13 LP14 P15 h ⟨by rw [ht]; exact hP, hD⟩ (hS.F ht)) hS.2.2 dX7_read_29
    · have h := h.2 hc
      refine lv_iconst (v := 0) hx hb dX7_read_18 (by decide) ?_
      exact W.iret (v := 0) hx hb hr (fun t ht hW => hQ _ _ t 0 I7 J8 LP9 P10 h ⟨by rw [ht]; exact hP, hD⟩ (hS.F ht)) hS.2.2 dX7_read_19
theorem m_X7_read (l : Launch) (dC : Nat → ClassId) (dI : Nat → Nat → Nat) (cy : Nat → ClassId) (ad : Nat → Nat) (A : Nat → Prop) (I : St) (J : Rf) (LP : List Nat) (P : St) (p1 : Int32) (p2 : Int32) {post : Int32 → St → Rf → List Nat → St → Prop} (hD : va_D A (cW ad cy I J LP P)) (h : wp_X7_read I J LP P p1 p2 post) : Met l yX7_read wsX7_read rmX7_read (va_Pc [.ref (ad 0), .int p1, .int p2] (wPre (dC, dI) cy A (cW ad cy I J LP P))) (va_Qi (fun r (u : CS) => post r u.1 u.2.1 u.2.2.1 u.2.2.2) (fun (u : CS) t => wPost (dC, dI) A (cW ad cy u.1 u.2.1 u.2.2.1 u.2.2.2) t) A) 0 0 A := g_X7_read l dC dI cy ad A I J LP P p1 p2 hD h (fun a s0 t r I' J' LP' P' h1 h2 h3 => ⟨⟨r, (I', J', LP', P'), rfl, h1, h2⟩, h3⟩)
abbrev rmX7_abort : Room := { frames := 2, cells := 0, slots := 0, locals := 44 }
set_option maxHeartbeats 4000000 in
set_option maxRecDepth 100000 in
theorem g_X7_abort (l : Launch) (dC : Nat → ClassId) (dI : Nat → Nat → Nat) (cy : Nat → ClassId) (ad : Nat → Nat) (A : Nat → Prop) (I : St) (J : Rf) (LP : List Nat) (P : St) (p1 : Int32) {post : Int32 → St → Rf → List Nat → St → Prop} (hD : va_D A (cW ad cy I J LP P)) (h : wp_X7_abort I J LP P p1 post) {Qc : Array Value → State → Outcome → State → Prop} (hQ : ∀ (a : Array Value) (s0 t : State) (r : Int32) (I' : St) (J' : Rf) (LP' : List Nat) (P' : St), post r I' J' LP' P' → wPost (dC, dI) A (cW ad cy I' J' LP' P') t → va_F A s0 t → Qc a s0 (.returned (some (.int r))) t) : Met l yX7_abort wsX7_abort rmX7_abort (va_Pc [.ref (ad 0), .int p1] (wPre (dC, dI) cy A (cW ad cy I J LP P))) Qc 0 0 A := by
  refine Met.ofW (cc := cX7_abort) (maxL := 3) (ret := (some .int)) (by decide) rfl ?_
  intro p e s m args below meth c s₁ B hml hv
  obtain ⟨rfl, hP, hK, hN, hA⟩ := hv
  have hx := B.exec
  have hb := B.bytes
  have hr := B.returns
  have hts := atoms_spec (ws := wsX7_abort) B.pre
  have hown : s.vm.findClass RX7 = some m.cls := findClass_of_methodNamed B.named
  have hlocks := B.notSynchronized
  have hinX7 : ∀ w ∈ wsX70, w ∈ wsX7_abort := fun _ h9 => List.mem_cons_of_mem _ (List.mem_append_left _ (List.mem_append_right _ h9))
  have hS : va_S A s.heap s.heap [] := va_S.rf
  unfold wp_X7_abort at h
  have hl := lv_entry ([.ref (ad 0), .int p1]) (n := 3) (Nat.le_of_ble_eq_true rfl)
  rw [lg_entry_eq]
  generalize (lg_sl ([.ref (ad 0), .int p1]) ++ List.replicate (3 - (lg_sl ([.ref (ad 0), .int p1])).length) Slot.unset).toArray = ls at hl ⊢
  have hl : lv_has ls 3 [(0, .ref (ad 0)), (1, .int p1)] := hl
  refine lv_aload_n hx hb dX7_abort_0 rfl (lv_at hl 0 rfl) ?_
  refine va_get (D := (dC, dI)) (ci := 7) (v := .ref (ad 3)) (C := RX7) (T := TX7) (N := 5) hx hb hts hinX7 hown hK hP 0 cG_0 rfl 1 (by decide) (hts (.fieldLink RX7 21 "OutboxHouse" "source" "LOutboxHouse$Source;") (by decide +kernel)) (fun _ h9 => h9) rfl dX7_abort_1 ?_
  refine lv_iload_n hx hb dX7_abort_4 rfl (lv_at hl 1 rfl) ?_
  refine va_calli (va_runV (As := [.int p1]) (rest := []) ⟨hx, hb, hml, hown, hts⟩ (m_X4_isOpen l dC dI cy ad A I J LP P p1 hD h) (cwV 1 hts gX7_abort_X4_isOpen rfl rfl rfl (by decide +kernel) ⟨Nat.le_of_ble_eq_true rfl, Nat.le_of_ble_eq_true rfl⟩) ⟨wPre.blind, va_recv hK hP (ci := 4) (q0 := 3) rfl cG_3, wPre.at hP hK hN hS hA⟩ rfl rfl hl.1 rfl (lv_room (Nat.le_of_ble_eq_true rfl)) dX7_abort_5 ⟨by first | exact Nat.le_of_ble_eq_true rfl | (show _ ≤ 0; omega), by first | exact Nat.le_of_ble_eq_true rfl | (show _ ≤ 0; omega)⟩) hS (fun q _ h => h) (fun q h => h) (fun r1 u t H locs ht hvm hw hB hz1 hk1 hS => ?_)
  obtain ⟨I2, J3, LP4, P5⟩ := u
  obtain ⟨hP, hD⟩ := hB; rw [ht] at hP; replace h := hw; try dsimp only at h hP hD
  refine lv_if_ne (tgt := 13) hx hb dX7_abort_8 (by decide) (fun hc => ?_) (fun hc => ?_)
  · have h := h.1 hc
    refine lv_aload_n hx hb dX7_abort_13 rfl (lv_at hl 0 rfl) ?_
    refine va_get (D := (dC, dI)) (ci := 7) (v := .ref (ad 3)) (C := RX7) (T := TX7) (N := 5) hx hb hts hinX7 hown hK hP 0 cG_0 rfl 1 (by decide) (hts (.fieldLink RX7 21 "OutboxHouse" "source" "LOutboxHouse$Source;") (by decide +kernel)) (fun _ h9 => h9) rfl dX7_abort_14 ?_
    refine lv_iload_n hx hb dX7_abort_17 rfl (lv_at hl 1 rfl) ?_
    refine va_calli (va_runV (As := [.int p1]) (rest := []) ⟨hx, hb, hml, hown, hts⟩ (m_X4_lockedKeys l dC dI cy ad A I2 J3 LP4 P5 p1 hD h) (cwV 1 hts gX7_abort_X4_lockedKeys rfl rfl rfl (by decide +kernel) ⟨Nat.le_of_ble_eq_true rfl, Nat.le_of_ble_eq_true rfl⟩) ⟨wPre.blind, va_recv hK hP (ci := 4) (q0 := 3) rfl cG_3, wPre.at hP hK hN hS hA⟩ rfl rfl hl.1 rfl (lv_room (Nat.le_of_ble_eq_true rfl)) dX7_abort_18 ⟨by first | exact Nat.le_of_ble_eq_true rfl | (show _ ≤ 0; omega), by first | exact Nat.le_of_ble_eq_true rfl | (show _ ≤ 0; omega)⟩) hS (fun q _ h => h) (fun q h => h) (fun r6 u t H locs ht hvm hw hB hz1 hk1 hS => ?_)
    obtain ⟨I7, J8, LP9, P10⟩ := u
    obtain ⟨hP, hD⟩ := hB; rw [ht] at hP; replace h := hw; try dsimp only at h hP hD
    refine lv_istore_n (lv' := [(2, .int r6), (0, .ref (ad 0)), (1, .int p1)]) hx hb dX7_abort_21 rfl hl (by decide) rfl (fun ls hl => ?_)
    refine lv_aload_n hx hb dX7_abort_22 rfl (lv_at hl 1 rfl) ?_
    refine va_get (D := (dC, dI)) (ci := 7) (v := .ref (ad 3)) (C := RX7) (T := TX7) (N := 5) hx hb hts hinX7 hown hK hP 0 cG_0 rfl 1 (by decide) (hts (.fieldLink RX7 21 "OutboxHouse" "source" "LOutboxHouse$Source;") (by decide +kernel)) (fun _ h9 => h9) rfl dX7_abort_23 ?_
    refine lv_iload_n hx hb dX7_abort_26 rfl (lv_at hl 2 rfl) ?_
    refine va_callv (va_runV (As := [.int p1]) (rest := []) ⟨hx, hb, hml, hown, hts⟩ (m_X4_giveUp l dC dI cy ad A I7 J8 LP9 P10 p1 hD h) (cwV 1 hts gX7_abort_X4_giveUp rfl rfl rfl (by decide +kernel) ⟨Nat.le_of_ble_eq_true rfl, Nat.le_of_ble_eq_true rfl⟩) ⟨wPre.blind, va_recv hK hP (ci := 4) (q0 := 3) rfl cG_3, wPre.at hP hK hN hS hA⟩ rfl rfl hl.1 rfl (lv_room (Nat.le_of_ble_eq_true rfl)) dX7_abort_27 ⟨by first | exact Nat.le_of_ble_eq_true rfl | (show _ ≤ 0; omega), by first | exact Nat.le_of_ble_eq_true rfl | (show _ ≤ 0; omega)⟩) hS (fun q _ h => h) (fun q h => h) (fun u t H locs ht hvm hw hB hz1 hk1 hS => ?_)
    obtain ⟨I12, J13, LP14, P15⟩ := u
    obtain ⟨hP, hD⟩ := hB; rw [ht] at hP; replace h := hw; try dsimp only at h hP hD
    refine lv_iload_n hx hb dX7_abort_30 rfl (lv_at hl 0 rfl) ?_
    exact W.iret (v := r6) hx hb hr (fun t ht hW => hQ _ _ t r6 I12 J13 LP14 P15 h ⟨by rw [ht]; exact hP, hD⟩ (hS.F ht)) hS.2.2 dX7_abort_31
  · have h := h.2 hc
    refine lv_iconst (v := (-1)) hx hb dX7_abort_11 (by decide) ?_
    exact W.iret (v := (-1)) hx hb hr (fun t ht hW => hQ _ _ t (-1) I2 J3 LP4 P5 h ⟨by rw [ht]; exact hP, hD⟩ (hS.F ht)) hS.2.2 dX7_abort_12
theorem m_X7_abort (l : Launch) (dC : Nat → ClassId) (dI : Nat → Nat → Nat) (cy : Nat → ClassId) (ad : Nat → Nat) (A : Nat → Prop) (I : St) (J : Rf) (LP : List Nat) (P : St) (p1 : Int32) {post : Int32 → St → Rf → List Nat → St → Prop} (hD : va_D A (cW ad cy I J LP P)) (h : wp_X7_abort I J LP P p1 post) : Met l yX7_abort wsX7_abort rmX7_abort (va_Pc [.ref (ad 0), .int p1] (wPre (dC, dI) cy A (cW ad cy I J LP P))) (va_Qi (fun r (u : CS) => post r u.1 u.2.1 u.2.2.1 u.2.2.2) (fun (u : CS) t => wPost (dC, dI) A (cW ad cy u.1 u.2.1 u.2.2.1 u.2.2.2) t) A) 0 0 A := g_X7_abort l dC dI cy ad A I J LP P p1 hD h (fun a s0 t r I' J' LP' P' h1 h2 h3 => ⟨⟨r, (I', J', LP', P'), rfl, h1, h2⟩, h3⟩)
abbrev rmX7_flush : Room := { frames := 2, cells := 0, slots := 0, locals := 44 }
set_option maxHeartbeats 4000000 in
set_option maxRecDepth 100000 in
theorem g_X7_flush (l : Launch) (dC : Nat → ClassId) (dI : Nat → Nat → Nat) (cy : Nat → ClassId) (ad : Nat → Nat) (A : Nat → Prop) (I : St) (J : Rf) (LP : List Nat) (P : St)  {post : Int32 → St → Rf → List Nat → St → Prop} (hD : va_D A (cW ad cy I J LP P)) (h : wp_X7_flush I J LP P  post) {Qc : Array Value → State → Outcome → State → Prop} (hQ : ∀ (a : Array Value) (s0 t : State) (r : Int32) (I' : St) (J' : Rf) (LP' : List Nat) (P' : St), post r I' J' LP' P' → wPost (dC, dI) A (cW ad cy I' J' LP' P') t → va_F A s0 t → Qc a s0 (.returned (some (.int r))) t) : Met l yX7_flush wsX7_flush rmX7_flush (va_Pc [.ref (ad 0)] (wPre (dC, dI) cy A (cW ad cy I J LP P))) Qc 0 0 A := by
  refine Met.ofW (cc := cX7_flush) (maxL := 1) (ret := (some .int)) (by decide) rfl ?_
  intro p e s m args below meth c s₁ B hml hv
  obtain ⟨rfl, hP, hK, hN, hA⟩ := hv
  have hx := B.exec
  have hb := B.bytes
  have hr := B.returns
  have hts := atoms_spec (ws := wsX7_flush) B.pre
  have hown : s.vm.findClass RX7 = some m.cls := findClass_of_methodNamed B.named
  have hlocks := B.notSynchronized
  have hinX7 : ∀ w ∈ wsX70, w ∈ wsX7_flush := fun _ h9 => List.mem_cons_of_mem _ (List.mem_append_left _ (List.mem_append_left _ (List.mem_append_left _ (List.mem_append_right _ h9))))
  have hS : va_S A s.heap s.heap [] := va_S.rf
  unfold wp_X7_flush at h
  have hl := lv_entry ([.ref (ad 0)]) (n := 1) (Nat.le_of_ble_eq_true rfl)
  rw [lg_entry_eq]
  generalize (lg_sl ([.ref (ad 0)]) ++ List.replicate (1 - (lg_sl ([.ref (ad 0)])).length) Slot.unset).toArray = ls at hl ⊢
  have hl : lv_has ls 1 [(0, .ref (ad 0))] := hl
  refine lv_aload_n hx hb dX7_flush_0 rfl (lv_at hl 0 rfl) ?_
  refine va_get (D := (dC, dI)) (ci := 7) (v := .ref (ad 3)) (C := RX7) (T := TX7) (N := 5) hx hb hts hinX7 hown hK hP 0 cG_0 rfl 1 (by decide) (hts (.fieldLink RX7 21 "OutboxHouse" "source" "LOutboxHouse$Source;") (by decide +kernel)) (fun _ h9 => h9) rfl dX7_flush_1 ?_
  refine va_calli (va_runV (As := []) (rest := []) ⟨hx, hb, hml, hown, hts⟩ (m_X4_flushChanges l dC dI cy ad A I J LP P  hD h) (cwV 0 hts gX7_flush_X4_flushChanges rfl rfl rfl (by decide +kernel) ⟨Nat.le_of_ble_eq_true rfl, Nat.le_of_ble_eq_true rfl⟩) ⟨wPre.blind, va_recv hK hP (ci := 4) (q0 := 3) rfl cG_3, wPre.at hP hK hN hS hA⟩ rfl rfl hl.1 rfl (lv_room (Nat.le_of_ble_eq_true rfl)) dX7_flush_4 ⟨by first | exact Nat.le_of_ble_eq_true rfl | (show _ ≤ 0; omega), by first | exact Nat.le_of_ble_eq_true rfl | (show _ ≤ 0; omega)⟩) hS (fun q _ h => h) (fun q h => h) (fun r1 u t H locs ht hvm hw hB hz1 hk1 hS => ?_)
  obtain ⟨I2, J3, LP4, P5⟩ := u
  obtain ⟨hP, hD⟩ := hB; rw [ht] at hP; replace h := hw; try dsimp only at h hP hD
  exact W.iret (v := r1) hx hb hr (fun t ht hW => hQ _ _ t r1 I2 J3 LP4 P5 h ⟨by rw [ht]; exact hP, hD⟩ (hS.F ht)) hS.2.2 dX7_flush_7
theorem m_X7_flush (l : Launch) (dC : Nat → ClassId) (dI : Nat → Nat → Nat) (cy : Nat → ClassId) (ad : Nat → Nat) (A : Nat → Prop) (I : St) (J : Rf) (LP : List Nat) (P : St)  {post : Int32 → St → Rf → List Nat → St → Prop} (hD : va_D A (cW ad cy I J LP P)) (h : wp_X7_flush I J LP P  post) : Met l yX7_flush wsX7_flush rmX7_flush (va_Pc [.ref (ad 0)] (wPre (dC, dI) cy A (cW ad cy I J LP P))) (va_Qi (fun r (u : CS) => post r u.1 u.2.1 u.2.2.1 u.2.2.2) (fun (u : CS) t => wPost (dC, dI) A (cW ad cy u.1 u.2.1 u.2.2.1 u.2.2.2) t) A) 0 0 A := g_X7_flush l dC dI cy ad A I J LP P  hD h (fun a s0 t r I' J' LP' P' h1 h2 h3 => ⟨⟨r, (I', J', LP', P'), rfl, h1, h2⟩, h3⟩)
abbrev rmX7_crash : Room := { frames := 2, cells := 0, slots := 0, locals := 44 }
set_option maxHeartbeats 4000000 in
set_option maxRecDepth 100000 in
theorem g_X7_crash (l : Launch) (dC : Nat → ClassId) (dI : Nat → Nat → Nat) (cy : Nat → ClassId) (ad : Nat → Nat) (A : Nat → Prop) (I : St) (J : Rf) (LP : List Nat) (P : St) (p1 : Int32) {post : Int32 → St → Rf → List Nat → St → Prop} (hD : va_D A (cW ad cy I J LP P)) (h : wp_X7_crash I J LP P p1 post) {Qc : Array Value → State → Outcome → State → Prop} (hQ : ∀ (a : Array Value) (s0 t : State) (r : Int32) (I' : St) (J' : Rf) (LP' : List Nat) (P' : St), post r I' J' LP' P' → wPost (dC, dI) A (cW ad cy I' J' LP' P') t → va_F A s0 t → Qc a s0 (.returned (some (.int r))) t) : Met l yX7_crash wsX7_crash rmX7_crash (va_Pc [.ref (ad 0), .int p1] (wPre (dC, dI) cy A (cW ad cy I J LP P))) Qc 0 0 A := by
  refine Met.ofW (cc := cX7_crash) (maxL := 2) (ret := (some .int)) (by decide) rfl ?_
  intro p e s m args below meth c s₁ B hml hv
  obtain ⟨rfl, hP, hK, hN, hA⟩ := hv
  have hx := B.exec
  have hb := B.bytes
  have hr := B.returns
  have hts := atoms_spec (ws := wsX7_crash) B.pre
  have hown : s.vm.findClass RX7 = some m.cls := findClass_of_methodNamed B.named
  have hlocks := B.notSynchronized
  have hinX7 : ∀ w ∈ wsX70, w ∈ wsX7_crash := fun _ h9 => List.mem_cons_of_mem _ (List.mem_append_left _ (List.mem_append_left _ (List.mem_append_left _ (List.mem_append_left _ (List.mem_append_left _ (List.mem_append_left _ (List.mem_append_right _ h9)))))))
  have hS : va_S A s.heap s.heap [] := va_S.rf
  unfold wp_X7_crash at h
  have hl := lv_entry ([.ref (ad 0), .int p1]) (n := 2) (Nat.le_of_ble_eq_true rfl)
  rw [lg_entry_eq]
  generalize (lg_sl ([.ref (ad 0), .int p1]) ++ List.replicate (2 - (lg_sl ([.ref (ad 0), .int p1])).length) Slot.unset).toArray = ls at hl ⊢
  have hl : lv_has ls 2 [(0, .ref (ad 0)), (1, .int p1)] := hl
  refine lv_iload_n hx hb dX7_crash_0 rfl (lv_at hl 1 rfl) ?_
  refine lv_if_lt (tgt := 9) hx hb dX7_crash_1 (by decide) (fun hc => ?_) (fun hc => ?_)
  · have h := h.1 hc
    refine lv_iconst (v := (-1)) hx hb dX7_crash_9 (by decide) ?_
    exact W.iret (v := (-1)) hx hb hr (fun t ht hW => hQ _ _ t (-1) I J LP P h ⟨by rw [ht]; exact hP, hD⟩ (hS.F ht)) hS.2.2 dX7_crash_10
  · have h := h.2 hc
    refine lv_iload_n hx hb dX7_crash_4 rfl (lv_at hl 1 rfl) ?_
    refine lv_iconst (v := 2) hx hb dX7_crash_5 (by decide) ?_
    refine lv_icmp_le (tgt := 11) hx hb dX7_crash_6 (by decide) (fun hc => ?_) (fun hc => ?_)
    · have h := h.1 hc
      refine lv_aload_n hx hb dX7_crash_11 rfl (lv_at hl 0 rfl) ?_
      refine lv_dup hx hb dX7_crash_12 rfl ?_
      refine va_get (D := (dC, dI)) (ci := 7) (v := .int (I 0 0)) (C := RX7) (T := TX7) (N := 5) hx hb hts hinX7 hown hK hP 0 cG_0 rfl 4 (by decide) (hts (.fieldLink RX7 76 "OutboxHouse" "crashes" "I") (by decide +kernel)) (fun _ h9 => h9) rfl dX7_crash_13 ?_
      refine lv_iconst (v := 1) hx hb dX7_crash_16 (by decide) ?_
      refine lv_iadd hx hb dX7_crash_17 ?_
      refine va_put (D := (dC, dI)) (ci := 7) (v := .int ((I 0 0) + 1)) (ty := .int) (C := RX7) (T := TX7) (N := 5) hx hb hts hinX7 tyX7 tyX7_ok nmX7 hown hK hP hD hS 0 cG_0 rfl 4 (by decide) (hts (.fieldLink RX7 76 "OutboxHouse" "crashes" "I") (by decide +kernel)) (fun _ h9 => h9) rfl (by decide +kernel) rfl rfl (Nat.le_of_ble_eq_true rfl) dX7_crash_18 (fun H locs hP hD hS => ?_)
      obtain ⟨I1, hI1⟩ : ∃ z : St, z = st I 0 0 ((I 0 0) + 1) := ⟨_, rfl⟩
      replace hP := wP (cE_0_0 hI1) hP; replace hD := wD (cE_0_0 hI1) hD; replace h := h _ hI1
      refine lv_iload_n hx hb dX7_crash_21 rfl (lv_at hl 1 rfl) ?_
      by_cases e0 : p1 = 0
      · have h := h.1 e0
        refine lv_lookup (off := 26) (tgt := 48) hx hb dX7_crash_22 (by decide) (by rw [e0]; decide) (by decide) ?_
        refine lv_aload_n hx hb dX7_crash_48 rfl (lv_at hl 0 rfl) ?_
        refine va_get (D := (dC, dI)) (ci := 7) (v := .ref (ad 3)) (C := RX7) (T := TX7) (N := 5) hx hb hts hinX7 hown hK hP 0 cG_0 rfl 1 (by decide) (hts (.fieldLink RX7 21 "OutboxHouse" "source" "LOutboxHouse$Source;") (by decide +kernel)) (fun _ h9 => h9) rfl dX7_crash_49 ?_
        refine va_calli (va_runV (As := []) (rest := []) ⟨hx, hb, hml, hown, hts⟩ (m_X4_restart l dC dI cy ad A I1 J LP P  hD h) (cwV 0 hts gX7_crash_X4_restart rfl rfl rfl (by decide +kernel) ⟨Nat.le_of_ble_eq_true rfl, Nat.le_of_ble_eq_true rfl⟩) ⟨wPre.blind, va_recv hK hP (ci := 4) (q0 := 3) rfl cG_3, wPre.at hP hK hN hS hA⟩ rfl rfl hl.1 rfl (lv_room (Nat.le_of_ble_eq_true rfl)) dX7_crash_52 ⟨by first | exact Nat.le_of_ble_eq_true rfl | (show _ ≤ 0; omega), by first | exact Nat.le_of_ble_eq_true rfl | (show _ ≤ 0; omega)⟩) hS (fun q _ h => h) (fun q h => h) (fun r2 u t H locs ht hvm hw hB hz1 hk1 hS => ?_)
        obtain ⟨I3, J4, LP5, P6⟩ := u
        obtain ⟨hP, hD⟩ := hB; rw [ht] at hP; replace h := hw; try dsimp only at h hP hD
        exact W.iret (v := r2) hx hb hr (fun t ht hW => hQ _ _ t r2 I3 J4 LP5 P6 h ⟨by rw [ht]; exact hP, hD⟩ (hS.F ht)) hS.2.2 dX7_crash_55
      replace h := h.2
      by_cases e1 : p1 = 1
      · have h := h.1 e1
        refine lv_lookup (off := 34) (tgt := 56) hx hb dX7_crash_22 (by decide) (by rw [e1]; decide) (by decide) ?_
        refine lv_aload_n hx hb dX7_crash_56 rfl (lv_at hl 0 rfl) ?_
        refine va_get (D := (dC, dI)) (ci := 7) (v := .ref (ad 9)) (C := RX7) (T := TX7) (N := 5) hx hb hts hinX7 hown hK hP 0 cG_0 rfl 2 (by decide) (hts (.fieldLink RX7 28 "OutboxHouse" "reader" "LOutboxHouse$Relay;") (by decide +kernel)) (fun _ h9 => h9) rfl dX7_crash_57 ?_
        refine va_calli (va_runV (As := []) (rest := []) ⟨hx, hb, hml, hown, hts⟩ (m_X2_restart l dC dI cy ad A I1 J LP P  hD h) (cwV 0 hts gX7_crash_X2_restart rfl rfl rfl (by decide +kernel) ⟨Nat.le_of_ble_eq_true rfl, Nat.le_of_ble_eq_true rfl⟩) ⟨wPre.blind, va_recv hK hP (ci := 2) (q0 := 9) rfl cG_9, wPre.at hP hK hN hS hA⟩ rfl rfl hl.1 rfl (lv_room (Nat.le_of_ble_eq_true rfl)) dX7_crash_60 ⟨by first | exact Nat.le_of_ble_eq_true rfl | (show _ ≤ 0; omega), by first | exact Nat.le_of_ble_eq_true rfl | (show _ ≤ 0; omega)⟩) hS (fun q _ h => h) (fun q h => h) (fun r7 u t H locs ht hvm hw hB hz1 hk1 hS => ?_)
        obtain ⟨I8, J9, LP10, P11⟩ := u
        obtain ⟨hP, hD⟩ := hB; rw [ht] at hP; replace h := hw; try dsimp only at h hP hD
        exact W.iret (v := r7) hx hb hr (fun t ht hW => hQ _ _ t r7 I8 J9 LP10 P11 h ⟨by rw [ht]; exact hP, hD⟩ (hS.F ht)) hS.2.2 dX7_crash_63
      replace h := h.2
      have h := h ⟨e0, e1⟩
      refine lv_lookup (off := 42) (tgt := 64) hx hb dX7_crash_22 (by decide) (by rw [lv_osw e0 (by decide), lv_osw e1 (by decide)]; rfl) (by decide) ?_
      refine lv_aload_n hx hb dX7_crash_64 rfl (lv_at hl 0 rfl) ?_
      refine va_get (D := (dC, dI)) (ci := 7) (v := .ref (ad 19)) (C := RX7) (T := TX7) (N := 5) hx hb hts hinX7 hown hK hP 0 cG_0 rfl 3 (by decide) (hts (.fieldLink RX7 35 "OutboxHouse" "target" "LOutboxHouse$Target;") (by decide +kernel)) (fun _ h9 => h9) rfl dX7_crash_65 ?_
      refine va_calli (va_runV (As := []) (rest := []) ⟨hx, hb, hml, hown, hts⟩ (m_X5_restart l dC dI cy ad A I1 J LP P  hD h) (cwV 0 hts gX7_crash_X5_restart rfl rfl rfl (by decide +kernel) ⟨Nat.le_of_ble_eq_true rfl, Nat.le_of_ble_eq_true rfl⟩) ⟨wPre.blind, va_recv hK hP (ci := 5) (q0 := 19) rfl cG_19, wPre.at hP hK hN hS hA⟩ rfl rfl hl.1 rfl (lv_room (Nat.le_of_ble_eq_true rfl)) dX7_crash_68 ⟨by first | exact Nat.le_of_ble_eq_true rfl | (show _ ≤ 0; omega), by first | exact Nat.le_of_ble_eq_true rfl | (show _ ≤ 0; omega)⟩) hS (fun q _ h => h) (fun q h => h) (fun r12 u t H locs ht hvm hw hB hz1 hk1 hS => ?_)
      obtain ⟨I13, J14, LP15, P16⟩ := u
      obtain ⟨hP, hD⟩ := hB; rw [ht] at hP; replace h := hw; try dsimp only at h hP hD
      exact W.iret (v := r12) hx hb hr (fun t ht hW => hQ _ _ t r12 I13 J14 LP15 P16 h ⟨by rw [ht]; exact hP, hD⟩ (hS.F ht)) hS.2.2 dX7_crash_71
    · have h := h.2 hc
      refine lv_iconst (v := (-1)) hx hb dX7_crash_9 (by decide) ?_
      exact W.iret (v := (-1)) hx hb hr (fun t ht hW => hQ _ _ t (-1) I J LP P h ⟨by rw [ht]; exact hP, hD⟩ (hS.F ht)) hS.2.2 dX7_crash_10
theorem m_X7_crash (l : Launch) (dC : Nat → ClassId) (dI : Nat → Nat → Nat) (cy : Nat → ClassId) (ad : Nat → Nat) (A : Nat → Prop) (I : St) (J : Rf) (LP : List Nat) (P : St) (p1 : Int32) {post : Int32 → St → Rf → List Nat → St → Prop} (hD : va_D A (cW ad cy I J LP P)) (h : wp_X7_crash I J LP P p1 post) : Met l yX7_crash wsX7_crash rmX7_crash (va_Pc [.ref (ad 0), .int p1] (wPre (dC, dI) cy A (cW ad cy I J LP P))) (va_Qi (fun r (u : CS) => post r u.1 u.2.1 u.2.2.1 u.2.2.2) (fun (u : CS) t => wPost (dC, dI) A (cW ad cy u.1 u.2.1 u.2.2.1 u.2.2.2) t) A) 0 0 A := g_X7_crash l dC dI cy ad A I J LP P p1 hD h (fun a s0 t r I' J' LP' P' h1 h2 h3 => ⟨⟨r, (I', J', LP', P'), rfl, h1, h2⟩, h3⟩)
abbrev rmX7_key : Room := { frames := 1, cells := 0, slots := 0, locals := 21 }
set_option maxHeartbeats 4000000 in
set_option maxRecDepth 100000 in
theorem g_X7_key (l : Launch) (dC : Nat → ClassId) (dI : Nat → Nat → Nat) (cy : Nat → ClassId) (ad : Nat → Nat) (A : Nat → Prop) (I : St) (J : Rf) (LP : List Nat) (P : St) (p1 : Int32) (p2 : Int32) {post : Int32 → St → Rf → List Nat → St → Prop} (hD : va_D A (cW ad cy I J LP P)) (h : wp_X7_key I J LP P p1 p2 post) {Qc : Array Value → State → Outcome → State → Prop} (hQ : ∀ (a : Array Value) (s0 t : State) (r : Int32) (I' : St) (J' : Rf) (LP' : List Nat) (P' : St), post r I' J' LP' P' → wPost (dC, dI) A (cW ad cy I' J' LP' P') t → va_F A s0 t → Qc a s0 (.returned (some (.int r))) t) : Met l yX7_key wsX7_key rmX7_key (va_Pc [.ref (ad 0), .int p1, .int p2] (wPre (dC, dI) cy A (cW ad cy I J LP P))) Qc 0 0 A := by
  refine Met.ofW (cc := cX7_key) (maxL := 3) (ret := (some .int)) (by decide) rfl ?_
  intro p e s m args below meth c s₁ B hml hv
  obtain ⟨rfl, hP, hK, hN, hA⟩ := hv
  have hx := B.exec
  have hb := B.bytes
  have hr := B.returns
  have hts := atoms_spec (ws := wsX7_key) B.pre
  have hown : s.vm.findClass RX7 = some m.cls := findClass_of_methodNamed B.named
  have hlocks := B.notSynchronized
  have hinX7 : ∀ w ∈ wsX70, w ∈ wsX7_key := fun _ h9 => List.mem_cons_of_mem _ (List.mem_append_left _ (List.mem_append_left _ (List.mem_append_left _ (List.mem_append_right _ h9))))
  have hinX4 : ∀ w ∈ wsX40, w ∈ wsX7_key := fun _ h9 => List.mem_cons_of_mem _ (List.mem_append_left _ (List.mem_append_left _ (List.mem_append_right _ h9)))
  have hinX5 : ∀ w ∈ wsX50, w ∈ wsX7_key := fun _ h9 => List.mem_cons_of_mem _ (List.mem_append_left _ (List.mem_append_right _ h9))
  have hinX6 : ∀ w ∈ wsX60, w ∈ wsX7_key := fun _ h9 => List.mem_cons_of_mem _ (List.mem_append_right _ h9)
  have hS : va_S A s.heap s.heap [] := va_S.rf
  unfold wp_X7_key at h
  have hl := lv_entry ([.ref (ad 0), .int p1, .int p2]) (n := 3) (Nat.le_of_ble_eq_true rfl)
  rw [lg_entry_eq]
  generalize (lg_sl ([.ref (ad 0), .int p1, .int p2]) ++ List.replicate (3 - (lg_sl ([.ref (ad 0), .int p1, .int p2])).length) Slot.unset).toArray = ls at hl ⊢
  have hl : lv_has ls 3 [(0, .ref (ad 0)), (1, .int p1), (2, .int p2)] := hl
  refine lv_iload_n hx hb dX7_key_0 rfl (lv_at hl 1 rfl) ?_
  refine va_calli (va_runS (As := [.int p1]) (rest := []) ⟨hx, hb, hml, hown, hts⟩ (m_X7_isKey l dC dI cy ad A I J LP P p1 hD h) (va_cwS 1 hts gX7_key_X7_isKey rfl rfl rfl (by decide +kernel) ⟨Nat.le_of_ble_eq_true rfl, Nat.le_of_ble_eq_true rfl⟩) ⟨wPre.blind, wPre.at hP hK hN hS hA⟩ rfl rfl hl.1 rfl (lv_room (Nat.le_of_ble_eq_true rfl)) dX7_key_1 ⟨by first | exact Nat.le_of_ble_eq_true rfl | (show _ ≤ 0; omega), by first | exact Nat.le_of_ble_eq_true rfl | (show _ ≤ 0; omega)⟩) hS (fun q _ h => h) (fun q h => h) (fun r1 u t H locs ht hvm hw hB hz1 hk1 hS => ?_)
  obtain ⟨I2, J3, LP4, P5⟩ := u
  obtain ⟨hP, hD⟩ := hB; rw [ht] at hP; replace h := hw; try dsimp only at h hP hD
  refine lv_if_ne (tgt := 9) hx hb dX7_key_4 (by decide) (fun hc => ?_) (fun hc => ?_)
  · have h := h.1 hc
    refine lv_iload_n hx hb dX7_key_9 rfl (lv_at hl 2 rfl) ?_
    by_cases e0 : p2 = 0
    · have h := h.1 e0
      refine lv_tableIn (off := 42) (tgt := 52) hx hb dX7_key_10 (by rw [e0]; decide) (by rw [e0]; decide) (by rw [e0]; rfl) (by decide) ?_
      refine lv_aload_n hx hb dX7_key_52 rfl (lv_at hl 0 rfl) ?_
      refine va_get (D := (dC, dI)) (ci := 7) (v := .ref (ad 3)) (C := RX7) (T := TX7) (N := 5) hx hb hts hinX7 hown hK hP 0 cG_0 rfl 1 (by decide) (hts (.fieldLink RX7 21 "OutboxHouse" "source" "LOutboxHouse$Source;") (by decide +kernel)) (fun _ h9 => h9) rfl dX7_key_53 ?_
      refine va_getN (D := (dC, dI)) (ci := 4) (v := .ref (ad 4)) (C := RX4) (T := TX4) (N := 6) hx hb hts hinX4 hown hK hP 3 cG_3 rfl 1 (by decide) (va_Nw.use rfl (hN.1 (RX7, 85, "OutboxHouse$Source", "values", "[I", "OutboxHouse") (by decide +kernel))) (fun _ h9 => h9) rfl dX7_key_56 ?_
      refine lv_iload_n hx hb dX7_key_59 rfl (lv_at hl 1 rfl) ?_
      have hv := h.1; replace h := h.2
      refine va_iald hx hb hK hP 4 0 cG_4 rfl hv dX7_key_60 ?_
      exact W.iret (v := I2 4 p1.toNatClampNeg) hx hb hr (fun t ht hW => hQ _ _ t (I2 4 p1.toNatClampNeg) I2 J3 LP4 P5 h ⟨by rw [ht]; exact hP, hD⟩ (hS.F ht)) hS.2.2 dX7_key_61
    replace h := h.2
    by_cases e1 : p2 = 1
    · have h := h.1 e1
      refine lv_tableIn (off := 52) (tgt := 62) hx hb dX7_key_10 (by rw [e1]; decide) (by rw [e1]; decide) (by rw [e1]; rfl) (by decide) ?_
      refine lv_aload_n hx hb dX7_key_62 rfl (lv_at hl 0 rfl) ?_
      refine va_get (D := (dC, dI)) (ci := 7) (v := .ref (ad 3)) (C := RX7) (T := TX7) (N := 5) hx hb hts hinX7 hown hK hP 0 cG_0 rfl 1 (by decide) (hts (.fieldLink RX7 21 "OutboxHouse" "source" "LOutboxHouse$Source;") (by decide +kernel)) (fun _ h9 => h9) rfl dX7_key_63 ?_
      refine va_getN (D := (dC, dI)) (ci := 4) (v := .ref (ad 5)) (C := RX4) (T := TX4) (N := 6) hx hb hts hinX4 hown hK hP 3 cG_3 rfl 2 (by decide) (va_Nw.use rfl (hN.1 (RX7, 89, "OutboxHouse$Source", "counts", "[I", "OutboxHouse") (by decide +kernel))) (fun _ h9 => h9) rfl dX7_key_66 ?_
      refine lv_iload_n hx hb dX7_key_69 rfl (lv_at hl 1 rfl) ?_
      have hv := h.1; replace h := h.2
      refine va_iald hx hb hK hP 5 0 cG_5 rfl hv dX7_key_70 ?_
      exact W.iret (v := I2 5 p1.toNatClampNeg) hx hb hr (fun t ht hW => hQ _ _ t (I2 5 p1.toNatClampNeg) I2 J3 LP4 P5 h ⟨by rw [ht]; exact hP, hD⟩ (hS.F ht)) hS.2.2 dX7_key_71
    replace h := h.2
    by_cases e2 : p2 = 2
    · have h := h.1 e2
      refine lv_tableIn (off := 62) (tgt := 72) hx hb dX7_key_10 (by rw [e2]; decide) (by rw [e2]; decide) (by rw [e2]; rfl) (by decide) ?_
      refine lv_aload_n hx hb dX7_key_72 rfl (lv_at hl 0 rfl) ?_
      refine va_get (D := (dC, dI)) (ci := 7) (v := .ref (ad 3)) (C := RX7) (T := TX7) (N := 5) hx hb hts hinX7 hown hK hP 0 cG_0 rfl 1 (by decide) (hts (.fieldLink RX7 21 "OutboxHouse" "source" "LOutboxHouse$Source;") (by decide +kernel)) (fun _ h9 => h9) rfl dX7_key_73 ?_
      refine lv_iload_n hx hb dX7_key_76 rfl (lv_at hl 1 rfl) ?_
      refine va_calli (va_runV (As := [.int p1]) (rest := []) ⟨hx, hb, hml, hown, hts⟩ (m_X4_lockOf l dC dI cy ad A I2 J3 LP4 P5 p1 hD h) (cwV 1 hts gX7_key_X4_lockOf rfl rfl rfl (by decide +kernel) ⟨Nat.le_of_ble_eq_true rfl, Nat.le_of_ble_eq_true rfl⟩) ⟨wPre.blind, va_recv hK hP (ci := 4) (q0 := 3) rfl cG_3, wPre.at hP hK hN hS hA⟩ rfl rfl hl.1 rfl (lv_room (Nat.le_of_ble_eq_true rfl)) dX7_key_77 ⟨by first | exact Nat.le_of_ble_eq_true rfl | (show _ ≤ 0; omega), by first | exact Nat.le_of_ble_eq_true rfl | (show _ ≤ 0; omega)⟩) hS (fun q _ h => h) (fun q h => h) (fun r6 u t H locs ht hvm hw hB hz1 hk1 hS => ?_)
      obtain ⟨I7, J8, LP9, P10⟩ := u
      obtain ⟨hP, hD⟩ := hB; rw [ht] at hP; replace h := hw; try dsimp only at h hP hD
      exact W.iret (v := r6) hx hb hr (fun t ht hW => hQ _ _ t r6 I7 J8 LP9 P10 h ⟨by rw [ht]; exact hP, hD⟩ (hS.F ht)) hS.2.2 dX7_key_80
    replace h := h.2
    by_cases e3 : p2 = 3
    · have h := h.1 e3
      refine lv_tableIn (off := 71) (tgt := 81) hx hb dX7_key_10 (by rw [e3]; decide) (by rw [e3]; decide) (by rw [e3]; rfl) (by decide) ?_
      refine lv_aload_n hx hb dX7_key_81 rfl (lv_at hl 0 rfl) ?_
      refine va_get (D := (dC, dI)) (ci := 7) (v := .ref (ad 19)) (C := RX7) (T := TX7) (N := 5) hx hb hts hinX7 hown hK hP 0 cG_0 rfl 3 (by decide) (hts (.fieldLink RX7 35 "OutboxHouse" "target" "LOutboxHouse$Target;") (by decide +kernel)) (fun _ h9 => h9) rfl dX7_key_82 ?_
      refine va_getN (D := (dC, dI)) (ci := 5) (v := .ref (ad 20)) (C := RX5) (T := TX5) (N := 7) hx hb hts hinX5 hown hK hP 19 cG_19 rfl 1 (by decide) (va_Nw.use rfl (hN.1 (RX7, 95, "OutboxHouse$Target", "memory", "LOutboxHouse$TargetState;", "OutboxHouse") (by decide +kernel))) (fun _ h9 => h9) rfl dX7_key_85 ?_
      refine va_getN (D := (dC, dI)) (ci := 6) (v := .ref (ad 22)) (C := RX6) (T := TX6) (N := 3) hx hb hts hinX6 hown hK hP 20 (cG_ts (j := 20) (by decide)) rfl 0 (by decide) (va_Nw.use rfl (hN.1 (RX7, 99, "OutboxHouse$TargetState", "values", "[I", "OutboxHouse") (by decide +kernel))) (fun _ h9 => h9) rfl dX7_key_88 ?_
      refine lv_iload_n hx hb dX7_key_91 rfl (lv_at hl 1 rfl) ?_
      have hv := h.1; replace h := h.2
      refine va_iald hx hb hK hP (20 + 2) 0 (cG_tsv (j := 20) (by decide)) rfl hv dX7_key_92 ?_
      exact W.iret (v := I2 22 p1.toNatClampNeg) hx hb hr (fun t ht hW => hQ _ _ t (I2 22 p1.toNatClampNeg) I2 J3 LP4 P5 h ⟨by rw [ht]; exact hP, hD⟩ (hS.F ht)) hS.2.2 dX7_key_93
    replace h := h.2
    by_cases e4 : p2 = 4
    · have h := h.1 e4
      refine lv_tableIn (off := 84) (tgt := 94) hx hb dX7_key_10 (by rw [e4]; decide) (by rw [e4]; decide) (by rw [e4]; rfl) (by decide) ?_
      refine lv_aload_n hx hb dX7_key_94 rfl (lv_at hl 0 rfl) ?_
      refine va_get (D := (dC, dI)) (ci := 7) (v := .ref (ad 19)) (C := RX7) (T := TX7) (N := 5) hx hb hts hinX7 hown hK hP 0 cG_0 rfl 3 (by decide) (hts (.fieldLink RX7 35 "OutboxHouse" "target" "LOutboxHouse$Target;") (by decide +kernel)) (fun _ h9 => h9) rfl dX7_key_95 ?_
      refine va_getN (D := (dC, dI)) (ci := 5) (v := .ref (ad 20)) (C := RX5) (T := TX5) (N := 7) hx hb hts hinX5 hown hK hP 19 cG_19 rfl 1 (by decide) (va_Nw.use rfl (hN.1 (RX7, 95, "OutboxHouse$Target", "memory", "LOutboxHouse$TargetState;", "OutboxHouse") (by decide +kernel))) (fun _ h9 => h9) rfl dX7_key_98 ?_
      refine va_getN (D := (dC, dI)) (ci := 6) (v := .ref (ad 24)) (C := RX6) (T := TX6) (N := 3) hx hb hts hinX6 hown hK hP 20 (cG_ts (j := 20) (by decide)) rfl 1 (by decide) (va_Nw.use rfl (hN.1 (RX7, 102, "OutboxHouse$TargetState", "done", "[I", "OutboxHouse") (by decide +kernel))) (fun _ h9 => h9) rfl dX7_key_101 ?_
      refine lv_iload_n hx hb dX7_key_104 rfl (lv_at hl 1 rfl) ?_
      have hv := h.1; replace h := h.2
      refine va_iald hx hb hK hP (20 + 4) 0 (cG_tsd (j := 20) (by decide)) rfl hv dX7_key_105 ?_
      exact W.iret (v := I2 24 p1.toNatClampNeg) hx hb hr (fun t ht hW => hQ _ _ t (I2 24 p1.toNatClampNeg) I2 J3 LP4 P5 h ⟨by rw [ht]; exact hP, hD⟩ (hS.F ht)) hS.2.2 dX7_key_106
    replace h := h.2
    by_cases e5 : p2 = 5
    · have h := h.1 e5
      refine lv_tableIn (off := 97) (tgt := 107) hx hb dX7_key_10 (by rw [e5]; decide) (by rw [e5]; decide) (by rw [e5]; rfl) (by decide) ?_
      refine lv_aload_n hx hb dX7_key_107 rfl (lv_at hl 0 rfl) ?_
      refine va_get (D := (dC, dI)) (ci := 7) (v := .ref (ad 19)) (C := RX7) (T := TX7) (N := 5) hx hb hts hinX7 hown hK hP 0 cG_0 rfl 3 (by decide) (hts (.fieldLink RX7 35 "OutboxHouse" "target" "LOutboxHouse$Target;") (by decide +kernel)) (fun _ h9 => h9) rfl dX7_key_108 ?_
      refine va_getN (D := (dC, dI)) (ci := 5) (v := .ref (ad 21)) (C := RX5) (T := TX5) (N := 7) hx hb hts hinX5 hown hK hP 19 cG_19 rfl 2 (by decide) (va_Nw.use rfl (hN.1 (RX7, 105, "OutboxHouse$Target", "disk", "LOutboxHouse$TargetState;", "OutboxHouse") (by decide +kernel))) (fun _ h9 => h9) rfl dX7_key_111 ?_
      refine va_getN (D := (dC, dI)) (ci := 6) (v := .ref (ad 23)) (C := RX6) (T := TX6) (N := 3) hx hb hts hinX6 hown hK hP 21 (cG_ts (j := 21) (by decide)) rfl 0 (by decide) (va_Nw.use rfl (hN.1 (RX7, 99, "OutboxHouse$TargetState", "values", "[I", "OutboxHouse") (by decide +kernel))) (fun _ h9 => h9) rfl dX7_key_114 ?_
      refine lv_iload_n hx hb dX7_key_117 rfl (lv_at hl 1 rfl) ?_
      have hv := h.1; replace h := h.2
      refine va_iald hx hb hK hP (21 + 2) 0 (cG_tsv (j := 21) (by decide)) rfl hv dX7_key_118 ?_
      exact W.iret (v := I2 23 p1.toNatClampNeg) hx hb hr (fun t ht hW => hQ _ _ t (I2 23 p1.toNatClampNeg) I2 J3 LP4 P5 h ⟨by rw [ht]; exact hP, hD⟩ (hS.F ht)) hS.2.2 dX7_key_119
    replace h := h.2
    by_cases e6 : p2 = 6
    · have h := h.1 e6
      refine lv_tableIn (off := 110) (tgt := 120) hx hb dX7_key_10 (by rw [e6]; decide) (by rw [e6]; decide) (by rw [e6]; rfl) (by decide) ?_
      refine lv_aload_n hx hb dX7_key_120 rfl (lv_at hl 0 rfl) ?_
      refine va_get (D := (dC, dI)) (ci := 7) (v := .ref (ad 19)) (C := RX7) (T := TX7) (N := 5) hx hb hts hinX7 hown hK hP 0 cG_0 rfl 3 (by decide) (hts (.fieldLink RX7 35 "OutboxHouse" "target" "LOutboxHouse$Target;") (by decide +kernel)) (fun _ h9 => h9) rfl dX7_key_121 ?_
      refine va_getN (D := (dC, dI)) (ci := 5) (v := .ref (ad 21)) (C := RX5) (T := TX5) (N := 7) hx hb hts hinX5 hown hK hP 19 cG_19 rfl 2 (by decide) (va_Nw.use rfl (hN.1 (RX7, 105, "OutboxHouse$Target", "disk", "LOutboxHouse$TargetState;", "OutboxHouse") (by decide +kernel))) (fun _ h9 => h9) rfl dX7_key_124 ?_
      refine va_getN (D := (dC, dI)) (ci := 6) (v := .ref (ad 25)) (C := RX6) (T := TX6) (N := 3) hx hb hts hinX6 hown hK hP 21 (cG_ts (j := 21) (by decide)) rfl 1 (by decide) (va_Nw.use rfl (hN.1 (RX7, 102, "OutboxHouse$TargetState", "done", "[I", "OutboxHouse") (by decide +kernel))) (fun _ h9 => h9) rfl dX7_key_127 ?_
      refine lv_iload_n hx hb dX7_key_130 rfl (lv_at hl 1 rfl) ?_
      have hv := h.1; replace h := h.2
      refine va_iald hx hb hK hP (21 + 4) 0 (cG_tsd (j := 21) (by decide)) rfl hv dX7_key_131 ?_
      exact W.iret (v := I2 25 p1.toNatClampNeg) hx hb hr (fun t ht hW => hQ _ _ t (I2 25 p1.toNatClampNeg) I2 J3 LP4 P5 h ⟨by rw [ht]; exact hP, hD⟩ (hS.F ht)) hS.2.2 dX7_key_132
    replace h := h.2
    have h := h ⟨e0, e1, e2, e3, e4, e5, e6⟩
    refine lv_tableOut (tgt := 133) hx hb dX7_key_10 (by have z0 := lv_neT e0 (a := 0) (by decide); have z1 := lv_neT e1 (a := 1) (by decide); have z2 := lv_neT e2 (a := 2) (by decide); have z3 := lv_neT e3 (a := 3) (by decide); have z4 := lv_neT e4 (a := 4) (by decide); have z5 := lv_neT e5 (a := 5) (by decide); have z6 := lv_neT e6 (a := 6) (by decide); omega) (by decide) ?_
    refine lv_iconst (v := 0) hx hb dX7_key_133 (by decide) ?_
    exact W.iret (v := 0) hx hb hr (fun t ht hW => hQ _ _ t 0 I2 J3 LP4 P5 h ⟨by rw [ht]; exact hP, hD⟩ (hS.F ht)) hS.2.2 dX7_key_134
  · have h := h.2 hc
    refine lv_iconst (v := 0) hx hb dX7_key_7 (by decide) ?_
    exact W.iret (v := 0) hx hb hr (fun t ht hW => hQ _ _ t 0 I2 J3 LP4 P5 h ⟨by rw [ht]; exact hP, hD⟩ (hS.F ht)) hS.2.2 dX7_key_8
theorem m_X7_key (l : Launch) (dC : Nat → ClassId) (dI : Nat → Nat → Nat) (cy : Nat → ClassId) (ad : Nat → Nat) (A : Nat → Prop) (I : St) (J : Rf) (LP : List Nat) (P : St) (p1 : Int32) (p2 : Int32) {post : Int32 → St → Rf → List Nat → St → Prop} (hD : va_D A (cW ad cy I J LP P)) (h : wp_X7_key I J LP P p1 p2 post) : Met l yX7_key wsX7_key rmX7_key (va_Pc [.ref (ad 0), .int p1, .int p2] (wPre (dC, dI) cy A (cW ad cy I J LP P))) (va_Qi (fun r (u : CS) => post r u.1 u.2.1 u.2.2.1 u.2.2.2) (fun (u : CS) t => wPost (dC, dI) A (cW ad cy u.1 u.2.1 u.2.2.1 u.2.2.2) t) A) 0 0 A := g_X7_key l dC dI cy ad A I J LP P p1 p2 hD h (fun a s0 t r I' J' LP' P' h1 h2 h3 => ⟨⟨r, (I', J', LP', P'), rfl, h1, h2⟩, h3⟩)
abbrev rmX7_log : Room := { frames := 1, cells := 0, slots := 0, locals := 21 }
set_option maxHeartbeats 4000000 in
set_option maxRecDepth 100000 in
theorem g_X7_log (l : Launch) (dC : Nat → ClassId) (dI : Nat → Nat → Nat) (cy : Nat → ClassId) (ad : Nat → Nat) (A : Nat → Prop) (I : St) (J : Rf) (LP : List Nat) (P : St) (p1 : Int32) (p2 : Int32) {post : Int32 → St → Rf → List Nat → St → Prop} (hD : va_D A (cW ad cy I J LP P)) (h : wp_X7_log I J LP P p1 p2 post) {Qc : Array Value → State → Outcome → State → Prop} (hQ : ∀ (a : Array Value) (s0 t : State) (r : Int32) (I' : St) (J' : Rf) (LP' : List Nat) (P' : St), post r I' J' LP' P' → wPost (dC, dI) A (cW ad cy I' J' LP' P') t → va_F A s0 t → Qc a s0 (.returned (some (.int r))) t) : Met l yX7_log wsX7_log rmX7_log (va_Pc [.ref (ad 0), .int p1, .int p2] (wPre (dC, dI) cy A (cW ad cy I J LP P))) Qc 0 0 A := by
  refine Met.ofW (cc := cX7_log) (maxL := 4) (ret := (some .int)) (by decide) rfl ?_
  intro p e s m args below meth c s₁ B hml hv
  obtain ⟨rfl, hP, hK, hN, hA⟩ := hv
  have hx := B.exec
  have hb := B.bytes
  have hr := B.returns
  have hts := atoms_spec (ws := wsX7_log) B.pre
  have hown : s.vm.findClass RX7 = some m.cls := findClass_of_methodNamed B.named
  have hlocks := B.notSynchronized
  have hinX7 : ∀ w ∈ wsX70, w ∈ wsX7_log := fun _ h9 => List.mem_cons_of_mem _ (List.mem_append_left _ (List.mem_append_left _ (List.mem_append_right _ h9)))
  have hinX0 : ∀ w ∈ wsX00, w ∈ wsX7_log := fun _ h9 => List.mem_cons_of_mem _ (List.mem_append_left _ (List.mem_append_right _ h9))
  have hS : va_S A s.heap s.heap [] := va_S.rf
  unfold wp_X7_log at h
  have hl := lv_entry ([.ref (ad 0), .int p1, .int p2]) (n := 4) (Nat.le_of_ble_eq_true rfl)
  rw [lg_entry_eq]
  generalize (lg_sl ([.ref (ad 0), .int p1, .int p2]) ++ List.replicate (4 - (lg_sl ([.ref (ad 0), .int p1, .int p2])).length) Slot.unset).toArray = ls at hl ⊢
  have hl : lv_has ls 4 [(0, .ref (ad 0)), (1, .int p1), (2, .int p2)] := hl
  refine lv_iload_n hx hb dX7_log_0 rfl (lv_at hl 2 rfl) ?_
  refine lv_if_lt (tgt := 9) hx hb dX7_log_1 (by decide) (fun hc => ?_) (fun hc => ?_)
  · have h := h.1 hc
    refine lv_iconst (v := (-1)) hx hb dX7_log_9 (by decide) ?_
    exact W.iret (v := (-1)) hx hb hr (fun t ht hW => hQ _ _ t (-1) I J LP P h ⟨by rw [ht]; exact hP, hD⟩ (hS.F ht)) hS.2.2 dX7_log_10
  · have h := h.2 hc
    refine lv_iload_n hx hb dX7_log_4 rfl (lv_at hl 2 rfl) ?_
    refine lv_iconst (v := 4) hx hb dX7_log_5 (by decide) ?_
    refine lv_icmp_le (tgt := 11) hx hb dX7_log_6 (by decide) (fun hc => ?_) (fun hc => ?_)
    · have h := h.1 hc
      refine lv_aload_n hx hb dX7_log_11 rfl (lv_at hl 0 rfl) ?_
      refine va_get (D := (dC, dI)) (ci := 7) (v := .ref (ad 1)) (C := RX7) (T := TX7) (N := 5) hx hb hts hinX7 hown hK hP 0 cG_0 rfl 0 (by decide) (hts (.fieldLink RX7 10 "OutboxHouse" "changes" "LOutboxHouse$ChangeLog;") (by decide +kernel)) (fun _ h9 => h9) rfl dX7_log_12 ?_
      refine lv_iload_n hx hb dX7_log_15 rfl (lv_at hl 1 rfl) ?_
      refine va_callq (va_runV (As := [.int p1]) (rest := []) ⟨hx, hb, hml, hown, hts⟩ (m_X1_at l dC dI cy ad A I J LP P p1 hD h) (cwV 1 hts gX7_log_X1_at rfl rfl rfl (by decide +kernel) ⟨Nat.le_of_ble_eq_true rfl, Nat.le_of_ble_eq_true rfl⟩) ⟨wPre.blind, va_recv hK hP (ci := 1) (q0 := 1) rfl cG_1, wPre.at hP hK hN hS hA⟩ rfl rfl hl.1 rfl (lv_room (Nat.le_of_ble_eq_true rfl)) dX7_log_16 ⟨by first | exact Nat.le_of_ble_eq_true rfl | (show _ ≤ 0; omega), by first | exact Nat.le_of_ble_eq_true rfl | (show _ ≤ 0; omega)⟩) hS (fun q _ h => h) (fun q h => h) (fun r1 u t H locs ht hvm hw hB hz1 hk1 hS => ?_)
      obtain ⟨I2, J3, LP4, P5⟩ := u
      obtain ⟨hP, hD⟩ := hB; rw [ht] at hP; replace h := hw; try dsimp only at h hP hD
      rcases r1 with _ | a6
      · replace h := h.1 rfl
        refine W.eq (g2 := F0 m 19 ls [.null]) rfl ?_
        refine lv_astore_nN (lv' := [(3, .null), (0, .ref (ad 0)), (1, .int p1), (2, .int p2)]) hx hb dX7_log_19 rfl hl (by decide) rfl (fun ls hl => ?_)
        refine lv_aload_nN hx hb dX7_log_20 rfl (lv_at hl 0 rfl) ?_
        refine lv_ifnullN (tgt := 35) hx hb dX7_log_21 (by decide) ?_
        refine lv_bipush (v := (-9)) hx hb dX7_log_35 (by decide) ?_
        exact W.iret (v := (-9)) hx hb hr (fun t ht hW => hQ _ _ t (-9) I2 J3 LP4 P5 h ⟨by rw [ht]; exact hP, hD⟩ (hS.F ht)) hS.2.2 dX7_log_37
      · replace h := h.2 _ rfl
        refine W.eq (g2 := F0 m 19 ls [.ref a6]) rfl ?_
        refine lv_astore_n (lv' := [(3, .ref a6), (0, .ref (ad 0)), (1, .int p1), (2, .int p2)]) hx hb dX7_log_19 rfl hl (by decide) rfl (fun ls hl => ?_)
        refine lv_aload_n hx hb dX7_log_20 rfl (lv_at hl 0 rfl) ?_
        refine lv_ifnull hx hb dX7_log_21 ?_
        refine lv_aload_n hx hb dX7_log_24 rfl (lv_at hl 1 rfl) ?_
        refine va_get (D := (dC, dI)) (ci := 7) (v := .ref (ad 1)) (C := RX7) (T := TX7) (N := 5) hx hb hts hinX7 hown hK hP 0 cG_0 rfl 0 (by decide) (hts (.fieldLink RX7 10 "OutboxHouse" "changes" "LOutboxHouse$ChangeLog;") (by decide +kernel)) (fun _ h9 => h9) rfl dX7_log_25 ?_
        refine lv_iload_n hx hb dX7_log_28 rfl (lv_at hl 2 rfl) ?_
        refine va_calli (va_runV (As := [.int p1]) (rest := []) ⟨hx, hb, hml, hown, hts⟩ (m_X1_isCut l dC dI cy ad A I2 J3 LP4 P5 p1 hD h) (cwV 1 hts gX7_log_X1_isCut rfl rfl rfl (by decide +kernel) ⟨Nat.le_of_ble_eq_true rfl, Nat.le_of_ble_eq_true rfl⟩) ⟨wPre.blind, va_recv hK hP (ci := 1) (q0 := 1) rfl cG_1, wPre.at hP hK hN hS hA⟩ rfl rfl hl.1 rfl (lv_room (Nat.le_of_ble_eq_true rfl)) dX7_log_29 ⟨by first | exact Nat.le_of_ble_eq_true rfl | (show _ ≤ 0; omega), by first | exact Nat.le_of_ble_eq_true rfl | (show _ ≤ 0; omega)⟩) hS (fun q _ h => h) (fun q h => h) (fun r7 u t H locs ht hvm hw hB hz1 hk1 hS => ?_)
        obtain ⟨I8, J9, LP10, P11⟩ := u
        obtain ⟨hP, hD⟩ := hB; rw [ht] at hP; replace h := hw; try dsimp only at h hP hD
        refine lv_if_eq (tgt := 38) hx hb dX7_log_32 (by decide) (fun hc => ?_) (fun hc => ?_)
        · have h := h.1 hc
          refine lv_iload_n hx hb dX7_log_38 rfl (lv_at hl 3 rfl) ?_
          by_cases e0 : p2 = 0
          · have h := h.1 e0
            refine lv_tableIn (off := 29) (tgt := 68) hx hb dX7_log_39 (by rw [e0]; decide) (by rw [e0]; decide) (by rw [e0]; rfl) (by decide) ?_
            refine lv_aload_n hx hb dX7_log_68 rfl (lv_at hl 0 rfl) ?_
            have hm := h.1; replace h := h.2
            obtain ⟨q12, hq12⟩ := cG_p (ad := ad) (cy := cy) (I := I8) (J := J9) (P := P11) hm
            refine va_get (D := (dC, dI)) (ci := 0) (v := .int (P11 a6 1)) (C := RX0) (T := TX0) (N := 5) hx hb hts hinX0 hown hK hP q12 hq12 rfl 1 (by decide) (hts (.fieldLink RX7 115 "OutboxHouse$Change" "key" "I") (by decide +kernel)) (fun _ h9 => h9) rfl dX7_log_69 ?_
            exact W.iret (v := P11 a6 1) hx hb hr (fun t ht hW => hQ _ _ t (P11 a6 1) I8 J9 LP10 P11 h ⟨by rw [ht]; exact hP, hD⟩ (hS.F ht)) hS.2.2 dX7_log_72
          replace h := h.2
          by_cases e1 : p2 = 1
          · have h := h.1 e1
            refine lv_tableIn (off := 34) (tgt := 73) hx hb dX7_log_39 (by rw [e1]; decide) (by rw [e1]; decide) (by rw [e1]; rfl) (by decide) ?_
            refine lv_aload_n hx hb dX7_log_73 rfl (lv_at hl 0 rfl) ?_
            have hm := h.1; replace h := h.2
            obtain ⟨q13, hq13⟩ := cG_p (ad := ad) (cy := cy) (I := I8) (J := J9) (P := P11) hm
            refine va_get (D := (dC, dI)) (ci := 0) (v := .int (P11 a6 2)) (C := RX0) (T := TX0) (N := 5) hx hb hts hinX0 hown hK hP q13 hq13 rfl 2 (by decide) (hts (.fieldLink RX7 120 "OutboxHouse$Change" "value" "I") (by decide +kernel)) (fun _ h9 => h9) rfl dX7_log_74 ?_
            exact W.iret (v := P11 a6 2) hx hb hr (fun t ht hW => hQ _ _ t (P11 a6 2) I8 J9 LP10 P11 h ⟨by rw [ht]; exact hP, hD⟩ (hS.F ht)) hS.2.2 dX7_log_77
          replace h := h.2
          by_cases e2 : p2 = 2
          · have h := h.1 e2
            refine lv_tableIn (off := 39) (tgt := 78) hx hb dX7_log_39 (by rw [e2]; decide) (by rw [e2]; decide) (by rw [e2]; rfl) (by decide) ?_
            refine lv_aload_n hx hb dX7_log_78 rfl (lv_at hl 0 rfl) ?_
            have hm := h.1; replace h := h.2
            obtain ⟨q14, hq14⟩ := cG_p (ad := ad) (cy := cy) (I := I8) (J := J9) (P := P11) hm
            refine va_get (D := (dC, dI)) (ci := 0) (v := .int (P11 a6 3)) (C := RX0) (T := TX0) (N := 5) hx hb hts hinX0 hown hK hP q14 hq14 rfl 3 (by decide) (hts (.fieldLink RX7 123 "OutboxHouse$Change" "order" "I") (by decide +kernel)) (fun _ h9 => h9) rfl dX7_log_79 ?_
            exact W.iret (v := P11 a6 3) hx hb hr (fun t ht hW => hQ _ _ t (P11 a6 3) I8 J9 LP10 P11 h ⟨by rw [ht]; exact hP, hD⟩ (hS.F ht)) hS.2.2 dX7_log_82
          replace h := h.2
          by_cases e3 : p2 = 3
          · have h := h.1 e3
            refine lv_tableIn (off := 44) (tgt := 83) hx hb dX7_log_39 (by rw [e3]; decide) (by rw [e3]; decide) (by rw [e3]; rfl) (by decide) ?_
            refine lv_aload_n hx hb dX7_log_83 rfl (lv_at hl 1 rfl) ?_
            refine va_get (D := (dC, dI)) (ci := 7) (v := .ref (ad 1)) (C := RX7) (T := TX7) (N := 5) hx hb hts hinX7 hown hK hP 0 cG_0 rfl 0 (by decide) (hts (.fieldLink RX7 10 "OutboxHouse" "changes" "LOutboxHouse$ChangeLog;") (by decide +kernel)) (fun _ h9 => h9) rfl dX7_log_84 ?_
            refine lv_iload_n hx hb dX7_log_87 rfl (lv_at hl 2 rfl) ?_
            refine va_calli (va_runV (As := [.int p1]) (rest := []) ⟨hx, hb, hml, hown, hts⟩ (m_X1_isFlushed l dC dI cy ad A I8 J9 LP10 P11 p1 hD h) (cwV 1 hts gX7_log_X1_isFlushed rfl rfl rfl (by decide +kernel) ⟨Nat.le_of_ble_eq_true rfl, Nat.le_of_ble_eq_true rfl⟩) ⟨wPre.blind, va_recv hK hP (ci := 1) (q0 := 1) rfl cG_1, wPre.at hP hK hN hS hA⟩ rfl rfl hl.1 rfl (lv_room (Nat.le_of_ble_eq_true rfl)) dX7_log_88 ⟨by first | exact Nat.le_of_ble_eq_true rfl | (show _ ≤ 0; omega), by first | exact Nat.le_of_ble_eq_true rfl | (show _ ≤ 0; omega)⟩) hS (fun q _ h => h) (fun q h => h) (fun r15 u t H locs ht hvm hw hB hz1 hk1 hS => ?_)
            obtain ⟨I16, J17, LP18, P19⟩ := u
            obtain ⟨hP, hD⟩ := hB; rw [ht] at hP; replace h := hw; try dsimp only at h hP hD
            refine lv_if_eq (tgt := 98) hx hb dX7_log_91 (by decide) (fun hc => ?_) (fun hc => ?_)
            · have h := h.1 hc
              refine lv_iconst (v := 0) hx hb dX7_log_98 (by decide) ?_
              exact W.iret (v := 0) hx hb hr (fun t ht hW => hQ _ _ t 0 I16 J17 LP18 P19 h ⟨by rw [ht]; exact hP, hD⟩ (hS.F ht)) hS.2.2 dX7_log_99
            · have h := h.2 hc
              refine lv_iconst (v := 1) hx hb dX7_log_94 (by decide) ?_
              refine lv_goto (tgt := 99) hx hb dX7_log_95 (by decide) ?_
              exact W.iret (v := 1) hx hb hr (fun t ht hW => hQ _ _ t 1 I16 J17 LP18 P19 h ⟨by rw [ht]; exact hP, hD⟩ (hS.F ht)) hS.2.2 dX7_log_99
          replace h := h.2
          have h := h ⟨e0, e1, e2, e3⟩
          refine lv_tableOut (tgt := 100) hx hb dX7_log_39 (by have z0 := lv_neT e0 (a := 0) (by decide); have z1 := lv_neT e1 (a := 1) (by decide); have z2 := lv_neT e2 (a := 2) (by decide); have z3 := lv_neT e3 (a := 3) (by decide); omega) (by decide) ?_
          refine lv_aload_n hx hb dX7_log_100 rfl (lv_at hl 0 rfl) ?_
          have hm := h.1; replace h := h.2
          obtain ⟨q20, hq20⟩ := cG_p (ad := ad) (cy := cy) (I := I8) (J := J9) (P := P11) hm
          refine va_get (D := (dC, dI)) (ci := 0) (v := .int (P11 a6 4)) (C := RX0) (T := TX0) (N := 5) hx hb hts hinX0 hown hK hP q20 hq20 rfl 4 (by decide) (hts (.fieldLink RX7 129 "OutboxHouse$Change" "last" "Z") (by decide +kernel)) (fun _ h9 => h9) rfl dX7_log_101 ?_
          refine lv_if_eq (tgt := 111) hx hb dX7_log_104 (by decide) (fun hc => ?_) (fun hc => ?_)
          · have h := h.1 hc
            refine lv_iconst (v := 0) hx hb dX7_log_111 (by decide) ?_
            exact W.iret (v := 0) hx hb hr (fun t ht hW => hQ _ _ t 0 I8 J9 LP10 P11 h ⟨by rw [ht]; exact hP, hD⟩ (hS.F ht)) hS.2.2 dX7_log_112
          · have h := h.2 hc
            refine lv_iconst (v := 1) hx hb dX7_log_107 (by decide) ?_
            refine lv_goto (tgt := 112) hx hb dX7_log_108 (by decide) ?_
            exact W.iret (v := 1) hx hb hr (fun t ht hW => hQ _ _ t 1 I8 J9 LP10 P11 h ⟨by rw [ht]; exact hP, hD⟩ (hS.F ht)) hS.2.2 dX7_log_112
        · have h := h.2 hc
          refine lv_bipush (v := (-9)) hx hb dX7_log_35 (by decide) ?_
          exact W.iret (v := (-9)) hx hb hr (fun t ht hW => hQ _ _ t (-9) I8 J9 LP10 P11 h ⟨by rw [ht]; exact hP, hD⟩ (hS.F ht)) hS.2.2 dX7_log_37
    · have h := h.2 hc
      refine lv_iconst (v := (-1)) hx hb dX7_log_9 (by decide) ?_
      exact W.iret (v := (-1)) hx hb hr (fun t ht hW => hQ _ _ t (-1) I J LP P h ⟨by rw [ht]; exact hP, hD⟩ (hS.F ht)) hS.2.2 dX7_log_10
theorem m_X7_log (l : Launch) (dC : Nat → ClassId) (dI : Nat → Nat → Nat) (cy : Nat → ClassId) (ad : Nat → Nat) (A : Nat → Prop) (I : St) (J : Rf) (LP : List Nat) (P : St) (p1 : Int32) (p2 : Int32) {post : Int32 → St → Rf → List Nat → St → Prop} (hD : va_D A (cW ad cy I J LP P)) (h : wp_X7_log I J LP P p1 p2 post) : Met l yX7_log wsX7_log rmX7_log (va_Pc [.ref (ad 0), .int p1, .int p2] (wPre (dC, dI) cy A (cW ad cy I J LP P))) (va_Qi (fun r (u : CS) => post r u.1 u.2.1 u.2.2.1 u.2.2.2) (fun (u : CS) t => wPost (dC, dI) A (cW ad cy u.1 u.2.1 u.2.2.1 u.2.2.2) t) A) 0 0 A := g_X7_log l dC dI cy ad A I J LP P p1 p2 hD h (fun a s0 t r I' J' LP' P' h1 h2 h3 => ⟨⟨r, (I', J', LP', P'), rfl, h1, h2⟩, h3⟩)
abbrev rmX7_relay : Room := { frames := 3, cells := 0, slots := 0, locals := 65 }
set_option maxHeartbeats 4000000 in
set_option maxRecDepth 100000 in
theorem g_X7_relay (l : Launch) (dC : Nat → ClassId) (dI : Nat → Nat → Nat) (cy : Nat → ClassId) (ad : Nat → Nat) (A : Nat → Prop) (I : St) (J : Rf) (LP : List Nat) (P : St) (p1 : Int32) {post : Int32 → St → Rf → List Nat → St → Prop} (hD : va_D A (cW ad cy I J LP P)) (h : wp_X7_relay I J LP P p1 post) {Qc : Array Value → State → Outcome → State → Prop} (hQ : ∀ (a : Array Value) (s0 t : State) (r : Int32) (I' : St) (J' : Rf) (LP' : List Nat) (P' : St), post r I' J' LP' P' → wPost (dC, dI) A (cW ad cy I' J' LP' P') t → va_F A s0 t → Qc a s0 (.returned (some (.int r))) t) : Met l yX7_relay wsX7_relay rmX7_relay (va_Pc [.ref (ad 0), .int p1] (wPre (dC, dI) cy A (cW ad cy I J LP P))) Qc 0 0 A := by
  refine Met.ofW (cc := cX7_relay) (maxL := 2) (ret := (some .int)) (by decide) rfl ?_
  intro p e s m args below meth c s₁ B hml hv
  obtain ⟨rfl, hP, hK, hN, hA⟩ := hv
  have hx := B.exec
  have hb := B.bytes
  have hr := B.returns
  have hts := atoms_spec (ws := wsX7_relay) B.pre
  have hown : s.vm.findClass RX7 = some m.cls := findClass_of_methodNamed B.named
  have hlocks := B.notSynchronized
  have hinX7 : ∀ w ∈ wsX70, w ∈ wsX7_relay := fun _ h9 => List.mem_cons_of_mem _ (List.mem_append_left _ (List.mem_append_left _ (List.mem_append_left _ (List.mem_append_left _ (List.mem_append_right _ h9)))))
  have hS : va_S A s.heap s.heap [] := va_S.rf
  unfold wp_X7_relay at h
  have hl := lv_entry ([.ref (ad 0), .int p1]) (n := 2) (Nat.le_of_ble_eq_true rfl)
  rw [lg_entry_eq]
  generalize (lg_sl ([.ref (ad 0), .int p1]) ++ List.replicate (2 - (lg_sl ([.ref (ad 0), .int p1])).length) Slot.unset).toArray = ls at hl ⊢
  have hl : lv_has ls 2 [(0, .ref (ad 0)), (1, .int p1)] := hl
  refine lv_iload_n hx hb dX7_relay_0 rfl (lv_at hl 1 rfl) ?_
  refine lv_iconst (v := 1) hx hb dX7_relay_1 (by decide) ?_
  refine lv_icmp_lt (tgt := 11) hx hb dX7_relay_2 (by decide) (fun hc => ?_) (fun hc => ?_)
  · have h := h.1 hc
    refine lv_iconst (v := (-1)) hx hb dX7_relay_11 (by decide) ?_
    exact W.iret (v := (-1)) hx hb hr (fun t ht hW => hQ _ _ t (-1) I J LP P h ⟨by rw [ht]; exact hP, hD⟩ (hS.F ht)) hS.2.2 dX7_relay_12
  · have h := h.2 hc
    refine lv_iload_n hx hb dX7_relay_5 rfl (lv_at hl 1 rfl) ?_
    refine lv_bipush (v := 20) hx hb dX7_relay_6 (by decide) ?_
    refine lv_icmp_le (tgt := 13) hx hb dX7_relay_8 (by decide) (fun hc => ?_) (fun hc => ?_)
    · have h := h.1 hc
      refine lv_aload_n hx hb dX7_relay_13 rfl (lv_at hl 0 rfl) ?_
      refine va_get (D := (dC, dI)) (ci := 7) (v := .ref (ad 9)) (C := RX7) (T := TX7) (N := 5) hx hb hts hinX7 hown hK hP 0 cG_0 rfl 2 (by decide) (hts (.fieldLink RX7 28 "OutboxHouse" "reader" "LOutboxHouse$Relay;") (by decide +kernel)) (fun _ h9 => h9) rfl dX7_relay_14 ?_
      refine lv_iload_n hx hb dX7_relay_17 rfl (lv_at hl 1 rfl) ?_
      refine va_calli (va_runV (As := [.int p1]) (rest := []) ⟨hx, hb, hml, hown, hts⟩ (m_X2_readOn l dC dI cy ad A I J LP P p1 hD h) (cwV 1 hts gX7_relay_X2_readOn rfl rfl rfl (by decide +kernel) ⟨Nat.le_of_ble_eq_true rfl, Nat.le_of_ble_eq_true rfl⟩) ⟨wPre.blind, va_recv hK hP (ci := 2) (q0 := 9) rfl cG_9, wPre.at hP hK hN hS hA⟩ rfl rfl hl.1 rfl (lv_room (Nat.le_of_ble_eq_true rfl)) dX7_relay_18 ⟨by first | exact Nat.le_of_ble_eq_true rfl | (show _ ≤ 0; omega), by first | exact Nat.le_of_ble_eq_true rfl | (show _ ≤ 0; omega)⟩) hS (fun q _ h => h) (fun q h => h) (fun r1 u t H locs ht hvm hw hB hz1 hk1 hS => ?_)
      obtain ⟨I2, J3, LP4, P5⟩ := u
      obtain ⟨hP, hD⟩ := hB; rw [ht] at hP; replace h := hw; try dsimp only at h hP hD
      exact W.iret (v := r1) hx hb hr (fun t ht hW => hQ _ _ t r1 I2 J3 LP4 P5 h ⟨by rw [ht]; exact hP, hD⟩ (hS.F ht)) hS.2.2 dX7_relay_21
    · have h := h.2 hc
      refine lv_iconst (v := (-1)) hx hb dX7_relay_11 (by decide) ?_
      exact W.iret (v := (-1)) hx hb hr (fun t ht hW => hQ _ _ t (-1) I J LP P h ⟨by rw [ht]; exact hP, hD⟩ (hS.F ht)) hS.2.2 dX7_relay_12
theorem m_X7_relay (l : Launch) (dC : Nat → ClassId) (dI : Nat → Nat → Nat) (cy : Nat → ClassId) (ad : Nat → Nat) (A : Nat → Prop) (I : St) (J : Rf) (LP : List Nat) (P : St) (p1 : Int32) {post : Int32 → St → Rf → List Nat → St → Prop} (hD : va_D A (cW ad cy I J LP P)) (h : wp_X7_relay I J LP P p1 post) : Met l yX7_relay wsX7_relay rmX7_relay (va_Pc [.ref (ad 0), .int p1] (wPre (dC, dI) cy A (cW ad cy I J LP P))) (va_Qi (fun r (u : CS) => post r u.1 u.2.1 u.2.2.1 u.2.2.2) (fun (u : CS) t => wPost (dC, dI) A (cW ad cy u.1 u.2.1 u.2.2.1 u.2.2.2) t) A) 0 0 A := g_X7_relay l dC dI cy ad A I J LP P p1 hD h (fun a s0 t r I' J' LP' P' h1 h2 h3 => ⟨⟨r, (I', J', LP', P'), rfl, h1, h2⟩, h3⟩)
