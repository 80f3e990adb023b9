abbrev rmX7_cut : Room := { frames := 1, cells := 0, slots := 0, locals := 22 }
set_option maxHeartbeats 4000000 in
set_option maxRecDepth 100000 in
theorem g_X7_cut (l : Launch) (dC : Nat → ClassId) (dI : Nat → Nat → Nat) (cy : Nat → ClassId) (ad : Nat → Nat) (A : Nat → Prop) (I : St) (J : Rf) (LP : List Nat) (P : St)  {post : Int32 → St → Rf → List Nat → St → Prop} (hD : va_D A (cW ad cy I J LP P)) (h : wp_X7_cut I J LP P  post) {Qc : Array Value → State → Outcome → State → Prop} (hQ : ∀ (a : Array Value) (s0 t : State) (r : Int32) (I' : St) (J' : Rf) (LP' : List Nat) (P' : St), post r I' J' LP' P' → wPost (dC, dI) A (cW ad cy I' J' LP' P') t → va_F A s0 t → Qc a s0 (.returned (some (.int r))) t) : Met l yX7_cut wsX7_cut rmX7_cut (va_Pc [.ref (ad 0)] (wPre (dC, dI) cy A (cW ad cy I J LP P))) Qc 0 0 A := by
  refine Met.ofW (cc := cX7_cut) (maxL := 1) (ret := (some .int)) (by decide) rfl ?_
  intro p e s m args below meth c s₁ B hml hv
  obtain ⟨rfl, hP, hK, hN, hA⟩ := hv
  have hx := B.exec
  have hb := B.bytes
  have hr := B.returns
  have hts := atoms_spec (ws := wsX7_cut) B.pre
  have hown : s.vm.findClass RX7 = some m.cls := findClass_of_methodNamed B.named
  have hlocks := B.notSynchronized
  have hinX7 : ∀ w ∈ wsX70, w ∈ wsX7_cut := fun _ h9 => List.mem_cons_of_mem _ (List.mem_append_left _ (List.mem_append_left _ (List.mem_append_right _ h9)))
  have hinX2 : ∀ w ∈ wsX20, w ∈ wsX7_cut := fun _ h9 => List.mem_cons_of_mem _ (List.mem_append_left _ (List.mem_append_right _ h9))
  have hS : va_S A s.heap s.heap [] := va_S.rf
  unfold wp_X7_cut at h
  have hl := lv_entry ([.ref (ad 0)]) (n := 1) (Nat.le_of_ble_eq_true rfl)
  rw [lg_entry_eq]
  generalize (lg_sl ([.ref (ad 0)]) ++ List.replicate (1 - (lg_sl ([.ref (ad 0)])).length) Slot.unset).toArray = ls at hl ⊢
  have hl : lv_has ls 1 [(0, .ref (ad 0))] := hl
  refine lv_aload_n hx hb dX7_cut_0 rfl (lv_at hl 0 rfl) ?_
  refine va_get (D := (dC, dI)) (ci := 7) (v := .ref (ad 1)) (C := RX7) (T := TX7) (N := 5) hx hb hts hinX7 hown hK hP 0 cG_0 rfl 0 (by decide) (hts (.fieldLink RX7 10 "OutboxHouse" "changes" "LOutboxHouse$ChangeLog;") (by decide +kernel)) (fun _ h9 => h9) rfl dX7_cut_1 ?_
  refine lv_aload_n hx hb dX7_cut_4 rfl (lv_at hl 0 rfl) ?_
  refine va_get (D := (dC, dI)) (ci := 7) (v := .ref (ad 9)) (C := RX7) (T := TX7) (N := 5) hx hb hts hinX7 hown hK hP 0 cG_0 rfl 2 (by decide) (hts (.fieldLink RX7 28 "OutboxHouse" "reader" "LOutboxHouse$Relay;") (by decide +kernel)) (fun _ h9 => h9) rfl dX7_cut_5 ?_
  refine va_getN (D := (dC, dI)) (ci := 2) (v := .int (I 9 1)) (C := RX2) (T := TX2) (N := 6) hx hb hts hinX2 hown hK hP 9 cG_9 rfl 3 (by decide) (va_Nw.use rfl (hN.1 (RX7, 136, "OutboxHouse$Relay", "mark", "I", "OutboxHouse") (by decide +kernel))) (fun _ h9 => h9) rfl dX7_cut_8 ?_
  refine va_calli (va_runV (As := [.int (I 9 1)]) (rest := []) ⟨hx, hb, hml, hown, hts⟩ (m_X1_cutUpTo l dC dI cy ad A I J LP P (I 9 1) hD h) (cwV 1 hts gX7_cut_X1_cutUpTo rfl rfl rfl (by decide +kernel) ⟨Nat.le_of_ble_eq_true rfl, Nat.le_of_ble_eq_true rfl⟩) ⟨wPre.blind, va_recv hK hP (ci := 1) (q0 := 1) rfl cG_1, wPre.at hP hK hN hS hA⟩ rfl rfl hl.1 rfl (lv_room (Nat.le_of_ble_eq_true rfl)) dX7_cut_11 ⟨by first | exact Nat.le_of_ble_eq_true rfl | (show _ ≤ 0; omega), by first | exact Nat.le_of_ble_eq_true rfl | (show _ ≤ 0; omega)⟩) hS (fun q _ h => h) (fun q h => h) (fun r1 u t H locs ht hvm hw hB hz1 hk1 hS => ?_)
  obtain ⟨I2, J3, LP4, P5⟩ := u
  obtain ⟨hP, hD⟩ := hB; rw [ht] at hP; replace h := hw; try dsimp only at h hP hD
  exact W.iret (v := r1) hx hb hr (fun t ht hW => hQ _ _ t r1 I2 J3 LP4 P5 h ⟨by rw [ht]; exact hP, hD⟩ (hS.F ht)) hS.2.2 dX7_cut_14
theorem m_X7_cut (l : Launch) (dC : Nat → ClassId) (dI : Nat → Nat → Nat) (cy : Nat → ClassId) (ad : Nat → Nat) (A : Nat → Prop) (I : St) (J : Rf) (LP : List Nat) (P : St)  {post : Int32 → St → Rf → List Nat → St → Prop} (hD : va_D A (cW ad cy I J LP P)) (h : wp_X7_cut I J LP P  post) : Met l yX7_cut wsX7_cut rmX7_cut (va_Pc [.ref (ad 0)] (wPre (dC, dI) cy A (cW ad cy I J LP P))) (va_Qi (fun r (u : CS) => post r u.1 u.2.1 u.2.2.1 u.2.2.2) (fun (u : CS) t => wPost (dC, dI) A (cW ad cy u.1 u.2.1 u.2.2.1 u.2.2.2) t) A) 0 0 A := g_X7_cut l dC dI cy ad A I J LP P  hD h (fun a s0 t r I' J' LP' P' h1 h2 h3 => ⟨⟨r, (I', J', LP', P'), rfl, h1, h2⟩, h3⟩)
abbrev rmX7_deliver : Room := { frames := 5, cells := 0, slots := 0, locals := 110 }
set_option maxHeartbeats 4000000 in
set_option maxRecDepth 100000 in
theorem g_X7_deliver (l : Launch) (dC : Nat → ClassId) (dI : Nat → Nat → Nat) (cy : Nat → ClassId) (ad : Nat → Nat) (A : Nat → Prop) (I : St) (J : Rf) (LP : List Nat) (P : St) (p1 : Int32) (p2 : Int32) (p3 : Int32) {post : Int32 → St → Rf → List Nat → St → Prop} (hD : va_D A (cW ad cy I J LP P)) (h : wp_X7_deliver I J LP P p1 p2 p3 post) {Qc : Array Value → State → Outcome → State → Prop} (hQ : ∀ (a : Array Value) (s0 t : State) (r : Int32) (I' : St) (J' : Rf) (LP' : List Nat) (P' : St), post r I' J' LP' P' → wPost (dC, dI) A (cW ad cy I' J' LP' P') t → va_F A s0 t → Qc a s0 (.returned (some (.int r))) t) : Met l yX7_deliver wsX7_deliver rmX7_deliver (va_Pc [.ref (ad 0), .int p1, .int p2, .int p3] (wPre (dC, dI) cy A (cW ad cy I J LP P))) Qc 0 0 A := by
  refine Met.ofW (cc := cX7_deliver) (maxL := 5) (ret := (some .int)) (by decide) rfl ?_
  intro p e s m args below meth c s₁ B hml hv
  obtain ⟨rfl, hP, hK, hN, hA⟩ := hv
  have hx := B.exec
  have hb := B.bytes
  have hr := B.returns
  have hts := atoms_spec (ws := wsX7_deliver) B.pre
  have hown : s.vm.findClass RX7 = some m.cls := findClass_of_methodNamed B.named
  have hlocks := B.notSynchronized
  have hinX7 : ∀ w ∈ wsX70, w ∈ wsX7_deliver := fun _ h9 => List.mem_cons_of_mem _ (List.mem_append_left _ (List.mem_append_left _ (List.mem_append_left _ (List.mem_append_left _ (List.mem_append_left _ (List.mem_append_left _ (List.mem_append_right _ h9)))))))
  have hS : va_S A s.heap s.heap [] := va_S.rf
  unfold wp_X7_deliver at h
  have hl := lv_entry ([.ref (ad 0), .int p1, .int p2, .int p3]) (n := 5) (Nat.le_of_ble_eq_true rfl)
  rw [lg_entry_eq]
  generalize (lg_sl ([.ref (ad 0), .int p1, .int p2, .int p3]) ++ List.replicate (5 - (lg_sl ([.ref (ad 0), .int p1, .int p2, .int p3])).length) Slot.unset).toArray = ls at hl ⊢
  have hl : lv_has ls 5 [(0, .ref (ad 0)), (1, .int p1), (2, .int p2), (3, .int p3)] := hl
  refine lv_aload_n hx hb dX7_deliver_0 rfl (lv_at hl 0 rfl) ?_
  refine va_get (D := (dC, dI)) (ci := 7) (v := .ref (ad 9)) (C := RX7) (T := TX7) (N := 5) hx hb hts hinX7 hown hK hP 0 cG_0 rfl 2 (by decide) (hts (.fieldLink RX7 28 "OutboxHouse" "reader" "LOutboxHouse$Relay;") (by decide +kernel)) (fun _ h9 => h9) rfl dX7_deliver_1 ?_
  refine lv_iload_n hx hb dX7_deliver_4 rfl (lv_at hl 1 rfl) ?_
  refine lv_iload_n hx hb dX7_deliver_5 rfl (lv_at hl 2 rfl) ?_
  refine va_callq (va_runV (As := [.int p1, .int p2]) (rest := []) ⟨hx, hb, hml, hown, hts⟩ (m_X2_letterAt l dC dI cy ad A I J LP P p1 p2 hD h) (cwV 2 hts gX7_deliver_X2_letterAt rfl rfl rfl (by decide +kernel) ⟨Nat.le_of_ble_eq_true rfl, Nat.le_of_ble_eq_true rfl⟩) ⟨wPre.blind, va_recv hK hP (ci := 2) (q0 := 9) rfl cG_9, wPre.at hP hK hN hS hA⟩ rfl rfl hl.1 rfl (lv_room (Nat.le_of_ble_eq_true rfl)) dX7_deliver_6 ⟨by first | exact Nat.le_of_ble_eq_true rfl | (show _ ≤ 0; omega), by first | exact Nat.le_of_ble_eq_true rfl | (show _ ≤ 0; omega)⟩) hS (fun q _ h => h) (fun q h => h) (fun r1 u t H locs ht hvm hw hB hz1 hk1 hS => ?_)
  obtain ⟨I2, J3, LP4, P5⟩ := u
  obtain ⟨hP, hD⟩ := hB; rw [ht] at hP; replace h := hw; try dsimp only at h hP hD
  rcases r1 with _ | a6
  · replace h := h.1 rfl
    refine W.eq (g2 := F0 m 9 ls [.null]) rfl ?_
    refine lv_astoreN (lv' := [(4, .null), (0, .ref (ad 0)), (1, .int p1), (2, .int p2), (3, .int p3)]) hx hb dX7_deliver_9 hl (by decide) rfl (fun ls hl => ?_)
    refine lv_aloadN hx hb dX7_deliver_11 (lv_at hl 0 rfl) ?_
    refine lv_ifnonnullN hx hb dX7_deliver_13 ?_
    refine lv_iconst (v := (-1)) hx hb dX7_deliver_16 (by decide) ?_
    exact W.iret (v := (-1)) hx hb hr (fun t ht hW => hQ _ _ t (-1) I2 J3 LP4 P5 h ⟨by rw [ht]; exact hP, hD⟩ (hS.F ht)) hS.2.2 dX7_deliver_17
  · replace h := h.2 _ rfl
    refine W.eq (g2 := F0 m 9 ls [.ref a6]) rfl ?_
    refine lv_astore (lv' := [(4, .ref a6), (0, .ref (ad 0)), (1, .int p1), (2, .int p2), (3, .int p3)]) hx hb dX7_deliver_9 hl (by decide) rfl (fun ls hl => ?_)
    refine lv_aload hx hb dX7_deliver_11 (lv_at hl 0 rfl) ?_
    refine lv_ifnonnull (tgt := 18) hx hb dX7_deliver_13 (by decide) ?_
    refine lv_iload_n hx hb dX7_deliver_18 rfl (lv_at hl 4 rfl) ?_
    refine lv_if_ne (tgt := 31) hx hb dX7_deliver_19 (by decide) (fun hc => ?_) (fun hc => ?_)
    · have h := h.1 hc
      refine lv_aload_n hx hb dX7_deliver_31 rfl (lv_at hl 1 rfl) ?_
      refine va_get (D := (dC, dI)) (ci := 7) (v := .ref (ad 19)) (C := RX7) (T := TX7) (N := 5) hx hb hts hinX7 hown hK hP 0 cG_0 rfl 3 (by decide) (hts (.fieldLink RX7 35 "OutboxHouse" "target" "LOutboxHouse$Target;") (by decide +kernel)) (fun _ h9 => h9) rfl dX7_deliver_32 ?_
      refine lv_aload hx hb dX7_deliver_35 (lv_at hl 0 rfl) ?_
      refine va_calli (va_runV (As := [.ref a6]) (rest := []) ⟨hx, hb, hml, hown, hts⟩ (m_X5_take l dC dI cy ad A I2 J3 LP4 P5 a6 hD h) (cwV 1 hts gX7_deliver_X5_take rfl rfl rfl (by decide +kernel) ⟨Nat.le_of_ble_eq_true rfl, Nat.le_of_ble_eq_true rfl⟩) ⟨wPre.blind, va_recv hK hP (ci := 5) (q0 := 19) rfl cG_19, wPre.at hP hK hN hS hA⟩ rfl rfl hl.1 rfl (lv_room (Nat.le_of_ble_eq_true rfl)) dX7_deliver_37 ⟨by first | exact Nat.le_of_ble_eq_true rfl | (show _ ≤ 0; omega), by first | exact Nat.le_of_ble_eq_true rfl | (show _ ≤ 0; omega)⟩) hS (fun q _ h => h) (fun q h => h) (fun r7 u t H locs ht hvm hw hB hz1 hk1 hS => ?_)
      obtain ⟨I8, J9, LP10, P11⟩ := u
      obtain ⟨hP, hD⟩ := hB; rw [ht] at hP; replace h := hw; try dsimp only at h hP hD
      exact W.iret (v := r7) hx hb hr (fun t ht hW => hQ _ _ t r7 I8 J9 LP10 P11 h ⟨by rw [ht]; exact hP, hD⟩ (hS.F ht)) hS.2.2 dX7_deliver_40
    · have h := h.2 hc
      refine lv_aload_n hx hb dX7_deliver_22 rfl (lv_at hl 1 rfl) ?_
      refine va_get (D := (dC, dI)) (ci := 7) (v := .ref (ad 9)) (C := RX7) (T := TX7) (N := 5) hx hb hts hinX7 hown hK hP 0 cG_0 rfl 2 (by decide) (hts (.fieldLink RX7 28 "OutboxHouse" "reader" "LOutboxHouse$Relay;") (by decide +kernel)) (fun _ h9 => h9) rfl dX7_deliver_23 ?_
      refine lv_iload_n hx hb dX7_deliver_26 rfl (lv_at hl 2 rfl) ?_
      refine lv_iload_n hx hb dX7_deliver_27 rfl (lv_at hl 3 rfl) ?_
      refine va_callv (va_runV (As := [.int p1, .int p2]) (rest := []) ⟨hx, hb, hml, hown, hts⟩ (m_X2_dropLetter l dC dI cy ad A I2 J3 LP4 P5 p1 p2 hD h) (cwV 2 hts gX7_deliver_X2_dropLetter rfl rfl rfl (by decide +kernel) ⟨Nat.le_of_ble_eq_true rfl, Nat.le_of_ble_eq_true rfl⟩) ⟨wPre.blind, va_recv hK hP (ci := 2) (q0 := 9) rfl cG_9, wPre.at hP hK hN hS hA⟩ rfl rfl hl.1 rfl (lv_room (Nat.le_of_ble_eq_true rfl)) dX7_deliver_28 ⟨by first | exact Nat.le_of_ble_eq_true rfl | (show _ ≤ 0; omega), by first | exact Nat.le_of_ble_eq_true rfl | (show _ ≤ 0; omega)⟩) hS (fun q _ h => h) (fun q h => h) (fun u t H locs ht hvm hw hB hz1 hk1 hS => ?_)
      obtain ⟨I13, J14, LP15, P16⟩ := u
      obtain ⟨hP, hD⟩ := hB; rw [ht] at hP; replace h := hw; try dsimp only at h hP hD
      refine lv_aload_n hx hb dX7_deliver_31 rfl (lv_at hl 1 rfl) ?_
      refine va_get (D := (dC, dI)) (ci := 7) (v := .ref (ad 19)) (C := RX7) (T := TX7) (N := 5) hx hb hts hinX7 hown hK hP 0 cG_0 rfl 3 (by decide) (hts (.fieldLink RX7 35 "OutboxHouse" "target" "LOutboxHouse$Target;") (by decide +kernel)) (fun _ h9 => h9) rfl dX7_deliver_32 ?_
      refine lv_aload hx hb dX7_deliver_35 (lv_at hl 0 rfl) ?_
      refine va_calli (va_runV (As := [.ref a6]) (rest := []) ⟨hx, hb, hml, hown, hts⟩ (m_X5_take l dC dI cy ad A I13 J14 LP15 P16 a6 hD h) (cwV 1 hts gX7_deliver_X5_take rfl rfl rfl (by decide +kernel) ⟨Nat.le_of_ble_eq_true rfl, Nat.le_of_ble_eq_true rfl⟩) ⟨wPre.blind, va_recv hK hP (ci := 5) (q0 := 19) rfl cG_19, wPre.at hP hK hN hS hA⟩ rfl rfl hl.1 rfl (lv_room (Nat.le_of_ble_eq_true rfl)) dX7_deliver_37 ⟨by first | exact Nat.le_of_ble_eq_true rfl | (show _ ≤ 0; omega), by first | exact Nat.le_of_ble_eq_true rfl | (show _ ≤ 0; omega)⟩) hS (fun q _ h => h) (fun q h => h) (fun r17 u t H locs ht hvm hw hB hz1 hk1 hS => ?_)
      obtain ⟨I18, J19, LP20, P21⟩ := u
      obtain ⟨hP, hD⟩ := hB; rw [ht] at hP; replace h := hw; try dsimp only at h hP hD
      exact W.iret (v := r17) hx hb hr (fun t ht hW => hQ _ _ t r17 I18 J19 LP20 P21 h ⟨by rw [ht]; exact hP, hD⟩ (hS.F ht)) hS.2.2 dX7_deliver_40
theorem m_X7_deliver (l : Launch) (dC : Nat → ClassId) (dI : Nat → Nat → Nat) (cy : Nat → ClassId) (ad : Nat → Nat) (A : Nat → Prop) (I : St) (J : Rf) (LP : List Nat) (P : St) (p1 : Int32) (p2 : Int32) (p3 : Int32) {post : Int32 → St → Rf → List Nat → St → Prop} (hD : va_D A (cW ad cy I J LP P)) (h : wp_X7_deliver I J LP P p1 p2 p3 post) : Met l yX7_deliver wsX7_deliver rmX7_deliver (va_Pc [.ref (ad 0), .int p1, .int p2, .int p3] (wPre (dC, dI) cy A (cW ad cy I J LP P))) (va_Qi (fun r (u : CS) => post r u.1 u.2.1 u.2.2.1 u.2.2.2) (fun (u : CS) t => wPost (dC, dI) A (cW ad cy u.1 u.2.1 u.2.2.1 u.2.2.2) t) A) 0 0 A := g_X7_deliver l dC dI cy ad A I J LP P p1 p2 p3 hD h (fun a s0 t r I' J' LP' P' h1 h2 h3 => ⟨⟨r, (I', J', LP', P'), rfl, h1, h2⟩, h3⟩)
abbrev rmX7_lose : Room := { frames := 2, cells := 0, slots := 0, locals := 44 }
set_option maxHeartbeats 4000000 in
set_option maxRecDepth 100000 in
theorem g_X7_lose (l : Launch) (dC : Nat → ClassId) (dI : Nat → Nat → Nat) (cy : Nat → ClassId) (ad : Nat → Nat) (A : Nat → Prop) (I : St) (J : Rf) (LP : List Nat) (P : St) (p1 : Int32) (p2 : Int32) {post : Int32 → St → Rf → List Nat → St → Prop} (hD : va_D A (cW ad cy I J LP P)) (h : wp_X7_lose I J LP P p1 p2 post) {Qc : Array Value → State → Outcome → State → Prop} (hQ : ∀ (a : Array Value) (s0 t : State) (r : Int32) (I' : St) (J' : Rf) (LP' : List Nat) (P' : St), post r I' J' LP' P' → wPost (dC, dI) A (cW ad cy I' J' LP' P') t → va_F A s0 t → Qc a s0 (.returned (some (.int r))) t) : Met l yX7_lose wsX7_lose rmX7_lose (va_Pc [.ref (ad 0), .int p1, .int p2] (wPre (dC, dI) cy A (cW ad cy I J LP P))) Qc 0 0 A := by
  refine Met.ofW (cc := cX7_lose) (maxL := 4) (ret := (some .int)) (by decide) rfl ?_
  intro p e s m args below meth c s₁ B hml hv
  obtain ⟨rfl, hP, hK, hN, hA⟩ := hv
  have hx := B.exec
  have hb := B.bytes
  have hr := B.returns
  have hts := atoms_spec (ws := wsX7_lose) B.pre
  have hown : s.vm.findClass RX7 = some m.cls := findClass_of_methodNamed B.named
  have hlocks := B.notSynchronized
  have hinX7 : ∀ w ∈ wsX70, w ∈ wsX7_lose := fun _ h9 => List.mem_cons_of_mem _ (List.mem_append_left _ (List.mem_append_left _ (List.mem_append_left _ (List.mem_append_right _ h9))))
  have hinX2 : ∀ w ∈ wsX20, w ∈ wsX7_lose := fun _ h9 => List.mem_cons_of_mem _ (List.mem_append_left _ (List.mem_append_left _ (List.mem_append_right _ h9)))
  have hinX0 : ∀ w ∈ wsX00, w ∈ wsX7_lose := fun _ h9 => List.mem_cons_of_mem _ (List.mem_append_left _ (List.mem_append_right _ h9))
  have hS : va_S A s.heap s.heap [] := va_S.rf
  unfold wp_X7_lose at h
  have hl := lv_entry ([.ref (ad 0), .int p1, .int p2]) (n := 4) (Nat.le_of_ble_eq_true rfl)
  rw [lg_entry_eq]
  generalize (lg_sl ([.ref (ad 0), .int p1, .int p2]) ++ List.replicate (4 - (lg_sl ([.ref (ad 0), .int p1, .int p2])).length) Slot.unset).toArray = ls at hl ⊢
  have hl : lv_has ls 4 [(0, .ref (ad 0)), (1, .int p1), (2, .int p2)] := hl
  refine lv_aload_n hx hb dX7_lose_0 rfl (lv_at hl 0 rfl) ?_
  refine va_get (D := (dC, dI)) (ci := 7) (v := .ref (ad 9)) (C := RX7) (T := TX7) (N := 5) hx hb hts hinX7 hown hK hP 0 cG_0 rfl 2 (by decide) (hts (.fieldLink RX7 28 "OutboxHouse" "reader" "LOutboxHouse$Relay;") (by decide +kernel)) (fun _ h9 => h9) rfl dX7_lose_1 ?_
  refine lv_iload_n hx hb dX7_lose_4 rfl (lv_at hl 1 rfl) ?_
  refine lv_iload_n hx hb dX7_lose_5 rfl (lv_at hl 2 rfl) ?_
  refine va_callq (va_runV (As := [.int p1, .int p2]) (rest := []) ⟨hx, hb, hml, hown, hts⟩ (m_X2_letterAt l dC dI cy ad A I J LP P p1 p2 hD h) (cwV 2 hts gX7_lose_X2_letterAt rfl rfl rfl (by decide +kernel) ⟨Nat.le_of_ble_eq_true rfl, Nat.le_of_ble_eq_true rfl⟩) ⟨wPre.blind, va_recv hK hP (ci := 2) (q0 := 9) rfl cG_9, wPre.at hP hK hN hS hA⟩ rfl rfl hl.1 rfl (lv_room (Nat.le_of_ble_eq_true rfl)) dX7_lose_6 ⟨by first | exact Nat.le_of_ble_eq_true rfl | (show _ ≤ 0; omega), by first | exact Nat.le_of_ble_eq_true rfl | (show _ ≤ 0; omega)⟩) hS (fun q _ h => h) (fun q h => h) (fun r1 u t H locs ht hvm hw hB hz1 hk1 hS => ?_)
  obtain ⟨I2, J3, LP4, P5⟩ := u
  obtain ⟨hP, hD⟩ := hB; rw [ht] at hP; replace h := hw; try dsimp only at h hP hD
  rcases r1 with _ | a6
  · replace h := h.1 rfl
    refine W.eq (g2 := F0 m 9 ls [.null]) rfl ?_
    refine lv_astore_nN (lv' := [(3, .null), (0, .ref (ad 0)), (1, .int p1), (2, .int p2)]) hx hb dX7_lose_9 rfl hl (by decide) rfl (fun ls hl => ?_)
    refine lv_aload_nN hx hb dX7_lose_10 rfl (lv_at hl 0 rfl) ?_
    refine lv_ifnonnullN hx hb dX7_lose_11 ?_
    refine lv_iconst (v := (-1)) hx hb dX7_lose_14 (by decide) ?_
    exact W.iret (v := (-1)) hx hb hr (fun t ht hW => hQ _ _ t (-1) I2 J3 LP4 P5 h ⟨by rw [ht]; exact hP, hD⟩ (hS.F ht)) hS.2.2 dX7_lose_15
  · replace h := h.2 _ rfl
    refine W.eq (g2 := F0 m 9 ls [.ref a6]) rfl ?_
    refine lv_astore_n (lv' := [(3, .ref a6), (0, .ref (ad 0)), (1, .int p1), (2, .int p2)]) hx hb dX7_lose_9 rfl hl (by decide) rfl (fun ls hl => ?_)
    refine lv_aload_n hx hb dX7_lose_10 rfl (lv_at hl 0 rfl) ?_
    refine lv_ifnonnull (tgt := 16) hx hb dX7_lose_11 (by decide) ?_
    refine lv_aload_n hx hb dX7_lose_16 rfl (lv_at hl 1 rfl) ?_
    refine va_get (D := (dC, dI)) (ci := 7) (v := .ref (ad 9)) (C := RX7) (T := TX7) (N := 5) hx hb hts hinX7 hown hK hP 0 cG_0 rfl 2 (by decide) (hts (.fieldLink RX7 28 "OutboxHouse" "reader" "LOutboxHouse$Relay;") (by decide +kernel)) (fun _ h9 => h9) rfl dX7_lose_17 ?_
    refine lv_iload_n hx hb dX7_lose_20 rfl (lv_at hl 2 rfl) ?_
    refine lv_iload_n hx hb dX7_lose_21 rfl (lv_at hl 3 rfl) ?_
    refine va_callv (va_runV (As := [.int p1, .int p2]) (rest := []) ⟨hx, hb, hml, hown, hts⟩ (m_X2_dropLetter l dC dI cy ad A I2 J3 LP4 P5 p1 p2 hD h) (cwV 2 hts gX7_lose_X2_dropLetter rfl rfl rfl (by decide +kernel) ⟨Nat.le_of_ble_eq_true rfl, Nat.le_of_ble_eq_true rfl⟩) ⟨wPre.blind, va_recv hK hP (ci := 2) (q0 := 9) rfl cG_9, wPre.at hP hK hN hS hA⟩ rfl rfl hl.1 rfl (lv_room (Nat.le_of_ble_eq_true rfl)) dX7_lose_22 ⟨by first | exact Nat.le_of_ble_eq_true rfl | (show _ ≤ 0; omega), by first | exact Nat.le_of_ble_eq_true rfl | (show _ ≤ 0; omega)⟩) hS (fun q _ h => h) (fun q h => h) (fun u t H locs ht hvm hw hB hz1 hk1 hS => ?_)
    obtain ⟨I8, J9, LP10, P11⟩ := u
    obtain ⟨hP, hD⟩ := hB; rw [ht] at hP; replace h := hw; try dsimp only at h hP hD
    refine lv_aload_n hx hb dX7_lose_25 rfl (lv_at hl 1 rfl) ?_
    refine va_get (D := (dC, dI)) (ci := 7) (v := .ref (ad 9)) (C := RX7) (T := TX7) (N := 5) hx hb hts hinX7 hown hK hP 0 cG_0 rfl 2 (by decide) (hts (.fieldLink RX7 28 "OutboxHouse" "reader" "LOutboxHouse$Relay;") (by decide +kernel)) (fun _ h9 => h9) rfl dX7_lose_26 ?_
    refine lv_dup hx hb dX7_lose_29 rfl ?_
    refine va_getN (D := (dC, dI)) (ci := 2) (v := .int (I8 9 3)) (C := RX2) (T := TX2) (N := 6) hx hb hts hinX2 hown hK hP 9 cG_9 rfl 5 (by decide) (va_Nw.use rfl (hN.1 (RX7, 153, "OutboxHouse$Relay", "lostUnderWay", "I", "OutboxHouse") (by decide +kernel))) (fun _ h9 => h9) rfl dX7_lose_30 ?_
    refine lv_iconst (v := 1) hx hb dX7_lose_33 (by decide) ?_
    refine lv_iadd hx hb dX7_lose_34 ?_
    refine va_putN (D := (dC, dI)) (ci := 2) (v := .int ((I8 9 3) + 1)) (ty := .int) (C := RX2) (T := TX2) (N := 6) hx hb hts hinX2 tyX2 tyX2_ok nmX2 hown hK hP hD hS 9 cG_9 rfl 5 (by decide) (va_Nw.use rfl (hN.1 (RX7, 153, "OutboxHouse$Relay", "lostUnderWay", "I", "OutboxHouse") (by decide +kernel))) (fun _ h9 => h9) rfl (by decide +kernel) rfl rfl (Nat.le_of_ble_eq_true rfl) dX7_lose_35 (fun H locs hP hD hS => ?_)
    obtain ⟨I12, hI12⟩ : ∃ z : St, z = st I8 9 3 ((I8 9 3) + 1) := ⟨_, rfl⟩
    replace hP := wP (cE_9_3 hI12) hP; replace hD := wD (cE_9_3 hI12) hD; replace h := h _ hI12
    refine lv_aload_n hx hb dX7_lose_38 rfl (lv_at hl 0 rfl) ?_
    have hm := h.1; replace h := h.2
    obtain ⟨q13, hq13⟩ := cG_p (ad := ad) (cy := cy) (I := I12) (J := J9) (P := P11) hm
    refine va_get (D := (dC, dI)) (ci := 0) (v := .int (P11 a6 0)) (C := RX0) (T := TX0) (N := 5) hx hb hts hinX0 hown hK hP q13 hq13 rfl 0 (by decide) (hts (.fieldLink RX7 156 "OutboxHouse$Change" "place" "I") (by decide +kernel)) (fun _ h9 => h9) rfl dX7_lose_39 ?_
    exact W.iret (v := P11 a6 0) hx hb hr (fun t ht hW => hQ _ _ t (P11 a6 0) I12 J9 LP10 P11 h ⟨by rw [ht]; exact hP, hD⟩ (hS.F ht)) hS.2.2 dX7_lose_42
theorem m_X7_lose (l : Launch) (dC : Nat → ClassId) (dI : Nat → Nat → Nat) (cy : Nat → ClassId) (ad : Nat → Nat) (A : Nat → Prop) (I : St) (J : Rf) (LP : List Nat) (P : St) (p1 : Int32) (p2 : Int32) {post : Int32 → St → Rf → List Nat → St → Prop} (hD : va_D A (cW ad cy I J LP P)) (h : wp_X7_lose I J LP P p1 p2 post) : Met l yX7_lose wsX7_lose rmX7_lose (va_Pc [.ref (ad 0), .int p1, .int p2] (wPre (dC, dI) cy A (cW ad cy I J LP P))) (va_Qi (fun r (u : CS) => post r u.1 u.2.1 u.2.2.1 u.2.2.2) (fun (u : CS) t => wPost (dC, dI) A (cW ad cy u.1 u.2.1 u.2.2.1 u.2.2.2) t) A) 0 0 A := g_X7_lose l dC dI cy ad A I J LP P p1 p2 hD h (fun a s0 t r I' J' LP' P' h1 h2 h3 => ⟨⟨r, (I', J', LP', P'), rfl, h1, h2⟩, h3⟩)
abbrev rmX7_letter : Room := { frames := 2, cells := 0, slots := 0, locals := 43 }
set_option maxHeartbeats 4000000 in
set_option maxRecDepth 100000 in
theorem g_X7_letter (l : Launch) (dC : Nat → ClassId) (dI : Nat → Nat → Nat) (cy : Nat → ClassId) (ad : Nat → Nat) (A : Nat → Prop) (I : St) (J : Rf) (LP : List Nat) (P : St) (p1 : Int32) (p2 : Int32) (p3 : Int32) {post : Int32 → St → Rf → List Nat → St → Prop} (hD : va_D A (cW ad cy I J LP P)) (h : wp_X7_letter I J LP P p1 p2 p3 post) {Qc : Array Value → State → Outcome → State → Prop} (hQ : ∀ (a : Array Value) (s0 t : State) (r : Int32) (I' : St) (J' : Rf) (LP' : List Nat) (P' : St), post r I' J' LP' P' → wPost (dC, dI) A (cW ad cy I' J' LP' P') t → va_F A s0 t → Qc a s0 (.returned (some (.int r))) t) : Met l yX7_letter wsX7_letter rmX7_letter (va_Pc [.ref (ad 0), .int p1, .int p2, .int p3] (wPre (dC, dI) cy A (cW ad cy I J LP P))) Qc 0 0 A := by
  refine Met.ofW (cc := cX7_letter) (maxL := 5) (ret := (some .int)) (by decide) rfl ?_
  intro p e s m args below meth c s₁ B hml hv
  obtain ⟨rfl, hP, hK, hN, hA⟩ := hv
  have hx := B.exec
  have hb := B.bytes
  have hr := B.returns
  have hts := atoms_spec (ws := wsX7_letter) B.pre
  have hown : s.vm.findClass RX7 = some m.cls := findClass_of_methodNamed B.named
  have hlocks := B.notSynchronized
  have hinX7 : ∀ w ∈ wsX70, w ∈ wsX7_letter := fun _ h9 => List.mem_cons_of_mem _ (List.mem_append_left _ (List.mem_append_left _ (List.mem_append_left _ (List.mem_append_right _ h9))))
  have hinX0 : ∀ w ∈ wsX00, w ∈ wsX7_letter := fun _ h9 => List.mem_cons_of_mem _ (List.mem_append_left _ (List.mem_append_left _ (List.mem_append_right _ h9)))
  have hS : va_S A s.heap s.heap [] := va_S.rf
  unfold wp_X7_letter at h
  have hl := lv_entry ([.ref (ad 0), .int p1, .int p2, .int p3]) (n := 5) (Nat.le_of_ble_eq_true rfl)
  rw [lg_entry_eq]
  generalize (lg_sl ([.ref (ad 0), .int p1, .int p2, .int p3]) ++ List.replicate (5 - (lg_sl ([.ref (ad 0), .int p1, .int p2, .int p3])).length) Slot.unset).toArray = ls at hl ⊢
  have hl : lv_has ls 5 [(0, .ref (ad 0)), (1, .int p1), (2, .int p2), (3, .int p3)] := hl
  refine lv_iload_n hx hb dX7_letter_0 rfl (lv_at hl 1 rfl) ?_
  refine va_calli (va_runS (As := [.int p1]) (rest := []) ⟨hx, hb, hml, hown, hts⟩ (m_X7_isLane l dC dI cy ad A I J LP P p1 hD h) (va_cwS 1 hts gX7_letter_X7_isLane rfl rfl rfl (by decide +kernel) ⟨Nat.le_of_ble_eq_true rfl, Nat.le_of_ble_eq_true rfl⟩) ⟨wPre.blind, wPre.at hP hK hN hS hA⟩ rfl rfl hl.1 rfl (lv_room (Nat.le_of_ble_eq_true rfl)) dX7_letter_1 ⟨by first | exact Nat.le_of_ble_eq_true rfl | (show _ ≤ 0; omega), by first | exact Nat.le_of_ble_eq_true rfl | (show _ ≤ 0; omega)⟩) hS (fun q _ h => h) (fun q h => h) (fun r1 u t H locs ht hvm hw hB hz1 hk1 hS => ?_)
  obtain ⟨I2, J3, LP4, P5⟩ := u
  obtain ⟨hP, hD⟩ := hB; rw [ht] at hP; replace h := hw; try dsimp only at h hP hD
  refine lv_if_eq (tgt := 16) hx hb dX7_letter_4 (by decide) (fun hc => ?_) (fun hc => ?_)
  · have h := h.1 hc
    refine lv_iconst (v := (-1)) hx hb dX7_letter_16 (by decide) ?_
    exact W.iret (v := (-1)) hx hb hr (fun t ht hW => hQ _ _ t (-1) I2 J3 LP4 P5 h ⟨by rw [ht]; exact hP, hD⟩ (hS.F ht)) hS.2.2 dX7_letter_17
  · have h := h.2 hc
    refine lv_iload_n hx hb dX7_letter_7 rfl (lv_at hl 3 rfl) ?_
    refine lv_if_lt (tgt := 16) hx hb dX7_letter_8 (by decide) (fun hc => ?_) (fun hc => ?_)
    · have h := h.1 hc
      refine lv_iconst (v := (-1)) hx hb dX7_letter_16 (by decide) ?_
      exact W.iret (v := (-1)) hx hb hr (fun t ht hW => hQ _ _ t (-1) I2 J3 LP4 P5 h ⟨by rw [ht]; exact hP, hD⟩ (hS.F ht)) hS.2.2 dX7_letter_17
    · have h := h.2 hc
      refine lv_iload_n hx hb dX7_letter_11 rfl (lv_at hl 3 rfl) ?_
      refine lv_iconst (v := 3) hx hb dX7_letter_12 (by decide) ?_
      refine lv_icmp_le (tgt := 18) hx hb dX7_letter_13 (by decide) (fun hc => ?_) (fun hc => ?_)
      · have h := h.1 hc
        refine lv_aload_n hx hb dX7_letter_18 rfl (lv_at hl 0 rfl) ?_
        refine va_get (D := (dC, dI)) (ci := 7) (v := .ref (ad 9)) (C := RX7) (T := TX7) (N := 5) hx hb hts hinX7 hown hK hP 0 cG_0 rfl 2 (by decide) (hts (.fieldLink RX7 28 "OutboxHouse" "reader" "LOutboxHouse$Relay;") (by decide +kernel)) (fun _ h9 => h9) rfl dX7_letter_19 ?_
        refine lv_iload_n hx hb dX7_letter_22 rfl (lv_at hl 1 rfl) ?_
        refine lv_iload_n hx hb dX7_letter_23 rfl (lv_at hl 2 rfl) ?_
        refine va_callq (va_runV (As := [.int p1, .int p2]) (rest := []) ⟨hx, hb, hml, hown, hts⟩ (m_X2_letterAt l dC dI cy ad A I2 J3 LP4 P5 p1 p2 hD h) (cwV 2 hts gX7_letter_X2_letterAt rfl rfl rfl (by decide +kernel) ⟨Nat.le_of_ble_eq_true rfl, Nat.le_of_ble_eq_true rfl⟩) ⟨wPre.blind, va_recv hK hP (ci := 2) (q0 := 9) rfl cG_9, wPre.at hP hK hN hS hA⟩ rfl rfl hl.1 rfl (lv_room (Nat.le_of_ble_eq_true rfl)) dX7_letter_24 ⟨by first | exact Nat.le_of_ble_eq_true rfl | (show _ ≤ 0; omega), by first | exact Nat.le_of_ble_eq_true rfl | (show _ ≤ 0; omega)⟩) hS (fun q _ h => h) (fun q h => h) (fun r6 u t H locs ht hvm hw hB hz1 hk1 hS => ?_)
        obtain ⟨I7, J8, LP9, P10⟩ := u
        obtain ⟨hP, hD⟩ := hB; rw [ht] at hP; replace h := hw; try dsimp only at h hP hD
        rcases r6 with _ | a11
        · replace h := h.1 rfl
          refine W.eq (g2 := F0 m 27 ls [.null]) rfl ?_
          refine lv_astoreN (lv' := [(4, .null), (0, .ref (ad 0)), (1, .int p1), (2, .int p2), (3, .int p3)]) hx hb dX7_letter_27 hl (by decide) rfl (fun ls hl => ?_)
          refine lv_aloadN hx hb dX7_letter_29 (lv_at hl 0 rfl) ?_
          refine lv_ifnonnullN hx hb dX7_letter_31 ?_
          refine lv_bipush (v := (-9)) hx hb dX7_letter_34 (by decide) ?_
          exact W.iret (v := (-9)) hx hb hr (fun t ht hW => hQ _ _ t (-9) I7 J8 LP9 P10 h ⟨by rw [ht]; exact hP, hD⟩ (hS.F ht)) hS.2.2 dX7_letter_36
        · replace h := h.2 _ rfl
          refine W.eq (g2 := F0 m 27 ls [.ref a11]) rfl ?_
          refine lv_astore (lv' := [(4, .ref a11), (0, .ref (ad 0)), (1, .int p1), (2, .int p2), (3, .int p3)]) hx hb dX7_letter_27 hl (by decide) rfl (fun ls hl => ?_)
          refine lv_aload hx hb dX7_letter_29 (lv_at hl 0 rfl) ?_
          refine lv_ifnonnull (tgt := 37) hx hb dX7_letter_31 (by decide) ?_
          refine lv_iload_n hx hb dX7_letter_37 rfl (lv_at hl 4 rfl) ?_
          by_cases e0 : p3 = 0
          · have h := h.1 e0
            refine lv_tableIn (off := 26) (tgt := 64) hx hb dX7_letter_38 (by rw [e0]; decide) (by rw [e0]; decide) (by rw [e0]; rfl) (by decide) ?_
            refine lv_aload hx hb dX7_letter_64 (lv_at hl 0 rfl) ?_
            have hm := h.1; replace h := h.2
            obtain ⟨q12, hq12⟩ := cG_p (ad := ad) (cy := cy) (I := I7) (J := J8) (P := P10) hm
            refine va_get (D := (dC, dI)) (ci := 0) (v := .int (P10 a11 0)) (C := RX0) (T := TX0) (N := 5) hx hb hts hinX0 hown hK hP q12 hq12 rfl 0 (by decide) (hts (.fieldLink RX7 156 "OutboxHouse$Change" "place" "I") (by decide +kernel)) (fun _ h9 => h9) rfl dX7_letter_66 ?_
            exact W.iret (v := P10 a11 0) hx hb hr (fun t ht hW => hQ _ _ t (P10 a11 0) I7 J8 LP9 P10 h ⟨by rw [ht]; exact hP, hD⟩ (hS.F ht)) hS.2.2 dX7_letter_69
          replace h := h.2
          by_cases e1 : p3 = 1
          · have h := h.1 e1
            refine lv_tableIn (off := 32) (tgt := 70) hx hb dX7_letter_38 (by rw [e1]; decide) (by rw [e1]; decide) (by rw [e1]; rfl) (by decide) ?_
            refine lv_aload hx hb dX7_letter_70 (lv_at hl 0 rfl) ?_
            have hm := h.1; replace h := h.2
            obtain ⟨q13, hq13⟩ := cG_p (ad := ad) (cy := cy) (I := I7) (J := J8) (P := P10) hm
            refine va_get (D := (dC, dI)) (ci := 0) (v := .int (P10 a11 1)) (C := RX0) (T := TX0) (N := 5) hx hb hts hinX0 hown hK hP q13 hq13 rfl 1 (by decide) (hts (.fieldLink RX7 115 "OutboxHouse$Change" "key" "I") (by decide +kernel)) (fun _ h9 => h9) rfl dX7_letter_72 ?_
            exact W.iret (v := P10 a11 1) hx hb hr (fun t ht hW => hQ _ _ t (P10 a11 1) I7 J8 LP9 P10 h ⟨by rw [ht]; exact hP, hD⟩ (hS.F ht)) hS.2.2 dX7_letter_75
          replace h := h.2
          by_cases e2 : p3 = 2
          · have h := h.1 e2
            refine lv_tableIn (off := 38) (tgt := 76) hx hb dX7_letter_38 (by rw [e2]; decide) (by rw [e2]; decide) (by rw [e2]; rfl) (by decide) ?_
            refine lv_aload hx hb dX7_letter_76 (lv_at hl 0 rfl) ?_
            have hm := h.1; replace h := h.2
            obtain ⟨q14, hq14⟩ := cG_p (ad := ad) (cy := cy) (I := I7) (J := J8) (P := P10) hm
            refine va_get (D := (dC, dI)) (ci := 0) (v := .int (P10 a11 3)) (C := RX0) (T := TX0) (N := 5) hx hb hts hinX0 hown hK hP q14 hq14 rfl 3 (by decide) (hts (.fieldLink RX7 123 "OutboxHouse$Change" "order" "I") (by decide +kernel)) (fun _ h9 => h9) rfl dX7_letter_78 ?_
            exact W.iret (v := P10 a11 3) hx hb hr (fun t ht hW => hQ _ _ t (P10 a11 3) I7 J8 LP9 P10 h ⟨by rw [ht]; exact hP, hD⟩ (hS.F ht)) hS.2.2 dX7_letter_81
          replace h := h.2
          have h := h ⟨e0, e1, e2⟩
          refine lv_tableOut (tgt := 82) hx hb dX7_letter_38 (by have z0 := lv_neT e0 (a := 0) (by decide); have z1 := lv_neT e1 (a := 1) (by decide); have z2 := lv_neT e2 (a := 2) (by decide); omega) (by decide) ?_
          refine lv_aload hx hb dX7_letter_82 (lv_at hl 0 rfl) ?_
          have hm := h.1; replace h := h.2
          obtain ⟨q15, hq15⟩ := cG_p (ad := ad) (cy := cy) (I := I7) (J := J8) (P := P10) hm
          refine va_get (D := (dC, dI)) (ci := 0) (v := .int (P10 a11 2)) (C := RX0) (T := TX0) (N := 5) hx hb hts hinX0 hown hK hP q15 hq15 rfl 2 (by decide) (hts (.fieldLink RX7 120 "OutboxHouse$Change" "value" "I") (by decide +kernel)) (fun _ h9 => h9) rfl dX7_letter_84 ?_
          exact W.iret (v := P10 a11 2) hx hb hr (fun t ht hW => hQ _ _ t (P10 a11 2) I7 J8 LP9 P10 h ⟨by rw [ht]; exact hP, hD⟩ (hS.F ht)) hS.2.2 dX7_letter_87
      · have h := h.2 hc
        refine lv_iconst (v := (-1)) hx hb dX7_letter_16 (by decide) ?_
        exact W.iret (v := (-1)) hx hb hr (fun t ht hW => hQ _ _ t (-1) I2 J3 LP4 P5 h ⟨by rw [ht]; exact hP, hD⟩ (hS.F ht)) hS.2.2 dX7_letter_17
theorem m_X7_letter (l : Launch) (dC : Nat → ClassId) (dI : Nat → Nat → Nat) (cy : Nat → ClassId) (ad : Nat → Nat) (A : Nat → Prop) (I : St) (J : Rf) (LP : List Nat) (P : St) (p1 : Int32) (p2 : Int32) (p3 : Int32) {post : Int32 → St → Rf → List Nat → St → Prop} (hD : va_D A (cW ad cy I J LP P)) (h : wp_X7_letter I J LP P p1 p2 p3 post) : Met l yX7_letter wsX7_letter rmX7_letter (va_Pc [.ref (ad 0), .int p1, .int p2, .int p3] (wPre (dC, dI) cy A (cW ad cy I J LP P))) (va_Qi (fun r (u : CS) => post r u.1 u.2.1 u.2.2.1 u.2.2.2) (fun (u : CS) t => wPost (dC, dI) A (cW ad cy u.1 u.2.1 u.2.2.1 u.2.2.2) t) A) 0 0 A := g_X7_letter l dC dI cy ad A I J LP P p1 p2 p3 hD h (fun a s0 t r I' J' LP' P' h1 h2 h3 => ⟨⟨r, (I', J', LP', P'), rfl, h1, h2⟩, h3⟩)
abbrev rmX7_save : Room := { frames := 2, cells := 0, slots := 0, locals := 43 }
set_option maxHeartbeats 4000000 in
set_option maxRecDepth 100000 in
theorem g_X7_save (l : Launch) (dC : Nat → ClassId) (dI : Nat → Nat → Nat) (cy : Nat → ClassId) (ad : Nat → Nat) (A : Nat → Prop) (I : St) (J : Rf) (LP : List Nat) (P : St)  {post : Int32 → St → Rf → List Nat → St → Prop} (hD : va_D A (cW ad cy I J LP P)) (h : wp_X7_save I J LP P  post) {Qc : Array Value → State → Outcome → State → Prop} (hQ : ∀ (a : Array Value) (s0 t : State) (r : Int32) (I' : St) (J' : Rf) (LP' : List Nat) (P' : St), post r I' J' LP' P' → wPost (dC, dI) A (cW ad cy I' J' LP' P') t → va_F A s0 t → Qc a s0 (.returned (some (.int r))) t) : Met l yX7_save wsX7_save rmX7_save (va_Pc [.ref (ad 0)] (wPre (dC, dI) cy A (cW ad cy I J LP P))) Qc 0 0 A := by
  refine Met.ofW (cc := cX7_save) (maxL := 1) (ret := (some .int)) (by decide) rfl ?_
  intro p e s m args below meth c s₁ B hml hv
  obtain ⟨rfl, hP, hK, hN, hA⟩ := hv
  have hx := B.exec
  have hb := B.bytes
  have hr := B.returns
  have hts := atoms_spec (ws := wsX7_save) B.pre
  have hown : s.vm.findClass RX7 = some m.cls := findClass_of_methodNamed B.named
  have hlocks := B.notSynchronized
  have hinX7 : ∀ w ∈ wsX70, w ∈ wsX7_save := fun _ h9 => List.mem_cons_of_mem _ (List.mem_append_left _ (List.mem_append_left _ (List.mem_append_right _ h9)))
  have hS : va_S A s.heap s.heap [] := va_S.rf
  unfold wp_X7_save at h
  have hl := lv_entry ([.ref (ad 0)]) (n := 1) (Nat.le_of_ble_eq_true rfl)
  rw [lg_entry_eq]
  generalize (lg_sl ([.ref (ad 0)]) ++ List.replicate (1 - (lg_sl ([.ref (ad 0)])).length) Slot.unset).toArray = ls at hl ⊢
  have hl : lv_has ls 1 [(0, .ref (ad 0))] := hl
  refine lv_aload_n hx hb dX7_save_0 rfl (lv_at hl 0 rfl) ?_
  refine va_get (D := (dC, dI)) (ci := 7) (v := .ref (ad 19)) (C := RX7) (T := TX7) (N := 5) hx hb hts hinX7 hown hK hP 0 cG_0 rfl 3 (by decide) (hts (.fieldLink RX7 35 "OutboxHouse" "target" "LOutboxHouse$Target;") (by decide +kernel)) (fun _ h9 => h9) rfl dX7_save_1 ?_
  refine va_calli (va_runV (As := []) (rest := []) ⟨hx, hb, hml, hown, hts⟩ (m_X5_saveMemory l dC dI cy ad A I J LP P  hD h) (cwV 0 hts gX7_save_X5_saveMemory rfl rfl rfl (by decide +kernel) ⟨Nat.le_of_ble_eq_true rfl, Nat.le_of_ble_eq_true rfl⟩) ⟨wPre.blind, va_recv hK hP (ci := 5) (q0 := 19) rfl cG_19, wPre.at hP hK hN hS hA⟩ rfl rfl hl.1 rfl (lv_room (Nat.le_of_ble_eq_true rfl)) dX7_save_4 ⟨by first | exact Nat.le_of_ble_eq_true rfl | (show _ ≤ 0; omega), by first | exact Nat.le_of_ble_eq_true rfl | (show _ ≤ 0; omega)⟩) hS (fun q _ h => h) (fun q h => h) (fun r1 u t H locs ht hvm hw hB hz1 hk1 hS => ?_)
  obtain ⟨I2, J3, LP4, P5⟩ := u
  obtain ⟨hP, hD⟩ := hB; rw [ht] at hP; replace h := hw; try dsimp only at h hP hD
  exact W.iret (v := r1) hx hb hr (fun t ht hW => hQ _ _ t r1 I2 J3 LP4 P5 h ⟨by rw [ht]; exact hP, hD⟩ (hS.F ht)) hS.2.2 dX7_save_7
theorem m_X7_save (l : Launch) (dC : Nat → ClassId) (dI : Nat → Nat → Nat) (cy : Nat → ClassId) (ad : Nat → Nat) (A : Nat → Prop) (I : St) (J : Rf) (LP : List Nat) (P : St)  {post : Int32 → St → Rf → List Nat → St → Prop} (hD : va_D A (cW ad cy I J LP P)) (h : wp_X7_save I J LP P  post) : Met l yX7_save wsX7_save rmX7_save (va_Pc [.ref (ad 0)] (wPre (dC, dI) cy A (cW ad cy I J LP P))) (va_Qi (fun r (u : CS) => post r u.1 u.2.1 u.2.2.1 u.2.2.2) (fun (u : CS) t => wPost (dC, dI) A (cW ad cy u.1 u.2.1 u.2.2.1 u.2.2.2) t) A) 0 0 A := g_X7_save l dC dI cy ad A I J LP P  hD h (fun a s0 t r I' J' LP' P' h1 h2 h3 => ⟨⟨r, (I', J', LP', P'), rfl, h1, h2⟩, h3⟩)
abbrev rmX7_ack : Room := { frames := 2, cells := 0, slots := 0, locals := 42 }
set_option maxHeartbeats 4000000 in
set_option maxRecDepth 100000 in
theorem g_X7_ack (l : Launch) (dC : Nat → ClassId) (dI : Nat → Nat → Nat) (cy : Nat → ClassId) (ad : Nat → Nat) (A : Nat → Prop) (I : St) (J : Rf) (LP : List Nat) (P : St) (p1 : Int32) {post : Int32 → St → Rf → List Nat → St → Prop} (hD : va_D A (cW ad cy I J LP P)) (h : wp_X7_ack I J LP P p1 post) {Qc : Array Value → State → Outcome → State → Prop} (hQ : ∀ (a : Array Value) (s0 t : State) (r : Int32) (I' : St) (J' : Rf) (LP' : List Nat) (P' : St), post r I' J' LP' P' → wPost (dC, dI) A (cW ad cy I' J' LP' P') t → va_F A s0 t → Qc a s0 (.returned (some (.int r))) t) : Met l yX7_ack wsX7_ack rmX7_ack (va_Pc [.ref (ad 0), .int p1] (wPre (dC, dI) cy A (cW ad cy I J LP P))) Qc 0 0 A := by
  refine Met.ofW (cc := cX7_ack) (maxL := 2) (ret := (some .int)) (by decide) rfl ?_
  intro p e s m args below meth c s₁ B hml hv
  obtain ⟨rfl, hP, hK, hN, hA⟩ := hv
  have hx := B.exec
  have hb := B.bytes
  have hr := B.returns
  have hts := atoms_spec (ws := wsX7_ack) B.pre
  have hown : s.vm.findClass RX7 = some m.cls := findClass_of_methodNamed B.named
  have hlocks := B.notSynchronized
  have hinX7 : ∀ w ∈ wsX70, w ∈ wsX7_ack := fun _ h9 => List.mem_cons_of_mem _ (List.mem_append_left _ (List.mem_append_left _ (List.mem_append_left _ (List.mem_append_right _ h9))))
  have hinX5 : ∀ w ∈ wsX50, w ∈ wsX7_ack := fun _ h9 => List.mem_cons_of_mem _ (List.mem_append_left _ (List.mem_append_left _ (List.mem_append_right _ h9)))
  have hinX6 : ∀ w ∈ wsX60, w ∈ wsX7_ack := fun _ h9 => List.mem_cons_of_mem _ (List.mem_append_left _ (List.mem_append_right _ h9))
  have hS : va_S A s.heap s.heap [] := va_S.rf
  unfold wp_X7_ack at h
  have hl := lv_entry ([.ref (ad 0), .int p1]) (n := 2) (Nat.le_of_ble_eq_true rfl)
  rw [lg_entry_eq]
  generalize (lg_sl ([.ref (ad 0), .int p1]) ++ List.replicate (2 - (lg_sl ([.ref (ad 0), .int p1])).length) Slot.unset).toArray = ls at hl ⊢
  have hl : lv_has ls 2 [(0, .ref (ad 0)), (1, .int p1)] := hl
  refine lv_iload_n hx hb dX7_ack_0 rfl (lv_at hl 1 rfl) ?_
  refine lv_if_eq (tgt := 21) hx hb dX7_ack_1 (by decide) (fun hc => ?_) (fun hc => ?_)
  · have h := h.1 hc
    refine lv_aload_n hx hb dX7_ack_21 rfl (lv_at hl 0 rfl) ?_
    refine va_get (D := (dC, dI)) (ci := 7) (v := .ref (ad 19)) (C := RX7) (T := TX7) (N := 5) hx hb hts hinX7 hown hK hP 0 cG_0 rfl 3 (by decide) (hts (.fieldLink RX7 35 "OutboxHouse" "target" "LOutboxHouse$Target;") (by decide +kernel)) (fun _ h9 => h9) rfl dX7_ack_22 ?_
    refine va_getN (D := (dC, dI)) (ci := 5) (v := .ref (ad 21)) (C := RX5) (T := TX5) (N := 7) hx hb hts hinX5 hown hK hP 19 cG_19 rfl 2 (by decide) (va_Nw.use rfl (hN.1 (RX7, 105, "OutboxHouse$Target", "disk", "LOutboxHouse$TargetState;", "OutboxHouse") (by decide +kernel))) (fun _ h9 => h9) rfl dX7_ack_25 ?_
    refine va_getN (D := (dC, dI)) (ci := 6) (v := .int (I 21 0)) (C := RX6) (T := TX6) (N := 3) hx hb hts hinX6 hown hK hP 21 (cG_ts (j := 21) (by decide)) rfl 2 (by decide) (va_Nw.use rfl (hN.1 (RX7, 165, "OutboxHouse$TargetState", "upTo", "I", "OutboxHouse") (by decide +kernel))) (fun _ h9 => h9) rfl dX7_ack_28 ?_
    exact W.iret (v := I 21 0) hx hb hr (fun t ht hW => hQ _ _ t (I 21 0) I J LP P h ⟨by rw [ht]; exact hP, hD⟩ (hS.F ht)) hS.2.2 dX7_ack_31
  · have h := h.2 hc
    refine lv_aload_n hx hb dX7_ack_4 rfl (lv_at hl 0 rfl) ?_
    refine va_get (D := (dC, dI)) (ci := 7) (v := .ref (ad 9)) (C := RX7) (T := TX7) (N := 5) hx hb hts hinX7 hown hK hP 0 cG_0 rfl 2 (by decide) (hts (.fieldLink RX7 28 "OutboxHouse" "reader" "LOutboxHouse$Relay;") (by decide +kernel)) (fun _ h9 => h9) rfl dX7_ack_5 ?_
    refine lv_aload_n hx hb dX7_ack_8 rfl (lv_at hl 0 rfl) ?_
    refine va_get (D := (dC, dI)) (ci := 7) (v := .ref (ad 19)) (C := RX7) (T := TX7) (N := 5) hx hb hts hinX7 hown hK hP 0 cG_0 rfl 3 (by decide) (hts (.fieldLink RX7 35 "OutboxHouse" "target" "LOutboxHouse$Target;") (by decide +kernel)) (fun _ h9 => h9) rfl dX7_ack_9 ?_
    refine va_getN (D := (dC, dI)) (ci := 5) (v := .ref (ad 21)) (C := RX5) (T := TX5) (N := 7) hx hb hts hinX5 hown hK hP 19 cG_19 rfl 2 (by decide) (va_Nw.use rfl (hN.1 (RX7, 105, "OutboxHouse$Target", "disk", "LOutboxHouse$TargetState;", "OutboxHouse") (by decide +kernel))) (fun _ h9 => h9) rfl dX7_ack_12 ?_
    refine va_getN (D := (dC, dI)) (ci := 6) (v := .int (I 21 0)) (C := RX6) (T := TX6) (N := 3) hx hb hts hinX6 hown hK hP 21 (cG_ts (j := 21) (by decide)) rfl 2 (by decide) (va_Nw.use rfl (hN.1 (RX7, 165, "OutboxHouse$TargetState", "upTo", "I", "OutboxHouse") (by decide +kernel))) (fun _ h9 => h9) rfl dX7_ack_15 ?_
    refine va_callv (va_runV (As := [.int (I 21 0)]) (rest := []) ⟨hx, hb, hml, hown, hts⟩ (m_X2_hear l dC dI cy ad A I J LP P (I 21 0) hD h) (cwV 1 hts gX7_ack_X2_hear rfl rfl rfl (by decide +kernel) ⟨Nat.le_of_ble_eq_true rfl, Nat.le_of_ble_eq_true rfl⟩) ⟨wPre.blind, va_recv hK hP (ci := 2) (q0 := 9) rfl cG_9, wPre.at hP hK hN hS hA⟩ rfl rfl hl.1 rfl (lv_room (Nat.le_of_ble_eq_true rfl)) dX7_ack_18 ⟨by first | exact Nat.le_of_ble_eq_true rfl | (show _ ≤ 0; omega), by first | exact Nat.le_of_ble_eq_true rfl | (show _ ≤ 0; omega)⟩) hS (fun q _ h => h) (fun q h => h) (fun u t H locs ht hvm hw hB hz1 hk1 hS => ?_)
    obtain ⟨I2, J3, LP4, P5⟩ := u
    obtain ⟨hP, hD⟩ := hB; rw [ht] at hP; replace h := hw; try dsimp only at h hP hD
    refine lv_aload_n hx hb dX7_ack_21 rfl (lv_at hl 0 rfl) ?_
    refine va_get (D := (dC, dI)) (ci := 7) (v := .ref (ad 19)) (C := RX7) (T := TX7) (N := 5) hx hb hts hinX7 hown hK hP 0 cG_0 rfl 3 (by decide) (hts (.fieldLink RX7 35 "OutboxHouse" "target" "LOutboxHouse$Target;") (by decide +kernel)) (fun _ h9 => h9) rfl dX7_ack_22 ?_
    refine va_getN (D := (dC, dI)) (ci := 5) (v := .ref (ad 21)) (C := RX5) (T := TX5) (N := 7) hx hb hts hinX5 hown hK hP 19 cG_19 rfl 2 (by decide) (va_Nw.use rfl (hN.1 (RX7, 105, "OutboxHouse$Target", "disk", "LOutboxHouse$TargetState;", "OutboxHouse") (by decide +kernel))) (fun _ h9 => h9) rfl dX7_ack_25 ?_
    refine va_getN (D := (dC, dI)) (ci := 6) (v := .int (I2 21 0)) (C := RX6) (T := TX6) (N := 3) hx hb hts hinX6 hown hK hP 21 (cG_ts (j := 21) (by decide)) rfl 2 (by decide) (va_Nw.use rfl (hN.1 (RX7, 165, "OutboxHouse$TargetState", "upTo", "I", "OutboxHouse") (by decide +kernel))) (fun _ h9 => h9) rfl dX7_ack_28 ?_
    exact W.iret (v := I2 21 0) hx hb hr (fun t ht hW => hQ _ _ t (I2 21 0) I2 J3 LP4 P5 h ⟨by rw [ht]; exact hP, hD⟩ (hS.F ht)) hS.2.2 dX7_ack_31
theorem m_X7_ack (l : Launch) (dC : Nat → ClassId) (dI : Nat → Nat → Nat) (cy : Nat → ClassId) (ad : Nat → Nat) (A : Nat → Prop) (I : St) (J : Rf) (LP : List Nat) (P : St) (p1 : Int32) {post : Int32 → St → Rf → List Nat → St → Prop} (hD : va_D A (cW ad cy I J LP P)) (h : wp_X7_ack I J LP P p1 post) : Met l yX7_ack wsX7_ack rmX7_ack (va_Pc [.ref (ad 0), .int p1] (wPre (dC, dI) cy A (cW ad cy I J LP P))) (va_Qi (fun r (u : CS) => post r u.1 u.2.1 u.2.2.1 u.2.2.2) (fun (u : CS) t => wPost (dC, dI) A (cW ad cy u.1 u.2.1 u.2.2.1 u.2.2.2) t) A) 0 0 A := g_X7_ack l dC dI cy ad A I J LP P p1 hD h (fun a s0 t r I' J' LP' P' h1 h2 h3 => ⟨⟨r, (I', J', LP', P'), rfl, h1, h2⟩, h3⟩)
abbrev rmX7_deliverAll : Room := { frames := 5, cells := 0, slots := 0, locals := 110 }
set_option maxHeartbeats 4000000 in
set_option maxRecDepth 100000 in
theorem g_X7_deliverAll (l : Launch) (dC : Nat → ClassId) (dI : Nat → Nat → Nat) (cy : Nat → ClassId) (ad : Nat → Nat) (A : Nat → Prop) (I : St) (J : Rf) (LP : List Nat) (P : St)  {post : St → Rf → List Nat → St → Prop} (hD : va_D A (cW ad cy I J LP P)) (h : wp_X7_deliverAll I J LP P  post) {Qc : Array Value → State → Outcome → State → Prop} (hQ : ∀ (a : Array Value) (s0 t : State) (I' : St) (J' : Rf) (LP' : List Nat) (P' : St), post I' J' LP' P' → wPost (dC, dI) A (cW ad cy I' J' LP' P') t → va_F A s0 t → Qc a s0 (.returned (none)) t) : Met l yX7_deliverAll wsX7_deliverAll rmX7_deliverAll (va_Pc [.ref (ad 0)] (wPre (dC, dI) cy A (cW ad cy I J LP P))) Qc 0 0 A := by
  refine Met.ofW (cc := cX7_deliverAll) (maxL := 5) (ret := none) (by decide) rfl ?_
  intro p e s m args below meth c s₁ B hml hv
  obtain ⟨rfl, hP, hK, hN, hA⟩ := hv
  have hx := B.exec
  have hb := B.bytes
  have hr := B.returns
  have hts := atoms_spec (ws := wsX7_deliverAll) B.pre
  have hown : s.vm.findClass RX7 = some m.cls := findClass_of_methodNamed B.named
  have hlocks := B.notSynchronized
  have hinX7 : ∀ w ∈ wsX70, w ∈ wsX7_deliverAll := fun _ h9 => List.mem_cons_of_mem _ (List.mem_append_left _ (List.mem_append_left _ (List.mem_append_left _ (List.mem_append_left _ (List.mem_append_left _ (List.mem_append_left _ (List.mem_append_right _ h9)))))))
  have hinX2 : ∀ w ∈ wsX20, w ∈ wsX7_deliverAll := fun _ h9 => List.mem_cons_of_mem _ (List.mem_append_left _ (List.mem_append_left _ (List.mem_append_left _ (List.mem_append_left _ (List.mem_append_left _ (List.mem_append_right _ h9))))))
  have hS : va_S A s.heap s.heap [] := va_S.rf
  unfold wp_X7_deliverAll at h
  have hl := lv_entry ([.ref (ad 0)]) (n := 5) (Nat.le_of_ble_eq_true rfl)
  rw [lg_entry_eq]
  generalize (lg_sl ([.ref (ad 0)]) ++ List.replicate (5 - (lg_sl ([.ref (ad 0)])).length) Slot.unset).toArray = ls at hl ⊢
  have hl : lv_has ls 5 [(0, .ref (ad 0))] := hl
  refine lv_iconst (v := 0) hx hb dX7_deliverAll_0 (by decide) ?_
  refine lv_istore_n (lv' := [(1, .int 0), (0, .ref (ad 0))]) hx hb dX7_deliverAll_1 rfl hl (by decide) rfl (fun ls hl => ?_)
  obtain ⟨V1, ⟨n20, hV0⟩, hstepn2⟩ := h
  have hlpn2 : ∀ (n2 : Nat) (x3 : Int32) (I4 : St) (J5 : Rf) (LP6 : List Nat) (P7 : St) (H : Heap) (locs : List Loc), va_P (dC, dI) vwCl (cW ad cy I4 J5 LP6 P7) H → va_D A (cW ad cy I4 J5 LP6 P7) → va_S A s.heap H locs → ∀ ls : Array Slot, lv_has ls 5 [(0, .ref (ad 0)), (1, .int x3)] → V1 n2 x3 I4 J5 LP6 P7 → W p l e (headSpec wsX7_deliverAll rmX7_deliverAll).room s m ([.ref (ad 0)] : List Value).toArray below meth c H locs 0 0 (MQ below Qc ([.ref (ad 0)] : List Value).toArray s 0 0 A) (F0 m 2 ls []) := by
    intro n2
    induction n2 using Nat.strongRecOn with
    | _ n2 ihn2 =>
      intro x3 I4 J5 LP6 P7 H locs hP hD hS ls hl hV
      have h := hstepn2 n2 x3 I4 J5 LP6 P7 hV
      refine lv_iload_n hx hb dX7_deliverAll_2 rfl (lv_at hl 1 rfl) ?_
      refine lv_iconst (v := 3) hx hb dX7_deliverAll_3 (by decide) ?_
      refine lv_icmp_ge (tgt := 66) hx hb dX7_deliverAll_4 (by decide) (fun hc => ?_) (fun hc => ?_)
      · have h := h.1 hc
        exact W.vret hx hb hr (fun t ht hW => hQ _ _ t I4 J5 LP6 P7 h ⟨by rw [ht]; exact hP, hD⟩ (hS.F ht)) hS.2.2 dX7_deliverAll_66
      · have h := h.2 hc
        refine lv_aload_n hx hb dX7_deliverAll_7 rfl (lv_at hl 0 rfl) ?_
        refine va_get (D := (dC, dI)) (ci := 7) (v := .ref (ad 9)) (C := RX7) (T := TX7) (N := 5) hx hb hts hinX7 hown hK hP 0 cG_0 rfl 2 (by decide) (hts (.fieldLink RX7 28 "OutboxHouse" "reader" "LOutboxHouse$Relay;") (by decide +kernel)) (fun _ h9 => h9) rfl dX7_deliverAll_8 ?_
        refine va_getN (D := (dC, dI)) (ci := 2) (v := .ref (ad 10)) (C := RX2) (T := TX2) (N := 6) hx hb hts hinX2 hown hK hP 9 cG_9 rfl 1 (by decide) (va_Nw.use rfl (hN.1 (RX7, 221, "OutboxHouse$Relay", "lanes", "[LOutboxHouse$Row;", "OutboxHouse") (by decide +kernel))) (fun _ h9 => h9) rfl dX7_deliverAll_11 ?_
        refine lv_iload_n hx hb dX7_deliverAll_14 rfl (lv_at hl 1 rfl) ?_
        have hv := h.1; replace h := h.2
        refine va_aldq hx hb hK hP 10 3 cG_10 rfl hv dX7_deliverAll_15 ?_
        obtain ⟨j8, ej8⟩ : ∃ z : Nat, z = 11 + x3.toNatClampNeg := ⟨_, rfl⟩
        have h_j8 : 11 ≤ j8 ∧ j8 ≤ 14 := by rw [ej8]; exact lane_j hv
        replace h := h _ ej8
        refine W.eq (g2 := F0 m 16 ls [.ref (ad j8)]) (by rw [ej8]; rfl) ?_
        refine lv_astore_n (lv' := [(2, .ref (ad j8)), (0, .ref (ad 0)), (1, .int x3)]) hx hb dX7_deliverAll_16 rfl hl (by decide) rfl (fun ls hl => ?_)
        refine lv_iconst (v := 0) hx hb dX7_deliverAll_17 (by decide) ?_
        refine lv_istore_n (lv' := [(3, .int 0), (2, .ref (ad j8)), (0, .ref (ad 0)), (1, .int x3)]) hx hb dX7_deliverAll_18 rfl hl (by decide) rfl (fun ls hl => ?_)
        obtain ⟨V9, ⟨n100, hV0⟩, hstepn10⟩ := h
        have hlpn10 : ∀ (n10 : Nat) (x11 : Int32) (I12 : St) (J13 : Rf) (LP14 : List Nat) (P15 : St) (H : Heap) (locs : List Loc), va_P (dC, dI) vwCl (cW ad cy I12 J13 LP14 P15) H → va_D A (cW ad cy I12 J13 LP14 P15) → va_S A s.heap H locs → ∀ ls : Array Slot, lv_has ls 5 [(0, .ref (ad 0)), (1, .int x3), (2, .ref (ad j8)), (3, .int x11)] → V9 n10 x11 I12 J13 LP14 P15 → W p l e (headSpec wsX7_deliverAll rmX7_deliverAll).room s m ([.ref (ad 0)] : List Value).toArray below meth c H locs 0 0 (MQ below Qc ([.ref (ad 0)] : List Value).toArray s 0 0 A) (F0 m 19 ls []) := by
          intro n10
          induction n10 using Nat.strongRecOn with
          | _ n10 ihn10 =>
            intro x11 I12 J13 LP14 P15 H locs hP hD hS ls hl hV
            have h := hstepn10 n10 x11 I12 J13 LP14 P15 hV
            refine lv_iload_n hx hb dX7_deliverAll_19 rfl (lv_at hl 3 rfl) ?_
            refine lv_bipush (v := 40) hx hb dX7_deliverAll_20 (by decide) ?_
            refine lv_icmp_ge (tgt := 56) hx hb dX7_deliverAll_22 (by decide) (fun hc => ?_) (fun hc => ?_)
            · have h := h.1 hc
              refine lv_aload_n hx hb dX7_deliverAll_56 rfl (lv_at hl 2 rfl) ?_
              refine va_callv (va_runV (As := []) (rest := []) ⟨hx, hb, hml, hown, hts⟩ (m_X3_clear l dC dI cy ad A I12 J13 LP14 P15 j8 h_j8 hD h) (cwV 0 hts gX7_deliverAll_X3_clear rfl rfl rfl (by decide +kernel) ⟨Nat.le_of_ble_eq_true rfl, Nat.le_of_ble_eq_true rfl⟩) ⟨wPre.blind, va_recv hK hP (ci := 3) (q0 := j8) rfl (cG_row (j := j8) h_j8), wPre.at hP hK hN hS hA⟩ rfl rfl hl.1 rfl (lv_room (Nat.le_of_ble_eq_true rfl)) dX7_deliverAll_57 ⟨by first | exact Nat.le_of_ble_eq_true rfl | (show _ ≤ 0; omega), by first | exact Nat.le_of_ble_eq_true rfl | (show _ ≤ 0; omega)⟩) hS (fun q _ h => h) (fun q h => h) (fun u t H locs ht hvm hw hB hz1 hk1 hS => ?_)
              obtain ⟨I17, J18, LP19, P20⟩ := u
              obtain ⟨hP, hD⟩ := hB; rw [ht] at hP; replace h := hw; try dsimp only at h hP hD
              refine lv_iinc (v := x3 + 1) (lv' := [(1, .int (x3 + 1)), (0, .ref (ad 0)), (2, .ref (ad j8)), (3, .int x11)]) hx hb dX7_deliverAll_60 hl (k := 1) rfl rfl (by decide) rfl (fun ls hl => ?_)
              refine lv_goto (tgt := 2) hx hb dX7_deliverAll_63 (by decide) ?_
              obtain ⟨n21, hlt, hV⟩ := h
              exact ihn2 n21 hlt _ _ _ _ _ _ _ hP hD hS ls (lv_sub hl [1, 0] rfl) hV
            · have h := h.2 hc
              refine lv_aload_n hx hb dX7_deliverAll_25 rfl (lv_at hl 2 rfl) ?_
              refine lv_iload_n hx hb dX7_deliverAll_26 rfl (lv_at hl 3 rfl) ?_
              refine va_callq (va_runV (As := [.int x11]) (rest := []) ⟨hx, hb, hml, hown, hts⟩ (m_X3_at l dC dI cy ad A I12 J13 LP14 P15 j8 h_j8 x11 hD h) (cwV 1 hts gX7_deliverAll_X3_at rfl rfl rfl (by decide +kernel) ⟨Nat.le_of_ble_eq_true rfl, Nat.le_of_ble_eq_true rfl⟩) ⟨wPre.blind, va_recv hK hP (ci := 3) (q0 := j8) rfl (cG_row (j := j8) h_j8), wPre.at hP hK hN hS hA⟩ rfl rfl hl.1 rfl (lv_room (Nat.le_of_ble_eq_true rfl)) dX7_deliverAll_27 ⟨by first | exact Nat.le_of_ble_eq_true rfl | (show _ ≤ 0; omega), by first | exact Nat.le_of_ble_eq_true rfl | (show _ ≤ 0; omega)⟩) hS (fun q _ h => h) (fun q h => h) (fun r22 u t H locs ht hvm hw hB hz1 hk1 hS => ?_)
              obtain ⟨I23, J24, LP25, P26⟩ := u
              obtain ⟨hP, hD⟩ := hB; rw [ht] at hP; replace h := hw; try dsimp only at h hP hD
              rcases r22 with _ | a27
              · replace h := h.1 rfl
                refine W.eq (g2 := F0 m 30 ls [.null]) rfl ?_
                refine lv_astoreN (lv' := [(4, .null), (0, .ref (ad 0)), (1, .int x3), (2, .ref (ad j8)), (3, .int x11)]) hx hb dX7_deliverAll_30 hl (by decide) rfl (fun ls hl => ?_)
                refine lv_aloadN hx hb dX7_deliverAll_32 (lv_at hl 0 rfl) ?_
                refine lv_ifnonnullN hx hb dX7_deliverAll_34 ?_
                refine lv_goto (tgt := 56) hx hb dX7_deliverAll_37 (by decide) ?_
                refine lv_aload_n hx hb dX7_deliverAll_56 rfl (lv_at hl 3 rfl) ?_
                refine va_callv (va_runV (As := []) (rest := []) ⟨hx, hb, hml, hown, hts⟩ (m_X3_clear l dC dI cy ad A I23 J24 LP25 P26 j8 h_j8 hD h) (cwV 0 hts gX7_deliverAll_X3_clear rfl rfl rfl (by decide +kernel) ⟨Nat.le_of_ble_eq_true rfl, Nat.le_of_ble_eq_true rfl⟩) ⟨wPre.blind, va_recv hK hP (ci := 3) (q0 := j8) rfl (cG_row (j := j8) h_j8), wPre.at hP hK hN hS hA⟩ rfl rfl hl.1 rfl (lv_room (Nat.le_of_ble_eq_true rfl)) dX7_deliverAll_57 ⟨by first | exact Nat.le_of_ble_eq_true rfl | (show _ ≤ 0; omega), by first | exact Nat.le_of_ble_eq_true rfl | (show _ ≤ 0; omega)⟩) hS (fun q _ h => h) (fun q h => h) (fun u t H locs ht hvm hw hB hz1 hk1 hS => ?_)
                obtain ⟨I29, J30, LP31, P32⟩ := u
                obtain ⟨hP, hD⟩ := hB; rw [ht] at hP; replace h := hw; try dsimp only at h hP hD
                refine lv_iinc (v := x3 + 1) (lv' := [(1, .int (x3 + 1)), (4, .null), (0, .ref (ad 0)), (2, .ref (ad j8)), (3, .int x11)]) hx hb dX7_deliverAll_60 hl (k := 2) rfl rfl (by decide) rfl (fun ls hl => ?_)
                refine lv_goto (tgt := 2) hx hb dX7_deliverAll_63 (by decide) ?_
                obtain ⟨n33, hlt, hV⟩ := h
                exact ihn2 n33 hlt _ _ _ _ _ _ _ hP hD hS ls (lv_sub hl [2, 0] rfl) hV
              · replace h := h.2 _ rfl
                refine W.eq (g2 := F0 m 30 ls [.ref a27]) rfl ?_
                refine lv_astore (lv' := [(4, .ref a27), (0, .ref (ad 0)), (1, .int x3), (2, .ref (ad j8)), (3, .int x11)]) hx hb dX7_deliverAll_30 hl (by decide) rfl (fun ls hl => ?_)
                refine lv_aload hx hb dX7_deliverAll_32 (lv_at hl 0 rfl) ?_
                refine lv_ifnonnull (tgt := 40) hx hb dX7_deliverAll_34 (by decide) ?_
                refine lv_aload_n hx hb dX7_deliverAll_40 rfl (lv_at hl 1 rfl) ?_
                refine va_get (D := (dC, dI)) (ci := 7) (v := .ref (ad 19)) (C := RX7) (T := TX7) (N := 5) hx hb hts hinX7 hown hK hP 0 cG_0 rfl 3 (by decide) (hts (.fieldLink RX7 35 "OutboxHouse" "target" "LOutboxHouse$Target;") (by decide +kernel)) (fun _ h9 => h9) rfl dX7_deliverAll_41 ?_
                refine lv_aload hx hb dX7_deliverAll_44 (lv_at hl 0 rfl) ?_
                refine va_calli (va_runV (As := [.ref a27]) (rest := []) ⟨hx, hb, hml, hown, hts⟩ (m_X5_take l dC dI cy ad A I23 J24 LP25 P26 a27 hD h) (cwV 1 hts gX7_deliverAll_X5_take rfl rfl rfl (by decide +kernel) ⟨Nat.le_of_ble_eq_true rfl, Nat.le_of_ble_eq_true rfl⟩) ⟨wPre.blind, va_recv hK hP (ci := 5) (q0 := 19) rfl cG_19, wPre.at hP hK hN hS hA⟩ rfl rfl hl.1 rfl (lv_room (Nat.le_of_ble_eq_true rfl)) dX7_deliverAll_46 ⟨by first | exact Nat.le_of_ble_eq_true rfl | (show _ ≤ 0; omega), by first | exact Nat.le_of_ble_eq_true rfl | (show _ ≤ 0; omega)⟩) hS (fun q _ h => h) (fun q h => h) (fun r34 u t H locs ht hvm hw hB hz1 hk1 hS => ?_)
                obtain ⟨I35, J36, LP37, P38⟩ := u
                obtain ⟨hP, hD⟩ := hB; rw [ht] at hP; replace h := hw; try dsimp only at h hP hD
                refine lv_pop hx hb dX7_deliverAll_49 rfl ?_
                refine lv_iinc (v := x11 + 1) (lv' := [(3, .int (x11 + 1)), (4, .ref a27), (0, .ref (ad 0)), (1, .int x3), (2, .ref (ad j8))]) hx hb dX7_deliverAll_50 hl (k := 4) rfl rfl (by decide) rfl (fun ls hl => ?_)
                refine lv_goto (tgt := 19) hx hb dX7_deliverAll_53 (by decide) ?_
                obtain ⟨n39, hlt, hV⟩ := h
                exact ihn10 n39 hlt _ _ _ _ _ _ _ hP hD hS ls (lv_sub hl [2, 3, 4, 0] rfl) hV
        exact hlpn10 n100 _ _ _ _ _ _ _ hP hD hS ls (lv_sub hl [2, 3, 1, 0] rfl) hV0
  exact hlpn2 n20 _ _ _ _ _ _ _ hP hD hS ls (lv_sub hl [1, 0] rfl) hV0
theorem m_X7_deliverAll (l : Launch) (dC : Nat → ClassId) (dI : Nat → Nat → Nat) (cy : Nat → ClassId) (ad : Nat → Nat) (A : Nat → Prop) (I : St) (J : Rf) (LP : List Nat) (P : St)  {post : St → Rf → List Nat → St → Prop} (hD : va_D A (cW ad cy I J LP P)) (h : wp_X7_deliverAll I J LP P  post) : Met l yX7_deliverAll wsX7_deliverAll rmX7_deliverAll (va_Pc [.ref (ad 0)] (wPre (dC, dI) cy A (cW ad cy I J LP P))) (va_Qv (fun (u : CS) => post u.1 u.2.1 u.2.2.1 u.2.2.2) (fun (u : CS) t => wPost (dC, dI) A (cW ad cy u.1 u.2.1 u.2.2.1 u.2.2.2) t) A) 0 0 A := g_X7_deliverAll l dC dI cy ad A I J LP P  hD h (fun a s0 t I' J' LP' P' h1 h2 h3 => ⟨⟨(I', J', LP', P'), rfl, h1, h2⟩, h3⟩)
abbrev rmX7_flow : Room := { frames := 6, cells := 0, slots := 0, locals := 134 }
set_option maxHeartbeats 4000000 in
set_option maxRecDepth 100000 in
theorem g_X7_flow (l : Launch) (dC : Nat → ClassId) (dI : Nat → Nat → Nat) (cy : Nat → ClassId) (ad : Nat → Nat) (A : Nat → Prop) (I : St) (J : Rf) (LP : List Nat) (P : St) (p1 : Int32) {post : Int32 → St → Rf → List Nat → St → Prop} (hD : va_D A (cW ad cy I J LP P)) (h : wp_X7_flow I J LP P p1 post) {Qc : Array Value → State → Outcome → State → Prop} (hQ : ∀ (a : Array Value) (s0 t : State) (r : Int32) (I' : St) (J' : Rf) (LP' : List Nat) (P' : St), post r I' J' LP' P' → wPost (dC, dI) A (cW ad cy I' J' LP' P') t → va_F A s0 t → Qc a s0 (.returned (some (.int r))) t) : Met l yX7_flow wsX7_flow rmX7_flow (va_Pc [.ref (ad 0), .int p1] (wPre (dC, dI) cy A (cW ad cy I J LP P))) Qc 0 0 A := by
  refine Met.ofW (cc := cX7_flow) (maxL := 4) (ret := (some .int)) (by decide) rfl ?_
  intro p e s m args below meth c s₁ B hml hv
  obtain ⟨rfl, hP, hK, hN, hA⟩ := hv
  have hx := B.exec
  have hb := B.bytes
  have hr := B.returns
  have hts := atoms_spec (ws := wsX7_flow) B.pre
  have hown : s.vm.findClass RX7 = some m.cls := findClass_of_methodNamed B.named
  have hlocks := B.notSynchronized
  have hinX7 : ∀ w ∈ wsX70, w ∈ wsX7_flow := fun _ h9 => List.mem_cons_of_mem _ (List.mem_append_left _ (List.mem_append_left _ (List.mem_append_left _ (List.mem_append_left _ (List.mem_append_left _ (List.mem_append_left _ (List.mem_append_right _ h9)))))))
  have hinX5 : ∀ w ∈ wsX50, w ∈ wsX7_flow := fun _ h9 => List.mem_cons_of_mem _ (List.mem_append_left _ (List.mem_append_left _ (List.mem_append_left _ (List.mem_append_left _ (List.mem_append_left _ (List.mem_append_right _ h9))))))
  have hinX6 : ∀ w ∈ wsX60, w ∈ wsX7_flow := fun _ h9 => List.mem_cons_of_mem _ (List.mem_append_left _ (List.mem_append_left _ (List.mem_append_left _ (List.mem_append_left _ (List.mem_append_right _ h9)))))
  have hS : va_S A s.heap s.heap [] := va_S.rf
  unfold wp_X7_flow at h
  have hl := lv_entry ([.ref (ad 0), .int p1]) (n := 4) (Nat.le_of_ble_eq_true rfl)
  rw [lg_entry_eq]
  generalize (lg_sl ([.ref (ad 0), .int p1]) ++ List.replicate (4 - (lg_sl ([.ref (ad 0), .int p1])).length) Slot.unset).toArray = ls at hl ⊢
  have hl : lv_has ls 4 [(0, .ref (ad 0)), (1, .int p1)] := hl
  refine lv_iload_n hx hb dX7_flow_0 rfl (lv_at hl 1 rfl) ?_
  refine lv_iconst (v := 1) hx hb dX7_flow_1 (by decide) ?_
  refine lv_icmp_lt (tgt := 11) hx hb dX7_flow_2 (by decide) (fun hc => ?_) (fun hc => ?_)
  · have h := h.1 hc
    refine lv_iconst (v := (-1)) hx hb dX7_flow_11 (by decide) ?_
    exact W.iret (v := (-1)) hx hb hr (fun t ht hW => hQ _ _ t (-1) I J LP P h ⟨by rw [ht]; exact hP, hD⟩ (hS.F ht)) hS.2.2 dX7_flow_12
  · have h := h.2 hc
    refine lv_iload_n hx hb dX7_flow_5 rfl (lv_at hl 1 rfl) ?_
    refine lv_bipush (v := 10) hx hb dX7_flow_6 (by decide) ?_
    refine lv_icmp_le (tgt := 13) hx hb dX7_flow_8 (by decide) (fun hc => ?_) (fun hc => ?_)
    · have h := h.1 hc
      refine lv_aload_n hx hb dX7_flow_13 rfl (lv_at hl 0 rfl) ?_
      refine va_get (D := (dC, dI)) (ci := 7) (v := .ref (ad 19)) (C := RX7) (T := TX7) (N := 5) hx hb hts hinX7 hown hK hP 0 cG_0 rfl 3 (by decide) (hts (.fieldLink RX7 35 "OutboxHouse" "target" "LOutboxHouse$Target;") (by decide +kernel)) (fun _ h9 => h9) rfl dX7_flow_14 ?_
      refine va_getN (D := (dC, dI)) (ci := 5) (v := .int (I 19 0)) (C := RX5) (T := TX5) (N := 7) hx hb hts hinX5 hown hK hP 19 cG_19 rfl 4 (by decide) (va_Nw.use rfl (hN.1 (RX7, 171, "OutboxHouse$Target", "doneEver", "I", "OutboxHouse") (by decide +kernel))) (fun _ h9 => h9) rfl dX7_flow_17 ?_
      refine lv_istore_n (lv' := [(2, .int (I 19 0)), (0, .ref (ad 0)), (1, .int p1)]) hx hb dX7_flow_20 rfl hl (by decide) rfl (fun ls hl => ?_)
      refine lv_iconst (v := 0) hx hb dX7_flow_21 (by decide) ?_
      refine lv_istore_n (lv' := [(3, .int 0), (2, .int (I 19 0)), (0, .ref (ad 0)), (1, .int p1)]) hx hb dX7_flow_22 rfl hl (by decide) rfl (fun ls hl => ?_)
      obtain ⟨V1, ⟨n20, hV0⟩, hstepn2⟩ := h
      have hlpn2 : ∀ (n2 : Nat) (x3 : Int32) (I4 : St) (J5 : Rf) (LP6 : List Nat) (P7 : St) (H : Heap) (locs : List Loc), va_P (dC, dI) vwCl (cW ad cy I4 J5 LP6 P7) H → va_D A (cW ad cy I4 J5 LP6 P7) → va_S A s.heap H locs → ∀ ls : Array Slot, lv_has ls 4 [(0, .ref (ad 0)), (1, .int p1), (2, .int (I 19 0)), (3, .int x3)] → V1 n2 x3 I4 J5 LP6 P7 → W p l e (headSpec wsX7_flow rmX7_flow).room s m ([.ref (ad 0), .int p1] : List Value).toArray below meth c H locs 0 0 (MQ below Qc ([.ref (ad 0), .int p1] : List Value).toArray s 0 0 A) (F0 m 23 ls []) := by
        intro n2
        induction n2 using Nat.strongRecOn with
        | _ n2 ihn2 =>
          intro x3 I4 J5 LP6 P7 H locs hP hD hS ls hl hV
          have h := hstepn2 n2 x3 I4 J5 LP6 P7 hV
          refine lv_iload_n hx hb dX7_flow_23 rfl (lv_at hl 3 rfl) ?_
          refine lv_iload_n hx hb dX7_flow_24 rfl (lv_at hl 1 rfl) ?_
          refine lv_icmp_ge (tgt := 74) hx hb dX7_flow_25 (by decide) (fun hc => ?_) (fun hc => ?_)
          · have h := h.1 hc
            refine lv_aload_n hx hb dX7_flow_74 rfl (lv_at hl 0 rfl) ?_
            refine va_get (D := (dC, dI)) (ci := 7) (v := .ref (ad 19)) (C := RX7) (T := TX7) (N := 5) hx hb hts hinX7 hown hK hP 0 cG_0 rfl 3 (by decide) (hts (.fieldLink RX7 35 "OutboxHouse" "target" "LOutboxHouse$Target;") (by decide +kernel)) (fun _ h9 => h9) rfl dX7_flow_75 ?_
            refine va_getN (D := (dC, dI)) (ci := 5) (v := .int (I4 19 0)) (C := RX5) (T := TX5) (N := 7) hx hb hts hinX5 hown hK hP 19 cG_19 rfl 4 (by decide) (va_Nw.use rfl (hN.1 (RX7, 171, "OutboxHouse$Target", "doneEver", "I", "OutboxHouse") (by decide +kernel))) (fun _ h9 => h9) rfl dX7_flow_78 ?_
            refine lv_iload_n hx hb dX7_flow_81 rfl (lv_at hl 2 rfl) ?_
            refine lv_isub hx hb dX7_flow_82 ?_
            exact W.iret (v := (I4 19 0) - (I 19 0)) hx hb hr (fun t ht hW => hQ _ _ t ((I4 19 0) - (I 19 0)) I4 J5 LP6 P7 h ⟨by rw [ht]; exact hP, hD⟩ (hS.F ht)) hS.2.2 dX7_flow_83
          · have h := h.2 hc
            refine lv_aload_n hx hb dX7_flow_28 rfl (lv_at hl 0 rfl) ?_
            refine va_callv (va_runV (As := []) (rest := []) ⟨hx, hb, hml, hown, hts⟩ (m_X7_deliverAll l dC dI cy ad A I4 J5 LP6 P7  hD h) (cwV 0 hts gX7_flow_X7_deliverAll rfl rfl rfl (by decide +kernel) ⟨Nat.le_of_ble_eq_true rfl, Nat.le_of_ble_eq_true rfl⟩) ⟨wPre.blind, va_recv hK hP (ci := 7) (q0 := 0) rfl cG_0, wPre.at hP hK hN hS hA⟩ rfl rfl hl.1 rfl (lv_room (Nat.le_of_ble_eq_true rfl)) dX7_flow_29 ⟨by first | exact Nat.le_of_ble_eq_true rfl | (show _ ≤ 0; omega), by first | exact Nat.le_of_ble_eq_true rfl | (show _ ≤ 0; omega)⟩) hS (fun q _ h => h) (fun q h => h) (fun u t H locs ht hvm hw hB hz1 hk1 hS => ?_)
            obtain ⟨I9, J10, LP11, P12⟩ := u
            obtain ⟨hP, hD⟩ := hB; rw [ht] at hP; replace h := hw; try dsimp only at h hP hD
            refine lv_aload_n hx hb dX7_flow_32 rfl (lv_at hl 0 rfl) ?_
            refine va_get (D := (dC, dI)) (ci := 7) (v := .ref (ad 19)) (C := RX7) (T := TX7) (N := 5) hx hb hts hinX7 hown hK hP 0 cG_0 rfl 3 (by decide) (hts (.fieldLink RX7 35 "OutboxHouse" "target" "LOutboxHouse$Target;") (by decide +kernel)) (fun _ h9 => h9) rfl dX7_flow_33 ?_
            refine va_calli (va_runV (As := []) (rest := []) ⟨hx, hb, hml, hown, hts⟩ (m_X5_saveMemory l dC dI cy ad A I9 J10 LP11 P12  hD h) (cwV 0 hts gX7_flow_X5_saveMemory rfl rfl rfl (by decide +kernel) ⟨Nat.le_of_ble_eq_true rfl, Nat.le_of_ble_eq_true rfl⟩) ⟨wPre.blind, va_recv hK hP (ci := 5) (q0 := 19) rfl cG_19, wPre.at hP hK hN hS hA⟩ rfl rfl hl.1 rfl (lv_room (Nat.le_of_ble_eq_true rfl)) dX7_flow_36 ⟨by first | exact Nat.le_of_ble_eq_true rfl | (show _ ≤ 0; omega), by first | exact Nat.le_of_ble_eq_true rfl | (show _ ≤ 0; omega)⟩) hS (fun q _ h => h) (fun q h => h) (fun r13 u t H locs ht hvm hw hB hz1 hk1 hS => ?_)
            obtain ⟨I14, J15, LP16, P17⟩ := u
            obtain ⟨hP, hD⟩ := hB; rw [ht] at hP; replace h := hw; try dsimp only at h hP hD
            refine lv_pop hx hb dX7_flow_39 rfl ?_
            refine lv_aload_n hx hb dX7_flow_40 rfl (lv_at hl 0 rfl) ?_
            refine va_get (D := (dC, dI)) (ci := 7) (v := .ref (ad 9)) (C := RX7) (T := TX7) (N := 5) hx hb hts hinX7 hown hK hP 0 cG_0 rfl 2 (by decide) (hts (.fieldLink RX7 28 "OutboxHouse" "reader" "LOutboxHouse$Relay;") (by decide +kernel)) (fun _ h9 => h9) rfl dX7_flow_41 ?_
            refine lv_aload_n hx hb dX7_flow_44 rfl (lv_at hl 0 rfl) ?_
            refine va_get (D := (dC, dI)) (ci := 7) (v := .ref (ad 19)) (C := RX7) (T := TX7) (N := 5) hx hb hts hinX7 hown hK hP 0 cG_0 rfl 3 (by decide) (hts (.fieldLink RX7 35 "OutboxHouse" "target" "LOutboxHouse$Target;") (by decide +kernel)) (fun _ h9 => h9) rfl dX7_flow_45 ?_
            refine va_getN (D := (dC, dI)) (ci := 5) (v := .ref (ad 21)) (C := RX5) (T := TX5) (N := 7) hx hb hts hinX5 hown hK hP 19 cG_19 rfl 2 (by decide) (va_Nw.use rfl (hN.1 (RX7, 105, "OutboxHouse$Target", "disk", "LOutboxHouse$TargetState;", "OutboxHouse") (by decide +kernel))) (fun _ h9 => h9) rfl dX7_flow_48 ?_
            refine va_getN (D := (dC, dI)) (ci := 6) (v := .int (I14 21 0)) (C := RX6) (T := TX6) (N := 3) hx hb hts hinX6 hown hK hP 21 (cG_ts (j := 21) (by decide)) rfl 2 (by decide) (va_Nw.use rfl (hN.1 (RX7, 165, "OutboxHouse$TargetState", "upTo", "I", "OutboxHouse") (by decide +kernel))) (fun _ h9 => h9) rfl dX7_flow_51 ?_
            refine va_callv (va_runV (As := [.int (I14 21 0)]) (rest := []) ⟨hx, hb, hml, hown, hts⟩ (m_X2_hear l dC dI cy ad A I14 J15 LP16 P17 (I14 21 0) hD h) (cwV 1 hts gX7_flow_X2_hear rfl rfl rfl (by decide +kernel) ⟨Nat.le_of_ble_eq_true rfl, Nat.le_of_ble_eq_true rfl⟩) ⟨wPre.blind, va_recv hK hP (ci := 2) (q0 := 9) rfl cG_9, wPre.at hP hK hN hS hA⟩ rfl rfl hl.1 rfl (lv_room (Nat.le_of_ble_eq_true rfl)) dX7_flow_54 ⟨by first | exact Nat.le_of_ble_eq_true rfl | (show _ ≤ 0; omega), by first | exact Nat.le_of_ble_eq_true rfl | (show _ ≤ 0; omega)⟩) hS (fun q _ h => h) (fun q h => h) (fun u t H locs ht hvm hw hB hz1 hk1 hS => ?_)
            obtain ⟨I19, J20, LP21, P22⟩ := u
            obtain ⟨hP, hD⟩ := hB; rw [ht] at hP; replace h := hw; try dsimp only at h hP hD
            refine lv_aload_n hx hb dX7_flow_57 rfl (lv_at hl 0 rfl) ?_
            refine va_get (D := (dC, dI)) (ci := 7) (v := .ref (ad 9)) (C := RX7) (T := TX7) (N := 5) hx hb hts hinX7 hown hK hP 0 cG_0 rfl 2 (by decide) (hts (.fieldLink RX7 28 "OutboxHouse" "reader" "LOutboxHouse$Relay;") (by decide +kernel)) (fun _ h9 => h9) rfl dX7_flow_58 ?_
            refine lv_sipush (v := 400) hx hb dX7_flow_61 (by decide) ?_
            refine va_calli (va_runV (As := [.int 400]) (rest := []) ⟨hx, hb, hml, hown, hts⟩ (m_X2_readOn l dC dI cy ad A I19 J20 LP21 P22 400 hD h) (cwV 1 hts gX7_flow_X2_readOn rfl rfl rfl (by decide +kernel) ⟨Nat.le_of_ble_eq_true rfl, Nat.le_of_ble_eq_true rfl⟩) ⟨wPre.blind, va_recv hK hP (ci := 2) (q0 := 9) rfl cG_9, wPre.at hP hK hN hS hA⟩ rfl rfl hl.1 rfl (lv_room (Nat.le_of_ble_eq_true rfl)) dX7_flow_64 ⟨by first | exact Nat.le_of_ble_eq_true rfl | (show _ ≤ 0; omega), by first | exact Nat.le_of_ble_eq_true rfl | (show _ ≤ 0; omega)⟩) hS (fun q _ h => h) (fun q h => h) (fun r23 u t H locs ht hvm hw hB hz1 hk1 hS => ?_)
            obtain ⟨I24, J25, LP26, P27⟩ := u
            obtain ⟨hP, hD⟩ := hB; rw [ht] at hP; replace h := hw; try dsimp only at h hP hD
            refine lv_pop hx hb dX7_flow_67 rfl ?_
            refine lv_iinc (v := x3 + 1) (lv' := [(3, .int (x3 + 1)), (0, .ref (ad 0)), (1, .int p1), (2, .int (I 19 0))]) hx hb dX7_flow_68 hl (k := 3) rfl rfl (by decide) rfl (fun ls hl => ?_)
            refine lv_goto (tgt := 23) hx hb dX7_flow_71 (by decide) ?_
            obtain ⟨n28, hlt, hV⟩ := h
            exact ihn2 n28 hlt _ _ _ _ _ _ _ hP hD hS ls (lv_sub hl [1, 2, 3, 0] rfl) hV
      exact hlpn2 n20 _ _ _ _ _ _ _ hP hD hS ls (lv_sub hl [2, 3, 1, 0] rfl) hV0
    · have h := h.2 hc
      refine lv_iconst (v := (-1)) hx hb dX7_flow_11 (by decide) ?_
      exact W.iret (v := (-1)) hx hb hr (fun t ht hW => hQ _ _ t (-1) I J LP P h ⟨by rw [ht]; exact hP, hD⟩ (hS.F ht)) hS.2.2 dX7_flow_12
theorem m_X7_flow (l : Launch) (dC : Nat → ClassId) (dI : Nat → Nat → Nat) (cy : Nat → ClassId) (ad : Nat → Nat) (A : Nat → Prop) (I : St) (J : Rf) (LP : List Nat) (P : St) (p1 : Int32) {post : Int32 → St → Rf → List Nat → St → Prop} (hD : va_D A (cW ad cy I J LP P)) (h : wp_X7_flow I J LP P p1 post) : Met l yX7_flow wsX7_flow rmX7_flow (va_Pc [.ref (ad 0), .int p1] (wPre (dC, dI) cy A (cW ad cy I J LP P))) (va_Qi (fun r (u : CS) => post r u.1 u.2.1 u.2.2.1 u.2.2.2) (fun (u : CS) t => wPost (dC, dI) A (cW ad cy u.1 u.2.1 u.2.2.1 u.2.2.2) t) A) 0 0 A := g_X7_flow l dC dI cy ad A I J LP P p1 hD h (fun a s0 t r I' J' LP' P' h1 h2 h3 => ⟨⟨r, (I', J', LP', P'), rfl, h1, h2⟩, h3⟩)
