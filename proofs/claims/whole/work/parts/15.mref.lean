abbrev rmX8_lose : Room := { frames := 3, cells := 0, slots := 0, locals := 64 }
set_option maxHeartbeats 4000000 in
set_option maxRecDepth 100000 in
theorem g_X8_lose (l : Launch) (dC : Nat → ClassId) (dI : Nat → Nat → Nat) (cy : Nat → ClassId) (ad : Nat → Nat) (A : Nat → Prop) (I : St) (p1 : Int32) (p2 : Int32) {post : Int32 → St → Prop} (hD : va_D A (rW ad cy I)) (h : wp_X8_lose I p1 p2 post) {Qc : Array Value → State → Outcome → State → Prop} (hQ : ∀ (a : Array Value) (s0 t : State) (r : Int32) (I' : St), post r I' → wPost (dC, dI) A (rW ad cy I') t → va_F A s0 t → Qc a s0 (.returned (some (.int r))) t) : Met l yX8_lose wsX8_lose rmX8_lose (va_Pc [.ref (ad 40), .int p1, .int p2] (wPre (dC, dI) cy A (rW ad cy I))) Qc 0 0 A := by
  refine Met.ofW (cc := cX8_lose) (maxL := 4) (ret := (some .int)) (by decide) rfl ?_
  intro p e s m args below meth c s₁ B hml hv
  obtain ⟨rfl, hP, hK, hN, hA⟩ := hv
  have hx := B.exec
  have hb := B.bytes
  have hr := B.returns
  have hts := atoms_spec (ws := wsX8_lose) B.pre
  have hown : s.vm.findClass RX8 = some m.cls := findClass_of_methodNamed B.named
  have hlocks := B.notSynchronized
  have hinX8 : ∀ w ∈ wsX80, w ∈ wsX8_lose := fun _ h9 => List.mem_cons_of_mem _ (List.mem_append_right _ h9)
  have hS : va_S A s.heap s.heap [] := va_S.rf
  unfold wp_X8_lose at h
  have hl := lv_entry ([.ref (ad 40), .int p1, .int p2]) (n := 4) (Nat.le_of_ble_eq_true rfl)
  rw [lg_entry_eq]
  generalize (lg_sl ([.ref (ad 40), .int p1, .int p2]) ++ List.replicate (4 - (lg_sl ([.ref (ad 40), .int p1, .int p2])).length) Slot.unset).toArray = ls at hl ⊢
  have hl : lv_has ls 4 [(0, .ref (ad 40)), (1, .int p1), (2, .int p2)] := hl
  refine lv_aload_n hx hb dX8_lose_0 rfl (lv_at hl 0 rfl) ?_
  refine lv_iload_n hx hb dX8_lose_1 rfl (lv_at hl 1 rfl) ?_
  refine lv_iload_n hx hb dX8_lose_2 rfl (lv_at hl 2 rfl) ?_
  refine va_calli (va_runV (As := [.int p1, .int p2]) (rest := []) ⟨hx, hb, hml, hown, hts⟩ (m_X8_isLetter l dC dI cy ad A I p1 p2 hD h) (cwV 2 hts gX8_lose_X8_isLetter rfl rfl rfl (by decide +kernel) ⟨Nat.le_of_ble_eq_true rfl, Nat.le_of_ble_eq_true rfl⟩) ⟨wPre.blind, va_recv hK hP (ci := 8) (q0 := 0) rfl rG_o, wPre.at hP hK hN hS hA⟩ rfl rfl hl.1 rfl (lv_room (Nat.le_of_ble_eq_true rfl)) dX8_lose_3 ⟨by first | exact Nat.le_of_ble_eq_true rfl | (show _ ≤ 0; omega), by first | exact Nat.le_of_ble_eq_true rfl | (show _ ≤ 0; omega)⟩) hS (fun q _ h => h) (fun q h => h) (fun r1 u t H locs ht hvm hw hB hz1 hk1 hS => ?_)
  obtain ⟨I2, rfl⟩ : ∃ z : St, z = u := ⟨_, rfl⟩
  obtain ⟨hP, hD⟩ := hB; rw [ht] at hP; replace h := hw; try dsimp only at h hP hD
  refine lv_if_ne (tgt := 11) hx hb dX8_lose_6 (by decide) (fun hc => ?_) (fun hc => ?_)
  · have h := h.1 hc
    refine lv_aload_n hx hb dX8_lose_11 rfl (lv_at hl 0 rfl) ?_
    refine va_get (D := (dC, dI)) (ci := 8) (v := .ref (ad 15)) (C := RX8) (T := TX8) (N := 35) hx hb hts hinX8 hown hK hP 0 rG_o rfl 15 (by decide) (hts (.fieldLink RX8 41 "OutboxHouseModel" "letterAt" "[I") (by decide +kernel)) (fun _ h9 => h9) rfl dX8_lose_12 ?_
    refine lv_bipush (v := 40) hx hb dX8_lose_15 (by decide) ?_
    refine lv_iload_n hx hb dX8_lose_17 rfl (lv_at hl 1 rfl) ?_
    refine lv_imul hx hb dX8_lose_18 ?_
    refine lv_iload_n hx hb dX8_lose_19 rfl (lv_at hl 2 rfl) ?_
    refine lv_iadd hx hb dX8_lose_20 ?_
    have hv := h.1; replace h := h.2
    refine va_iald hx hb hK hP 11 0 rG_15 rfl hv dX8_lose_21 ?_
    refine lv_istore_n (lv' := [(3, .int (I2 15 ((40 * p1) + p2).toNatClampNeg)), (0, .ref (ad 40)), (1, .int p1), (2, .int p2)]) hx hb dX8_lose_22 rfl hl (by decide) rfl (fun ls hl => ?_)
    refine lv_aload_n hx hb dX8_lose_23 rfl (lv_at hl 1 rfl) ?_
    refine lv_iload_n hx hb dX8_lose_24 rfl (lv_at hl 2 rfl) ?_
    refine lv_iload_n hx hb dX8_lose_25 rfl (lv_at hl 3 rfl) ?_
    refine va_callv (va_runV (As := [.int p1, .int p2]) (rest := []) ⟨hx, hb, hml, hown, hts⟩ (m_X8_takesOut l dC dI cy ad A I2 p1 p2 hD h) (cwV 2 hts gX8_lose_X8_takesOut rfl rfl rfl (by decide +kernel) ⟨Nat.le_of_ble_eq_true rfl, Nat.le_of_ble_eq_true rfl⟩) ⟨wPre.blind, va_recv hK hP (ci := 8) (q0 := 0) rfl rG_o, wPre.at hP hK hN hS hA⟩ rfl rfl hl.1 rfl (lv_room (Nat.le_of_ble_eq_true rfl)) dX8_lose_26 ⟨by first | exact Nat.le_of_ble_eq_true rfl | (show _ ≤ 0; omega), by first | exact Nat.le_of_ble_eq_true rfl | (show _ ≤ 0; omega)⟩) hS (fun q _ h => h) (fun q h => h) (fun u t H locs ht hvm hw hB hz1 hk1 hS => ?_)
    obtain ⟨I4, rfl⟩ : ∃ z : St, z = u := ⟨_, rfl⟩
    obtain ⟨hP, hD⟩ := hB; rw [ht] at hP; replace h := hw; try dsimp only at h hP hD
    refine lv_aload_n hx hb dX8_lose_29 rfl (lv_at hl 1 rfl) ?_
    refine lv_dup hx hb dX8_lose_30 rfl ?_
    refine va_get (D := (dC, dI)) (ci := 8) (v := .int (I4 33 0)) (C := RX8) (T := TX8) (N := 35) hx hb hts hinX8 hown hK hP 0 rG_o rfl 33 (by decide) (hts (.fieldLink RX8 153 "OutboxHouseModel" "lost" "I") (by decide +kernel)) (fun _ h9 => h9) rfl dX8_lose_31 ?_
    refine lv_iconst (v := 1) hx hb dX8_lose_34 (by decide) ?_
    refine lv_iadd hx hb dX8_lose_35 ?_
    refine va_put (D := (dC, dI)) (ci := 8) (v := .int ((I4 33 0) + 1)) (ty := .int) (C := RX8) (T := TX8) (N := 35) hx hb hts hinX8 tyX8 tyX8_ok nmX8 hown hK hP hD hS 0 rG_o rfl 33 (by decide) (hts (.fieldLink RX8 153 "OutboxHouseModel" "lost" "I") (by decide +kernel)) (fun _ h9 => h9) rfl (by decide +kernel) rfl rfl (Nat.le_of_ble_eq_true rfl) dX8_lose_36 (fun H locs hP hD hS => ?_)
    obtain ⟨I5, hI5⟩ : ∃ z : St, z = st I4 33 0 ((I4 33 0) + 1) := ⟨_, rfl⟩
    replace hP := wP (rE_33 hI5) hP; replace hD := wD (rE_33 hI5) hD; replace h := h _ hI5
    refine lv_iload_n hx hb dX8_lose_39 rfl (lv_at hl 0 rfl) ?_
    exact W.iret (v := I2 15 ((40 * p1) + p2).toNatClampNeg) hx hb hr (fun t ht hW => hQ _ _ t (I2 15 ((40 * p1) + p2).toNatClampNeg) I5 h ⟨by rw [ht]; exact hP, hD⟩ (hS.F ht)) hS.2.2 dX8_lose_40
  · have h := h.2 hc
    refine lv_iconst (v := (-1)) hx hb dX8_lose_9 (by decide) ?_
    exact W.iret (v := (-1)) hx hb hr (fun t ht hW => hQ _ _ t (-1) I2 h ⟨by rw [ht]; exact hP, hD⟩ (hS.F ht)) hS.2.2 dX8_lose_10
theorem m_X8_lose (l : Launch) (dC : Nat → ClassId) (dI : Nat → Nat → Nat) (cy : Nat → ClassId) (ad : Nat → Nat) (A : Nat → Prop) (I : St) (p1 : Int32) (p2 : Int32) {post : Int32 → St → Prop} (hD : va_D A (rW ad cy I)) (h : wp_X8_lose I p1 p2 post) : Met l yX8_lose wsX8_lose rmX8_lose (va_Pc [.ref (ad 40), .int p1, .int p2] (wPre (dC, dI) cy A (rW ad cy I))) (va_Qi (fun r (u : St) => post r u) (fun (u : St) t => wPost (dC, dI) A (rW ad cy u) t) A) 0 0 A := g_X8_lose l dC dI cy ad A I p1 p2 hD h (fun a s0 t r I' h1 h2 h3 => ⟨⟨r, I', rfl, h1, h2⟩, h3⟩)
abbrev rmX8_letter : Room := { frames := 3, cells := 0, slots := 0, locals := 64 }
set_option maxHeartbeats 4000000 in
set_option maxRecDepth 100000 in
theorem g_X8_letter (l : Launch) (dC : Nat → ClassId) (dI : Nat → Nat → Nat) (cy : Nat → ClassId) (ad : Nat → Nat) (A : Nat → Prop) (I : St) (p1 : Int32) (p2 : Int32) (p3 : Int32) {post : Int32 → St → Prop} (hD : va_D A (rW ad cy I)) (h : wp_X8_letter I p1 p2 p3 post) {Qc : Array Value → State → Outcome → State → Prop} (hQ : ∀ (a : Array Value) (s0 t : State) (r : Int32) (I' : St), post r I' → wPost (dC, dI) A (rW ad cy I') t → va_F A s0 t → Qc a s0 (.returned (some (.int r))) t) : Met l yX8_letter wsX8_letter rmX8_letter (va_Pc [.ref (ad 40), .int p1, .int p2, .int p3] (wPre (dC, dI) cy A (rW ad cy I))) Qc 0 0 A := by
  refine Met.ofW (cc := cX8_letter) (maxL := 5) (ret := (some .int)) (by decide) rfl ?_
  intro p e s m args below meth c s₁ B hml hv
  obtain ⟨rfl, hP, hK, hN, hA⟩ := hv
  have hx := B.exec
  have hb := B.bytes
  have hr := B.returns
  have hts := atoms_spec (ws := wsX8_letter) B.pre
  have hown : s.vm.findClass RX8 = some m.cls := findClass_of_methodNamed B.named
  have hlocks := B.notSynchronized
  have hinX8 : ∀ w ∈ wsX80, w ∈ wsX8_letter := fun _ h9 => List.mem_cons_of_mem _ (List.mem_append_right _ h9)
  have hS : va_S A s.heap s.heap [] := va_S.rf
  unfold wp_X8_letter at h
  have hl := lv_entry ([.ref (ad 40), .int p1, .int p2, .int p3]) (n := 5) (Nat.le_of_ble_eq_true rfl)
  rw [lg_entry_eq]
  generalize (lg_sl ([.ref (ad 40), .int p1, .int p2, .int p3]) ++ List.replicate (5 - (lg_sl ([.ref (ad 40), .int p1, .int p2, .int p3])).length) Slot.unset).toArray = ls at hl ⊢
  have hl : lv_has ls 5 [(0, .ref (ad 40)), (1, .int p1), (2, .int p2), (3, .int p3)] := hl
  refine lv_iload_n hx hb dX8_letter_0 rfl (lv_at hl 1 rfl) ?_
  refine va_calli (va_runS (As := [.int p1]) (rest := []) ⟨hx, hb, hml, hown, hts⟩ (m_X8_isLane l dC dI cy ad A I p1 hD h) (va_cwS 1 hts gX8_letter_X8_isLane rfl rfl rfl (by decide +kernel) ⟨Nat.le_of_ble_eq_true rfl, Nat.le_of_ble_eq_true rfl⟩) ⟨wPre.blind, wPre.at hP hK hN hS hA⟩ rfl rfl hl.1 rfl (lv_room (Nat.le_of_ble_eq_true rfl)) dX8_letter_1 ⟨by first | exact Nat.le_of_ble_eq_true rfl | (show _ ≤ 0; omega), by first | exact Nat.le_of_ble_eq_true rfl | (show _ ≤ 0; omega)⟩) hS (fun q _ h => h) (fun q h => h) (fun r1 u t H locs ht hvm hw hB hz1 hk1 hS => ?_)
  obtain ⟨I2, rfl⟩ : ∃ z : St, z = u := ⟨_, rfl⟩
  obtain ⟨hP, hD⟩ := hB; rw [ht] at hP; replace h := hw; try dsimp only at h hP hD
  refine lv_if_eq (tgt := 16) hx hb dX8_letter_4 (by decide) (fun hc => ?_) (fun hc => ?_)
  · have h := h.1 hc
    refine lv_iconst (v := (-1)) hx hb dX8_letter_16 (by decide) ?_
    exact W.iret (v := (-1)) hx hb hr (fun t ht hW => hQ _ _ t (-1) I2 h ⟨by rw [ht]; exact hP, hD⟩ (hS.F ht)) hS.2.2 dX8_letter_17
  · have h := h.2 hc
    refine lv_iload_n hx hb dX8_letter_7 rfl (lv_at hl 3 rfl) ?_
    refine lv_iconst (v := 0) hx hb dX8_letter_8 (by decide) ?_
    refine lv_iconst (v := 3) hx hb dX8_letter_9 (by decide) ?_
    refine va_calli (va_runS (As := [.int p3, .int 0, .int 3]) (rest := []) ⟨hx, hb, hml, hown, hts⟩ (m_X8_in l dC dI cy ad A I2 p3 0 3 hD h) (va_cwS 3 hts gX8_letter_X8_in rfl rfl rfl (by decide +kernel) ⟨Nat.le_of_ble_eq_true rfl, Nat.le_of_ble_eq_true rfl⟩) ⟨wPre.blind, wPre.at hP hK hN hS hA⟩ rfl rfl hl.1 rfl (lv_room (Nat.le_of_ble_eq_true rfl)) dX8_letter_10 ⟨by first | exact Nat.le_of_ble_eq_true rfl | (show _ ≤ 0; omega), by first | exact Nat.le_of_ble_eq_true rfl | (show _ ≤ 0; omega)⟩) hS (fun q _ h => h) (fun q h => h) (fun r3 u t H locs ht hvm hw hB hz1 hk1 hS => ?_)
    obtain ⟨I4, rfl⟩ : ∃ z : St, z = u := ⟨_, rfl⟩
    obtain ⟨hP, hD⟩ := hB; rw [ht] at hP; replace h := hw; try dsimp only at h hP hD
    refine lv_if_ne (tgt := 18) hx hb dX8_letter_13 (by decide) (fun hc => ?_) (fun hc => ?_)
    · have h := h.1 hc
      refine lv_aload_n hx hb dX8_letter_18 rfl (lv_at hl 0 rfl) ?_
      refine lv_iload_n hx hb dX8_letter_19 rfl (lv_at hl 1 rfl) ?_
      refine lv_iload_n hx hb dX8_letter_20 rfl (lv_at hl 2 rfl) ?_
      refine va_calli (va_runV (As := [.int p1, .int p2]) (rest := []) ⟨hx, hb, hml, hown, hts⟩ (m_X8_isLetter l dC dI cy ad A I4 p1 p2 hD h) (cwV 2 hts gX8_letter_X8_isLetter rfl rfl rfl (by decide +kernel) ⟨Nat.le_of_ble_eq_true rfl, Nat.le_of_ble_eq_true rfl⟩) ⟨wPre.blind, va_recv hK hP (ci := 8) (q0 := 0) rfl rG_o, wPre.at hP hK hN hS hA⟩ rfl rfl hl.1 rfl (lv_room (Nat.le_of_ble_eq_true rfl)) dX8_letter_21 ⟨by first | exact Nat.le_of_ble_eq_true rfl | (show _ ≤ 0; omega), by first | exact Nat.le_of_ble_eq_true rfl | (show _ ≤ 0; omega)⟩) hS (fun q _ h => h) (fun q h => h) (fun r5 u t H locs ht hvm hw hB hz1 hk1 hS => ?_)
      obtain ⟨I6, rfl⟩ : ∃ z : St, z = u := ⟨_, rfl⟩
      obtain ⟨hP, hD⟩ := hB; rw [ht] at hP; replace h := hw; try dsimp only at h hP hD
      refine lv_if_ne (tgt := 30) hx hb dX8_letter_24 (by decide) (fun hc => ?_) (fun hc => ?_)
      · have h := h.1 hc
        refine lv_bipush (v := 40) hx hb dX8_letter_30 (by decide) ?_
        refine lv_iload_n hx hb dX8_letter_32 rfl (lv_at hl 1 rfl) ?_
        refine lv_imul hx hb dX8_letter_33 ?_
        refine lv_iload_n hx hb dX8_letter_34 rfl (lv_at hl 2 rfl) ?_
        refine lv_iadd hx hb dX8_letter_35 ?_
        refine lv_istore (lv' := [(4, .int ((40 * p1) + p2)), (0, .ref (ad 40)), (1, .int p1), (2, .int p2), (3, .int p3)]) hx hb dX8_letter_36 hl (by decide) rfl (fun ls hl => ?_)
        refine lv_iload_n hx hb dX8_letter_38 rfl (lv_at hl 4 rfl) ?_
        refine lv_if_ne (tgt := 52) hx hb dX8_letter_39 (by decide) (fun hc => ?_) (fun hc => ?_)
        · have h := h.1 hc
          refine lv_iload_n hx hb dX8_letter_52 rfl (lv_at hl 4 rfl) ?_
          refine lv_iconst (v := 1) hx hb dX8_letter_53 (by decide) ?_
          refine lv_icmp_ne (tgt := 67) hx hb dX8_letter_54 (by decide) (fun hc => ?_) (fun hc => ?_)
          · have h := h.1 hc
            refine lv_iload_n hx hb dX8_letter_67 rfl (lv_at hl 4 rfl) ?_
            refine lv_iconst (v := 2) hx hb dX8_letter_68 (by decide) ?_
            refine lv_icmp_ne (tgt := 82) hx hb dX8_letter_69 (by decide) (fun hc => ?_) (fun hc => ?_)
            · have h := h.1 hc
              refine lv_aload_n hx hb dX8_letter_82 rfl (lv_at hl 1 rfl) ?_
              refine va_get (D := (dC, dI)) (ci := 8) (v := .ref (ad 18)) (C := RX8) (T := TX8) (N := 35) hx hb hts hinX8 hown hK hP 0 rG_o rfl 18 (by decide) (hts (.fieldLink RX8 50 "OutboxHouseModel" "letterValue" "[I") (by decide +kernel)) (fun _ h9 => h9) rfl dX8_letter_83 ?_
              refine lv_iload hx hb dX8_letter_86 (lv_at hl 0 rfl) ?_
              have hv := h.1; replace h := h.2
              refine va_iald hx hb hK hP 14 0 rG_18 rfl hv dX8_letter_88 ?_
              exact W.iret (v := I6 18 ((40 * p1) + p2).toNatClampNeg) hx hb hr (fun t ht hW => hQ _ _ t (I6 18 ((40 * p1) + p2).toNatClampNeg) I6 h ⟨by rw [ht]; exact hP, hD⟩ (hS.F ht)) hS.2.2 dX8_letter_89
            · have h := h.2 hc
              refine lv_aload_n hx hb dX8_letter_72 rfl (lv_at hl 1 rfl) ?_
              refine va_get (D := (dC, dI)) (ci := 8) (v := .ref (ad 17)) (C := RX8) (T := TX8) (N := 35) hx hb hts hinX8 hown hK hP 0 rG_o rfl 17 (by decide) (hts (.fieldLink RX8 47 "OutboxHouseModel" "letterOrder" "[I") (by decide +kernel)) (fun _ h9 => h9) rfl dX8_letter_73 ?_
              refine lv_iload hx hb dX8_letter_76 (lv_at hl 0 rfl) ?_
              have hv := h.1; replace h := h.2
              refine va_iald hx hb hK hP 13 0 rG_17 rfl hv dX8_letter_78 ?_
              refine lv_goto (tgt := 89) hx hb dX8_letter_79 (by decide) ?_
              exact W.iret (v := I6 17 ((40 * p1) + p2).toNatClampNeg) hx hb hr (fun t ht hW => hQ _ _ t (I6 17 ((40 * p1) + p2).toNatClampNeg) I6 h ⟨by rw [ht]; exact hP, hD⟩ (hS.F ht)) hS.2.2 dX8_letter_89
          · have h := h.2 hc
            refine lv_aload_n hx hb dX8_letter_57 rfl (lv_at hl 1 rfl) ?_
            refine va_get (D := (dC, dI)) (ci := 8) (v := .ref (ad 16)) (C := RX8) (T := TX8) (N := 35) hx hb hts hinX8 hown hK hP 0 rG_o rfl 16 (by decide) (hts (.fieldLink RX8 44 "OutboxHouseModel" "letterKey" "[I") (by decide +kernel)) (fun _ h9 => h9) rfl dX8_letter_58 ?_
            refine lv_iload hx hb dX8_letter_61 (lv_at hl 0 rfl) ?_
            have hv := h.1; replace h := h.2
            refine va_iald hx hb hK hP 12 0 rG_16 rfl hv dX8_letter_63 ?_
            refine lv_goto (tgt := 89) hx hb dX8_letter_64 (by decide) ?_
            exact W.iret (v := I6 16 ((40 * p1) + p2).toNatClampNeg) hx hb hr (fun t ht hW => hQ _ _ t (I6 16 ((40 * p1) + p2).toNatClampNeg) I6 h ⟨by rw [ht]; exact hP, hD⟩ (hS.F ht)) hS.2.2 dX8_letter_89
        · have h := h.2 hc
          refine lv_aload_n hx hb dX8_letter_42 rfl (lv_at hl 1 rfl) ?_
          refine va_get (D := (dC, dI)) (ci := 8) (v := .ref (ad 15)) (C := RX8) (T := TX8) (N := 35) hx hb hts hinX8 hown hK hP 0 rG_o rfl 15 (by decide) (hts (.fieldLink RX8 41 "OutboxHouseModel" "letterAt" "[I") (by decide +kernel)) (fun _ h9 => h9) rfl dX8_letter_43 ?_
          refine lv_iload hx hb dX8_letter_46 (lv_at hl 0 rfl) ?_
          have hv := h.1; replace h := h.2
          refine va_iald hx hb hK hP 11 0 rG_15 rfl hv dX8_letter_48 ?_
          refine lv_goto (tgt := 89) hx hb dX8_letter_49 (by decide) ?_
          exact W.iret (v := I6 15 ((40 * p1) + p2).toNatClampNeg) hx hb hr (fun t ht hW => hQ _ _ t (I6 15 ((40 * p1) + p2).toNatClampNeg) I6 h ⟨by rw [ht]; exact hP, hD⟩ (hS.F ht)) hS.2.2 dX8_letter_89
      · have h := h.2 hc
        refine lv_bipush (v := (-9)) hx hb dX8_letter_27 (by decide) ?_
        exact W.iret (v := (-9)) hx hb hr (fun t ht hW => hQ _ _ t (-9) I6 h ⟨by rw [ht]; exact hP, hD⟩ (hS.F ht)) hS.2.2 dX8_letter_29
    · have h := h.2 hc
      refine lv_iconst (v := (-1)) hx hb dX8_letter_16 (by decide) ?_
      exact W.iret (v := (-1)) hx hb hr (fun t ht hW => hQ _ _ t (-1) I4 h ⟨by rw [ht]; exact hP, hD⟩ (hS.F ht)) hS.2.2 dX8_letter_17
theorem m_X8_letter (l : Launch) (dC : Nat → ClassId) (dI : Nat → Nat → Nat) (cy : Nat → ClassId) (ad : Nat → Nat) (A : Nat → Prop) (I : St) (p1 : Int32) (p2 : Int32) (p3 : Int32) {post : Int32 → St → Prop} (hD : va_D A (rW ad cy I)) (h : wp_X8_letter I p1 p2 p3 post) : Met l yX8_letter wsX8_letter rmX8_letter (va_Pc [.ref (ad 40), .int p1, .int p2, .int p3] (wPre (dC, dI) cy A (rW ad cy I))) (va_Qi (fun r (u : St) => post r u) (fun (u : St) t => wPost (dC, dI) A (rW ad cy u) t) A) 0 0 A := g_X8_letter l dC dI cy ad A I p1 p2 p3 hD h (fun a s0 t r I' h1 h2 h3 => ⟨⟨r, I', rfl, h1, h2⟩, h3⟩)
abbrev rmX8_saves : Room := { frames := 0, cells := 0, slots := 0, locals := 0 }
set_option maxHeartbeats 4000000 in
set_option maxRecDepth 100000 in
theorem g_X8_saves (l : Launch) (dC : Nat → ClassId) (dI : Nat → Nat → Nat) (cy : Nat → ClassId) (ad : Nat → Nat) (A : Nat → Prop) (I : St)  {post : Int32 → St → Prop} (hD : va_D A (rW ad cy I)) (h : wp_X8_saves I  post) {Qc : Array Value → State → Outcome → State → Prop} (hQ : ∀ (a : Array Value) (s0 t : State) (r : Int32) (I' : St), post r I' → wPost (dC, dI) A (rW ad cy I') t → va_F A s0 t → Qc a s0 (.returned (some (.int r))) t) : Met l yX8_saves wsX8_saves rmX8_saves (va_Pc [.ref (ad 40)] (wPre (dC, dI) cy A (rW ad cy I))) Qc 0 0 A := by
  refine Met.ofW (cc := cX8_saves) (maxL := 3) (ret := (some .int)) (by decide) rfl ?_
  intro p e s m args below meth c s₁ B hml hv
  obtain ⟨rfl, hP, hK, hN, hA⟩ := hv
  have hx := B.exec
  have hb := B.bytes
  have hr := B.returns
  have hts := atoms_spec (ws := wsX8_saves) B.pre
  have hown : s.vm.findClass RX8 = some m.cls := findClass_of_methodNamed B.named
  have hlocks := B.notSynchronized
  have hinX8 : ∀ w ∈ wsX80, w ∈ wsX8_saves := fun _ h9 => List.mem_cons_of_mem _ (List.mem_append_right _ h9)
  have hS : va_S A s.heap s.heap [] := va_S.rf
  unfold wp_X8_saves at h
  have hl := lv_entry ([.ref (ad 40)]) (n := 3) (Nat.le_of_ble_eq_true rfl)
  rw [lg_entry_eq]
  generalize (lg_sl ([.ref (ad 40)]) ++ List.replicate (3 - (lg_sl ([.ref (ad 40)])).length) Slot.unset).toArray = ls at hl ⊢
  have hl : lv_has ls 3 [(0, .ref (ad 40))] := hl
  refine lv_iconst (v := 0) hx hb dX8_saves_0 (by decide) ?_
  refine lv_istore_n (lv' := [(1, .int 0), (0, .ref (ad 40))]) hx hb dX8_saves_1 rfl hl (by decide) rfl (fun ls hl => ?_)
  refine lv_iconst (v := 0) hx hb dX8_saves_2 (by decide) ?_
  refine lv_istore_n (lv' := [(2, .int 0), (1, .int 0), (0, .ref (ad 40))]) hx hb dX8_saves_3 rfl hl (by decide) rfl (fun ls hl => ?_)
  obtain ⟨V1, ⟨n20, hV0⟩, hstepn2⟩ := h
  have hlpn2 : ∀ (n2 : Nat) (x3 : Int32) (x4 : Int32) (I5 : St) (H : Heap) (locs : List Loc), va_P (dC, dI) vwCl (rW ad cy I5) H → va_D A (rW ad cy I5) → va_S A s.heap H locs → ∀ ls : Array Slot, lv_has ls 3 [(0, .ref (ad 40)), (1, .int x3), (2, .int x4)] → V1 n2 x3 x4 I5 → W p l e (headSpec wsX8_saves rmX8_saves).room s m ([.ref (ad 40)] : List Value).toArray below meth c H locs 0 0 (MQ below Qc ([.ref (ad 40)] : List Value).toArray s 0 0 A) (F0 m 4 ls []) := by
    intro n2
    induction n2 using Nat.strongRecOn with
    | _ n2 ihn2 =>
      intro x3 x4 I5 H locs hP hD hS ls hl hV
      have h := hstepn2 n2 x3 x4 I5 hV
      refine lv_iload_n hx hb dX8_saves_4 rfl (lv_at hl 2 rfl) ?_
      refine lv_bipush (v := 6) hx hb dX8_saves_5 (by decide) ?_
      refine lv_icmp_ge (tgt := 56) hx hb dX8_saves_7 (by decide) (fun hc => ?_) (fun hc => ?_)
      · have h := h.1 hc
        refine lv_iconst (v := 0) hx hb dX8_saves_56 (by decide) ?_
        refine lv_istore_n (lv' := [(2, .int 0), (0, .ref (ad 40)), (1, .int x3)]) hx hb dX8_saves_57 rfl hl (by decide) rfl (fun ls hl => ?_)
        obtain ⟨V6, ⟨n70, hV0⟩, hstepn7⟩ := h
        have hlpn7 : ∀ (n7 : Nat) (x8 : Int32) (I9 : St) (H : Heap) (locs : List Loc), va_P (dC, dI) vwCl (rW ad cy I9) H → va_D A (rW ad cy I9) → va_S A s.heap H locs → ∀ ls : Array Slot, lv_has ls 3 [(0, .ref (ad 40)), (1, .int x3), (2, .int x8)] → V6 n7 x8 I9 → W p l e (headSpec wsX8_saves rmX8_saves).room s m ([.ref (ad 40)] : List Value).toArray below meth c H locs 0 0 (MQ below Qc ([.ref (ad 40)] : List Value).toArray s 0 0 A) (F0 m 58 ls []) := by
          intro n7
          induction n7 using Nat.strongRecOn with
          | _ n7 ihn7 =>
            intro x8 I9 H locs hP hD hS ls hl hV
            have h := hstepn7 n7 x8 I9 hV
            refine lv_iload_n hx hb dX8_saves_58 rfl (lv_at hl 2 rfl) ?_
            refine lv_sipush (v := 400) hx hb dX8_saves_59 (by decide) ?_
            refine lv_icmp_ge (tgt := 83) hx hb dX8_saves_62 (by decide) (fun hc => ?_) (fun hc => ?_)
            · have h := h.1 hc
              refine lv_iload_n hx hb dX8_saves_83 rfl (lv_at hl 1 rfl) ?_
              exact W.iret (v := x3) hx hb hr (fun t ht hW => hQ _ _ t x3 I9 h ⟨by rw [ht]; exact hP, hD⟩ (hS.F ht)) hS.2.2 dX8_saves_84
            · have h := h.2 hc
              refine lv_aload_n hx hb dX8_saves_65 rfl (lv_at hl 0 rfl) ?_
              refine va_get (D := (dC, dI)) (ci := 8) (v := .ref (ad 24)) (C := RX8) (T := TX8) (N := 35) hx hb hts hinX8 hown hK hP 0 rG_o rfl 24 (by decide) (hts (.fieldLink RX8 68 "OutboxHouseModel" "hasDisk" "[Z") (by decide +kernel)) (fun _ h9 => h9) rfl dX8_saves_66 ?_
              refine lv_iload_n hx hb dX8_saves_69 rfl (lv_at hl 2 rfl) ?_
              refine lv_aload_n hx hb dX8_saves_70 rfl (lv_at hl 0 rfl) ?_
              refine va_get (D := (dC, dI)) (ci := 8) (v := .ref (ad 21)) (C := RX8) (T := TX8) (N := 35) hx hb hts hinX8 hown hK hP 0 rG_o rfl 21 (by decide) (hts (.fieldLink RX8 59 "OutboxHouseModel" "hasNow" "[Z") (by decide +kernel)) (fun _ h9 => h9) rfl dX8_saves_71 ?_
              refine lv_iload_n hx hb dX8_saves_74 rfl (lv_at hl 2 rfl) ?_
              have hv := h.1; replace h := h.2
              refine va_zald hx hb hK hP 17 1 rG_21 rfl hv dX8_saves_75 ?_
              have hv := h.1; replace h := h.2
              refine va_zast hx hb hK hP hD hS 20 1 rG_24 rfl hv dX8_saves_76 (fun H locs hP hD hS => ?_)
              obtain ⟨I10, hI10⟩ : ∃ z : St, z = st I9 24 x8.toNatClampNeg (vp_nar .boolean (I9 21 x8.toNatClampNeg)) := ⟨_, rfl⟩
              replace hP := wP (rE_24 hI10) hP; replace hD := wD (rE_24 hI10) hD; replace h := h _ hI10
              refine lv_iinc (v := x8 + 1) (lv' := [(2, .int (x8 + 1)), (0, .ref (ad 40)), (1, .int x3)]) hx hb dX8_saves_77 hl (k := 2) rfl rfl (by decide) rfl (fun ls hl => ?_)
              refine lv_goto (tgt := 58) hx hb dX8_saves_80 (by decide) ?_
              obtain ⟨n11, hlt, hV⟩ := h
              exact ihn7 n11 hlt _ _ _ _ hP hD hS ls (lv_sub hl [1, 2, 0] rfl) hV
        exact hlpn7 n70 _ _ _ _ hP hD hS ls (lv_sub hl [1, 2, 0] rfl) hV0
      · have h := h.2 hc
        refine lv_iload_n hx hb dX8_saves_10 rfl (lv_at hl 1 rfl) ?_
        refine lv_aload_n hx hb dX8_saves_11 rfl (lv_at hl 0 rfl) ?_
        refine va_get (D := (dC, dI)) (ci := 8) (v := .ref (ad 20)) (C := RX8) (T := TX8) (N := 35) hx hb hts hinX8 hown hK hP 0 rG_o rfl 20 (by decide) (hts (.fieldLink RX8 56 "OutboxHouseModel" "doneNow" "[I") (by decide +kernel)) (fun _ h9 => h9) rfl dX8_saves_12 ?_
        refine lv_iload_n hx hb dX8_saves_15 rfl (lv_at hl 2 rfl) ?_
        have hv := h.1; replace h := h.2
        refine va_iald hx hb hK hP 16 0 rG_20 rfl hv dX8_saves_16 ?_
        refine lv_aload_n hx hb dX8_saves_17 rfl (lv_at hl 0 rfl) ?_
        refine va_get (D := (dC, dI)) (ci := 8) (v := .ref (ad 23)) (C := RX8) (T := TX8) (N := 35) hx hb hts hinX8 hown hK hP 0 rG_o rfl 23 (by decide) (hts (.fieldLink RX8 65 "OutboxHouseModel" "doneDisk" "[I") (by decide +kernel)) (fun _ h9 => h9) rfl dX8_saves_18 ?_
        refine lv_iload_n hx hb dX8_saves_21 rfl (lv_at hl 2 rfl) ?_
        have hv := h.1; replace h := h.2
        refine va_iald hx hb hK hP 19 0 rG_23 rfl hv dX8_saves_22 ?_
        refine lv_isub hx hb dX8_saves_23 ?_
        refine lv_iadd hx hb dX8_saves_24 ?_
        refine lv_istore_n (lv' := [(1, .int (x3 + ((I5 20 x4.toNatClampNeg) - (I5 23 x4.toNatClampNeg)))), (0, .ref (ad 40)), (2, .int x4)]) hx hb dX8_saves_25 rfl hl (by decide) rfl (fun ls hl => ?_)
        refine lv_aload_n hx hb dX8_saves_26 rfl (lv_at hl 1 rfl) ?_
        refine va_get (D := (dC, dI)) (ci := 8) (v := .ref (ad 22)) (C := RX8) (T := TX8) (N := 35) hx hb hts hinX8 hown hK hP 0 rG_o rfl 22 (by decide) (hts (.fieldLink RX8 62 "OutboxHouseModel" "valueDisk" "[I") (by decide +kernel)) (fun _ h9 => h9) rfl dX8_saves_27 ?_
        refine lv_iload_n hx hb dX8_saves_30 rfl (lv_at hl 2 rfl) ?_
        refine lv_aload_n hx hb dX8_saves_31 rfl (lv_at hl 1 rfl) ?_
        refine va_get (D := (dC, dI)) (ci := 8) (v := .ref (ad 19)) (C := RX8) (T := TX8) (N := 35) hx hb hts hinX8 hown hK hP 0 rG_o rfl 19 (by decide) (hts (.fieldLink RX8 53 "OutboxHouseModel" "valueNow" "[I") (by decide +kernel)) (fun _ h9 => h9) rfl dX8_saves_32 ?_
        refine lv_iload_n hx hb dX8_saves_35 rfl (lv_at hl 2 rfl) ?_
        have hv := h.1; replace h := h.2
        refine va_iald hx hb hK hP 15 0 rG_19 rfl hv dX8_saves_36 ?_
        have hv := h.1; replace h := h.2
        refine va_iast hx hb hK hP hD hS 18 0 rG_22 rfl hv dX8_saves_37 (fun H locs hP hD hS => ?_)
        obtain ⟨I12, hI12⟩ : ∃ z : St, z = st I5 22 x4.toNatClampNeg (I5 19 x4.toNatClampNeg) := ⟨_, rfl⟩
        replace hP := wP (rE_22 hI12) hP; replace hD := wD (rE_22 hI12) hD; replace h := h _ hI12
        refine lv_aload_n hx hb dX8_saves_38 rfl (lv_at hl 1 rfl) ?_
        refine va_get (D := (dC, dI)) (ci := 8) (v := .ref (ad 23)) (C := RX8) (T := TX8) (N := 35) hx hb hts hinX8 hown hK hP 0 rG_o rfl 23 (by decide) (hts (.fieldLink RX8 65 "OutboxHouseModel" "doneDisk" "[I") (by decide +kernel)) (fun _ h9 => h9) rfl dX8_saves_39 ?_
        refine lv_iload_n hx hb dX8_saves_42 rfl (lv_at hl 2 rfl) ?_
        refine lv_aload_n hx hb dX8_saves_43 rfl (lv_at hl 1 rfl) ?_
        refine va_get (D := (dC, dI)) (ci := 8) (v := .ref (ad 20)) (C := RX8) (T := TX8) (N := 35) hx hb hts hinX8 hown hK hP 0 rG_o rfl 20 (by decide) (hts (.fieldLink RX8 56 "OutboxHouseModel" "doneNow" "[I") (by decide +kernel)) (fun _ h9 => h9) rfl dX8_saves_44 ?_
        refine lv_iload_n hx hb dX8_saves_47 rfl (lv_at hl 2 rfl) ?_
        have hv := h.1; replace h := h.2
        refine va_iald hx hb hK hP 16 0 rG_20 rfl hv dX8_saves_48 ?_
        have hv := h.1; replace h := h.2
        refine va_iast hx hb hK hP hD hS 19 0 rG_23 rfl hv dX8_saves_49 (fun H locs hP hD hS => ?_)
        obtain ⟨I13, hI13⟩ : ∃ z : St, z = st I12 23 x4.toNatClampNeg (I12 20 x4.toNatClampNeg) := ⟨_, rfl⟩
        replace hP := wP (rE_23 hI13) hP; replace hD := wD (rE_23 hI13) hD; replace h := h _ hI13
        refine lv_iinc (v := x4 + 1) (lv' := [(2, .int (x4 + 1)), (1, .int (x3 + ((I5 20 x4.toNatClampNeg) - (I5 23 x4.toNatClampNeg)))), (0, .ref (ad 40))]) hx hb dX8_saves_50 hl (k := 2) rfl rfl (by decide) rfl (fun ls hl => ?_)
        refine lv_goto (tgt := 4) hx hb dX8_saves_53 (by decide) ?_
        obtain ⟨n14, hlt, hV⟩ := h
        exact ihn2 n14 hlt _ _ _ _ _ hP hD hS ls (lv_sub hl [2, 1, 0] rfl) hV
  exact hlpn2 n20 _ _ _ _ _ hP hD hS ls (lv_sub hl [2, 1, 0] rfl) hV0
theorem m_X8_saves (l : Launch) (dC : Nat → ClassId) (dI : Nat → Nat → Nat) (cy : Nat → ClassId) (ad : Nat → Nat) (A : Nat → Prop) (I : St)  {post : Int32 → St → Prop} (hD : va_D A (rW ad cy I)) (h : wp_X8_saves I  post) : Met l yX8_saves wsX8_saves rmX8_saves (va_Pc [.ref (ad 40)] (wPre (dC, dI) cy A (rW ad cy I))) (va_Qi (fun r (u : St) => post r u) (fun (u : St) t => wPost (dC, dI) A (rW ad cy u) t) A) 0 0 A := g_X8_saves l dC dI cy ad A I  hD h (fun a s0 t r I' h1 h2 h3 => ⟨⟨r, I', rfl, h1, h2⟩, h3⟩)
abbrev rmX8_save : Room := { frames := 1, cells := 0, slots := 0, locals := 22 }
set_option maxHeartbeats 4000000 in
set_option maxRecDepth 100000 in
theorem g_X8_save (l : Launch) (dC : Nat → ClassId) (dI : Nat → Nat → Nat) (cy : Nat → ClassId) (ad : Nat → Nat) (A : Nat → Prop) (I : St)  {post : Int32 → St → Prop} (hD : va_D A (rW ad cy I)) (h : wp_X8_save I  post) {Qc : Array Value → State → Outcome → State → Prop} (hQ : ∀ (a : Array Value) (s0 t : State) (r : Int32) (I' : St), post r I' → wPost (dC, dI) A (rW ad cy I') t → va_F A s0 t → Qc a s0 (.returned (some (.int r))) t) : Met l yX8_save wsX8_save rmX8_save (va_Pc [.ref (ad 40)] (wPre (dC, dI) cy A (rW ad cy I))) Qc 0 0 A := by
  refine Met.ofW (cc := cX8_save) (maxL := 1) (ret := (some .int)) (by decide) rfl ?_
  intro p e s m args below meth c s₁ B hml hv
  obtain ⟨rfl, hP, hK, hN, hA⟩ := hv
  have hx := B.exec
  have hb := B.bytes
  have hr := B.returns
  have hts := atoms_spec (ws := wsX8_save) B.pre
  have hown : s.vm.findClass RX8 = some m.cls := findClass_of_methodNamed B.named
  have hlocks := B.notSynchronized
  have hS : va_S A s.heap s.heap [] := va_S.rf
  unfold wp_X8_save at h
  have hl := lv_entry ([.ref (ad 40)]) (n := 1) (Nat.le_of_ble_eq_true rfl)
  rw [lg_entry_eq]
  generalize (lg_sl ([.ref (ad 40)]) ++ List.replicate (1 - (lg_sl ([.ref (ad 40)])).length) Slot.unset).toArray = ls at hl ⊢
  have hl : lv_has ls 1 [(0, .ref (ad 40))] := hl
  refine lv_aload_n hx hb dX8_save_0 rfl (lv_at hl 0 rfl) ?_
  refine va_calli (va_runV (As := []) (rest := []) ⟨hx, hb, hml, hown, hts⟩ (m_X8_saves l dC dI cy ad A I  hD h) (cwV 0 hts gX8_save_X8_saves rfl rfl rfl (by decide +kernel) ⟨Nat.le_of_ble_eq_true rfl, Nat.le_of_ble_eq_true rfl⟩) ⟨wPre.blind, va_recv hK hP (ci := 8) (q0 := 0) rfl rG_o, wPre.at hP hK hN hS hA⟩ rfl rfl hl.1 rfl (lv_room (Nat.le_of_ble_eq_true rfl)) dX8_save_1 ⟨by first | exact Nat.le_of_ble_eq_true rfl | (show _ ≤ 0; omega), by first | exact Nat.le_of_ble_eq_true rfl | (show _ ≤ 0; omega)⟩) hS (fun q _ h => h) (fun q h => h) (fun r1 u t H locs ht hvm hw hB hz1 hk1 hS => ?_)
  obtain ⟨I2, rfl⟩ : ∃ z : St, z = u := ⟨_, rfl⟩
  obtain ⟨hP, hD⟩ := hB; rw [ht] at hP; replace h := hw; try dsimp only at h hP hD
  exact W.iret (v := r1) hx hb hr (fun t ht hW => hQ _ _ t r1 I2 h ⟨by rw [ht]; exact hP, hD⟩ (hS.F ht)) hS.2.2 dX8_save_4
theorem m_X8_save (l : Launch) (dC : Nat → ClassId) (dI : Nat → Nat → Nat) (cy : Nat → ClassId) (ad : Nat → Nat) (A : Nat → Prop) (I : St)  {post : Int32 → St → Prop} (hD : va_D A (rW ad cy I)) (h : wp_X8_save I  post) : Met l yX8_save wsX8_save rmX8_save (va_Pc [.ref (ad 40)] (wPre (dC, dI) cy A (rW ad cy I))) (va_Qi (fun r (u : St) => post r u) (fun (u : St) t => wPost (dC, dI) A (rW ad cy u) t) A) 0 0 A := g_X8_save l dC dI cy ad A I  hD h (fun a s0 t r I' h1 h2 h3 => ⟨⟨r, I', rfl, h1, h2⟩, h3⟩)
abbrev rmX8_toAck : Room := { frames := 0, cells := 0, slots := 0, locals := 0 }
set_option maxHeartbeats 4000000 in
set_option maxRecDepth 100000 in
theorem g_X8_toAck (l : Launch) (dC : Nat → ClassId) (dI : Nat → Nat → Nat) (cy : Nat → ClassId) (ad : Nat → Nat) (A : Nat → Prop) (I : St)  {post : Int32 → St → Prop} (hD : va_D A (rW ad cy I)) (h : wp_X8_toAck I  post) {Qc : Array Value → State → Outcome → State → Prop} (hQ : ∀ (a : Array Value) (s0 t : State) (r : Int32) (I' : St), post r I' → wPost (dC, dI) A (rW ad cy I') t → va_F A s0 t → Qc a s0 (.returned (some (.int r))) t) : Met l yX8_toAck wsX8_toAck rmX8_toAck (va_Pc [.ref (ad 40)] (wPre (dC, dI) cy A (rW ad cy I))) Qc 0 0 A := by
  refine Met.ofW (cc := cX8_toAck) (maxL := 2) (ret := (some .int)) (by decide) rfl ?_
  intro p e s m args below meth c s₁ B hml hv
  obtain ⟨rfl, hP, hK, hN, hA⟩ := hv
  have hx := B.exec
  have hb := B.bytes
  have hr := B.returns
  have hts := atoms_spec (ws := wsX8_toAck) B.pre
  have hown : s.vm.findClass RX8 = some m.cls := findClass_of_methodNamed B.named
  have hlocks := B.notSynchronized
  have hinX8 : ∀ w ∈ wsX80, w ∈ wsX8_toAck := fun _ h9 => List.mem_cons_of_mem _ (List.mem_append_right _ h9)
  have hS : va_S A s.heap s.heap [] := va_S.rf
  unfold wp_X8_toAck at h
  have hl := lv_entry ([.ref (ad 40)]) (n := 2) (Nat.le_of_ble_eq_true rfl)
  rw [lg_entry_eq]
  generalize (lg_sl ([.ref (ad 40)]) ++ List.replicate (2 - (lg_sl ([.ref (ad 40)])).length) Slot.unset).toArray = ls at hl ⊢
  have hl : lv_has ls 2 [(0, .ref (ad 40))] := hl
  refine lv_iconst (v := 0) hx hb dX8_toAck_0 (by decide) ?_
  refine lv_istore_n (lv' := [(1, .int 0), (0, .ref (ad 40))]) hx hb dX8_toAck_1 rfl hl (by decide) rfl (fun ls hl => ?_)
  obtain ⟨V1, ⟨n20, hV0⟩, hstepn2⟩ := h
  have hlpn2 : ∀ (n2 : Nat) (x3 : Int32) (I4 : St) (H : Heap) (locs : List Loc), va_P (dC, dI) vwCl (rW ad cy I4) H → va_D A (rW ad cy I4) → va_S A s.heap H locs → ∀ ls : Array Slot, lv_has ls 2 [(0, .ref (ad 40)), (1, .int x3)] → V1 n2 x3 I4 → W p l e (headSpec wsX8_toAck rmX8_toAck).room s m ([.ref (ad 40)] : List Value).toArray below meth c H locs 0 0 (MQ below Qc ([.ref (ad 40)] : List Value).toArray s 0 0 A) (F0 m 2 ls []) := by
    intro n2
    induction n2 using Nat.strongRecOn with
    | _ n2 ihn2 =>
      intro x3 I4 H locs hP hD hS ls hl hV
      have h := hstepn2 n2 x3 I4 hV
      refine lv_iload_n hx hb dX8_toAck_2 rfl (lv_at hl 1 rfl) ?_
      refine lv_sipush (v := 400) hx hb dX8_toAck_3 (by decide) ?_
      refine lv_icmp_ge (tgt := 24) hx hb dX8_toAck_6 (by decide) (fun hc => ?_) (fun hc => ?_)
      · have h := h.1 hc
        refine lv_iload_n hx hb dX8_toAck_24 rfl (lv_at hl 1 rfl) ?_
        exact W.iret (v := x3) hx hb hr (fun t ht hW => hQ _ _ t x3 I4 h ⟨by rw [ht]; exact hP, hD⟩ (hS.F ht)) hS.2.2 dX8_toAck_25
      · have h := h.2 hc
        refine lv_aload_n hx hb dX8_toAck_9 rfl (lv_at hl 0 rfl) ?_
        refine va_get (D := (dC, dI)) (ci := 8) (v := .ref (ad 24)) (C := RX8) (T := TX8) (N := 35) hx hb hts hinX8 hown hK hP 0 rG_o rfl 24 (by decide) (hts (.fieldLink RX8 68 "OutboxHouseModel" "hasDisk" "[Z") (by decide +kernel)) (fun _ h9 => h9) rfl dX8_toAck_10 ?_
        refine lv_iload_n hx hb dX8_toAck_13 rfl (lv_at hl 1 rfl) ?_
        have hv := h.1; replace h := h.2
        refine va_zald hx hb hK hP 20 1 rG_24 rfl hv dX8_toAck_14 ?_
        refine lv_if_eq (tgt := 24) hx hb dX8_toAck_15 (by decide) (fun hc => ?_) (fun hc => ?_)
        · have h := h.1 hc
          refine lv_iload_n hx hb dX8_toAck_24 rfl (lv_at hl 1 rfl) ?_
          exact W.iret (v := x3) hx hb hr (fun t ht hW => hQ _ _ t x3 I4 h ⟨by rw [ht]; exact hP, hD⟩ (hS.F ht)) hS.2.2 dX8_toAck_25
        · have h := h.2 hc
          refine lv_iinc (v := x3 + 1) (lv' := [(1, .int (x3 + 1)), (0, .ref (ad 40))]) hx hb dX8_toAck_18 hl (k := 1) rfl rfl (by decide) rfl (fun ls hl => ?_)
          refine lv_goto (tgt := 2) hx hb dX8_toAck_21 (by decide) ?_
          obtain ⟨n5, hlt, hV⟩ := h
          exact ihn2 n5 hlt _ _ _ _ hP hD hS ls (lv_sub hl [1, 0] rfl) hV
  exact hlpn2 n20 _ _ _ _ hP hD hS ls (lv_sub hl [1, 0] rfl) hV0
theorem m_X8_toAck (l : Launch) (dC : Nat → ClassId) (dI : Nat → Nat → Nat) (cy : Nat → ClassId) (ad : Nat → Nat) (A : Nat → Prop) (I : St)  {post : Int32 → St → Prop} (hD : va_D A (rW ad cy I)) (h : wp_X8_toAck I  post) : Met l yX8_toAck wsX8_toAck rmX8_toAck (va_Pc [.ref (ad 40)] (wPre (dC, dI) cy A (rW ad cy I))) (va_Qi (fun r (u : St) => post r u) (fun (u : St) t => wPost (dC, dI) A (rW ad cy u) t) A) 0 0 A := g_X8_toAck l dC dI cy ad A I  hD h (fun a s0 t r I' h1 h2 h3 => ⟨⟨r, I', rfl, h1, h2⟩, h3⟩)
abbrev rmX8_acks : Room := { frames := 1, cells := 0, slots := 0, locals := 21 }
set_option maxHeartbeats 4000000 in
set_option maxRecDepth 100000 in
theorem g_X8_acks (l : Launch) (dC : Nat → ClassId) (dI : Nat → Nat → Nat) (cy : Nat → ClassId) (ad : Nat → Nat) (A : Nat → Prop) (I : St) (p1 : Int32) {post : Int32 → St → Prop} (hD : va_D A (rW ad cy I)) (h : wp_X8_acks I p1 post) {Qc : Array Value → State → Outcome → State → Prop} (hQ : ∀ (a : Array Value) (s0 t : State) (r : Int32) (I' : St), post r I' → wPost (dC, dI) A (rW ad cy I') t → va_F A s0 t → Qc a s0 (.returned (some (.int r))) t) : Met l yX8_acks wsX8_acks rmX8_acks (va_Pc [.ref (ad 40), .int p1] (wPre (dC, dI) cy A (rW ad cy I))) Qc 0 0 A := by
  refine Met.ofW (cc := cX8_acks) (maxL := 3) (ret := (some .int)) (by decide) rfl ?_
  intro p e s m args below meth c s₁ B hml hv
  obtain ⟨rfl, hP, hK, hN, hA⟩ := hv
  have hx := B.exec
  have hb := B.bytes
  have hr := B.returns
  have hts := atoms_spec (ws := wsX8_acks) B.pre
  have hown : s.vm.findClass RX8 = some m.cls := findClass_of_methodNamed B.named
  have hlocks := B.notSynchronized
  have hinX8 : ∀ w ∈ wsX80, w ∈ wsX8_acks := fun _ h9 => List.mem_cons_of_mem _ (List.mem_append_right _ h9)
  have hS : va_S A s.heap s.heap [] := va_S.rf
  unfold wp_X8_acks at h
  have hl := lv_entry ([.ref (ad 40), .int p1]) (n := 3) (Nat.le_of_ble_eq_true rfl)
  rw [lg_entry_eq]
  generalize (lg_sl ([.ref (ad 40), .int p1]) ++ List.replicate (3 - (lg_sl ([.ref (ad 40), .int p1])).length) Slot.unset).toArray = ls at hl ⊢
  have hl : lv_has ls 3 [(0, .ref (ad 40)), (1, .int p1)] := hl
  refine lv_aload_n hx hb dX8_acks_0 rfl (lv_at hl 0 rfl) ?_
  refine va_calli (va_runV (As := []) (rest := []) ⟨hx, hb, hml, hown, hts⟩ (m_X8_toAck l dC dI cy ad A I  hD h) (cwV 0 hts gX8_acks_X8_toAck rfl rfl rfl (by decide +kernel) ⟨Nat.le_of_ble_eq_true rfl, Nat.le_of_ble_eq_true rfl⟩) ⟨wPre.blind, va_recv hK hP (ci := 8) (q0 := 0) rfl rG_o, wPre.at hP hK hN hS hA⟩ rfl rfl hl.1 rfl (lv_room (Nat.le_of_ble_eq_true rfl)) dX8_acks_1 ⟨by first | exact Nat.le_of_ble_eq_true rfl | (show _ ≤ 0; omega), by first | exact Nat.le_of_ble_eq_true rfl | (show _ ≤ 0; omega)⟩) hS (fun q _ h => h) (fun q h => h) (fun r1 u t H locs ht hvm hw hB hz1 hk1 hS => ?_)
  obtain ⟨I2, rfl⟩ : ∃ z : St, z = u := ⟨_, rfl⟩
  obtain ⟨hP, hD⟩ := hB; rw [ht] at hP; replace h := hw; try dsimp only at h hP hD
  refine lv_istore_n (lv' := [(2, .int r1), (0, .ref (ad 40)), (1, .int p1)]) hx hb dX8_acks_4 rfl hl (by decide) rfl (fun ls hl => ?_)
  refine lv_iload_n hx hb dX8_acks_5 rfl (lv_at hl 2 rfl) ?_
  refine lv_if_eq (tgt := 48) hx hb dX8_acks_6 (by decide) (fun hc => ?_) (fun hc => ?_)
  · have h := h.1 hc
    refine lv_iload_n hx hb dX8_acks_48 rfl (lv_at hl 0 rfl) ?_
    exact W.iret (v := r1) hx hb hr (fun t ht hW => hQ _ _ t r1 I2 h ⟨by rw [ht]; exact hP, hD⟩ (hS.F ht)) hS.2.2 dX8_acks_49
  · have h := h.2 hc
    refine lv_iload_n hx hb dX8_acks_9 rfl (lv_at hl 0 rfl) ?_
    refine lv_aload_n hx hb dX8_acks_10 rfl (lv_at hl 1 rfl) ?_
    refine va_get (D := (dC, dI)) (ci := 8) (v := .int (I2 13 0)) (C := RX8) (T := TX8) (N := 35) hx hb hts hinX8 hown hK hP 0 rG_o rfl 13 (by decide) (hts (.fieldLink RX8 128 "OutboxHouseModel" "mark" "I") (by decide +kernel)) (fun _ h9 => h9) rfl dX8_acks_11 ?_
    refine lv_icmp_le (tgt := 48) hx hb dX8_acks_14 (by decide) (fun hc => ?_) (fun hc => ?_)
    · have h := h.1 hc
      refine lv_iload_n hx hb dX8_acks_48 rfl (lv_at hl 0 rfl) ?_
      exact W.iret (v := r1) hx hb hr (fun t ht hW => hQ _ _ t r1 I2 h ⟨by rw [ht]; exact hP, hD⟩ (hS.F ht)) hS.2.2 dX8_acks_49
    · have h := h.2 hc
      refine lv_aload_n hx hb dX8_acks_17 rfl (lv_at hl 1 rfl) ?_
      refine lv_iload_n hx hb dX8_acks_18 rfl (lv_at hl 0 rfl) ?_
      refine va_put (D := (dC, dI)) (ci := 8) (v := .int r1) (ty := .int) (C := RX8) (T := TX8) (N := 35) hx hb hts hinX8 tyX8 tyX8_ok nmX8 hown hK hP hD hS 0 rG_o rfl 13 (by decide) (hts (.fieldLink RX8 128 "OutboxHouseModel" "mark" "I") (by decide +kernel)) (fun _ h9 => h9) rfl (by decide +kernel) rfl rfl (Nat.le_of_ble_eq_true rfl) dX8_acks_19 (fun H locs hP hD hS => ?_)
      obtain ⟨I3, hI3⟩ : ∃ z : St, z = st I2 13 0 r1 := ⟨_, rfl⟩
      replace hP := wP (rE_13 hI3) hP; replace hD := wD (rE_13 hI3) hD; replace h := h _ hI3
      refine lv_aload_n hx hb dX8_acks_22 rfl (lv_at hl 1 rfl) ?_
      refine lv_aload_n hx hb dX8_acks_23 rfl (lv_at hl 1 rfl) ?_
      refine va_get (D := (dC, dI)) (ci := 8) (v := .int (I3 12 0)) (C := RX8) (T := TX8) (N := 35) hx hb hts hinX8 hown hK hP 0 rG_o rfl 12 (by decide) (hts (.fieldLink RX8 125 "OutboxHouseModel" "position" "I") (by decide +kernel)) (fun _ h9 => h9) rfl dX8_acks_24 ?_
      refine lv_aload_n hx hb dX8_acks_27 rfl (lv_at hl 1 rfl) ?_
      refine va_get (D := (dC, dI)) (ci := 8) (v := .int (I3 13 0)) (C := RX8) (T := TX8) (N := 35) hx hb hts hinX8 hown hK hP 0 rG_o rfl 13 (by decide) (hts (.fieldLink RX8 128 "OutboxHouseModel" "mark" "I") (by decide +kernel)) (fun _ h9 => h9) rfl dX8_acks_28 ?_
      refine lv_icmp_ge (tgt := 41) hx hb dX8_acks_31 (by decide) (fun hc => ?_) (fun hc => ?_)
      · have h := h.1 hc
        refine lv_aload_n hx hb dX8_acks_41 rfl (lv_at hl 1 rfl) ?_
        refine va_get (D := (dC, dI)) (ci := 8) (v := .int (I3 12 0)) (C := RX8) (T := TX8) (N := 35) hx hb hts hinX8 hown hK hP 0 rG_o rfl 12 (by decide) (hts (.fieldLink RX8 125 "OutboxHouseModel" "position" "I") (by decide +kernel)) (fun _ h9 => h9) rfl dX8_acks_42 ?_
        refine va_put (D := (dC, dI)) (ci := 8) (v := .int (I3 12 0)) (ty := .int) (C := RX8) (T := TX8) (N := 35) hx hb hts hinX8 tyX8 tyX8_ok nmX8 hown hK hP hD hS 0 rG_o rfl 12 (by decide) (hts (.fieldLink RX8 125 "OutboxHouseModel" "position" "I") (by decide +kernel)) (fun _ h9 => h9) rfl (by decide +kernel) rfl rfl (Nat.le_of_ble_eq_true rfl) dX8_acks_45 (fun H locs hP hD hS => ?_)
        obtain ⟨I4, hI4⟩ : ∃ z : St, z = st I3 12 0 (I3 12 0) := ⟨_, rfl⟩
        replace hP := wP (rE_12 hI4) hP; replace hD := wD (rE_12 hI4) hD; replace h := h _ hI4
        refine lv_iload_n hx hb dX8_acks_48 rfl (lv_at hl 0 rfl) ?_
        exact W.iret (v := r1) hx hb hr (fun t ht hW => hQ _ _ t r1 I4 h ⟨by rw [ht]; exact hP, hD⟩ (hS.F ht)) hS.2.2 dX8_acks_49
      · have h := h.2 hc
        refine lv_aload_n hx hb dX8_acks_34 rfl (lv_at hl 1 rfl) ?_
        refine va_get (D := (dC, dI)) (ci := 8) (v := .int (I3 13 0)) (C := RX8) (T := TX8) (N := 35) hx hb hts hinX8 hown hK hP 0 rG_o rfl 13 (by decide) (hts (.fieldLink RX8 128 "OutboxHouseModel" "mark" "I") (by decide +kernel)) (fun _ h9 => h9) rfl dX8_acks_35 ?_
        refine lv_goto (tgt := 45) hx hb dX8_acks_38 (by decide) ?_
        refine va_put (D := (dC, dI)) (ci := 8) (v := .int (I3 13 0)) (ty := .int) (C := RX8) (T := TX8) (N := 35) hx hb hts hinX8 tyX8 tyX8_ok nmX8 hown hK hP hD hS 0 rG_o rfl 12 (by decide) (hts (.fieldLink RX8 125 "OutboxHouseModel" "position" "I") (by decide +kernel)) (fun _ h9 => h9) rfl (by decide +kernel) rfl rfl (Nat.le_of_ble_eq_true rfl) dX8_acks_45 (fun H locs hP hD hS => ?_)
        obtain ⟨I5, hI5⟩ : ∃ z : St, z = st I3 12 0 (I3 13 0) := ⟨_, rfl⟩
        replace hP := wP (rE_12 hI5) hP; replace hD := wD (rE_12 hI5) hD; replace h := h _ hI5
        refine lv_iload_n hx hb dX8_acks_48 rfl (lv_at hl 0 rfl) ?_
        exact W.iret (v := r1) hx hb hr (fun t ht hW => hQ _ _ t r1 I5 h ⟨by rw [ht]; exact hP, hD⟩ (hS.F ht)) hS.2.2 dX8_acks_49
theorem m_X8_acks (l : Launch) (dC : Nat → ClassId) (dI : Nat → Nat → Nat) (cy : Nat → ClassId) (ad : Nat → Nat) (A : Nat → Prop) (I : St) (p1 : Int32) {post : Int32 → St → Prop} (hD : va_D A (rW ad cy I)) (h : wp_X8_acks I p1 post) : Met l yX8_acks wsX8_acks rmX8_acks (va_Pc [.ref (ad 40), .int p1] (wPre (dC, dI) cy A (rW ad cy I))) (va_Qi (fun r (u : St) => post r u) (fun (u : St) t => wPost (dC, dI) A (rW ad cy u) t) A) 0 0 A := g_X8_acks l dC dI cy ad A I p1 hD h (fun a s0 t r I' h1 h2 h3 => ⟨⟨r, I', rfl, h1, h2⟩, h3⟩)
abbrev rmX8_ack : Room := { frames := 2, cells := 0, slots := 0, locals := 43 }
set_option maxHeartbeats 4000000 in
set_option maxRecDepth 100000 in
theorem g_X8_ack (l : Launch) (dC : Nat → ClassId) (dI : Nat → Nat → Nat) (cy : Nat → ClassId) (ad : Nat → Nat) (A : Nat → Prop) (I : St) (p1 : Int32) {post : Int32 → St → Prop} (hD : va_D A (rW ad cy I)) (h : wp_X8_ack I p1 post) {Qc : Array Value → State → Outcome → State → Prop} (hQ : ∀ (a : Array Value) (s0 t : State) (r : Int32) (I' : St), post r I' → wPost (dC, dI) A (rW ad cy I') t → va_F A s0 t → Qc a s0 (.returned (some (.int r))) t) : Met l yX8_ack wsX8_ack rmX8_ack (va_Pc [.ref (ad 40), .int p1] (wPre (dC, dI) cy A (rW ad cy I))) Qc 0 0 A := by
  refine Met.ofW (cc := cX8_ack) (maxL := 2) (ret := (some .int)) (by decide) rfl ?_
  intro p e s m args below meth c s₁ B hml hv
  obtain ⟨rfl, hP, hK, hN, hA⟩ := hv
  have hx := B.exec
  have hb := B.bytes
  have hr := B.returns
  have hts := atoms_spec (ws := wsX8_ack) B.pre
  have hown : s.vm.findClass RX8 = some m.cls := findClass_of_methodNamed B.named
  have hlocks := B.notSynchronized
  have hS : va_S A s.heap s.heap [] := va_S.rf
  unfold wp_X8_ack at h
  have hl := lv_entry ([.ref (ad 40), .int p1]) (n := 2) (Nat.le_of_ble_eq_true rfl)
  rw [lg_entry_eq]
  generalize (lg_sl ([.ref (ad 40), .int p1]) ++ List.replicate (2 - (lg_sl ([.ref (ad 40), .int p1])).length) Slot.unset).toArray = ls at hl ⊢
  have hl : lv_has ls 2 [(0, .ref (ad 40)), (1, .int p1)] := hl
  refine lv_aload_n hx hb dX8_ack_0 rfl (lv_at hl 0 rfl) ?_
  refine lv_iload_n hx hb dX8_ack_1 rfl (lv_at hl 1 rfl) ?_
  refine va_calli (va_runV (As := [.int p1]) (rest := []) ⟨hx, hb, hml, hown, hts⟩ (m_X8_acks l dC dI cy ad A I p1 hD h) (cwV 1 hts gX8_ack_X8_acks rfl rfl rfl (by decide +kernel) ⟨Nat.le_of_ble_eq_true rfl, Nat.le_of_ble_eq_true rfl⟩) ⟨wPre.blind, va_recv hK hP (ci := 8) (q0 := 0) rfl rG_o, wPre.at hP hK hN hS hA⟩ rfl rfl hl.1 rfl (lv_room (Nat.le_of_ble_eq_true rfl)) dX8_ack_2 ⟨by first | exact Nat.le_of_ble_eq_true rfl | (show _ ≤ 0; omega), by first | exact Nat.le_of_ble_eq_true rfl | (show _ ≤ 0; omega)⟩) hS (fun q _ h => h) (fun q h => h) (fun r1 u t H locs ht hvm hw hB hz1 hk1 hS => ?_)
  obtain ⟨I2, rfl⟩ : ∃ z : St, z = u := ⟨_, rfl⟩
  obtain ⟨hP, hD⟩ := hB; rw [ht] at hP; replace h := hw; try dsimp only at h hP hD
  exact W.iret (v := r1) hx hb hr (fun t ht hW => hQ _ _ t r1 I2 h ⟨by rw [ht]; exact hP, hD⟩ (hS.F ht)) hS.2.2 dX8_ack_5
theorem m_X8_ack (l : Launch) (dC : Nat → ClassId) (dI : Nat → Nat → Nat) (cy : Nat → ClassId) (ad : Nat → Nat) (A : Nat → Prop) (I : St) (p1 : Int32) {post : Int32 → St → Prop} (hD : va_D A (rW ad cy I)) (h : wp_X8_ack I p1 post) : Met l yX8_ack wsX8_ack rmX8_ack (va_Pc [.ref (ad 40), .int p1] (wPre (dC, dI) cy A (rW ad cy I))) (va_Qi (fun r (u : St) => post r u) (fun (u : St) t => wPost (dC, dI) A (rW ad cy u) t) A) 0 0 A := g_X8_ack l dC dI cy ad A I p1 hD h (fun a s0 t r I' h1 h2 h3 => ⟨⟨r, I', rfl, h1, h2⟩, h3⟩)
abbrev rmX8_flow : Room := { frames := 3, cells := 0, slots := 0, locals := 76 }
set_option maxHeartbeats 4000000 in
set_option maxRecDepth 100000 in
theorem g_X8_flow (l : Launch) (dC : Nat → ClassId) (dI : Nat → Nat → Nat) (cy : Nat → ClassId) (ad : Nat → Nat) (A : Nat → Prop) (I : St) (p1 : Int32) {post : Int32 → St → Prop} (hD : va_D A (rW ad cy I)) (h : wp_X8_flow I p1 post) {Qc : Array Value → State → Outcome → State → Prop} (hQ : ∀ (a : Array Value) (s0 t : State) (r : Int32) (I' : St), post r I' → wPost (dC, dI) A (rW ad cy I') t → va_F A s0 t → Qc a s0 (.returned (some (.int r))) t) : Met l yX8_flow wsX8_flow rmX8_flow (va_Pc [.ref (ad 40), .int p1] (wPre (dC, dI) cy A (rW ad cy I))) Qc 0 0 A := by
  refine Met.ofW (cc := cX8_flow) (maxL := 7) (ret := (some .int)) (by decide) rfl ?_
  intro p e s m args below meth c s₁ B hml hv
  obtain ⟨rfl, hP, hK, hN, hA⟩ := hv
  have hx := B.exec
  have hb := B.bytes
  have hr := B.returns
  have hts := atoms_spec (ws := wsX8_flow) B.pre
  have hown : s.vm.findClass RX8 = some m.cls := findClass_of_methodNamed B.named
  have hlocks := B.notSynchronized
  have hinX8 : ∀ w ∈ wsX80, w ∈ wsX8_flow := fun _ h9 => List.mem_cons_of_mem _ (List.mem_append_right _ h9)
  have hS : va_S A s.heap s.heap [] := va_S.rf
  unfold wp_X8_flow at h
  have hl := lv_entry ([.ref (ad 40), .int p1]) (n := 7) (Nat.le_of_ble_eq_true rfl)
  rw [lg_entry_eq]
  generalize (lg_sl ([.ref (ad 40), .int p1]) ++ List.replicate (7 - (lg_sl ([.ref (ad 40), .int p1])).length) Slot.unset).toArray = ls at hl ⊢
  have hl : lv_has ls 7 [(0, .ref (ad 40)), (1, .int p1)] := hl
  refine lv_iload_n hx hb dX8_flow_0 rfl (lv_at hl 1 rfl) ?_
  refine lv_iconst (v := 1) hx hb dX8_flow_1 (by decide) ?_
  refine lv_bipush (v := 10) hx hb dX8_flow_2 (by decide) ?_
  refine va_calli (va_runS (As := [.int p1, .int 1, .int 10]) (rest := []) ⟨hx, hb, hml, hown, hts⟩ (m_X8_in l dC dI cy ad A I p1 1 10 hD h) (va_cwS 3 hts gX8_flow_X8_in rfl rfl rfl (by decide +kernel) ⟨Nat.le_of_ble_eq_true rfl, Nat.le_of_ble_eq_true rfl⟩) ⟨wPre.blind, wPre.at hP hK hN hS hA⟩ rfl rfl hl.1 rfl (lv_room (Nat.le_of_ble_eq_true rfl)) dX8_flow_4 ⟨by first | exact Nat.le_of_ble_eq_true rfl | (show _ ≤ 0; omega), by first | exact Nat.le_of_ble_eq_true rfl | (show _ ≤ 0; omega)⟩) hS (fun q _ h => h) (fun q h => h) (fun r1 u t H locs ht hvm hw hB hz1 hk1 hS => ?_)
  obtain ⟨I2, rfl⟩ : ∃ z : St, z = u := ⟨_, rfl⟩
  obtain ⟨hP, hD⟩ := hB; rw [ht] at hP; replace h := hw; try dsimp only at h hP hD
  refine lv_if_ne (tgt := 12) hx hb dX8_flow_7 (by decide) (fun hc => ?_) (fun hc => ?_)
  · have h := h.1 hc
    refine lv_aload_n hx hb dX8_flow_12 rfl (lv_at hl 0 rfl) ?_
    refine va_get (D := (dC, dI)) (ci := 8) (v := .int (I2 31 0)) (C := RX8) (T := TX8) (N := 35) hx hb hts hinX8 hown hK hP 0 rG_o rfl 31 (by decide) (hts (.fieldLink RX8 143 "OutboxHouseModel" "doneEver" "I") (by decide +kernel)) (fun _ h9 => h9) rfl dX8_flow_13 ?_
    refine lv_istore_n (lv' := [(2, .int (I2 31 0)), (0, .ref (ad 40)), (1, .int p1)]) hx hb dX8_flow_16 rfl hl (by decide) rfl (fun ls hl => ?_)
    refine lv_iconst (v := 0) hx hb dX8_flow_17 (by decide) ?_
    refine lv_istore_n (lv' := [(3, .int 0), (2, .int (I2 31 0)), (0, .ref (ad 40)), (1, .int p1)]) hx hb dX8_flow_18 rfl hl (by decide) rfl (fun ls hl => ?_)
    obtain ⟨V3, ⟨n40, hV0⟩, hstepn4⟩ := h
    have hlpn4 : ∀ (n4 : Nat) (x5 : Int32) (I6 : St) (H : Heap) (locs : List Loc), va_P (dC, dI) vwCl (rW ad cy I6) H → va_D A (rW ad cy I6) → va_S A s.heap H locs → ∀ ls : Array Slot, lv_has ls 7 [(0, .ref (ad 40)), (1, .int p1), (2, .int (I2 31 0)), (3, .int x5)] → V3 n4 x5 I6 → W p l e (headSpec wsX8_flow rmX8_flow).room s m ([.ref (ad 40), .int p1] : List Value).toArray below meth c H locs 0 0 (MQ below Qc ([.ref (ad 40), .int p1] : List Value).toArray s 0 0 A) (F0 m 19 ls []) := by
      intro n4
      induction n4 using Nat.strongRecOn with
      | _ n4 ihn4 =>
        intro x5 I6 H locs hP hD hS ls hl hV
        have h := hstepn4 n4 x5 I6 hV
        refine lv_iload_n hx hb dX8_flow_19 rfl (lv_at hl 3 rfl) ?_
        refine lv_iload_n hx hb dX8_flow_20 rfl (lv_at hl 1 rfl) ?_
        refine lv_icmp_ge (tgt := 90) hx hb dX8_flow_21 (by decide) (fun hc => ?_) (fun hc => ?_)
        · have h := h.1 hc
          refine lv_aload_n hx hb dX8_flow_90 rfl (lv_at hl 0 rfl) ?_
          refine va_get (D := (dC, dI)) (ci := 8) (v := .int (I6 31 0)) (C := RX8) (T := TX8) (N := 35) hx hb hts hinX8 hown hK hP 0 rG_o rfl 31 (by decide) (hts (.fieldLink RX8 143 "OutboxHouseModel" "doneEver" "I") (by decide +kernel)) (fun _ h9 => h9) rfl dX8_flow_91 ?_
          refine lv_iload_n hx hb dX8_flow_94 rfl (lv_at hl 2 rfl) ?_
          refine lv_isub hx hb dX8_flow_95 ?_
          exact W.iret (v := (I6 31 0) - (I2 31 0)) hx hb hr (fun t ht hW => hQ _ _ t ((I6 31 0) - (I2 31 0)) I6 h ⟨by rw [ht]; exact hP, hD⟩ (hS.F ht)) hS.2.2 dX8_flow_96
        · have h := h.2 hc
          refine lv_iconst (v := 0) hx hb dX8_flow_24 (by decide) ?_
          refine lv_istore (lv' := [(4, .int 0), (0, .ref (ad 40)), (1, .int p1), (2, .int (I2 31 0)), (3, .int x5)]) hx hb dX8_flow_25 hl (by decide) rfl (fun ls hl => ?_)
          obtain ⟨V7, ⟨n80, hV0⟩, hstepn8⟩ := h
          have hlpn8 : ∀ (n8 : Nat) (x9 : Int32) (I10 : St) (H : Heap) (locs : List Loc), va_P (dC, dI) vwCl (rW ad cy I10) H → va_D A (rW ad cy I10) → va_S A s.heap H locs → ∀ ls : Array Slot, lv_has ls 7 [(0, .ref (ad 40)), (1, .int p1), (2, .int (I2 31 0)), (3, .int x5), (4, .int x9)] → V7 n8 x9 I10 → W p l e (headSpec wsX8_flow rmX8_flow).room s m ([.ref (ad 40), .int p1] : List Value).toArray below meth c H locs 0 0 (MQ below Qc ([.ref (ad 40), .int p1] : List Value).toArray s 0 0 A) (F0 m 27 ls []) := by
            intro n8
            induction n8 using Nat.strongRecOn with
            | _ n8 ihn8 =>
              intro x9 I10 H locs hP hD hS ls hl hV
              have h := hstepn8 n8 x9 I10 hV
              refine lv_iload hx hb dX8_flow_27 (lv_at hl 4 rfl) ?_
              refine lv_iconst (v := 3) hx hb dX8_flow_29 (by decide) ?_
              refine lv_icmp_ge (tgt := 62) hx hb dX8_flow_30 (by decide) (fun hc => ?_) (fun hc => ?_)
              · have h := h.1 hc
                refine lv_aload_n hx hb dX8_flow_62 rfl (lv_at hl 0 rfl) ?_
                refine va_calli (va_runV (As := []) (rest := []) ⟨hx, hb, hml, hown, hts⟩ (m_X8_saves l dC dI cy ad A I10  hD h) (cwV 0 hts gX8_flow_X8_saves rfl rfl rfl (by decide +kernel) ⟨Nat.le_of_ble_eq_true rfl, Nat.le_of_ble_eq_true rfl⟩) ⟨wPre.blind, va_recv hK hP (ci := 8) (q0 := 0) rfl rG_o, wPre.at hP hK hN hS hA⟩ rfl rfl hl.1 rfl (lv_room (Nat.le_of_ble_eq_true rfl)) dX8_flow_63 ⟨by first | exact Nat.le_of_ble_eq_true rfl | (show _ ≤ 0; omega), by first | exact Nat.le_of_ble_eq_true rfl | (show _ ≤ 0; omega)⟩) hS (fun q _ h => h) (fun q h => h) (fun r11 u t H locs ht hvm hw hB hz1 hk1 hS => ?_)
                obtain ⟨I12, rfl⟩ : ∃ z : St, z = u := ⟨_, rfl⟩
                obtain ⟨hP, hD⟩ := hB; rw [ht] at hP; replace h := hw; try dsimp only at h hP hD
                refine lv_istore (lv' := [(4, .int r11), (0, .ref (ad 40)), (1, .int p1), (2, .int (I2 31 0)), (3, .int x5)]) hx hb dX8_flow_66 hl (by decide) rfl (fun ls hl => ?_)
                refine lv_aload_n hx hb dX8_flow_68 rfl (lv_at hl 1 rfl) ?_
                refine lv_iconst (v := 1) hx hb dX8_flow_69 (by decide) ?_
                refine va_calli (va_runV (As := [.int 1]) (rest := []) ⟨hx, hb, hml, hown, hts⟩ (m_X8_acks l dC dI cy ad A I12 1 hD h) (cwV 1 hts gX8_flow_X8_acks rfl rfl rfl (by decide +kernel) ⟨Nat.le_of_ble_eq_true rfl, Nat.le_of_ble_eq_true rfl⟩) ⟨wPre.blind, va_recv hK hP (ci := 8) (q0 := 0) rfl rG_o, wPre.at hP hK hN hS hA⟩ rfl rfl hl.1 rfl (lv_room (Nat.le_of_ble_eq_true rfl)) dX8_flow_70 ⟨by first | exact Nat.le_of_ble_eq_true rfl | (show _ ≤ 0; omega), by first | exact Nat.le_of_ble_eq_true rfl | (show _ ≤ 0; omega)⟩) hS (fun q _ h => h) (fun q h => h) (fun r13 u t H locs ht hvm hw hB hz1 hk1 hS => ?_)
                obtain ⟨I14, rfl⟩ : ∃ z : St, z = u := ⟨_, rfl⟩
                obtain ⟨hP, hD⟩ := hB; rw [ht] at hP; replace h := hw; try dsimp only at h hP hD
                refine lv_istore (lv' := [(5, .int r13), (4, .int r11), (0, .ref (ad 40)), (1, .int p1), (2, .int (I2 31 0)), (3, .int x5)]) hx hb dX8_flow_73 hl (by decide) rfl (fun ls hl => ?_)
                refine lv_aload_n hx hb dX8_flow_75 rfl (lv_at hl 2 rfl) ?_
                refine lv_sipush (v := 400) hx hb dX8_flow_76 (by decide) ?_
                refine va_calli (va_runV (As := [.int 400]) (rest := []) ⟨hx, hb, hml, hown, hts⟩ (m_X8_relays l dC dI cy ad A I14 400 hD h) (cwV 1 hts gX8_flow_X8_relays rfl rfl rfl (by decide +kernel) ⟨Nat.le_of_ble_eq_true rfl, Nat.le_of_ble_eq_true rfl⟩) ⟨wPre.blind, va_recv hK hP (ci := 8) (q0 := 0) rfl rG_o, wPre.at hP hK hN hS hA⟩ rfl rfl hl.1 rfl (lv_room (Nat.le_of_ble_eq_true rfl)) dX8_flow_79 ⟨by first | exact Nat.le_of_ble_eq_true rfl | (show _ ≤ 0; omega), by first | exact Nat.le_of_ble_eq_true rfl | (show _ ≤ 0; omega)⟩) hS (fun q _ h => h) (fun q h => h) (fun r15 u t H locs ht hvm hw hB hz1 hk1 hS => ?_)
                obtain ⟨I16, rfl⟩ : ∃ z : St, z = u := ⟨_, rfl⟩
                obtain ⟨hP, hD⟩ := hB; rw [ht] at hP; replace h := hw; try dsimp only at h hP hD
                refine lv_istore (lv' := [(6, .int r15), (5, .int r13), (4, .int r11), (0, .ref (ad 40)), (1, .int p1), (2, .int (I2 31 0)), (3, .int x5)]) hx hb dX8_flow_82 hl (by decide) rfl (fun ls hl => ?_)
                refine lv_iinc (v := x5 + 1) (lv' := [(3, .int (x5 + 1)), (6, .int r15), (5, .int r13), (4, .int r11), (0, .ref (ad 40)), (1, .int p1), (2, .int (I2 31 0))]) hx hb dX8_flow_84 hl (k := 6) rfl rfl (by decide) rfl (fun ls hl => ?_)
                refine lv_goto (tgt := 19) hx hb dX8_flow_87 (by decide) ?_
                obtain ⟨n17, hlt, hV⟩ := h
                exact ihn4 n17 hlt _ _ _ _ hP hD hS ls (lv_sub hl [4, 5, 6, 0] rfl) hV
              · have h := h.2 hc
                obtain ⟨V18, ⟨n190, hV0⟩, hstepn19⟩ := h
                have hlpn19 : ∀ (n19 : Nat) (I20 : St) (H : Heap) (locs : List Loc), va_P (dC, dI) vwCl (rW ad cy I20) H → va_D A (rW ad cy I20) → va_S A s.heap H locs → ∀ ls : Array Slot, lv_has ls 7 [(0, .ref (ad 40)), (1, .int p1), (2, .int (I2 31 0)), (3, .int x5), (4, .int x9)] → V18 n19 I20 → W p l e (headSpec wsX8_flow rmX8_flow).room s m ([.ref (ad 40), .int p1] : List Value).toArray below meth c H locs 0 0 (MQ below Qc ([.ref (ad 40), .int p1] : List Value).toArray s 0 0 A) (F0 m 33 ls []) := by
                  intro n19
                  induction n19 using Nat.strongRecOn with
                  | _ n19 ihn19 =>
                    intro I20 H locs hP hD hS ls hl hV
                    have h := hstepn19 n19 I20 hV
                    refine lv_aload_n hx hb dX8_flow_33 rfl (lv_at hl 0 rfl) ?_
                    refine va_get (D := (dC, dI)) (ci := 8) (v := .ref (ad 14)) (C := RX8) (T := TX8) (N := 35) hx hb hts hinX8 hown hK hP 0 rG_o rfl 14 (by decide) (hts (.fieldLink RX8 38 "OutboxHouseModel" "letters" "[I") (by decide +kernel)) (fun _ h9 => h9) rfl dX8_flow_34 ?_
                    refine lv_iload hx hb dX8_flow_37 (lv_at hl 4 rfl) ?_
                    have hv := h.1; replace h := h.2
                    refine va_iald hx hb hK hP 10 0 rG_14 rfl hv dX8_flow_39 ?_
                    refine lv_if_le (tgt := 56) hx hb dX8_flow_40 (by decide) (fun hc => ?_) (fun hc => ?_)
                    · have h := h.1 hc
                      refine lv_iinc (v := x9 + 1) (lv' := [(4, .int (x9 + 1)), (0, .ref (ad 40)), (1, .int p1), (2, .int (I2 31 0)), (3, .int x5)]) hx hb dX8_flow_56 hl (k := 4) rfl rfl (by decide) rfl (fun ls hl => ?_)
                      refine lv_goto (tgt := 27) hx hb dX8_flow_59 (by decide) ?_
                      obtain ⟨n21, hlt, hV⟩ := h
                      exact ihn8 n21 hlt _ _ _ _ hP hD hS ls (lv_sub hl [1, 2, 3, 4, 0] rfl) hV
                    · have h := h.2 hc
                      refine lv_aload_n hx hb dX8_flow_43 rfl (lv_at hl 0 rfl) ?_
                      refine lv_iload hx hb dX8_flow_44 (lv_at hl 4 rfl) ?_
                      refine lv_iconst (v := 0) hx hb dX8_flow_46 (by decide) ?_
                      refine lv_iconst (v := 0) hx hb dX8_flow_47 (by decide) ?_
                      refine va_calli (va_runV (As := [.int x9, .int 0, .int 0]) (rest := []) ⟨hx, hb, hml, hown, hts⟩ (m_X8_delivers l dC dI cy ad A I20 x9 0 0 hD h) (cwV 3 hts gX8_flow_X8_delivers rfl rfl rfl (by decide +kernel) ⟨Nat.le_of_ble_eq_true rfl, Nat.le_of_ble_eq_true rfl⟩) ⟨wPre.blind, va_recv hK hP (ci := 8) (q0 := 0) rfl rG_o, wPre.at hP hK hN hS hA⟩ rfl rfl hl.1 rfl (lv_room (Nat.le_of_ble_eq_true rfl)) dX8_flow_48 ⟨by first | exact Nat.le_of_ble_eq_true rfl | (show _ ≤ 0; omega), by first | exact Nat.le_of_ble_eq_true rfl | (show _ ≤ 0; omega)⟩) hS (fun q _ h => h) (fun q h => h) (fun r22 u t H locs ht hvm hw hB hz1 hk1 hS => ?_)
                      obtain ⟨I23, rfl⟩ : ∃ z : St, z = u := ⟨_, rfl⟩
                      obtain ⟨hP, hD⟩ := hB; rw [ht] at hP; replace h := hw; try dsimp only at h hP hD
                      refine lv_istore (lv' := [(5, .int r22), (0, .ref (ad 40)), (1, .int p1), (2, .int (I2 31 0)), (3, .int x5), (4, .int x9)]) hx hb dX8_flow_51 hl (by decide) rfl (fun ls hl => ?_)
                      refine lv_goto (tgt := 33) hx hb dX8_flow_53 (by decide) ?_
                      obtain ⟨n24, hlt, hV⟩ := h
                      exact ihn19 n24 hlt _ _ _ hP hD hS ls (lv_sub hl [1, 2, 3, 4, 5] rfl) hV
                exact hlpn19 n190 _ _ _ hP hD hS ls (lv_sub hl [0, 1, 2, 3, 4] rfl) hV0
          exact hlpn8 n80 _ _ _ _ hP hD hS ls (lv_sub hl [1, 2, 3, 4, 0] rfl) hV0
    exact hlpn4 n40 _ _ _ _ hP hD hS ls (lv_sub hl [2, 3, 1, 0] rfl) hV0
  · have h := h.2 hc
    refine lv_iconst (v := (-1)) hx hb dX8_flow_10 (by decide) ?_
    exact W.iret (v := (-1)) hx hb hr (fun t ht hW => hQ _ _ t (-1) I2 h ⟨by rw [ht]; exact hP, hD⟩ (hS.F ht)) hS.2.2 dX8_flow_11
theorem m_X8_flow (l : Launch) (dC : Nat → ClassId) (dI : Nat → Nat → Nat) (cy : Nat → ClassId) (ad : Nat → Nat) (A : Nat → Prop) (I : St) (p1 : Int32) {post : Int32 → St → Prop} (hD : va_D A (rW ad cy I)) (h : wp_X8_flow I p1 post) : Met l yX8_flow wsX8_flow rmX8_flow (va_Pc [.ref (ad 40), .int p1] (wPre (dC, dI) cy A (rW ad cy I))) (va_Qi (fun r (u : St) => post r u) (fun (u : St) t => wPost (dC, dI) A (rW ad cy u) t) A) 0 0 A := g_X8_flow l dC dI cy ad A I p1 hD h (fun a s0 t r I' h1 h2 h3 => ⟨⟨r, I', rfl, h1, h2⟩, h3⟩)
