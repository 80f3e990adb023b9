abbrev rmX3_at : Room := { frames := 0, cells := 0, slots := 0, locals := 0 }
set_option maxHeartbeats 4000000 in
set_option maxRecDepth 100000 in
theorem g_X3_at (l : Launch) (dC : Nat → ClassId) (dI : Nat → Nat → Nat) (cy : Nat → ClassId) (ad : Nat → Nat) (A : Nat → Prop) (I : St) (J : Rf) (LP : List Nat) (P : St) (j : Nat) (h_j : 11 ≤ j ∧ j ≤ 14) (p1 : Int32) {post : Option Nat → St → Rf → List Nat → St → Prop} (hD : va_D A (cW ad cy I J LP P)) (h : wp_X3_at I J LP P j p1 post) {Qc : Array Value → State → Outcome → State → Prop} (hQ : ∀ (a : Array Value) (s0 t : State) (r : Option Nat) (I' : St) (J' : Rf) (LP' : List Nat) (P' : St), post r I' J' LP' P' → wPost (dC, dI) A (cW ad cy I' J' LP' P') t → va_F A s0 t → Qc a s0 (.returned (some (va_rf r))) t) : Met l yX3_at wsX3_at rmX3_at (va_Pc [.ref (ad j), .int p1] (wPre (dC, dI) cy A (cW ad cy I J LP P))) Qc 0 0 A := by
  refine Met.ofW (cc := cX3_at) (maxL := 2) (ret := (some (.object "OutboxHouse$Change"))) (by decide) rfl ?_
  intro p e s m args below meth c s₁ B hml hv
  obtain ⟨rfl, hP, hK, hN, hA⟩ := hv
  have hx := B.exec
  have hb := B.bytes
  have hr := B.returns
  have hts := atoms_spec (ws := wsX3_at) B.pre
  have hown : s.vm.findClass RX3 = some m.cls := findClass_of_methodNamed B.named
  have hlocks := B.notSynchronized
  have hinX3 : ∀ w ∈ wsX30, w ∈ wsX3_at := fun _ h9 => List.mem_cons_of_mem _ (List.mem_append_right _ h9)
  have hS : va_S A s.heap s.heap [] := va_S.rf
  unfold wp_X3_at at h
  have hl := lv_entry ([.ref (ad j), .int p1]) (n := 2) (Nat.le_of_ble_eq_true rfl)
  rw [lg_entry_eq]
  generalize (lg_sl ([.ref (ad j), .int p1]) ++ List.replicate (2 - (lg_sl ([.ref (ad j), .int p1])).length) Slot.unset).toArray = ls at hl ⊢
  have hl : lv_has ls 2 [(0, .ref (ad j)), (1, .int p1)] := hl
  refine lv_iload_n hx hb dX3_at_0 rfl (lv_at hl 1 rfl) ?_
  refine lv_if_lt (tgt := 21) hx hb dX3_at_1 (by decide) (fun hc => ?_) (fun hc => ?_)
  · have h := h.1 hc
    refine lv_null hx hb dX3_at_21 ?_
    exact W.aret (v := .null) hx hb hr (Or.inl ⟨_, rfl⟩) (Or.inl rfl) (fun t ht hW => hQ _ _ t none I J LP P h ⟨by rw [ht]; exact hP, hD⟩ (hS.F ht)) hS.2.2 dX3_at_22
  · have h := h.2 hc
    refine lv_iload_n hx hb dX3_at_4 rfl (lv_at hl 1 rfl) ?_
    refine lv_aload_n hx hb dX3_at_5 rfl (lv_at hl 0 rfl) ?_
    refine va_get (D := (dC, dI)) (ci := 3) (v := .int (I j 0)) (C := RX3) (T := TX3) (N := 2) hx hb hts hinX3 hown hK hP j (cG_row (j := j) h_j) rfl 1 (by decide) (hts (.fieldLink RX3 23 "OutboxHouse$Row" "size" "I") (by decide +kernel)) (fun _ h9 => h9) rfl dX3_at_6 ?_
    refine lv_icmp_ge (tgt := 21) hx hb dX3_at_9 (by decide) (fun hc => ?_) (fun hc => ?_)
    · have h := h.1 hc
      refine lv_null hx hb dX3_at_21 ?_
      exact W.aret (v := .null) hx hb hr (Or.inl ⟨_, rfl⟩) (Or.inl rfl) (fun t ht hW => hQ _ _ t none I J LP P h ⟨by rw [ht]; exact hP, hD⟩ (hS.F ht)) hS.2.2 dX3_at_22
    · have h := h.2 hc
      refine lv_aload_n hx hb dX3_at_12 rfl (lv_at hl 0 rfl) ?_
      refine va_get (D := (dC, dI)) (ci := 3) (v := .ref (ad (j + 4))) (C := RX3) (T := TX3) (N := 2) hx hb hts hinX3 hown hK hP j (cG_row (j := j) h_j) rfl 0 (by decide) (hts (.fieldLink RX3 17 "OutboxHouse$Row" "slots" "[LOutboxHouse$Change;") (by decide +kernel)) (fun _ h9 => h9) rfl dX3_at_13 ?_
      refine lv_iload_n hx hb dX3_at_16 rfl (lv_at hl 1 rfl) ?_
      have hv := h.1; replace h := h.2
      refine va_aldq hx hb hK hP (j + 4) 2 (cG_slots (j := j) h_j) rfl hv dX3_at_17 ?_
      rcases hq : J (j + 4) p1.toNatClampNeg with _ | a1
      · replace h := h.1 hq
        try rw [hq]
        refine W.eq (g2 := F0 m 18 ls [.null]) rfl ?_
        refine lv_goto (tgt := 22) hx hb dX3_at_18 (by decide) ?_
        exact W.aret (v := .null) hx hb hr (Or.inl ⟨_, rfl⟩) (Or.inl rfl) (fun t ht hW => hQ _ _ t none I J LP P h ⟨by rw [ht]; exact hP, hD⟩ (hS.F ht)) hS.2.2 dX3_at_22
      · replace h := h.2 _ hq
        try rw [hq]
        refine W.eq (g2 := F0 m 18 ls [.ref a1]) rfl ?_
        refine lv_goto (tgt := 22) hx hb dX3_at_18 (by decide) ?_
        exact W.aret (v := .ref a1) hx hb hr (Or.inl ⟨_, rfl⟩) (Or.inr ⟨_, rfl⟩) (fun t ht hW => hQ _ _ t (some a1) I J LP P h ⟨by rw [ht]; exact hP, hD⟩ (hS.F ht)) hS.2.2 dX3_at_22
theorem m_X3_at (l : Launch) (dC : Nat → ClassId) (dI : Nat → Nat → Nat) (cy : Nat → ClassId) (ad : Nat → Nat) (A : Nat → Prop) (I : St) (J : Rf) (LP : List Nat) (P : St) (j : Nat) (h_j : 11 ≤ j ∧ j ≤ 14) (p1 : Int32) {post : Option Nat → St → Rf → List Nat → St → Prop} (hD : va_D A (cW ad cy I J LP P)) (h : wp_X3_at I J LP P j p1 post) : Met l yX3_at wsX3_at rmX3_at (va_Pc [.ref (ad j), .int p1] (wPre (dC, dI) cy A (cW ad cy I J LP P))) (va_Qq (fun r (u : CS) => post r u.1 u.2.1 u.2.2.1 u.2.2.2) (fun (u : CS) t => wPost (dC, dI) A (cW ad cy u.1 u.2.1 u.2.2.1 u.2.2.2) t) A) 0 0 A := g_X3_at l dC dI cy ad A I J LP P j h_j p1 hD h (fun a s0 t r I' J' LP' P' h1 h2 h3 => ⟨⟨r, (I', J', LP', P'), rfl, h1, h2⟩, h3⟩)
abbrev rmX2_letterAt : Room := { frames := 1, cells := 0, slots := 0, locals := 21 }
set_option maxHeartbeats 4000000 in
set_option maxRecDepth 100000 in
theorem g_X2_letterAt (l : Launch) (dC : Nat → ClassId) (dI : Nat → Nat → Nat) (cy : Nat → ClassId) (ad : Nat → Nat) (A : Nat → Prop) (I : St) (J : Rf) (LP : List Nat) (P : St) (p1 : Int32) (p2 : Int32) {post : Option Nat → St → Rf → List Nat → St → Prop} (hD : va_D A (cW ad cy I J LP P)) (h : wp_X2_letterAt I J LP P p1 p2 post) {Qc : Array Value → State → Outcome → State → Prop} (hQ : ∀ (a : Array Value) (s0 t : State) (r : Option Nat) (I' : St) (J' : Rf) (LP' : List Nat) (P' : St), post r I' J' LP' P' → wPost (dC, dI) A (cW ad cy I' J' LP' P') t → va_F A s0 t → Qc a s0 (.returned (some (va_rf r))) t) : Met l yX2_letterAt wsX2_letterAt rmX2_letterAt (va_Pc [.ref (ad 9), .int p1, .int p2] (wPre (dC, dI) cy A (cW ad cy I J LP P))) Qc 0 0 A := by
  refine Met.ofW (cc := cX2_letterAt) (maxL := 3) (ret := (some (.object "OutboxHouse$Change"))) (by decide) rfl ?_
  intro p e s m args below meth c s₁ B hml hv
  obtain ⟨rfl, hP, hK, hN, hA⟩ := hv
  have hx := B.exec
  have hb := B.bytes
  have hr := B.returns
  have hts := atoms_spec (ws := wsX2_letterAt) B.pre
  have hown : s.vm.findClass RX2 = some m.cls := findClass_of_methodNamed B.named
  have hlocks := B.notSynchronized
  have hinX2 : ∀ w ∈ wsX20, w ∈ wsX2_letterAt := fun _ h9 => List.mem_cons_of_mem _ (List.mem_append_left _ (List.mem_append_right _ h9))
  have hS : va_S A s.heap s.heap [] := va_S.rf
  unfold wp_X2_letterAt at h
  have hl := lv_entry ([.ref (ad 9), .int p1, .int p2]) (n := 3) (Nat.le_of_ble_eq_true rfl)
  rw [lg_entry_eq]
  generalize (lg_sl ([.ref (ad 9), .int p1, .int p2]) ++ List.replicate (3 - (lg_sl ([.ref (ad 9), .int p1, .int p2])).length) Slot.unset).toArray = ls at hl ⊢
  have hl : lv_has ls 3 [(0, .ref (ad 9)), (1, .int p1), (2, .int p2)] := hl
  refine lv_iload_n hx hb dX2_letterAt_0 rfl (lv_at hl 1 rfl) ?_
  refine va_calli (va_runSN (As := [.int p1]) (rest := []) ⟨hx, hb, hml, hown, hts⟩ (m_X7_isLane l dC dI cy ad A I J LP P p1 hD h) ⟨va_cnB 1 hts gX2_letterAt_X7_isLane_n53 rfl rfl rfl (hN.2 (RX2, 53, yX7_isLane, "OutboxHouse") (by decide +kernel)) (hts (.initialized RX7) (by decide +kernel)) (by decide +kernel) ⟨Nat.le_of_ble_eq_true rfl, Nat.le_of_ble_eq_true rfl⟩, hts (.static yX7_isLane) (by decide +kernel), trivial⟩ ⟨wPre.blind, wPre.at hP hK hN hS hA⟩ rfl rfl hl.1 rfl (lv_room (Nat.le_of_ble_eq_true rfl)) dX2_letterAt_1 ⟨by first | exact Nat.le_of_ble_eq_true rfl | (show _ ≤ 0; omega), by first | exact Nat.le_of_ble_eq_true rfl | (show _ ≤ 0; omega)⟩) hS (fun q _ h => h) (fun q h => h) (fun r1 u t H locs ht hvm hw hB hz1 hk1 hS => ?_)
  obtain ⟨I2, J3, LP4, P5⟩ := u
  obtain ⟨hP, hD⟩ := hB; rw [ht] at hP; replace h := hw; try dsimp only at h hP hD
  refine lv_if_eq (tgt := 20) hx hb dX2_letterAt_4 (by decide) (fun hc => ?_) (fun hc => ?_)
  · have h := h.1 hc
    refine lv_null hx hb dX2_letterAt_20 ?_
    exact W.aret (v := .null) hx hb hr (Or.inl ⟨_, rfl⟩) (Or.inl rfl) (fun t ht hW => hQ _ _ t none I2 J3 LP4 P5 h ⟨by rw [ht]; exact hP, hD⟩ (hS.F ht)) hS.2.2 dX2_letterAt_21
  · have h := h.2 hc
    refine lv_aload_n hx hb dX2_letterAt_7 rfl (lv_at hl 0 rfl) ?_
    refine va_get (D := (dC, dI)) (ci := 2) (v := .ref (ad 10)) (C := RX2) (T := TX2) (N := 6) hx hb hts hinX2 hown hK hP 9 cG_9 rfl 1 (by decide) (hts (.fieldLink RX2 11 "OutboxHouse$Relay" "lanes" "[LOutboxHouse$Row;") (by decide +kernel)) (fun _ h9 => h9) rfl dX2_letterAt_8 ?_
    refine lv_iload_n hx hb dX2_letterAt_11 rfl (lv_at hl 1 rfl) ?_
    have hv := h.1; replace h := h.2
    refine va_aldq hx hb hK hP 10 3 cG_10 rfl hv dX2_letterAt_12 ?_
    obtain ⟨j6, ej6⟩ : ∃ z : Nat, z = 11 + p1.toNatClampNeg := ⟨_, rfl⟩
    have h_j6 : 11 ≤ j6 ∧ j6 ≤ 14 := by rw [ej6]; exact lane_j hv
    replace h := h _ ej6
    refine W.eq (g2 := F0 m 13 ls [.ref (ad j6)]) (by rw [ej6]; rfl) ?_
    refine lv_iload_n hx hb dX2_letterAt_13 rfl (lv_at hl 2 rfl) ?_
    refine va_callq (va_runV (As := [.int p2]) (rest := []) ⟨hx, hb, hml, hown, hts⟩ (m_X3_at l dC dI cy ad A I2 J3 LP4 P5 j6 h_j6 p2 hD h) (cwV 1 hts gX2_letterAt_X3_at rfl rfl rfl (by decide +kernel) ⟨Nat.le_of_ble_eq_true rfl, Nat.le_of_ble_eq_true rfl⟩) ⟨wPre.blind, va_recv hK hP (ci := 3) (q0 := j6) rfl (cG_row (j := j6) h_j6), wPre.at hP hK hN hS hA⟩ rfl rfl hl.1 rfl (lv_room (Nat.le_of_ble_eq_true rfl)) dX2_letterAt_14 ⟨by first | exact Nat.le_of_ble_eq_true rfl | (show _ ≤ 0; omega), by first | exact Nat.le_of_ble_eq_true rfl | (show _ ≤ 0; omega)⟩) hS (fun q _ h => h) (fun q h => h) (fun r7 u t H locs ht hvm hw hB hz1 hk1 hS => ?_)
    obtain ⟨I8, J9, LP10, P11⟩ := u
    obtain ⟨hP, hD⟩ := hB; rw [ht] at hP; replace h := hw; try dsimp only at h hP hD
    rcases r7 with _ | a12
    · replace h := h.1 rfl
      refine W.eq (g2 := F0 m 17 ls [.null]) rfl ?_
      refine lv_goto (tgt := 21) hx hb dX2_letterAt_17 (by decide) ?_
      exact W.aret (v := .null) hx hb hr (Or.inl ⟨_, rfl⟩) (Or.inl rfl) (fun t ht hW => hQ _ _ t none I8 J9 LP10 P11 h ⟨by rw [ht]; exact hP, hD⟩ (hS.F ht)) hS.2.2 dX2_letterAt_21
    · replace h := h.2 _ rfl
      refine W.eq (g2 := F0 m 17 ls [.ref a12]) rfl ?_
      refine lv_goto (tgt := 21) hx hb dX2_letterAt_17 (by decide) ?_
      exact W.aret (v := .ref a12) hx hb hr (Or.inl ⟨_, rfl⟩) (Or.inr ⟨_, rfl⟩) (fun t ht hW => hQ _ _ t (some a12) I8 J9 LP10 P11 h ⟨by rw [ht]; exact hP, hD⟩ (hS.F ht)) hS.2.2 dX2_letterAt_21
theorem m_X2_letterAt (l : Launch) (dC : Nat → ClassId) (dI : Nat → Nat → Nat) (cy : Nat → ClassId) (ad : Nat → Nat) (A : Nat → Prop) (I : St) (J : Rf) (LP : List Nat) (P : St) (p1 : Int32) (p2 : Int32) {post : Option Nat → St → Rf → List Nat → St → Prop} (hD : va_D A (cW ad cy I J LP P)) (h : wp_X2_letterAt I J LP P p1 p2 post) : Met l yX2_letterAt wsX2_letterAt rmX2_letterAt (va_Pc [.ref (ad 9), .int p1, .int p2] (wPre (dC, dI) cy A (cW ad cy I J LP P))) (va_Qq (fun r (u : CS) => post r u.1 u.2.1 u.2.2.1 u.2.2.2) (fun (u : CS) t => wPost (dC, dI) A (cW ad cy u.1 u.2.1 u.2.2.1 u.2.2.2) t) A) 0 0 A := g_X2_letterAt l dC dI cy ad A I J LP P p1 p2 hD h (fun a s0 t r I' J' LP' P' h1 h2 h3 => ⟨⟨r, (I', J', LP', P'), rfl, h1, h2⟩, h3⟩)
abbrev rmX3_remove : Room := { frames := 0, cells := 0, slots := 0, locals := 0 }
set_option maxHeartbeats 4000000 in
set_option maxRecDepth 100000 in
theorem g_X3_remove (l : Launch) (dC : Nat → ClassId) (dI : Nat → Nat → Nat) (cy : Nat → ClassId) (ad : Nat → Nat) (A : Nat → Prop) (I : St) (J : Rf) (LP : List Nat) (P : St) (j : Nat) (h_j : 11 ≤ j ∧ j ≤ 14) (p1 : Int32) {post : St → Rf → List Nat → St → Prop} (hD : va_D A (cW ad cy I J LP P)) (h : wp_X3_remove I J LP P j p1 post) {Qc : Array Value → State → Outcome → State → Prop} (hQ : ∀ (a : Array Value) (s0 t : State) (I' : St) (J' : Rf) (LP' : List Nat) (P' : St), post I' J' LP' P' → wPost (dC, dI) A (cW ad cy I' J' LP' P') t → va_F A s0 t → Qc a s0 (.returned (none)) t) : Met l yX3_remove wsX3_remove rmX3_remove (va_Pc [.ref (ad j), .int p1] (wPre (dC, dI) cy A (cW ad cy I J LP P))) Qc 0 0 A := by
  refine Met.ofW (cc := cX3_remove) (maxL := 3) (ret := none) (by decide) rfl ?_
  intro p e s m args below meth c s₁ B hml hv
  obtain ⟨rfl, hP, hK, hN, hA⟩ := hv
  have hx := B.exec
  have hb := B.bytes
  have hr := B.returns
  have hts := atoms_spec (ws := wsX3_remove) B.pre
  have hown : s.vm.findClass RX3 = some m.cls := findClass_of_methodNamed B.named
  have hlocks := B.notSynchronized
  have hinX3 : ∀ w ∈ wsX30, w ∈ wsX3_remove := fun _ h9 => List.mem_cons_of_mem _ (List.mem_append_right _ h9)
  have hS : va_S A s.heap s.heap [] := va_S.rf
  unfold wp_X3_remove at h
  have hl := lv_entry ([.ref (ad j), .int p1]) (n := 3) (Nat.le_of_ble_eq_true rfl)
  rw [lg_entry_eq]
  generalize (lg_sl ([.ref (ad j), .int p1]) ++ List.replicate (3 - (lg_sl ([.ref (ad j), .int p1])).length) Slot.unset).toArray = ls at hl ⊢
  have hl : lv_has ls 3 [(0, .ref (ad j)), (1, .int p1)] := hl
  refine lv_iload_n hx hb dX3_remove_0 rfl (lv_at hl 1 rfl) ?_
  refine lv_if_lt (tgt := 12) hx hb dX3_remove_1 (by decide) (fun hc => ?_) (fun hc => ?_)
  · have h := h.1 hc
    exact W.vret hx hb hr (fun t ht hW => hQ _ _ t I J LP P h ⟨by rw [ht]; exact hP, hD⟩ (hS.F ht)) hS.2.2 dX3_remove_12
  · have h := h.2 hc
    refine lv_iload_n hx hb dX3_remove_4 rfl (lv_at hl 1 rfl) ?_
    refine lv_aload_n hx hb dX3_remove_5 rfl (lv_at hl 0 rfl) ?_
    refine va_get (D := (dC, dI)) (ci := 3) (v := .int (I j 0)) (C := RX3) (T := TX3) (N := 2) hx hb hts hinX3 hown hK hP j (cG_row (j := j) h_j) rfl 1 (by decide) (hts (.fieldLink RX3 23 "OutboxHouse$Row" "size" "I") (by decide +kernel)) (fun _ h9 => h9) rfl dX3_remove_6 ?_
    refine lv_icmp_lt (tgt := 13) hx hb dX3_remove_9 (by decide) (fun hc => ?_) (fun hc => ?_)
    · have h := h.1 hc
      refine lv_iload_n hx hb dX3_remove_13 rfl (lv_at hl 1 rfl) ?_
      refine lv_iconst (v := 1) hx hb dX3_remove_14 (by decide) ?_
      refine lv_iadd hx hb dX3_remove_15 ?_
      refine lv_istore_n (lv' := [(2, .int (p1 + 1)), (0, .ref (ad j)), (1, .int p1)]) hx hb dX3_remove_16 rfl hl (by decide) rfl (fun ls hl => ?_)
      obtain ⟨V1, ⟨n20, hV0⟩, hstepn2⟩ := h
      have hlpn2 : ∀ (n2 : Nat) (x3 : Int32) (I4 : St) (J5 : Rf) (LP6 : List Nat) (P7 : St) (H : Heap) (locs : List Loc), va_P (dC, dI) vwCl (cW ad cy I4 J5 LP6 P7) H → va_D A (cW ad cy I4 J5 LP6 P7) → va_S A s.heap H locs → ∀ ls : Array Slot, lv_has ls 3 [(0, .ref (ad j)), (1, .int p1), (2, .int x3)] → V1 n2 x3 I4 J5 LP6 P7 → W p l e (headSpec wsX3_remove rmX3_remove).room s m ([.ref (ad j), .int p1] : List Value).toArray below meth c H locs 0 0 (MQ below Qc ([.ref (ad j), .int p1] : List Value).toArray s 0 0 A) (F0 m 17 ls []) := by
        intro n2
        induction n2 using Nat.strongRecOn with
        | _ n2 ihn2 =>
          intro x3 I4 J5 LP6 P7 H locs hP hD hS ls hl hV
          have h := hstepn2 n2 x3 I4 J5 LP6 P7 hV
          refine lv_iload_n hx hb dX3_remove_17 rfl (lv_at hl 2 rfl) ?_
          refine lv_aload_n hx hb dX3_remove_18 rfl (lv_at hl 0 rfl) ?_
          refine va_get (D := (dC, dI)) (ci := 3) (v := .int (I4 j 0)) (C := RX3) (T := TX3) (N := 2) hx hb hts hinX3 hown hK hP j (cG_row (j := j) h_j) rfl 1 (by decide) (hts (.fieldLink RX3 23 "OutboxHouse$Row" "size" "I") (by decide +kernel)) (fun _ h9 => h9) rfl dX3_remove_19 ?_
          refine lv_icmp_ge (tgt := 45) hx hb dX3_remove_22 (by decide) (fun hc => ?_) (fun hc => ?_)
          · have h := h.1 hc
            refine lv_aload_n hx hb dX3_remove_45 rfl (lv_at hl 0 rfl) ?_
            refine lv_dup hx hb dX3_remove_46 rfl ?_
            refine va_get (D := (dC, dI)) (ci := 3) (v := .int (I4 j 0)) (C := RX3) (T := TX3) (N := 2) hx hb hts hinX3 hown hK hP j (cG_row (j := j) h_j) rfl 1 (by decide) (hts (.fieldLink RX3 23 "OutboxHouse$Row" "size" "I") (by decide +kernel)) (fun _ h9 => h9) rfl dX3_remove_47 ?_
            refine lv_iconst (v := 1) hx hb dX3_remove_50 (by decide) ?_
            refine lv_isub hx hb dX3_remove_51 ?_
            refine va_put (D := (dC, dI)) (ci := 3) (v := .int ((I4 j 0) - 1)) (ty := .int) (C := RX3) (T := TX3) (N := 2) hx hb hts hinX3 tyX3 tyX3_ok nmX3 hown hK hP hD hS j (cG_row (j := j) h_j) rfl 1 (by decide) (hts (.fieldLink RX3 23 "OutboxHouse$Row" "size" "I") (by decide +kernel)) (fun _ h9 => h9) rfl (by decide +kernel) rfl rfl (Nat.le_of_ble_eq_true rfl) dX3_remove_52 (fun H locs hP hD hS => ?_)
            obtain ⟨I8, hI8⟩ : ∃ z : St, z = st I4 j 0 ((I4 j 0) - 1) := ⟨_, rfl⟩
            replace hP := wP (cE_row h_j hI8) hP; replace hD := wD (cE_row h_j hI8) hD; replace h := h _ hI8
            exact W.vret hx hb hr (fun t ht hW => hQ _ _ t I8 J5 LP6 P7 h ⟨by rw [ht]; exact hP, hD⟩ (hS.F ht)) hS.2.2 dX3_remove_55
          · have h := h.2 hc
            refine lv_aload_n hx hb dX3_remove_25 rfl (lv_at hl 0 rfl) ?_
            refine va_get (D := (dC, dI)) (ci := 3) (v := .ref (ad (j + 4))) (C := RX3) (T := TX3) (N := 2) hx hb hts hinX3 hown hK hP j (cG_row (j := j) h_j) rfl 0 (by decide) (hts (.fieldLink RX3 17 "OutboxHouse$Row" "slots" "[LOutboxHouse$Change;") (by decide +kernel)) (fun _ h9 => h9) rfl dX3_remove_26 ?_
            refine lv_iload_n hx hb dX3_remove_29 rfl (lv_at hl 2 rfl) ?_
            refine lv_iconst (v := 1) hx hb dX3_remove_30 (by decide) ?_
            refine lv_isub hx hb dX3_remove_31 ?_
            refine lv_aload_n hx hb dX3_remove_32 rfl (lv_at hl 0 rfl) ?_
            refine va_get (D := (dC, dI)) (ci := 3) (v := .ref (ad (j + 4))) (C := RX3) (T := TX3) (N := 2) hx hb hts hinX3 hown hK hP j (cG_row (j := j) h_j) rfl 0 (by decide) (hts (.fieldLink RX3 17 "OutboxHouse$Row" "slots" "[LOutboxHouse$Change;") (by decide +kernel)) (fun _ h9 => h9) rfl dX3_remove_33 ?_
            refine lv_iload_n hx hb dX3_remove_36 rfl (lv_at hl 2 rfl) ?_
            have hv := h.1; replace h := h.2
            refine va_aldq hx hb hK hP (j + 4) 2 (cG_slots (j := j) h_j) rfl hv dX3_remove_37 ?_
            rcases hq : J5 (j + 4) x3.toNatClampNeg with _ | a9
            · replace h := h.1 hq
              try rw [hq]
              refine W.eq (g2 := F0 m 38 ls [.null, .int (x3 - 1), .ref (ad (j + 4))]) rfl ?_
              have hv := h.1; replace h := h.2
              refine va_astqN hx hb hK hP hD hS (j + 4) 2 (cG_slots (j := j) h_j) rfl hv dX3_remove_38 (fun H locs hP hD hS => ?_)
              obtain ⟨J10, hJ10⟩ : ∃ z : Rf, z = stJ J5 (j + 4) (x3 - 1).toNatClampNeg none := ⟨_, rfl⟩
              replace hP := wP (cE_slots h_j hJ10) hP; replace hD := wD (cE_slots h_j hJ10) hD; replace h := h _ hJ10
              refine lv_iinc (v := x3 + 1) (lv' := [(2, .int (x3 + 1)), (0, .ref (ad j)), (1, .int p1)]) hx hb dX3_remove_39 hl (k := 2) rfl rfl (by decide) rfl (fun ls hl => ?_)
              refine lv_goto (tgt := 17) hx hb dX3_remove_42 (by decide) ?_
              obtain ⟨n11, hlt, hV⟩ := h
              exact ihn2 n11 hlt _ _ _ _ _ _ _ hP hD hS ls (lv_sub hl [1, 2, 0] rfl) hV
            · replace h := h.2 _ hq
              try rw [hq]
              refine W.eq (g2 := F0 m 38 ls [.ref a9, .int (x3 - 1), .ref (ad (j + 4))]) rfl ?_
              have hv := h.1; replace h := h.2
              have hm := h.1; replace h := h.2
              obtain ⟨q13, hq13⟩ := cG_p (ad := ad) (cy := cy) (I := I4) (J := J5) (P := P7) hm
              refine va_astq hx hb hK hP hD hS (j + 4) 2 q13 0 (cG_slots (j := j) h_j) rfl hq13 rfl hv dX3_remove_38 (fun H locs hP hD hS => ?_)
              obtain ⟨J12, hJ12⟩ : ∃ z : Rf, z = stJ J5 (j + 4) (x3 - 1).toNatClampNeg (some a9) := ⟨_, rfl⟩
              replace hP := wP (cE_slots h_j hJ12) hP; replace hD := wD (cE_slots h_j hJ12) hD; replace h := h _ hJ12
              refine lv_iinc (v := x3 + 1) (lv' := [(2, .int (x3 + 1)), (0, .ref (ad j)), (1, .int p1)]) hx hb dX3_remove_39 hl (k := 2) rfl rfl (by decide) rfl (fun ls hl => ?_)
              refine lv_goto (tgt := 17) hx hb dX3_remove_42 (by decide) ?_
              obtain ⟨n14, hlt, hV⟩ := h
              exact ihn2 n14 hlt _ _ _ _ _ _ _ hP hD hS ls (lv_sub hl [1, 2, 0] rfl) hV
      exact hlpn2 n20 _ _ _ _ _ _ _ hP hD hS ls (lv_sub hl [1, 2, 0] rfl) hV0
    · have h := h.2 hc
      exact W.vret hx hb hr (fun t ht hW => hQ _ _ t I J LP P h ⟨by rw [ht]; exact hP, hD⟩ (hS.F ht)) hS.2.2 dX3_remove_12
theorem m_X3_remove (l : Launch) (dC : Nat → ClassId) (dI : Nat → Nat → Nat) (cy : Nat → ClassId) (ad : Nat → Nat) (A : Nat → Prop) (I : St) (J : Rf) (LP : List Nat) (P : St) (j : Nat) (h_j : 11 ≤ j ∧ j ≤ 14) (p1 : Int32) {post : St → Rf → List Nat → St → Prop} (hD : va_D A (cW ad cy I J LP P)) (h : wp_X3_remove I J LP P j p1 post) : Met l yX3_remove wsX3_remove rmX3_remove (va_Pc [.ref (ad j), .int p1] (wPre (dC, dI) cy A (cW ad cy I J LP P))) (va_Qv (fun (u : CS) => post u.1 u.2.1 u.2.2.1 u.2.2.2) (fun (u : CS) t => wPost (dC, dI) A (cW ad cy u.1 u.2.1 u.2.2.1 u.2.2.2) t) A) 0 0 A := g_X3_remove l dC dI cy ad A I J LP P j h_j p1 hD h (fun a s0 t I' J' LP' P' h1 h2 h3 => ⟨⟨(I', J', LP', P'), rfl, h1, h2⟩, h3⟩)
abbrev rmX2_dropLetter : Room := { frames := 1, cells := 0, slots := 0, locals := 22 }
set_option maxHeartbeats 4000000 in
set_option maxRecDepth 100000 in
theorem g_X2_dropLetter (l : Launch) (dC : Nat → ClassId) (dI : Nat → Nat → Nat) (cy : Nat → ClassId) (ad : Nat → Nat) (A : Nat → Prop) (I : St) (J : Rf) (LP : List Nat) (P : St) (p1 : Int32) (p2 : Int32) {post : St → Rf → List Nat → St → Prop} (hD : va_D A (cW ad cy I J LP P)) (h : wp_X2_dropLetter I J LP P p1 p2 post) {Qc : Array Value → State → Outcome → State → Prop} (hQ : ∀ (a : Array Value) (s0 t : State) (I' : St) (J' : Rf) (LP' : List Nat) (P' : St), post I' J' LP' P' → wPost (dC, dI) A (cW ad cy I' J' LP' P') t → va_F A s0 t → Qc a s0 (.returned (none)) t) : Met l yX2_dropLetter wsX2_dropLetter rmX2_dropLetter (va_Pc [.ref (ad 9), .int p1, .int p2] (wPre (dC, dI) cy A (cW ad cy I J LP P))) Qc 0 0 A := by
  refine Met.ofW (cc := cX2_dropLetter) (maxL := 3) (ret := none) (by decide) rfl ?_
  intro p e s m args below meth c s₁ B hml hv
  obtain ⟨rfl, hP, hK, hN, hA⟩ := hv
  have hx := B.exec
  have hb := B.bytes
  have hr := B.returns
  have hts := atoms_spec (ws := wsX2_dropLetter) B.pre
  have hown : s.vm.findClass RX2 = some m.cls := findClass_of_methodNamed B.named
  have hlocks := B.notSynchronized
  have hinX2 : ∀ w ∈ wsX20, w ∈ wsX2_dropLetter := fun _ h9 => List.mem_cons_of_mem _ (List.mem_append_left _ (List.mem_append_right _ h9))
  have hS : va_S A s.heap s.heap [] := va_S.rf
  unfold wp_X2_dropLetter at h
  have hl := lv_entry ([.ref (ad 9), .int p1, .int p2]) (n := 3) (Nat.le_of_ble_eq_true rfl)
  rw [lg_entry_eq]
  generalize (lg_sl ([.ref (ad 9), .int p1, .int p2]) ++ List.replicate (3 - (lg_sl ([.ref (ad 9), .int p1, .int p2])).length) Slot.unset).toArray = ls at hl ⊢
  have hl : lv_has ls 3 [(0, .ref (ad 9)), (1, .int p1), (2, .int p2)] := hl
  refine lv_iload_n hx hb dX2_dropLetter_0 rfl (lv_at hl 1 rfl) ?_
  refine va_calli (va_runSN (As := [.int p1]) (rest := []) ⟨hx, hb, hml, hown, hts⟩ (m_X7_isLane l dC dI cy ad A I J LP P p1 hD h) ⟨va_cnB 1 hts gX2_dropLetter_X7_isLane_n53 rfl rfl rfl (hN.2 (RX2, 53, yX7_isLane, "OutboxHouse") (by decide +kernel)) (hts (.initialized RX7) (by decide +kernel)) (by decide +kernel) ⟨Nat.le_of_ble_eq_true rfl, Nat.le_of_ble_eq_true rfl⟩, hts (.static yX7_isLane) (by decide +kernel), trivial⟩ ⟨wPre.blind, wPre.at hP hK hN hS hA⟩ rfl rfl hl.1 rfl (lv_room (Nat.le_of_ble_eq_true rfl)) dX2_dropLetter_1 ⟨by first | exact Nat.le_of_ble_eq_true rfl | (show _ ≤ 0; omega), by first | exact Nat.le_of_ble_eq_true rfl | (show _ ≤ 0; omega)⟩) hS (fun q _ h => h) (fun q h => h) (fun r1 u t H locs ht hvm hw hB hz1 hk1 hS => ?_)
  obtain ⟨I2, J3, LP4, P5⟩ := u
  obtain ⟨hP, hD⟩ := hB; rw [ht] at hP; replace h := hw; try dsimp only at h hP hD
  refine lv_if_eq (tgt := 17) hx hb dX2_dropLetter_4 (by decide) (fun hc => ?_) (fun hc => ?_)
  · have h := h.1 hc
    exact W.vret hx hb hr (fun t ht hW => hQ _ _ t I2 J3 LP4 P5 h ⟨by rw [ht]; exact hP, hD⟩ (hS.F ht)) hS.2.2 dX2_dropLetter_17
  · have h := h.2 hc
    refine lv_aload_n hx hb dX2_dropLetter_7 rfl (lv_at hl 0 rfl) ?_
    refine va_get (D := (dC, dI)) (ci := 2) (v := .ref (ad 10)) (C := RX2) (T := TX2) (N := 6) hx hb hts hinX2 hown hK hP 9 cG_9 rfl 1 (by decide) (hts (.fieldLink RX2 11 "OutboxHouse$Relay" "lanes" "[LOutboxHouse$Row;") (by decide +kernel)) (fun _ h9 => h9) rfl dX2_dropLetter_8 ?_
    refine lv_iload_n hx hb dX2_dropLetter_11 rfl (lv_at hl 1 rfl) ?_
    have hv := h.1; replace h := h.2
    refine va_aldq hx hb hK hP 10 3 cG_10 rfl hv dX2_dropLetter_12 ?_
    obtain ⟨j6, ej6⟩ : ∃ z : Nat, z = 11 + p1.toNatClampNeg := ⟨_, rfl⟩
    have h_j6 : 11 ≤ j6 ∧ j6 ≤ 14 := by rw [ej6]; exact lane_j hv
    replace h := h _ ej6
    refine W.eq (g2 := F0 m 13 ls [.ref (ad j6)]) (by rw [ej6]; rfl) ?_
    refine lv_iload_n hx hb dX2_dropLetter_13 rfl (lv_at hl 2 rfl) ?_
    refine va_callv (va_runV (As := [.int p2]) (rest := []) ⟨hx, hb, hml, hown, hts⟩ (m_X3_remove l dC dI cy ad A I2 J3 LP4 P5 j6 h_j6 p2 hD h) (cwV 1 hts gX2_dropLetter_X3_remove rfl rfl rfl (by decide +kernel) ⟨Nat.le_of_ble_eq_true rfl, Nat.le_of_ble_eq_true rfl⟩) ⟨wPre.blind, va_recv hK hP (ci := 3) (q0 := j6) rfl (cG_row (j := j6) h_j6), wPre.at hP hK hN hS hA⟩ rfl rfl hl.1 rfl (lv_room (Nat.le_of_ble_eq_true rfl)) dX2_dropLetter_14 ⟨by first | exact Nat.le_of_ble_eq_true rfl | (show _ ≤ 0; omega), by first | exact Nat.le_of_ble_eq_true rfl | (show _ ≤ 0; omega)⟩) hS (fun q _ h => h) (fun q h => h) (fun u t H locs ht hvm hw hB hz1 hk1 hS => ?_)
    obtain ⟨I8, J9, LP10, P11⟩ := u
    obtain ⟨hP, hD⟩ := hB; rw [ht] at hP; replace h := hw; try dsimp only at h hP hD
    exact W.vret hx hb hr (fun t ht hW => hQ _ _ t I8 J9 LP10 P11 h ⟨by rw [ht]; exact hP, hD⟩ (hS.F ht)) hS.2.2 dX2_dropLetter_17
theorem m_X2_dropLetter (l : Launch) (dC : Nat → ClassId) (dI : Nat → Nat → Nat) (cy : Nat → ClassId) (ad : Nat → Nat) (A : Nat → Prop) (I : St) (J : Rf) (LP : List Nat) (P : St) (p1 : Int32) (p2 : Int32) {post : St → Rf → List Nat → St → Prop} (hD : va_D A (cW ad cy I J LP P)) (h : wp_X2_dropLetter I J LP P p1 p2 post) : Met l yX2_dropLetter wsX2_dropLetter rmX2_dropLetter (va_Pc [.ref (ad 9), .int p1, .int p2] (wPre (dC, dI) cy A (cW ad cy I J LP P))) (va_Qv (fun (u : CS) => post u.1 u.2.1 u.2.2.1 u.2.2.2) (fun (u : CS) t => wPost (dC, dI) A (cW ad cy u.1 u.2.1 u.2.2.1 u.2.2.2) t) A) 0 0 A := g_X2_dropLetter l dC dI cy ad A I J LP P p1 p2 hD h (fun a s0 t I' J' LP' P' h1 h2 h3 => ⟨⟨(I', J', LP', P'), rfl, h1, h2⟩, h3⟩)
abbrev rmX2_hear : Room := { frames := 1, cells := 0, slots := 0, locals := 21 }
set_option maxHeartbeats 4000000 in
set_option maxRecDepth 100000 in
theorem g_X2_hear (l : Launch) (dC : Nat → ClassId) (dI : Nat → Nat → Nat) (cy : Nat → ClassId) (ad : Nat → Nat) (A : Nat → Prop) (I : St) (J : Rf) (LP : List Nat) (P : St) (p1 : Int32) {post : St → Rf → List Nat → St → Prop} (hD : va_D A (cW ad cy I J LP P)) (h : wp_X2_hear I J LP P p1 post) {Qc : Array Value → State → Outcome → State → Prop} (hQ : ∀ (a : Array Value) (s0 t : State) (I' : St) (J' : Rf) (LP' : List Nat) (P' : St), post I' J' LP' P' → wPost (dC, dI) A (cW ad cy I' J' LP' P') t → va_F A s0 t → Qc a s0 (.returned (none)) t) : Met l yX2_hear wsX2_hear rmX2_hear (va_Pc [.ref (ad 9), .int p1] (wPre (dC, dI) cy A (cW ad cy I J LP P))) Qc 0 0 A := by
  refine Met.ofW (cc := cX2_hear) (maxL := 2) (ret := none) (by decide) rfl ?_
  intro p e s m args below meth c s₁ B hml hv
  obtain ⟨rfl, hP, hK, hN, hA⟩ := hv
  have hx := B.exec
  have hb := B.bytes
  have hr := B.returns
  have hts := atoms_spec (ws := wsX2_hear) B.pre
  have hown : s.vm.findClass RX2 = some m.cls := findClass_of_methodNamed B.named
  have hlocks := B.notSynchronized
  have hinX2 : ∀ w ∈ wsX20, w ∈ wsX2_hear := fun _ h9 => List.mem_cons_of_mem _ (List.mem_append_right _ h9)
  have hS : va_S A s.heap s.heap [] := va_S.rf
  unfold wp_X2_hear at h
  have hl := lv_entry ([.ref (ad 9), .int p1]) (n := 2) (Nat.le_of_ble_eq_true rfl)
  rw [lg_entry_eq]
  generalize (lg_sl ([.ref (ad 9), .int p1]) ++ List.replicate (2 - (lg_sl ([.ref (ad 9), .int p1])).length) Slot.unset).toArray = ls at hl ⊢
  have hl : lv_has ls 2 [(0, .ref (ad 9)), (1, .int p1)] := hl
  refine lv_aload_n hx hb dX2_hear_0 rfl (lv_at hl 0 rfl) ?_
  refine lv_aload_n hx hb dX2_hear_1 rfl (lv_at hl 0 rfl) ?_
  refine va_get (D := (dC, dI)) (ci := 2) (v := .int (I 9 1)) (C := RX2) (T := TX2) (N := 6) hx hb hts hinX2 hown hK hP 9 cG_9 rfl 3 (by decide) (hts (.fieldLink RX2 63 "OutboxHouse$Relay" "mark" "I") (by decide +kernel)) (fun _ h9 => h9) rfl dX2_hear_2 ?_
  refine lv_iload_n hx hb dX2_hear_5 rfl (lv_at hl 1 rfl) ?_
  refine va_mmax hx hb (hml.trans hl.1.symm) hown (hts (.methodLink RX2 66 Lib.Math.max.name) (by decide +kernel)) (hts (.static Lib.Math.max.name) (by decide +kernel)) (hts (.initialized "java/lang/Math") (by decide +kernel)) (hts (.code Lib.Math.max.name Lib.Math.max.code 2 (some .int)) (by decide +kernel)) (Nat.le_of_ble_eq_true rfl) (Nat.le_of_ble_eq_true rfl) (Nat.le_of_ble_eq_true rfl) (Nat.le_of_ble_eq_true rfl) dX2_hear_6 ?_
  refine va_put (D := (dC, dI)) (ci := 2) (v := .int (if (I 9 1) < p1 then p1 else (I 9 1))) (ty := .int) (C := RX2) (T := TX2) (N := 6) hx hb hts hinX2 tyX2 tyX2_ok nmX2 hown hK hP hD hS 9 cG_9 rfl 3 (by decide) (hts (.fieldLink RX2 63 "OutboxHouse$Relay" "mark" "I") (by decide +kernel)) (fun _ h9 => h9) rfl (by decide +kernel) rfl rfl (Nat.le_of_ble_eq_true rfl) dX2_hear_9 (fun H locs hP hD hS => ?_)
  obtain ⟨I1, hI1⟩ : ∃ z : St, z = st I 9 1 (if (I 9 1) < p1 then p1 else (I 9 1)) := ⟨_, rfl⟩
  replace hP := wP (cE_9_1 hI1) hP; replace hD := wD (cE_9_1 hI1) hD; replace h := h _ hI1
  refine lv_aload_n hx hb dX2_hear_12 rfl (lv_at hl 0 rfl) ?_
  refine lv_aload_n hx hb dX2_hear_13 rfl (lv_at hl 0 rfl) ?_
  refine va_get (D := (dC, dI)) (ci := 2) (v := .int (I1 9 0)) (C := RX2) (T := TX2) (N := 6) hx hb hts hinX2 hown hK hP 9 cG_9 rfl 2 (by decide) (hts (.fieldLink RX2 28 "OutboxHouse$Relay" "position" "I") (by decide +kernel)) (fun _ h9 => h9) rfl dX2_hear_14 ?_
  refine lv_aload_n hx hb dX2_hear_17 rfl (lv_at hl 0 rfl) ?_
  refine va_get (D := (dC, dI)) (ci := 2) (v := .int (I1 9 1)) (C := RX2) (T := TX2) (N := 6) hx hb hts hinX2 hown hK hP 9 cG_9 rfl 3 (by decide) (hts (.fieldLink RX2 63 "OutboxHouse$Relay" "mark" "I") (by decide +kernel)) (fun _ h9 => h9) rfl dX2_hear_18 ?_
  refine va_mmax hx hb (hml.trans hl.1.symm) hown (hts (.methodLink RX2 66 Lib.Math.max.name) (by decide +kernel)) (hts (.static Lib.Math.max.name) (by decide +kernel)) (hts (.initialized "java/lang/Math") (by decide +kernel)) (hts (.code Lib.Math.max.name Lib.Math.max.code 2 (some .int)) (by decide +kernel)) (Nat.le_of_ble_eq_true rfl) (Nat.le_of_ble_eq_true rfl) (Nat.le_of_ble_eq_true rfl) (Nat.le_of_ble_eq_true rfl) dX2_hear_21 ?_
  refine va_put (D := (dC, dI)) (ci := 2) (v := .int (if (I1 9 0) < (I1 9 1) then (I1 9 1) else (I1 9 0))) (ty := .int) (C := RX2) (T := TX2) (N := 6) hx hb hts hinX2 tyX2 tyX2_ok nmX2 hown hK hP hD hS 9 cG_9 rfl 2 (by decide) (hts (.fieldLink RX2 28 "OutboxHouse$Relay" "position" "I") (by decide +kernel)) (fun _ h9 => h9) rfl (by decide +kernel) rfl rfl (Nat.le_of_ble_eq_true rfl) dX2_hear_24 (fun H locs hP hD hS => ?_)
  obtain ⟨I2, hI2⟩ : ∃ z : St, z = st I1 9 0 (if (I1 9 0) < (I1 9 1) then (I1 9 1) else (I1 9 0)) := ⟨_, rfl⟩
  replace hP := wP (cE_9_0 hI2) hP; replace hD := wD (cE_9_0 hI2) hD; replace h := h _ hI2
  exact W.vret hx hb hr (fun t ht hW => hQ _ _ t I2 J LP P h ⟨by rw [ht]; exact hP, hD⟩ (hS.F ht)) hS.2.2 dX2_hear_27
theorem m_X2_hear (l : Launch) (dC : Nat → ClassId) (dI : Nat → Nat → Nat) (cy : Nat → ClassId) (ad : Nat → Nat) (A : Nat → Prop) (I : St) (J : Rf) (LP : List Nat) (P : St) (p1 : Int32) {post : St → Rf → List Nat → St → Prop} (hD : va_D A (cW ad cy I J LP P)) (h : wp_X2_hear I J LP P p1 post) : Met l yX2_hear wsX2_hear rmX2_hear (va_Pc [.ref (ad 9), .int p1] (wPre (dC, dI) cy A (cW ad cy I J LP P))) (va_Qv (fun (u : CS) => post u.1 u.2.1 u.2.2.1 u.2.2.2) (fun (u : CS) t => wPost (dC, dI) A (cW ad cy u.1 u.2.1 u.2.2.1 u.2.2.2) t) A) 0 0 A := g_X2_hear l dC dI cy ad A I J LP P p1 hD h (fun a s0 t I' J' LP' P' h1 h2 h3 => ⟨⟨(I', J', LP', P'), rfl, h1, h2⟩, h3⟩)
abbrev rmX2_restart : Room := { frames := 0, cells := 0, slots := 0, locals := 0 }
set_option maxHeartbeats 4000000 in
set_option maxRecDepth 100000 in
theorem g_X2_restart (l : Launch) (dC : Nat → ClassId) (dI : Nat → Nat → Nat) (cy : Nat → ClassId) (ad : Nat → Nat) (A : Nat → Prop) (I : St) (J : Rf) (LP : List Nat) (P : St)  {post : Int32 → St → Rf → List Nat → St → Prop} (hD : va_D A (cW ad cy I J LP P)) (h : wp_X2_restart I J LP P  post) {Qc : Array Value → State → Outcome → State → Prop} (hQ : ∀ (a : Array Value) (s0 t : State) (r : Int32) (I' : St) (J' : Rf) (LP' : List Nat) (P' : St), post r I' J' LP' P' → wPost (dC, dI) A (cW ad cy I' J' LP' P') t → va_F A s0 t → Qc a s0 (.returned (some (.int r))) t) : Met l yX2_restart wsX2_restart rmX2_restart (va_Pc [.ref (ad 9)] (wPre (dC, dI) cy A (cW ad cy I J LP P))) Qc 0 0 A := by
  refine Met.ofW (cc := cX2_restart) (maxL := 2) (ret := (some .int)) (by decide) rfl ?_
  intro p e s m args below meth c s₁ B hml hv
  obtain ⟨rfl, hP, hK, hN, hA⟩ := hv
  have hx := B.exec
  have hb := B.bytes
  have hr := B.returns
  have hts := atoms_spec (ws := wsX2_restart) B.pre
  have hown : s.vm.findClass RX2 = some m.cls := findClass_of_methodNamed B.named
  have hlocks := B.notSynchronized
  have hinX2 : ∀ w ∈ wsX20, w ∈ wsX2_restart := fun _ h9 => List.mem_cons_of_mem _ (List.mem_append_right _ h9)
  have hS : va_S A s.heap s.heap [] := va_S.rf
  unfold wp_X2_restart at h
  have hl := lv_entry ([.ref (ad 9)]) (n := 2) (Nat.le_of_ble_eq_true rfl)
  rw [lg_entry_eq]
  generalize (lg_sl ([.ref (ad 9)]) ++ List.replicate (2 - (lg_sl ([.ref (ad 9)])).length) Slot.unset).toArray = ls at hl ⊢
  have hl : lv_has ls 2 [(0, .ref (ad 9))] := hl
  refine lv_aload_n hx hb dX2_restart_0 rfl (lv_at hl 0 rfl) ?_
  refine va_get (D := (dC, dI)) (ci := 2) (v := .int (I 9 0)) (C := RX2) (T := TX2) (N := 6) hx hb hts hinX2 hown hK hP 9 cG_9 rfl 2 (by decide) (hts (.fieldLink RX2 28 "OutboxHouse$Relay" "position" "I") (by decide +kernel)) (fun _ h9 => h9) rfl dX2_restart_1 ?_
  refine lv_aload_n hx hb dX2_restart_4 rfl (lv_at hl 0 rfl) ?_
  refine va_get (D := (dC, dI)) (ci := 2) (v := .int (I 9 1)) (C := RX2) (T := TX2) (N := 6) hx hb hts hinX2 hown hK hP 9 cG_9 rfl 3 (by decide) (hts (.fieldLink RX2 63 "OutboxHouse$Relay" "mark" "I") (by decide +kernel)) (fun _ h9 => h9) rfl dX2_restart_5 ?_
  refine lv_isub hx hb dX2_restart_8 ?_
  refine lv_istore_n (lv' := [(1, .int ((I 9 0) - (I 9 1))), (0, .ref (ad 9))]) hx hb dX2_restart_9 rfl hl (by decide) rfl (fun ls hl => ?_)
  refine lv_aload_n hx hb dX2_restart_10 rfl (lv_at hl 1 rfl) ?_
  refine lv_aload_n hx hb dX2_restart_11 rfl (lv_at hl 1 rfl) ?_
  refine va_get (D := (dC, dI)) (ci := 2) (v := .int (I 9 1)) (C := RX2) (T := TX2) (N := 6) hx hb hts hinX2 hown hK hP 9 cG_9 rfl 3 (by decide) (hts (.fieldLink RX2 63 "OutboxHouse$Relay" "mark" "I") (by decide +kernel)) (fun _ h9 => h9) rfl dX2_restart_12 ?_
  refine va_put (D := (dC, dI)) (ci := 2) (v := .int (I 9 1)) (ty := .int) (C := RX2) (T := TX2) (N := 6) hx hb hts hinX2 tyX2 tyX2_ok nmX2 hown hK hP hD hS 9 cG_9 rfl 2 (by decide) (hts (.fieldLink RX2 28 "OutboxHouse$Relay" "position" "I") (by decide +kernel)) (fun _ h9 => h9) rfl (by decide +kernel) rfl rfl (Nat.le_of_ble_eq_true rfl) dX2_restart_15 (fun H locs hP hD hS => ?_)
  obtain ⟨I1, hI1⟩ : ∃ z : St, z = st I 9 0 (I 9 1) := ⟨_, rfl⟩
  replace hP := wP (cE_9_0 hI1) hP; replace hD := wD (cE_9_0 hI1) hD; replace h := h _ hI1
  refine lv_iload_n hx hb dX2_restart_18 rfl (lv_at hl 0 rfl) ?_
  exact W.iret (v := (I 9 0) - (I 9 1)) hx hb hr (fun t ht hW => hQ _ _ t ((I 9 0) - (I 9 1)) I1 J LP P h ⟨by rw [ht]; exact hP, hD⟩ (hS.F ht)) hS.2.2 dX2_restart_19
theorem m_X2_restart (l : Launch) (dC : Nat → ClassId) (dI : Nat → Nat → Nat) (cy : Nat → ClassId) (ad : Nat → Nat) (A : Nat → Prop) (I : St) (J : Rf) (LP : List Nat) (P : St)  {post : Int32 → St → Rf → List Nat → St → Prop} (hD : va_D A (cW ad cy I J LP P)) (h : wp_X2_restart I J LP P  post) : Met l yX2_restart wsX2_restart rmX2_restart (va_Pc [.ref (ad 9)] (wPre (dC, dI) cy A (cW ad cy I J LP P))) (va_Qi (fun r (u : CS) => post r u.1 u.2.1 u.2.2.1 u.2.2.2) (fun (u : CS) t => wPost (dC, dI) A (cW ad cy u.1 u.2.1 u.2.2.1 u.2.2.2) t) A) 0 0 A := g_X2_restart l dC dI cy ad A I J LP P  hD h (fun a s0 t r I' J' LP' P' h1 h2 h3 => ⟨⟨r, (I', J', LP', P'), rfl, h1, h2⟩, h3⟩)
abbrev rmX2_lettersUnderWay : Room := { frames := 0, cells := 0, slots := 0, locals := 0 }
set_option maxHeartbeats 4000000 in
set_option maxRecDepth 100000 in
theorem g_X2_lettersUnderWay (l : Launch) (dC : Nat → ClassId) (dI : Nat → Nat → Nat) (cy : Nat → ClassId) (ad : Nat → Nat) (A : Nat → Prop) (I : St) (J : Rf) (LP : List Nat) (P : St)  {post : Int32 → St → Rf → List Nat → St → Prop} (hD : va_D A (cW ad cy I J LP P)) (h : wp_X2_lettersUnderWay I J LP P  post) {Qc : Array Value → State → Outcome → State → Prop} (hQ : ∀ (a : Array Value) (s0 t : State) (r : Int32) (I' : St) (J' : Rf) (LP' : List Nat) (P' : St), post r I' J' LP' P' → wPost (dC, dI) A (cW ad cy I' J' LP' P') t → va_F A s0 t → Qc a s0 (.returned (some (.int r))) t) : Met l yX2_lettersUnderWay wsX2_lettersUnderWay rmX2_lettersUnderWay (va_Pc [.ref (ad 9)] (wPre (dC, dI) cy A (cW ad cy I J LP P))) Qc 0 0 A := by
  refine Met.ofW (cc := cX2_lettersUnderWay) (maxL := 3) (ret := (some .int)) (by decide) rfl ?_
  intro p e s m args below meth c s₁ B hml hv
  obtain ⟨rfl, hP, hK, hN, hA⟩ := hv
  have hx := B.exec
  have hb := B.bytes
  have hr := B.returns
  have hts := atoms_spec (ws := wsX2_lettersUnderWay) B.pre
  have hown : s.vm.findClass RX2 = some m.cls := findClass_of_methodNamed B.named
  have hlocks := B.notSynchronized
  have hinX2 : ∀ w ∈ wsX20, w ∈ wsX2_lettersUnderWay := fun _ h9 => List.mem_cons_of_mem _ (List.mem_append_left _ (List.mem_append_right _ h9))
  have hinX3 : ∀ w ∈ wsX30, w ∈ wsX2_lettersUnderWay := fun _ h9 => List.mem_cons_of_mem _ (List.mem_append_right _ h9)
  have hS : va_S A s.heap s.heap [] := va_S.rf
  unfold wp_X2_lettersUnderWay at h
  have hl := lv_entry ([.ref (ad 9)]) (n := 3) (Nat.le_of_ble_eq_true rfl)
  rw [lg_entry_eq]
  generalize (lg_sl ([.ref (ad 9)]) ++ List.replicate (3 - (lg_sl ([.ref (ad 9)])).length) Slot.unset).toArray = ls at hl ⊢
  have hl : lv_has ls 3 [(0, .ref (ad 9))] := hl
  refine lv_iconst (v := 0) hx hb dX2_lettersUnderWay_0 (by decide) ?_
  refine lv_istore_n (lv' := [(1, .int 0), (0, .ref (ad 9))]) hx hb dX2_lettersUnderWay_1 rfl hl (by decide) rfl (fun ls hl => ?_)
  refine lv_iconst (v := 0) hx hb dX2_lettersUnderWay_2 (by decide) ?_
  refine lv_istore_n (lv' := [(2, .int 0), (1, .int 0), (0, .ref (ad 9))]) hx hb dX2_lettersUnderWay_3 rfl hl (by decide) rfl (fun ls hl => ?_)
  obtain ⟨V1, ⟨n20, hV0⟩, hstepn2⟩ := h
  have hlpn2 : ∀ (n2 : Nat) (x3 : Int32) (x4 : Int32) (I5 : St) (J6 : Rf) (LP7 : List Nat) (P8 : St) (H : Heap) (locs : List Loc), va_P (dC, dI) vwCl (cW ad cy I5 J6 LP7 P8) H → va_D A (cW ad cy I5 J6 LP7 P8) → va_S A s.heap H locs → ∀ ls : Array Slot, lv_has ls 3 [(0, .ref (ad 9)), (1, .int x3), (2, .int x4)] → V1 n2 x3 x4 I5 J6 LP7 P8 → W p l e (headSpec wsX2_lettersUnderWay rmX2_lettersUnderWay).room s m ([.ref (ad 9)] : List Value).toArray below meth c H locs 0 0 (MQ below Qc ([.ref (ad 9)] : List Value).toArray s 0 0 A) (F0 m 4 ls []) := by
    intro n2
    induction n2 using Nat.strongRecOn with
    | _ n2 ihn2 =>
      intro x3 x4 I5 J6 LP7 P8 H locs hP hD hS ls hl hV
      have h := hstepn2 n2 x3 x4 I5 J6 LP7 P8 hV
      refine lv_iload_n hx hb dX2_lettersUnderWay_4 rfl (lv_at hl 2 rfl) ?_
      refine lv_iconst (v := 3) hx hb dX2_lettersUnderWay_5 (by decide) ?_
      refine lv_icmp_ge (tgt := 27) hx hb dX2_lettersUnderWay_6 (by decide) (fun hc => ?_) (fun hc => ?_)
      · have h := h.1 hc
        refine lv_iload_n hx hb dX2_lettersUnderWay_27 rfl (lv_at hl 1 rfl) ?_
        exact W.iret (v := x3) hx hb hr (fun t ht hW => hQ _ _ t x3 I5 J6 LP7 P8 h ⟨by rw [ht]; exact hP, hD⟩ (hS.F ht)) hS.2.2 dX2_lettersUnderWay_28
      · have h := h.2 hc
        refine lv_iload_n hx hb dX2_lettersUnderWay_9 rfl (lv_at hl 1 rfl) ?_
        refine lv_aload_n hx hb dX2_lettersUnderWay_10 rfl (lv_at hl 0 rfl) ?_
        refine va_get (D := (dC, dI)) (ci := 2) (v := .ref (ad 10)) (C := RX2) (T := TX2) (N := 6) hx hb hts hinX2 hown hK hP 9 cG_9 rfl 1 (by decide) (hts (.fieldLink RX2 11 "OutboxHouse$Relay" "lanes" "[LOutboxHouse$Row;") (by decide +kernel)) (fun _ h9 => h9) rfl dX2_lettersUnderWay_11 ?_
        refine lv_iload_n hx hb dX2_lettersUnderWay_14 rfl (lv_at hl 2 rfl) ?_
        have hv := h.1; replace h := h.2
        refine va_aldq hx hb hK hP 10 3 cG_10 rfl hv dX2_lettersUnderWay_15 ?_
        obtain ⟨j9, ej9⟩ : ∃ z : Nat, z = 11 + x4.toNatClampNeg := ⟨_, rfl⟩
        have h_j9 : 11 ≤ j9 ∧ j9 ≤ 14 := by rw [ej9]; exact lane_j hv
        replace h := h _ ej9
        refine W.eq (g2 := F0 m 16 ls [.ref (ad j9), .int x3]) (by rw [ej9]; rfl) ?_
        refine va_getN (D := (dC, dI)) (ci := 3) (v := .int (I5 j9 0)) (C := RX3) (T := TX3) (N := 2) hx hb hts hinX3 hown hK hP j9 (cG_row (j := j9) h_j9) rfl 1 (by decide) (va_Nw.use rfl (hN.1 (RX2, 72, "OutboxHouse$Row", "size", "I", "OutboxHouse") (by decide +kernel))) (fun _ h9 => h9) rfl dX2_lettersUnderWay_16 ?_
        refine lv_iadd hx hb dX2_lettersUnderWay_19 ?_
        refine lv_istore_n (lv' := [(1, .int (x3 + (I5 j9 0))), (0, .ref (ad 9)), (2, .int x4)]) hx hb dX2_lettersUnderWay_20 rfl hl (by decide) rfl (fun ls hl => ?_)
        refine lv_iinc (v := x4 + 1) (lv' := [(2, .int (x4 + 1)), (1, .int (x3 + (I5 j9 0))), (0, .ref (ad 9))]) hx hb dX2_lettersUnderWay_21 hl (k := 2) rfl rfl (by decide) rfl (fun ls hl => ?_)
        refine lv_goto (tgt := 4) hx hb dX2_lettersUnderWay_24 (by decide) ?_
        obtain ⟨n10, hlt, hV⟩ := h
        exact ihn2 n10 hlt _ _ _ _ _ _ _ _ hP hD hS ls (lv_sub hl [2, 1, 0] rfl) hV
  exact hlpn2 n20 _ _ _ _ _ _ _ _ hP hD hS ls (lv_sub hl [2, 1, 0] rfl) hV0
theorem m_X2_lettersUnderWay (l : Launch) (dC : Nat → ClassId) (dI : Nat → Nat → Nat) (cy : Nat → ClassId) (ad : Nat → Nat) (A : Nat → Prop) (I : St) (J : Rf) (LP : List Nat) (P : St)  {post : Int32 → St → Rf → List Nat → St → Prop} (hD : va_D A (cW ad cy I J LP P)) (h : wp_X2_lettersUnderWay I J LP P  post) : Met l yX2_lettersUnderWay wsX2_lettersUnderWay rmX2_lettersUnderWay (va_Pc [.ref (ad 9)] (wPre (dC, dI) cy A (cW ad cy I J LP P))) (va_Qi (fun r (u : CS) => post r u.1 u.2.1 u.2.2.1 u.2.2.2) (fun (u : CS) t => wPost (dC, dI) A (cW ad cy u.1 u.2.1 u.2.2.1 u.2.2.2) t) A) 0 0 A := g_X2_lettersUnderWay l dC dI cy ad A I J LP P  hD h (fun a s0 t r I' J' LP' P' h1 h2 h3 => ⟨⟨r, (I', J', LP', P'), rfl, h1, h2⟩, h3⟩)
abbrev rmX3_find : Room := { frames := 0, cells := 0, slots := 0, locals := 0 }
set_option maxHeartbeats 4000000 in
set_option maxRecDepth 100000 in
theorem g_X3_find (l : Launch) (dC : Nat → ClassId) (dI : Nat → Nat → Nat) (cy : Nat → ClassId) (ad : Nat → Nat) (A : Nat → Prop) (I : St) (J : Rf) (LP : List Nat) (P : St) (j : Nat) (h_j : 11 ≤ j ∧ j ≤ 14) (p1 : Int32) (p2 : Int32) {post : Int32 → St → Rf → List Nat → St → Prop} (hD : va_D A (cW ad cy I J LP P)) (h : wp_X3_find I J LP P j p1 p2 post) {Qc : Array Value → State → Outcome → State → Prop} (hQ : ∀ (a : Array Value) (s0 t : State) (r : Int32) (I' : St) (J' : Rf) (LP' : List Nat) (P' : St), post r I' J' LP' P' → wPost (dC, dI) A (cW ad cy I' J' LP' P') t → va_F A s0 t → Qc a s0 (.returned (some (.int r))) t) : Met l yX3_find wsX3_find rmX3_find (va_Pc [.ref (ad j), .int p1, .int p2] (wPre (dC, dI) cy A (cW ad cy I J LP P))) Qc 0 0 A := by
  refine Met.ofW (cc := cX3_find) (maxL := 5) (ret := (some .int)) (by decide) rfl ?_
  intro p e s m args below meth c s₁ B hml hv
  obtain ⟨rfl, hP, hK, hN, hA⟩ := hv
  have hx := B.exec
  have hb := B.bytes
  have hr := B.returns
  have hts := atoms_spec (ws := wsX3_find) B.pre
  have hown : s.vm.findClass RX3 = some m.cls := findClass_of_methodNamed B.named
  have hlocks := B.notSynchronized
  have hinX3 : ∀ w ∈ wsX30, w ∈ wsX3_find := fun _ h9 => List.mem_cons_of_mem _ (List.mem_append_left _ (List.mem_append_right _ h9))
  have hinX0 : ∀ w ∈ wsX00, w ∈ wsX3_find := fun _ h9 => List.mem_cons_of_mem _ (List.mem_append_right _ h9)
  have hS : va_S A s.heap s.heap [] := va_S.rf
  unfold wp_X3_find at h
  have hl := lv_entry ([.ref (ad j), .int p1, .int p2]) (n := 5) (Nat.le_of_ble_eq_true rfl)
  rw [lg_entry_eq]
  generalize (lg_sl ([.ref (ad j), .int p1, .int p2]) ++ List.replicate (5 - (lg_sl ([.ref (ad j), .int p1, .int p2])).length) Slot.unset).toArray = ls at hl ⊢
  have hl : lv_has ls 5 [(0, .ref (ad j)), (1, .int p1), (2, .int p2)] := hl
  refine lv_iconst (v := 0) hx hb dX3_find_0 (by decide) ?_
  refine lv_istore_n (lv' := [(3, .int 0), (0, .ref (ad j)), (1, .int p1), (2, .int p2)]) hx hb dX3_find_1 rfl hl (by decide) rfl (fun ls hl => ?_)
  obtain ⟨V1, ⟨n20, hV0⟩, hstepn2⟩ := h
  have hlpn2 : ∀ (n2 : Nat) (x3 : Int32) (I4 : St) (J5 : Rf) (LP6 : List Nat) (P7 : St) (H : Heap) (locs : List Loc), va_P (dC, dI) vwCl (cW ad cy I4 J5 LP6 P7) H → va_D A (cW ad cy I4 J5 LP6 P7) → va_S A s.heap H locs → ∀ ls : Array Slot, lv_has ls 5 [(0, .ref (ad j)), (1, .int p1), (2, .int p2), (3, .int x3)] → V1 n2 x3 I4 J5 LP6 P7 → W p l e (headSpec wsX3_find rmX3_find).room s m ([.ref (ad j), .int p1, .int p2] : List Value).toArray below meth c H locs 0 0 (MQ below Qc ([.ref (ad j), .int p1, .int p2] : List Value).toArray s 0 0 A) (F0 m 2 ls []) := by
    intro n2
    induction n2 using Nat.strongRecOn with
    | _ n2 ihn2 =>
      intro x3 I4 J5 LP6 P7 H locs hP hD hS ls hl hV
      have h := hstepn2 n2 x3 I4 J5 LP6 P7 hV
      refine lv_iload_n hx hb dX3_find_2 rfl (lv_at hl 3 rfl) ?_
      refine lv_aload_n hx hb dX3_find_3 rfl (lv_at hl 0 rfl) ?_
      refine va_get (D := (dC, dI)) (ci := 3) (v := .int (I4 j 0)) (C := RX3) (T := TX3) (N := 2) hx hb hts hinX3 hown hK hP j (cG_row (j := j) h_j) rfl 1 (by decide) (hts (.fieldLink RX3 23 "OutboxHouse$Row" "size" "I") (by decide +kernel)) (fun _ h9 => h9) rfl dX3_find_4 ?_
      refine lv_icmp_ge (tgt := 49) hx hb dX3_find_7 (by decide) (fun hc => ?_) (fun hc => ?_)
      · have h := h.1 hc
        refine lv_bipush (v := (-9)) hx hb dX3_find_49 (by decide) ?_
        exact W.iret (v := (-9)) hx hb hr (fun t ht hW => hQ _ _ t (-9) I4 J5 LP6 P7 h ⟨by rw [ht]; exact hP, hD⟩ (hS.F ht)) hS.2.2 dX3_find_51
      · have h := h.2 hc
        refine lv_aload_n hx hb dX3_find_10 rfl (lv_at hl 0 rfl) ?_
        refine va_get (D := (dC, dI)) (ci := 3) (v := .ref (ad (j + 4))) (C := RX3) (T := TX3) (N := 2) hx hb hts hinX3 hown hK hP j (cG_row (j := j) h_j) rfl 0 (by decide) (hts (.fieldLink RX3 17 "OutboxHouse$Row" "slots" "[LOutboxHouse$Change;") (by decide +kernel)) (fun _ h9 => h9) rfl dX3_find_11 ?_
        refine lv_iload_n hx hb dX3_find_14 rfl (lv_at hl 3 rfl) ?_
        have hv := h.1; replace h := h.2
        refine va_aldq hx hb hK hP (j + 4) 2 (cG_slots (j := j) h_j) rfl hv dX3_find_15 ?_
        rcases hq : J5 (j + 4) x3.toNatClampNeg with _ | a8
        · replace h := h.1 hq
          try rw [hq]
          refine W.eq (g2 := F0 m 16 ls [.null]) rfl ?_
          refine lv_astoreN (lv' := [(4, .null), (0, .ref (ad j)), (1, .int p1), (2, .int p2), (3, .int x3)]) hx hb dX3_find_16 hl (by decide) rfl (fun ls hl => ?_)
          refine lv_aloadN hx hb dX3_find_18 (lv_at hl 0 rfl) ?_
          refine lv_ifnullN (tgt := 43) hx hb dX3_find_20 (by decide) ?_
          refine lv_iinc (v := x3 + 1) (lv' := [(3, .int (x3 + 1)), (4, .null), (0, .ref (ad j)), (1, .int p1), (2, .int p2)]) hx hb dX3_find_43 hl (k := 4) rfl rfl (by decide) rfl (fun ls hl => ?_)
          refine lv_goto (tgt := 2) hx hb dX3_find_46 (by decide) ?_
          obtain ⟨n9, hlt, hV⟩ := h
          exact ihn2 n9 hlt _ _ _ _ _ _ _ hP hD hS ls (lv_sub hl [2, 3, 4, 0] rfl) hV
        · replace h := h.2 _ hq
          try rw [hq]
          refine W.eq (g2 := F0 m 16 ls [.ref a8]) rfl ?_
          refine lv_astore (lv' := [(4, .ref a8), (0, .ref (ad j)), (1, .int p1), (2, .int p2), (3, .int x3)]) hx hb dX3_find_16 hl (by decide) rfl (fun ls hl => ?_)
          refine lv_aload hx hb dX3_find_18 (lv_at hl 0 rfl) ?_
          refine lv_ifnull hx hb dX3_find_20 ?_
          refine lv_aload hx hb dX3_find_23 (lv_at hl 0 rfl) ?_
          have hm := h.1; replace h := h.2
          obtain ⟨q10, hq10⟩ := cG_p (ad := ad) (cy := cy) (I := I4) (J := J5) (P := P7) hm
          refine va_get (D := (dC, dI)) (ci := 0) (v := .int (P7 a8 1)) (C := RX0) (T := TX0) (N := 5) hx hb hts hinX0 hown hK hP q10 hq10 rfl 1 (by decide) (hts (.fieldLink RX3 27 "OutboxHouse$Change" "key" "I") (by decide +kernel)) (fun _ h9 => h9) rfl dX3_find_25 ?_
          refine lv_iload_n hx hb dX3_find_28 rfl (lv_at hl 2 rfl) ?_
          refine lv_icmp_ne (tgt := 43) hx hb dX3_find_29 (by decide) (fun hc => ?_) (fun hc => ?_)
          · have h := h.1 hc
            refine lv_iinc (v := x3 + 1) (lv' := [(3, .int (x3 + 1)), (4, .ref a8), (0, .ref (ad j)), (1, .int p1), (2, .int p2)]) hx hb dX3_find_43 hl (k := 4) rfl rfl (by decide) rfl (fun ls hl => ?_)
            refine lv_goto (tgt := 2) hx hb dX3_find_46 (by decide) ?_
            obtain ⟨n11, hlt, hV⟩ := h
            exact ihn2 n11 hlt _ _ _ _ _ _ _ hP hD hS ls (lv_sub hl [2, 3, 4, 0] rfl) hV
          · have h := h.2 hc
            refine lv_aload hx hb dX3_find_32 (lv_at hl 0 rfl) ?_
            have hm := h.1; replace h := h.2
            obtain ⟨q12, hq12⟩ := cG_p (ad := ad) (cy := cy) (I := I4) (J := J5) (P := P7) hm
            refine va_get (D := (dC, dI)) (ci := 0) (v := .int (P7 a8 3)) (C := RX0) (T := TX0) (N := 5) hx hb hts hinX0 hown hK hP q12 hq12 rfl 3 (by decide) (hts (.fieldLink RX3 30 "OutboxHouse$Change" "order" "I") (by decide +kernel)) (fun _ h9 => h9) rfl dX3_find_34 ?_
            refine lv_iload_n hx hb dX3_find_37 rfl (lv_at hl 3 rfl) ?_
            refine lv_icmp_ne (tgt := 43) hx hb dX3_find_38 (by decide) (fun hc => ?_) (fun hc => ?_)
            · have h := h.1 hc
              refine lv_iinc (v := x3 + 1) (lv' := [(3, .int (x3 + 1)), (4, .ref a8), (0, .ref (ad j)), (1, .int p1), (2, .int p2)]) hx hb dX3_find_43 hl (k := 4) rfl rfl (by decide) rfl (fun ls hl => ?_)
              refine lv_goto (tgt := 2) hx hb dX3_find_46 (by decide) ?_
              obtain ⟨n13, hlt, hV⟩ := h
              exact ihn2 n13 hlt _ _ _ _ _ _ _ hP hD hS ls (lv_sub hl [2, 3, 4, 0] rfl) hV
            · have h := h.2 hc
              refine lv_iload_n hx hb dX3_find_41 rfl (lv_at hl 4 rfl) ?_
              exact W.iret (v := x3) hx hb hr (fun t ht hW => hQ _ _ t x3 I4 J5 LP6 P7 h ⟨by rw [ht]; exact hP, hD⟩ (hS.F ht)) hS.2.2 dX3_find_42
  exact hlpn2 n20 _ _ _ _ _ _ _ hP hD hS ls (lv_sub hl [1, 2, 3, 0] rfl) hV0
theorem m_X3_find (l : Launch) (dC : Nat → ClassId) (dI : Nat → Nat → Nat) (cy : Nat → ClassId) (ad : Nat → Nat) (A : Nat → Prop) (I : St) (J : Rf) (LP : List Nat) (P : St) (j : Nat) (h_j : 11 ≤ j ∧ j ≤ 14) (p1 : Int32) (p2 : Int32) {post : Int32 → St → Rf → List Nat → St → Prop} (hD : va_D A (cW ad cy I J LP P)) (h : wp_X3_find I J LP P j p1 p2 post) : Met l yX3_find wsX3_find rmX3_find (va_Pc [.ref (ad j), .int p1, .int p2] (wPre (dC, dI) cy A (cW ad cy I J LP P))) (va_Qi (fun r (u : CS) => post r u.1 u.2.1 u.2.2.1 u.2.2.2) (fun (u : CS) t => wPost (dC, dI) A (cW ad cy u.1 u.2.1 u.2.2.1 u.2.2.2) t) A) 0 0 A := g_X3_find l dC dI cy ad A I J LP P j h_j p1 p2 hD h (fun a s0 t r I' J' LP' P' h1 h2 h3 => ⟨⟨r, (I', J', LP', P'), rfl, h1, h2⟩, h3⟩)
abbrev rmX3_clear : Room := { frames := 0, cells := 0, slots := 0, locals := 0 }
set_option maxHeartbeats 4000000 in
set_option maxRecDepth 100000 in
theorem g_X3_clear (l : Launch) (dC : Nat → ClassId) (dI : Nat → Nat → Nat) (cy : Nat → ClassId) (ad : Nat → Nat) (A : Nat → Prop) (I : St) (J : Rf) (LP : List Nat) (P : St) (j : Nat) (h_j : 11 ≤ j ∧ j ≤ 14) {post : St → Rf → List Nat → St → Prop} (hD : va_D A (cW ad cy I J LP P)) (h : wp_X3_clear I J LP P j post) {Qc : Array Value → State → Outcome → State → Prop} (hQ : ∀ (a : Array Value) (s0 t : State) (I' : St) (J' : Rf) (LP' : List Nat) (P' : St), post I' J' LP' P' → wPost (dC, dI) A (cW ad cy I' J' LP' P') t → va_F A s0 t → Qc a s0 (.returned (none)) t) : Met l yX3_clear wsX3_clear rmX3_clear (va_Pc [.ref (ad j)] (wPre (dC, dI) cy A (cW ad cy I J LP P))) Qc 0 0 A := by
  refine Met.ofW (cc := cX3_clear) (maxL := 1) (ret := none) (by decide) rfl ?_
  intro p e s m args below meth c s₁ B hml hv
  obtain ⟨rfl, hP, hK, hN, hA⟩ := hv
  have hx := B.exec
  have hb := B.bytes
  have hr := B.returns
  have hts := atoms_spec (ws := wsX3_clear) B.pre
  have hown : s.vm.findClass RX3 = some m.cls := findClass_of_methodNamed B.named
  have hlocks := B.notSynchronized
  have hinX3 : ∀ w ∈ wsX30, w ∈ wsX3_clear := fun _ h9 => List.mem_cons_of_mem _ (List.mem_append_right _ h9)
  have hS : va_S A s.heap s.heap [] := va_S.rf
  unfold wp_X3_clear at h
  have hl := lv_entry ([.ref (ad j)]) (n := 1) (Nat.le_of_ble_eq_true rfl)
  rw [lg_entry_eq]
  generalize (lg_sl ([.ref (ad j)]) ++ List.replicate (1 - (lg_sl ([.ref (ad j)])).length) Slot.unset).toArray = ls at hl ⊢
  have hl : lv_has ls 1 [(0, .ref (ad j))] := hl
  refine lv_aload_n hx hb dX3_clear_0 rfl (lv_at hl 0 rfl) ?_
  refine lv_iconst (v := 0) hx hb dX3_clear_1 (by decide) ?_
  refine va_put (D := (dC, dI)) (ci := 3) (v := .int 0) (ty := .int) (C := RX3) (T := TX3) (N := 2) hx hb hts hinX3 tyX3 tyX3_ok nmX3 hown hK hP hD hS j (cG_row (j := j) h_j) rfl 1 (by decide) (hts (.fieldLink RX3 23 "OutboxHouse$Row" "size" "I") (by decide +kernel)) (fun _ h9 => h9) rfl (by decide +kernel) rfl rfl (Nat.le_of_ble_eq_true rfl) dX3_clear_2 (fun H locs hP hD hS => ?_)
  obtain ⟨I1, hI1⟩ : ∃ z : St, z = st I j 0 0 := ⟨_, rfl⟩
  replace hP := wP (cE_row h_j hI1) hP; replace hD := wD (cE_row h_j hI1) hD; replace h := h _ hI1
  exact W.vret hx hb hr (fun t ht hW => hQ _ _ t I1 J LP P h ⟨by rw [ht]; exact hP, hD⟩ (hS.F ht)) hS.2.2 dX3_clear_5
theorem m_X3_clear (l : Launch) (dC : Nat → ClassId) (dI : Nat → Nat → Nat) (cy : Nat → ClassId) (ad : Nat → Nat) (A : Nat → Prop) (I : St) (J : Rf) (LP : List Nat) (P : St) (j : Nat) (h_j : 11 ≤ j ∧ j ≤ 14) {post : St → Rf → List Nat → St → Prop} (hD : va_D A (cW ad cy I J LP P)) (h : wp_X3_clear I J LP P j post) : Met l yX3_clear wsX3_clear rmX3_clear (va_Pc [.ref (ad j)] (wPre (dC, dI) cy A (cW ad cy I J LP P))) (va_Qv (fun (u : CS) => post u.1 u.2.1 u.2.2.1 u.2.2.2) (fun (u : CS) t => wPost (dC, dI) A (cW ad cy u.1 u.2.1 u.2.2.1 u.2.2.2) t) A) 0 0 A := g_X3_clear l dC dI cy ad A I J LP P j h_j hD h (fun a s0 t I' J' LP' P' h1 h2 h3 => ⟨⟨(I', J', LP', P'), rfl, h1, h2⟩, h3⟩)
