abbrev rmX8_read : Room := { frames := 2, cells := 0, slots := 0, locals := 43 }
set_option maxHeartbeats 4000000 in
set_option maxRecDepth 100000 in
theorem g_X8_read (l : Launch) (dC : Nat → ClassId) (dI : Nat → Nat → Nat) (cy : Nat → ClassId) (ad : Nat → Nat) (A : Nat → Prop) (I : St) (p1 : Int32) (p2 : Int32) {post : Int32 → St → Prop} (hD : va_D A (rW ad cy I)) (h : wp_X8_read I p1 p2 post) {Qc : Array Value → State → Outcome → State → Prop} (hQ : ∀ (a : Array Value) (s0 t : State) (r : Int32) (I' : St), post r I' → wPost (dC, dI) A (rW ad cy I') t → va_F A s0 t → Qc a s0 (.returned (some (.int r))) t) : Met l yX8_read wsX8_read rmX8_read (va_Pc [.ref (ad 40), .int p1, .int p2] (wPre (dC, dI) cy A (rW ad cy I))) Qc 0 0 A := by
  refine Met.ofW (cc := cX8_read) (maxL := 3) (ret := (some .int)) (by decide) rfl ?_
  intro p e s m args below meth c s₁ B hml hv
  obtain ⟨rfl, hP, hK, hN, hA⟩ := hv
  have hx := B.exec
  have hb := B.bytes
  have hr := B.returns
  have hts := atoms_spec (ws := wsX8_read) B.pre
  have hown : s.vm.findClass RX8 = some m.cls := findClass_of_methodNamed B.named
  have hlocks := B.notSynchronized
  have hinX8 : ∀ w ∈ wsX80, w ∈ wsX8_read := fun _ h9 => List.mem_cons_of_mem _ (List.mem_append_right _ h9)
  have hS : va_S A s.heap s.heap [] := va_S.rf
  unfold wp_X8_read at h
  have hl := lv_entry ([.ref (ad 40), .int p1, .int p2]) (n := 3) (Nat.le_of_ble_eq_true rfl)
  rw [lg_entry_eq]
  generalize (lg_sl ([.ref (ad 40), .int p1, .int p2]) ++ List.replicate (3 - (lg_sl ([.ref (ad 40), .int p1, .int p2])).length) Slot.unset).toArray = ls at hl ⊢
  have hl : lv_has ls 3 [(0, .ref (ad 40)), (1, .int p1), (2, .int p2)] := hl
  refine lv_aload_n hx hb dX8_read_0 rfl (lv_at hl 0 rfl) ?_
  refine lv_iload_n hx hb dX8_read_1 rfl (lv_at hl 1 rfl) ?_
  refine va_calli (va_runV (As := [.int p1]) (rest := []) ⟨hx, hb, hml, hown, hts⟩ (m_X8_isTransaction l dC dI cy ad A I p1 hD h) (cwV 1 hts gX8_read_X8_isTransaction rfl rfl rfl (by decide +kernel) ⟨Nat.le_of_ble_eq_true rfl, Nat.le_of_ble_eq_true rfl⟩) ⟨wPre.blind, va_recv hK hP (ci := 8) (q0 := 0) rfl rG_o, wPre.at hP hK hN hS hA⟩ rfl rfl hl.1 rfl (lv_room (Nat.le_of_ble_eq_true rfl)) dX8_read_2 ⟨by first | exact Nat.le_of_ble_eq_true rfl | (show _ ≤ 0; omega), by first | exact Nat.le_of_ble_eq_true rfl | (show _ ≤ 0; omega)⟩) hS (fun q _ h => h) (fun q h => h) (fun r1 u t H locs ht hvm hw hB hz1 hk1 hS => ?_)
  obtain ⟨I2, rfl⟩ : ∃ z : St, z = u := ⟨_, rfl⟩
  obtain ⟨hP, hD⟩ := hB; rw [ht] at hP; replace h := hw; try dsimp only at h hP hD
  refine lv_if_eq (tgt := 15) hx hb dX8_read_5 (by decide) (fun hc => ?_) (fun hc => ?_)
  · have h := h.1 hc
    refine lv_iconst (v := 0) hx hb dX8_read_15 (by decide) ?_
    exact W.iret (v := 0) hx hb hr (fun t ht hW => hQ _ _ t 0 I2 h ⟨by rw [ht]; exact hP, hD⟩ (hS.F ht)) hS.2.2 dX8_read_16
  · have h := h.2 hc
    refine lv_iload_n hx hb dX8_read_8 rfl (lv_at hl 2 rfl) ?_
    refine va_calli (va_runS (As := [.int p2]) (rest := []) ⟨hx, hb, hml, hown, hts⟩ (m_X8_isKey l dC dI cy ad A I2 p2 hD h) (va_cwS 1 hts gX8_read_X8_isKey rfl rfl rfl (by decide +kernel) ⟨Nat.le_of_ble_eq_true rfl, Nat.le_of_ble_eq_true rfl⟩) ⟨wPre.blind, wPre.at hP hK hN hS hA⟩ rfl rfl hl.1 rfl (lv_room (Nat.le_of_ble_eq_true rfl)) dX8_read_9 ⟨by first | exact Nat.le_of_ble_eq_true rfl | (show _ ≤ 0; omega), by first | exact Nat.le_of_ble_eq_true rfl | (show _ ≤ 0; omega)⟩) hS (fun q _ h => h) (fun q h => h) (fun r3 u t H locs ht hvm hw hB hz1 hk1 hS => ?_)
    obtain ⟨I4, rfl⟩ : ∃ z : St, z = u := ⟨_, rfl⟩
    obtain ⟨hP, hD⟩ := hB; rw [ht] at hP; replace h := hw; try dsimp only at h hP hD
    refine lv_if_ne (tgt := 17) hx hb dX8_read_12 (by decide) (fun hc => ?_) (fun hc => ?_)
    · have h := h.1 hc
      refine lv_aload_n hx hb dX8_read_17 rfl (lv_at hl 0 rfl) ?_
      refine va_get (D := (dC, dI)) (ci := 8) (v := .ref (ad 1)) (C := RX8) (T := TX8) (N := 35) hx hb hts hinX8 hown hK hP 0 rG_o rfl 1 (by decide) (hts (.fieldLink RX8 13 "OutboxHouseModel" "wrote" "[Z") (by decide +kernel)) (fun _ h9 => h9) rfl dX8_read_18 ?_
      refine lv_bipush (v := 6) hx hb dX8_read_21 (by decide) ?_
      refine lv_iload_n hx hb dX8_read_23 rfl (lv_at hl 1 rfl) ?_
      refine lv_imul hx hb dX8_read_24 ?_
      refine lv_iload_n hx hb dX8_read_25 rfl (lv_at hl 2 rfl) ?_
      refine lv_iadd hx hb dX8_read_26 ?_
      have hv := h.1; replace h := h.2
      refine va_zald hx hb hK hP 2 1 rG_1 rfl hv dX8_read_27 ?_
      refine lv_if_eq (tgt := 45) hx hb dX8_read_28 (by decide) (fun hc => ?_) (fun hc => ?_)
      · have h := h.1 hc
        refine lv_aload_n hx hb dX8_read_45 rfl (lv_at hl 0 rfl) ?_
        refine va_get (D := (dC, dI)) (ci := 8) (v := .ref (ad 3)) (C := RX8) (T := TX8) (N := 35) hx hb hts hinX8 hown hK hP 0 rG_o rfl 3 (by decide) (hts (.fieldLink RX8 20 "OutboxHouseModel" "value" "[I") (by decide +kernel)) (fun _ h9 => h9) rfl dX8_read_46 ?_
        refine lv_iload_n hx hb dX8_read_49 rfl (lv_at hl 2 rfl) ?_
        have hv := h.1; replace h := h.2
        refine va_iald hx hb hK hP 4 0 rG_3 rfl hv dX8_read_50 ?_
        exact W.iret (v := I4 3 p2.toNatClampNeg) hx hb hr (fun t ht hW => hQ _ _ t (I4 3 p2.toNatClampNeg) I4 h ⟨by rw [ht]; exact hP, hD⟩ (hS.F ht)) hS.2.2 dX8_read_51
      · have h := h.2 hc
        refine lv_aload_n hx hb dX8_read_31 rfl (lv_at hl 0 rfl) ?_
        refine va_get (D := (dC, dI)) (ci := 8) (v := .ref (ad 2)) (C := RX8) (T := TX8) (N := 35) hx hb hts hinX8 hown hK hP 0 rG_o rfl 2 (by decide) (hts (.fieldLink RX8 16 "OutboxHouseModel" "written" "[I") (by decide +kernel)) (fun _ h9 => h9) rfl dX8_read_32 ?_
        refine lv_bipush (v := 6) hx hb dX8_read_35 (by decide) ?_
        refine lv_iload_n hx hb dX8_read_37 rfl (lv_at hl 1 rfl) ?_
        refine lv_imul hx hb dX8_read_38 ?_
        refine lv_iload_n hx hb dX8_read_39 rfl (lv_at hl 2 rfl) ?_
        refine lv_iadd hx hb dX8_read_40 ?_
        have hv := h.1; replace h := h.2
        refine va_iald hx hb hK hP 3 0 rG_2 rfl hv dX8_read_41 ?_
        refine lv_goto (tgt := 51) hx hb dX8_read_42 (by decide) ?_
        exact W.iret (v := I4 2 ((6 * p1) + p2).toNatClampNeg) hx hb hr (fun t ht hW => hQ _ _ t (I4 2 ((6 * p1) + p2).toNatClampNeg) I4 h ⟨by rw [ht]; exact hP, hD⟩ (hS.F ht)) hS.2.2 dX8_read_51
    · have h := h.2 hc
      refine lv_iconst (v := 0) hx hb dX8_read_15 (by decide) ?_
      exact W.iret (v := 0) hx hb hr (fun t ht hW => hQ _ _ t 0 I4 h ⟨by rw [ht]; exact hP, hD⟩ (hS.F ht)) hS.2.2 dX8_read_16
theorem m_X8_read (l : Launch) (dC : Nat → ClassId) (dI : Nat → Nat → Nat) (cy : Nat → ClassId) (ad : Nat → Nat) (A : Nat → Prop) (I : St) (p1 : Int32) (p2 : Int32) {post : Int32 → St → Prop} (hD : va_D A (rW ad cy I)) (h : wp_X8_read I p1 p2 post) : Met l yX8_read wsX8_read rmX8_read (va_Pc [.ref (ad 40), .int p1, .int p2] (wPre (dC, dI) cy A (rW ad cy I))) (va_Qi (fun r (u : St) => post r u) (fun (u : St) t => wPost (dC, dI) A (rW ad cy u) t) A) 0 0 A := g_X8_read l dC dI cy ad A I p1 p2 hD h (fun a s0 t r I' h1 h2 h3 => ⟨⟨r, I', rfl, h1, h2⟩, h3⟩)
abbrev rmX8_writtenBy : Room := { frames := 0, cells := 0, slots := 0, locals := 0 }
set_option maxHeartbeats 4000000 in
set_option maxRecDepth 100000 in
theorem g_X8_writtenBy (l : Launch) (dC : Nat → ClassId) (dI : Nat → Nat → Nat) (cy : Nat → ClassId) (ad : Nat → Nat) (A : Nat → Prop) (I : St) (p1 : Int32) {post : Int32 → St → Prop} (hD : va_D A (rW ad cy I)) (h : wp_X8_writtenBy I p1 post) {Qc : Array Value → State → Outcome → State → Prop} (hQ : ∀ (a : Array Value) (s0 t : State) (r : Int32) (I' : St), post r I' → wPost (dC, dI) A (rW ad cy I') t → va_F A s0 t → Qc a s0 (.returned (some (.int r))) t) : Met l yX8_writtenBy wsX8_writtenBy rmX8_writtenBy (va_Pc [.ref (ad 40), .int p1] (wPre (dC, dI) cy A (rW ad cy I))) Qc 0 0 A := by
  refine Met.ofW (cc := cX8_writtenBy) (maxL := 4) (ret := (some .int)) (by decide) rfl ?_
  intro p e s m args below meth c s₁ B hml hv
  obtain ⟨rfl, hP, hK, hN, hA⟩ := hv
  have hx := B.exec
  have hb := B.bytes
  have hr := B.returns
  have hts := atoms_spec (ws := wsX8_writtenBy) B.pre
  have hown : s.vm.findClass RX8 = some m.cls := findClass_of_methodNamed B.named
  have hlocks := B.notSynchronized
  have hinX8 : ∀ w ∈ wsX80, w ∈ wsX8_writtenBy := fun _ h9 => List.mem_cons_of_mem _ (List.mem_append_right _ h9)
  have hS : va_S A s.heap s.heap [] := va_S.rf
  unfold wp_X8_writtenBy at h
  have hl := lv_entry ([.ref (ad 40), .int p1]) (n := 4) (Nat.le_of_ble_eq_true rfl)
  rw [lg_entry_eq]
  generalize (lg_sl ([.ref (ad 40), .int p1]) ++ List.replicate (4 - (lg_sl ([.ref (ad 40), .int p1])).length) Slot.unset).toArray = ls at hl ⊢
  have hl : lv_has ls 4 [(0, .ref (ad 40)), (1, .int p1)] := hl
  refine lv_iconst (v := 0) hx hb dX8_writtenBy_0 (by decide) ?_
  refine lv_istore_n (lv' := [(2, .int 0), (0, .ref (ad 40)), (1, .int p1)]) hx hb dX8_writtenBy_1 rfl hl (by decide) rfl (fun ls hl => ?_)
  refine lv_iconst (v := 0) hx hb dX8_writtenBy_2 (by decide) ?_
  refine lv_istore_n (lv' := [(3, .int 0), (2, .int 0), (0, .ref (ad 40)), (1, .int p1)]) hx hb dX8_writtenBy_3 rfl hl (by decide) rfl (fun ls hl => ?_)
  obtain ⟨V1, ⟨n20, hV0⟩, hstepn2⟩ := h
  have hlpn2 : ∀ (n2 : Nat) (x3 : Int32) (x4 : Int32) (I5 : St) (H : Heap) (locs : List Loc), va_P (dC, dI) vwCl (rW ad cy I5) H → va_D A (rW ad cy I5) → va_S A s.heap H locs → ∀ ls : Array Slot, lv_has ls 4 [(0, .ref (ad 40)), (1, .int p1), (2, .int x3), (3, .int x4)] → V1 n2 x3 x4 I5 → W p l e (headSpec wsX8_writtenBy rmX8_writtenBy).room s m ([.ref (ad 40), .int p1] : List Value).toArray below meth c H locs 0 0 (MQ below Qc ([.ref (ad 40), .int p1] : List Value).toArray s 0 0 A) (F0 m 4 ls []) := by
    intro n2
    induction n2 using Nat.strongRecOn with
    | _ n2 ihn2 =>
      intro x3 x4 I5 H locs hP hD hS ls hl hV
      have h := hstepn2 n2 x3 x4 I5 hV
      refine lv_iload_n hx hb dX8_writtenBy_4 rfl (lv_at hl 3 rfl) ?_
      refine lv_bipush (v := 6) hx hb dX8_writtenBy_5 (by decide) ?_
      refine lv_icmp_ge (tgt := 38) hx hb dX8_writtenBy_7 (by decide) (fun hc => ?_) (fun hc => ?_)
      · have h := h.1 hc
        refine lv_iload_n hx hb dX8_writtenBy_38 rfl (lv_at hl 2 rfl) ?_
        exact W.iret (v := x3) hx hb hr (fun t ht hW => hQ _ _ t x3 I5 h ⟨by rw [ht]; exact hP, hD⟩ (hS.F ht)) hS.2.2 dX8_writtenBy_39
      · have h := h.2 hc
        refine lv_iload_n hx hb dX8_writtenBy_10 rfl (lv_at hl 2 rfl) ?_
        refine lv_aload_n hx hb dX8_writtenBy_11 rfl (lv_at hl 0 rfl) ?_
        refine va_get (D := (dC, dI)) (ci := 8) (v := .ref (ad 1)) (C := RX8) (T := TX8) (N := 35) hx hb hts hinX8 hown hK hP 0 rG_o rfl 1 (by decide) (hts (.fieldLink RX8 13 "OutboxHouseModel" "wrote" "[Z") (by decide +kernel)) (fun _ h9 => h9) rfl dX8_writtenBy_12 ?_
        refine lv_bipush (v := 6) hx hb dX8_writtenBy_15 (by decide) ?_
        refine lv_iload_n hx hb dX8_writtenBy_17 rfl (lv_at hl 1 rfl) ?_
        refine lv_imul hx hb dX8_writtenBy_18 ?_
        refine lv_iload_n hx hb dX8_writtenBy_19 rfl (lv_at hl 3 rfl) ?_
        refine lv_iadd hx hb dX8_writtenBy_20 ?_
        have hv := h.1; replace h := h.2
        refine va_zald hx hb hK hP 2 1 rG_1 rfl hv dX8_writtenBy_21 ?_
        refine lv_if_eq (tgt := 29) hx hb dX8_writtenBy_22 (by decide) (fun hc => ?_) (fun hc => ?_)
        · have h := h.1 hc
          refine lv_iconst (v := 0) hx hb dX8_writtenBy_29 (by decide) ?_
          refine lv_iadd hx hb dX8_writtenBy_30 ?_
          refine lv_istore_n (lv' := [(2, .int (x3 + 0)), (0, .ref (ad 40)), (1, .int p1), (3, .int x4)]) hx hb dX8_writtenBy_31 rfl hl (by decide) rfl (fun ls hl => ?_)
          refine lv_iinc (v := x4 + 1) (lv' := [(3, .int (x4 + 1)), (2, .int (x3 + 0)), (0, .ref (ad 40)), (1, .int p1)]) hx hb dX8_writtenBy_32 hl (k := 3) rfl rfl (by decide) rfl (fun ls hl => ?_)
          refine lv_goto (tgt := 4) hx hb dX8_writtenBy_35 (by decide) ?_
          obtain ⟨n6, hlt, hV⟩ := h
          exact ihn2 n6 hlt _ _ _ _ _ hP hD hS ls (lv_sub hl [2, 3, 1, 0] rfl) hV
        · have h := h.2 hc
          refine lv_iconst (v := 1) hx hb dX8_writtenBy_25 (by decide) ?_
          refine lv_goto (tgt := 30) hx hb dX8_writtenBy_26 (by decide) ?_
          refine lv_iadd hx hb dX8_writtenBy_30 ?_
          refine lv_istore_n (lv' := [(2, .int (x3 + 1)), (0, .ref (ad 40)), (1, .int p1), (3, .int x4)]) hx hb dX8_writtenBy_31 rfl hl (by decide) rfl (fun ls hl => ?_)
          refine lv_iinc (v := x4 + 1) (lv' := [(3, .int (x4 + 1)), (2, .int (x3 + 1)), (0, .ref (ad 40)), (1, .int p1)]) hx hb dX8_writtenBy_32 hl (k := 3) rfl rfl (by decide) rfl (fun ls hl => ?_)
          refine lv_goto (tgt := 4) hx hb dX8_writtenBy_35 (by decide) ?_
          obtain ⟨n7, hlt, hV⟩ := h
          exact ihn2 n7 hlt _ _ _ _ _ hP hD hS ls (lv_sub hl [2, 3, 1, 0] rfl) hV
  exact hlpn2 n20 _ _ _ _ _ hP hD hS ls (lv_sub hl [2, 3, 1, 0] rfl) hV0
theorem m_X8_writtenBy (l : Launch) (dC : Nat → ClassId) (dI : Nat → Nat → Nat) (cy : Nat → ClassId) (ad : Nat → Nat) (A : Nat → Prop) (I : St) (p1 : Int32) {post : Int32 → St → Prop} (hD : va_D A (rW ad cy I)) (h : wp_X8_writtenBy I p1 post) : Met l yX8_writtenBy wsX8_writtenBy rmX8_writtenBy (va_Pc [.ref (ad 40), .int p1] (wPre (dC, dI) cy A (rW ad cy I))) (va_Qi (fun r (u : St) => post r u) (fun (u : St) t => wPost (dC, dI) A (rW ad cy u) t) A) 0 0 A := g_X8_writtenBy l dC dI cy ad A I p1 hD h (fun a s0 t r I' h1 h2 h3 => ⟨⟨r, I', rfl, h1, h2⟩, h3⟩)
abbrev rmX8_commit : Room := { frames := 2, cells := 0, slots := 0, locals := 43 }
set_option maxHeartbeats 4000000 in
set_option maxRecDepth 100000 in
theorem g_X8_commit (l : Launch) (dC : Nat → ClassId) (dI : Nat → Nat → Nat) (cy : Nat → ClassId) (ad : Nat → Nat) (A : Nat → Prop) (I : St) (p1 : Int32) {post : Int32 → St → Prop} (hD : va_D A (rW ad cy I)) (h : wp_X8_commit I p1 post) {Qc : Array Value → State → Outcome → State → Prop} (hQ : ∀ (a : Array Value) (s0 t : State) (r : Int32) (I' : St), post r I' → wPost (dC, dI) A (rW ad cy I') t → va_F A s0 t → Qc a s0 (.returned (some (.int r))) t) : Met l yX8_commit wsX8_commit rmX8_commit (va_Pc [.ref (ad 40), .int p1] (wPre (dC, dI) cy A (rW ad cy I))) Qc 0 0 A := by
  refine Met.ofW (cc := cX8_commit) (maxL := 5) (ret := (some .int)) (by decide) rfl ?_
  intro p e s m args below meth c s₁ B hml hv
  obtain ⟨rfl, hP, hK, hN, hA⟩ := hv
  have hx := B.exec
  have hb := B.bytes
  have hr := B.returns
  have hts := atoms_spec (ws := wsX8_commit) B.pre
  have hown : s.vm.findClass RX8 = some m.cls := findClass_of_methodNamed B.named
  have hlocks := B.notSynchronized
  have hinX8 : ∀ w ∈ wsX80, w ∈ wsX8_commit := fun _ h9 => List.mem_cons_of_mem _ (List.mem_append_right _ h9)
  have hS : va_S A s.heap s.heap [] := va_S.rf
  unfold wp_X8_commit at h
  have hl := lv_entry ([.ref (ad 40), .int p1]) (n := 5) (Nat.le_of_ble_eq_true rfl)
  rw [lg_entry_eq]
  generalize (lg_sl ([.ref (ad 40), .int p1]) ++ List.replicate (5 - (lg_sl ([.ref (ad 40), .int p1])).length) Slot.unset).toArray = ls at hl ⊢
  have hl : lv_has ls 5 [(0, .ref (ad 40)), (1, .int p1)] := hl
  refine lv_aload_n hx hb dX8_commit_0 rfl (lv_at hl 0 rfl) ?_
  refine lv_iload_n hx hb dX8_commit_1 rfl (lv_at hl 1 rfl) ?_
  refine va_calli (va_runV (As := [.int p1]) (rest := []) ⟨hx, hb, hml, hown, hts⟩ (m_X8_isTransaction l dC dI cy ad A I p1 hD h) (cwV 1 hts gX8_commit_X8_isTransaction rfl rfl rfl (by decide +kernel) ⟨Nat.le_of_ble_eq_true rfl, Nat.le_of_ble_eq_true rfl⟩) ⟨wPre.blind, va_recv hK hP (ci := 8) (q0 := 0) rfl rG_o, wPre.at hP hK hN hS hA⟩ rfl rfl hl.1 rfl (lv_room (Nat.le_of_ble_eq_true rfl)) dX8_commit_2 ⟨by first | exact Nat.le_of_ble_eq_true rfl | (show _ ≤ 0; omega), by first | exact Nat.le_of_ble_eq_true rfl | (show _ ≤ 0; omega)⟩) hS (fun q _ h => h) (fun q h => h) (fun r1 u t H locs ht hvm hw hB hz1 hk1 hS => ?_)
  obtain ⟨I2, rfl⟩ : ∃ z : St, z = u := ⟨_, rfl⟩
  obtain ⟨hP, hD⟩ := hB; rw [ht] at hP; replace h := hw; try dsimp only at h hP hD
  refine lv_if_ne (tgt := 10) hx hb dX8_commit_5 (by decide) (fun hc => ?_) (fun hc => ?_)
  · have h := h.1 hc
    refine lv_aload_n hx hb dX8_commit_10 rfl (lv_at hl 0 rfl) ?_
    refine lv_iload_n hx hb dX8_commit_11 rfl (lv_at hl 1 rfl) ?_
    refine va_calli (va_runV (As := [.int p1]) (rest := []) ⟨hx, hb, hml, hown, hts⟩ (m_X8_writtenBy l dC dI cy ad A I2 p1 hD h) (cwV 1 hts gX8_commit_X8_writtenBy rfl rfl rfl (by decide +kernel) ⟨Nat.le_of_ble_eq_true rfl, Nat.le_of_ble_eq_true rfl⟩) ⟨wPre.blind, va_recv hK hP (ci := 8) (q0 := 0) rfl rG_o, wPre.at hP hK hN hS hA⟩ rfl rfl hl.1 rfl (lv_room (Nat.le_of_ble_eq_true rfl)) dX8_commit_12 ⟨by first | exact Nat.le_of_ble_eq_true rfl | (show _ ≤ 0; omega), by first | exact Nat.le_of_ble_eq_true rfl | (show _ ≤ 0; omega)⟩) hS (fun q _ h => h) (fun q h => h) (fun r3 u t H locs ht hvm hw hB hz1 hk1 hS => ?_)
    obtain ⟨I4, rfl⟩ : ∃ z : St, z = u := ⟨_, rfl⟩
    obtain ⟨hP, hD⟩ := hB; rw [ht] at hP; replace h := hw; try dsimp only at h hP hD
    refine lv_istore_n (lv' := [(2, .int r3), (0, .ref (ad 40)), (1, .int p1)]) hx hb dX8_commit_15 rfl hl (by decide) rfl (fun ls hl => ?_)
    refine lv_aload_n hx hb dX8_commit_16 rfl (lv_at hl 1 rfl) ?_
    refine va_get (D := (dC, dI)) (ci := 8) (v := .int (I4 5 0)) (C := RX8) (T := TX8) (N := 35) hx hb hts hinX8 hown hK hP 0 rG_o rfl 5 (by decide) (hts (.fieldLink RX8 83 "OutboxHouseModel" "end" "I") (by decide +kernel)) (fun _ h9 => h9) rfl dX8_commit_17 ?_
    refine lv_iload_n hx hb dX8_commit_20 rfl (lv_at hl 0 rfl) ?_
    refine lv_iadd hx hb dX8_commit_21 ?_
    refine lv_sipush (v := 400) hx hb dX8_commit_22 (by decide) ?_
    refine lv_icmp_le (tgt := 31) hx hb dX8_commit_25 (by decide) (fun hc => ?_) (fun hc => ?_)
    · have h := h.1 hc
      refine lv_iload_n hx hb dX8_commit_31 rfl (lv_at hl 0 rfl) ?_
      refine lv_istore_n (lv' := [(3, .int r3), (2, .int r3), (0, .ref (ad 40)), (1, .int p1)]) hx hb dX8_commit_32 rfl hl (by decide) rfl (fun ls hl => ?_)
      refine lv_iconst (v := 0) hx hb dX8_commit_33 (by decide) ?_
      refine lv_istore (lv' := [(4, .int 0), (3, .int r3), (2, .int r3), (0, .ref (ad 40)), (1, .int p1)]) hx hb dX8_commit_34 hl (by decide) rfl (fun ls hl => ?_)
      obtain ⟨V5, ⟨n60, hV0⟩, hstepn6⟩ := h
      have hlpn6 : ∀ (n6 : Nat) (x7 : Int32) (x8 : Int32) (I9 : St) (H : Heap) (locs : List Loc), va_P (dC, dI) vwCl (rW ad cy I9) H → va_D A (rW ad cy I9) → va_S A s.heap H locs → ∀ ls : Array Slot, lv_has ls 5 [(0, .ref (ad 40)), (1, .int p1), (2, .int r3), (3, .int x7), (4, .int x8)] → V5 n6 x7 x8 I9 → W p l e (headSpec wsX8_commit rmX8_commit).room s m ([.ref (ad 40), .int p1] : List Value).toArray below meth c H locs 0 0 (MQ below Qc ([.ref (ad 40), .int p1] : List Value).toArray s 0 0 A) (F0 m 36 ls []) := by
        intro n6
        induction n6 using Nat.strongRecOn with
        | _ n6 ihn6 =>
          intro x7 x8 I9 H locs hP hD hS ls hl hV
          have h := hstepn6 n6 x7 x8 I9 hV
          refine lv_iload hx hb dX8_commit_36 (lv_at hl 4 rfl) ?_
          refine lv_bipush (v := 6) hx hb dX8_commit_38 (by decide) ?_
          refine lv_icmp_ge (tgt := 165) hx hb dX8_commit_40 (by decide) (fun hc => ?_) (fun hc => ?_)
          · have h := h.1 hc
            refine lv_aload_n hx hb dX8_commit_165 rfl (lv_at hl 0 rfl) ?_
            refine va_get (D := (dC, dI)) (ci := 8) (v := .ref (ad 0)) (C := RX8) (T := TX8) (N := 35) hx hb hts hinX8 hown hK hP 0 rG_o rfl 0 (by decide) (hts (.fieldLink RX8 7 "OutboxHouseModel" "isOpen" "[Z") (by decide +kernel)) (fun _ h9 => h9) rfl dX8_commit_166 ?_
            refine lv_iload_n hx hb dX8_commit_169 rfl (lv_at hl 1 rfl) ?_
            refine lv_iconst (v := 0) hx hb dX8_commit_170 (by decide) ?_
            have hv := h.1; replace h := h.2
            refine va_zast hx hb hK hP hD hS 1 1 rG_0 rfl hv dX8_commit_171 (fun H locs hP hD hS => ?_)
            obtain ⟨I10, hI10⟩ : ∃ z : St, z = st I9 0 p1.toNatClampNeg (vp_nar .boolean 0) := ⟨_, rfl⟩
            replace hP := wP (rE_0 hI10) hP; replace hD := wD (rE_0 hI10) hD; replace h := h _ hI10
            refine lv_aload_n hx hb dX8_commit_172 rfl (lv_at hl 0 rfl) ?_
            refine lv_iload_n hx hb dX8_commit_173 rfl (lv_at hl 1 rfl) ?_
            refine va_callv (va_runV (As := [.int p1]) (rest := []) ⟨hx, hb, hml, hown, hts⟩ (m_X8_clears l dC dI cy ad A I10 p1 hD h) (cwV 1 hts gX8_commit_X8_clears rfl rfl rfl (by decide +kernel) ⟨Nat.le_of_ble_eq_true rfl, Nat.le_of_ble_eq_true rfl⟩) ⟨wPre.blind, va_recv hK hP (ci := 8) (q0 := 0) rfl rG_o, wPre.at hP hK hN hS hA⟩ rfl rfl hl.1 rfl (lv_room (Nat.le_of_ble_eq_true rfl)) dX8_commit_174 ⟨by first | exact Nat.le_of_ble_eq_true rfl | (show _ ≤ 0; omega), by first | exact Nat.le_of_ble_eq_true rfl | (show _ ≤ 0; omega)⟩) hS (fun q _ h => h) (fun q h => h) (fun u t H locs ht hvm hw hB hz1 hk1 hS => ?_)
            obtain ⟨I12, rfl⟩ : ∃ z : St, z = u := ⟨_, rfl⟩
            obtain ⟨hP, hD⟩ := hB; rw [ht] at hP; replace h := hw; try dsimp only at h hP hD
            refine lv_iload_n hx hb dX8_commit_177 rfl (lv_at hl 2 rfl) ?_
            exact W.iret (v := r3) hx hb hr (fun t ht hW => hQ _ _ t r3 I12 h ⟨by rw [ht]; exact hP, hD⟩ (hS.F ht)) hS.2.2 dX8_commit_178
          · have h := h.2 hc
            refine lv_aload_n hx hb dX8_commit_43 rfl (lv_at hl 0 rfl) ?_
            refine va_get (D := (dC, dI)) (ci := 8) (v := .ref (ad 1)) (C := RX8) (T := TX8) (N := 35) hx hb hts hinX8 hown hK hP 0 rG_o rfl 1 (by decide) (hts (.fieldLink RX8 13 "OutboxHouseModel" "wrote" "[Z") (by decide +kernel)) (fun _ h9 => h9) rfl dX8_commit_44 ?_
            refine lv_bipush (v := 6) hx hb dX8_commit_47 (by decide) ?_
            refine lv_iload_n hx hb dX8_commit_49 rfl (lv_at hl 1 rfl) ?_
            refine lv_imul hx hb dX8_commit_50 ?_
            refine lv_iload hx hb dX8_commit_51 (lv_at hl 4 rfl) ?_
            refine lv_iadd hx hb dX8_commit_53 ?_
            have hv := h.1; replace h := h.2
            refine va_zald hx hb hK hP 2 1 rG_1 rfl hv dX8_commit_54 ?_
            refine lv_if_eq (tgt := 159) hx hb dX8_commit_55 (by decide) (fun hc => ?_) (fun hc => ?_)
            · have h := h.1 hc
              refine lv_iinc (v := x8 + 1) (lv' := [(4, .int (x8 + 1)), (0, .ref (ad 40)), (1, .int p1), (2, .int r3), (3, .int x7)]) hx hb dX8_commit_159 hl (k := 4) rfl rfl (by decide) rfl (fun ls hl => ?_)
              refine lv_goto (tgt := 36) hx hb dX8_commit_162 (by decide) ?_
              obtain ⟨n13, hlt, hV⟩ := h
              exact ihn6 n13 hlt _ _ _ _ _ hP hD hS ls (lv_sub hl [1, 2, 3, 4, 0] rfl) hV
            · have h := h.2 hc
              refine lv_iinc (v := x7 + (-1)) (lv' := [(3, .int (x7 + (-1))), (0, .ref (ad 40)), (1, .int p1), (2, .int r3), (4, .int x8)]) hx hb dX8_commit_58 hl (k := 3) rfl rfl (by decide) rfl (fun ls hl => ?_)
              refine lv_aload_n hx hb dX8_commit_61 rfl (lv_at hl 1 rfl) ?_
              refine va_get (D := (dC, dI)) (ci := 8) (v := .ref (ad 8)) (C := RX8) (T := TX8) (N := 35) hx hb hts hinX8 hown hK hP 0 rG_o rfl 8 (by decide) (hts (.fieldLink RX8 26 "OutboxHouseModel" "logKey" "[I") (by decide +kernel)) (fun _ h9 => h9) rfl dX8_commit_62 ?_
              refine lv_aload_n hx hb dX8_commit_65 rfl (lv_at hl 1 rfl) ?_
              refine va_get (D := (dC, dI)) (ci := 8) (v := .int (I9 5 0)) (C := RX8) (T := TX8) (N := 35) hx hb hts hinX8 hown hK hP 0 rG_o rfl 5 (by decide) (hts (.fieldLink RX8 83 "OutboxHouseModel" "end" "I") (by decide +kernel)) (fun _ h9 => h9) rfl dX8_commit_66 ?_
              refine lv_iload hx hb dX8_commit_69 (lv_at hl 4 rfl) ?_
              have hv := h.1; replace h := h.2
              refine va_iast hx hb hK hP hD hS 6 0 rG_8 rfl hv dX8_commit_71 (fun H locs hP hD hS => ?_)
              obtain ⟨I14, hI14⟩ : ∃ z : St, z = st I9 8 (I9 5 0).toNatClampNeg x8 := ⟨_, rfl⟩
              replace hP := wP (rE_8 hI14) hP; replace hD := wD (rE_8 hI14) hD; replace h := h _ hI14
              refine lv_aload_n hx hb dX8_commit_72 rfl (lv_at hl 1 rfl) ?_
              refine va_get (D := (dC, dI)) (ci := 8) (v := .ref (ad 9)) (C := RX8) (T := TX8) (N := 35) hx hb hts hinX8 hown hK hP 0 rG_o rfl 9 (by decide) (hts (.fieldLink RX8 29 "OutboxHouseModel" "logValue" "[I") (by decide +kernel)) (fun _ h9 => h9) rfl dX8_commit_73 ?_
              refine lv_aload_n hx hb dX8_commit_76 rfl (lv_at hl 1 rfl) ?_
              refine va_get (D := (dC, dI)) (ci := 8) (v := .int (I14 5 0)) (C := RX8) (T := TX8) (N := 35) hx hb hts hinX8 hown hK hP 0 rG_o rfl 5 (by decide) (hts (.fieldLink RX8 83 "OutboxHouseModel" "end" "I") (by decide +kernel)) (fun _ h9 => h9) rfl dX8_commit_77 ?_
              refine lv_aload_n hx hb dX8_commit_80 rfl (lv_at hl 1 rfl) ?_
              refine va_get (D := (dC, dI)) (ci := 8) (v := .ref (ad 2)) (C := RX8) (T := TX8) (N := 35) hx hb hts hinX8 hown hK hP 0 rG_o rfl 2 (by decide) (hts (.fieldLink RX8 16 "OutboxHouseModel" "written" "[I") (by decide +kernel)) (fun _ h9 => h9) rfl dX8_commit_81 ?_
              refine lv_bipush (v := 6) hx hb dX8_commit_84 (by decide) ?_
              refine lv_iload_n hx hb dX8_commit_86 rfl (lv_at hl 2 rfl) ?_
              refine lv_imul hx hb dX8_commit_87 ?_
              refine lv_iload hx hb dX8_commit_88 (lv_at hl 4 rfl) ?_
              refine lv_iadd hx hb dX8_commit_90 ?_
              have hv := h.1; replace h := h.2
              refine va_iald hx hb hK hP 3 0 rG_2 rfl hv dX8_commit_91 ?_
              have hv := h.1; replace h := h.2
              refine va_iast hx hb hK hP hD hS 7 0 rG_9 rfl hv dX8_commit_92 (fun H locs hP hD hS => ?_)
              obtain ⟨I15, hI15⟩ : ∃ z : St, z = st I14 9 (I14 5 0).toNatClampNeg (I14 2 ((6 * p1) + x8).toNatClampNeg) := ⟨_, rfl⟩
              replace hP := wP (rE_9 hI15) hP; replace hD := wD (rE_9 hI15) hD; replace h := h _ hI15
              refine lv_aload_n hx hb dX8_commit_93 rfl (lv_at hl 1 rfl) ?_
              refine va_get (D := (dC, dI)) (ci := 8) (v := .ref (ad 10)) (C := RX8) (T := TX8) (N := 35) hx hb hts hinX8 hown hK hP 0 rG_o rfl 10 (by decide) (hts (.fieldLink RX8 32 "OutboxHouseModel" "logOrder" "[I") (by decide +kernel)) (fun _ h9 => h9) rfl dX8_commit_94 ?_
              refine lv_aload_n hx hb dX8_commit_97 rfl (lv_at hl 1 rfl) ?_
              refine va_get (D := (dC, dI)) (ci := 8) (v := .int (I15 5 0)) (C := RX8) (T := TX8) (N := 35) hx hb hts hinX8 hown hK hP 0 rG_o rfl 5 (by decide) (hts (.fieldLink RX8 83 "OutboxHouseModel" "end" "I") (by decide +kernel)) (fun _ h9 => h9) rfl dX8_commit_98 ?_
              refine lv_aload_n hx hb dX8_commit_101 rfl (lv_at hl 1 rfl) ?_
              refine va_get (D := (dC, dI)) (ci := 8) (v := .ref (ad 4)) (C := RX8) (T := TX8) (N := 35) hx hb hts hinX8 hown hK hP 0 rG_o rfl 4 (by decide) (hts (.fieldLink RX8 23 "OutboxHouseModel" "counts" "[I") (by decide +kernel)) (fun _ h9 => h9) rfl dX8_commit_102 ?_
              refine lv_iload hx hb dX8_commit_105 (lv_at hl 4 rfl) ?_
              have hv := h.1; replace h := h.2
              refine va_iald hx hb hK hP 5 0 rG_4 rfl hv dX8_commit_107 ?_
              refine lv_iconst (v := 1) hx hb dX8_commit_108 (by decide) ?_
              refine lv_iadd hx hb dX8_commit_109 ?_
              have hv := h.1; replace h := h.2
              refine va_iast hx hb hK hP hD hS 8 0 rG_10 rfl hv dX8_commit_110 (fun H locs hP hD hS => ?_)
              obtain ⟨I16, hI16⟩ : ∃ z : St, z = st I15 10 (I15 5 0).toNatClampNeg ((I15 4 x8.toNatClampNeg) + 1) := ⟨_, rfl⟩
              replace hP := wP (rE_10 hI16) hP; replace hD := wD (rE_10 hI16) hD; replace h := h _ hI16
              refine lv_aload_n hx hb dX8_commit_111 rfl (lv_at hl 1 rfl) ?_
              refine va_get (D := (dC, dI)) (ci := 8) (v := .ref (ad 11)) (C := RX8) (T := TX8) (N := 35) hx hb hts hinX8 hown hK hP 0 rG_o rfl 11 (by decide) (hts (.fieldLink RX8 35 "OutboxHouseModel" "isLast" "[Z") (by decide +kernel)) (fun _ h9 => h9) rfl dX8_commit_112 ?_
              refine lv_aload_n hx hb dX8_commit_115 rfl (lv_at hl 1 rfl) ?_
              refine va_get (D := (dC, dI)) (ci := 8) (v := .int (I16 5 0)) (C := RX8) (T := TX8) (N := 35) hx hb hts hinX8 hown hK hP 0 rG_o rfl 5 (by decide) (hts (.fieldLink RX8 83 "OutboxHouseModel" "end" "I") (by decide +kernel)) (fun _ h9 => h9) rfl dX8_commit_116 ?_
              refine lv_iload_n hx hb dX8_commit_119 rfl (lv_at hl 0 rfl) ?_
              refine lv_if_ne (tgt := 127) hx hb dX8_commit_120 (by decide) (fun hc => ?_) (fun hc => ?_)
              · have h := h.1 hc
                refine lv_iconst (v := 0) hx hb dX8_commit_127 (by decide) ?_
                have hv := h.1; replace h := h.2
                refine va_zast hx hb hK hP hD hS 9 1 rG_11 rfl hv dX8_commit_128 (fun H locs hP hD hS => ?_)
                obtain ⟨I17, hI17⟩ : ∃ z : St, z = st I16 11 (I16 5 0).toNatClampNeg (vp_nar .boolean 0) := ⟨_, rfl⟩
                replace hP := wP (rE_11 hI17) hP; replace hD := wD (rE_11 hI17) hD; replace h := h _ hI17
                refine lv_aload_n hx hb dX8_commit_129 rfl (lv_at hl 1 rfl) ?_
                refine va_get (D := (dC, dI)) (ci := 8) (v := .ref (ad 21)) (C := RX8) (T := TX8) (N := 35) hx hb hts hinX8 hown hK hP 0 rG_o rfl 21 (by decide) (hts (.fieldLink RX8 59 "OutboxHouseModel" "hasNow" "[Z") (by decide +kernel)) (fun _ h9 => h9) rfl dX8_commit_130 ?_
                refine lv_aload_n hx hb dX8_commit_133 rfl (lv_at hl 1 rfl) ?_
                refine va_get (D := (dC, dI)) (ci := 8) (v := .int (I17 5 0)) (C := RX8) (T := TX8) (N := 35) hx hb hts hinX8 hown hK hP 0 rG_o rfl 5 (by decide) (hts (.fieldLink RX8 83 "OutboxHouseModel" "end" "I") (by decide +kernel)) (fun _ h9 => h9) rfl dX8_commit_134 ?_
                refine lv_iconst (v := 0) hx hb dX8_commit_137 (by decide) ?_
                have hv := h.1; replace h := h.2
                refine va_zast hx hb hK hP hD hS 17 1 rG_21 rfl hv dX8_commit_138 (fun H locs hP hD hS => ?_)
                obtain ⟨I18, hI18⟩ : ∃ z : St, z = st I17 21 (I17 5 0).toNatClampNeg (vp_nar .boolean 0) := ⟨_, rfl⟩
                replace hP := wP (rE_21 hI18) hP; replace hD := wD (rE_21 hI18) hD; replace h := h _ hI18
                refine lv_aload_n hx hb dX8_commit_139 rfl (lv_at hl 1 rfl) ?_
                refine va_get (D := (dC, dI)) (ci := 8) (v := .ref (ad 24)) (C := RX8) (T := TX8) (N := 35) hx hb hts hinX8 hown hK hP 0 rG_o rfl 24 (by decide) (hts (.fieldLink RX8 68 "OutboxHouseModel" "hasDisk" "[Z") (by decide +kernel)) (fun _ h9 => h9) rfl dX8_commit_140 ?_
                refine lv_aload_n hx hb dX8_commit_143 rfl (lv_at hl 1 rfl) ?_
                refine va_get (D := (dC, dI)) (ci := 8) (v := .int (I18 5 0)) (C := RX8) (T := TX8) (N := 35) hx hb hts hinX8 hown hK hP 0 rG_o rfl 5 (by decide) (hts (.fieldLink RX8 83 "OutboxHouseModel" "end" "I") (by decide +kernel)) (fun _ h9 => h9) rfl dX8_commit_144 ?_
                refine lv_iconst (v := 0) hx hb dX8_commit_147 (by decide) ?_
                have hv := h.1; replace h := h.2
                refine va_zast hx hb hK hP hD hS 20 1 rG_24 rfl hv dX8_commit_148 (fun H locs hP hD hS => ?_)
                obtain ⟨I19, hI19⟩ : ∃ z : St, z = st I18 24 (I18 5 0).toNatClampNeg (vp_nar .boolean 0) := ⟨_, rfl⟩
                replace hP := wP (rE_24 hI19) hP; replace hD := wD (rE_24 hI19) hD; replace h := h _ hI19
                refine lv_aload_n hx hb dX8_commit_149 rfl (lv_at hl 1 rfl) ?_
                refine lv_dup hx hb dX8_commit_150 rfl ?_
                refine va_get (D := (dC, dI)) (ci := 8) (v := .int (I19 5 0)) (C := RX8) (T := TX8) (N := 35) hx hb hts hinX8 hown hK hP 0 rG_o rfl 5 (by decide) (hts (.fieldLink RX8 83 "OutboxHouseModel" "end" "I") (by decide +kernel)) (fun _ h9 => h9) rfl dX8_commit_151 ?_
                refine lv_iconst (v := 1) hx hb dX8_commit_154 (by decide) ?_
                refine lv_iadd hx hb dX8_commit_155 ?_
                refine va_put (D := (dC, dI)) (ci := 8) (v := .int ((I19 5 0) + 1)) (ty := .int) (C := RX8) (T := TX8) (N := 35) hx hb hts hinX8 tyX8 tyX8_ok nmX8 hown hK hP hD hS 0 rG_o rfl 5 (by decide) (hts (.fieldLink RX8 83 "OutboxHouseModel" "end" "I") (by decide +kernel)) (fun _ h9 => h9) rfl (by decide +kernel) rfl rfl (Nat.le_of_ble_eq_true rfl) dX8_commit_156 (fun H locs hP hD hS => ?_)
                obtain ⟨I20, hI20⟩ : ∃ z : St, z = st I19 5 0 ((I19 5 0) + 1) := ⟨_, rfl⟩
                replace hP := wP (rE_5 hI20) hP; replace hD := wD (rE_5 hI20) hD; replace h := h _ hI20
                refine lv_iinc (v := x8 + 1) (lv' := [(4, .int (x8 + 1)), (3, .int (x7 + (-1))), (0, .ref (ad 40)), (1, .int p1), (2, .int r3)]) hx hb dX8_commit_159 hl (k := 4) rfl rfl (by decide) rfl (fun ls hl => ?_)
                refine lv_goto (tgt := 36) hx hb dX8_commit_162 (by decide) ?_
                obtain ⟨n21, hlt, hV⟩ := h
                exact ihn6 n21 hlt _ _ _ _ _ hP hD hS ls (lv_sub hl [2, 3, 4, 1, 0] rfl) hV
              · have h := h.2 hc
                refine lv_iconst (v := 1) hx hb dX8_commit_123 (by decide) ?_
                refine lv_goto (tgt := 128) hx hb dX8_commit_124 (by decide) ?_
                have hv := h.1; replace h := h.2
                refine va_zast hx hb hK hP hD hS 9 1 rG_11 rfl hv dX8_commit_128 (fun H locs hP hD hS => ?_)
                obtain ⟨I22, hI22⟩ : ∃ z : St, z = st I16 11 (I16 5 0).toNatClampNeg (vp_nar .boolean 1) := ⟨_, rfl⟩
                replace hP := wP (rE_11 hI22) hP; replace hD := wD (rE_11 hI22) hD; replace h := h _ hI22
                refine lv_aload_n hx hb dX8_commit_129 rfl (lv_at hl 1 rfl) ?_
                refine va_get (D := (dC, dI)) (ci := 8) (v := .ref (ad 21)) (C := RX8) (T := TX8) (N := 35) hx hb hts hinX8 hown hK hP 0 rG_o rfl 21 (by decide) (hts (.fieldLink RX8 59 "OutboxHouseModel" "hasNow" "[Z") (by decide +kernel)) (fun _ h9 => h9) rfl dX8_commit_130 ?_
                refine lv_aload_n hx hb dX8_commit_133 rfl (lv_at hl 1 rfl) ?_
                refine va_get (D := (dC, dI)) (ci := 8) (v := .int (I22 5 0)) (C := RX8) (T := TX8) (N := 35) hx hb hts hinX8 hown hK hP 0 rG_o rfl 5 (by decide) (hts (.fieldLink RX8 83 "OutboxHouseModel" "end" "I") (by decide +kernel)) (fun _ h9 => h9) rfl dX8_commit_134 ?_
                refine lv_iconst (v := 0) hx hb dX8_commit_137 (by decide) ?_
                have hv := h.1; replace h := h.2
                refine va_zast hx hb hK hP hD hS 17 1 rG_21 rfl hv dX8_commit_138 (fun H locs hP hD hS => ?_)
                obtain ⟨I23, hI23⟩ : ∃ z : St, z = st I22 21 (I22 5 0).toNatClampNeg (vp_nar .boolean 0) := ⟨_, rfl⟩
                replace hP := wP (rE_21 hI23) hP; replace hD := wD (rE_21 hI23) hD; replace h := h _ hI23
                refine lv_aload_n hx hb dX8_commit_139 rfl (lv_at hl 1 rfl) ?_
                refine va_get (D := (dC, dI)) (ci := 8) (v := .ref (ad 24)) (C := RX8) (T := TX8) (N := 35) hx hb hts hinX8 hown hK hP 0 rG_o rfl 24 (by decide) (hts (.fieldLink RX8 68 "OutboxHouseModel" "hasDisk" "[Z") (by decide +kernel)) (fun _ h9 => h9) rfl dX8_commit_140 ?_
                refine lv_aload_n hx hb dX8_commit_143 rfl (lv_at hl 1 rfl) ?_
                refine va_get (D := (dC, dI)) (ci := 8) (v := .int (I23 5 0)) (C := RX8) (T := TX8) (N := 35) hx hb hts hinX8 hown hK hP 0 rG_o rfl 5 (by decide) (hts (.fieldLink RX8 83 "OutboxHouseModel" "end" "I") (by decide +kernel)) (fun _ h9 => h9) rfl dX8_commit_144 ?_
                refine lv_iconst (v := 0) hx hb dX8_commit_147 (by decide) ?_
                have hv := h.1; replace h := h.2
                refine va_zast hx hb hK hP hD hS 20 1 rG_24 rfl hv dX8_commit_148 (fun H locs hP hD hS => ?_)
                obtain ⟨I24, hI24⟩ : ∃ z : St, z = st I23 24 (I23 5 0).toNatClampNeg (vp_nar .boolean 0) := ⟨_, rfl⟩
                replace hP := wP (rE_24 hI24) hP; replace hD := wD (rE_24 hI24) hD; replace h := h _ hI24
                refine lv_aload_n hx hb dX8_commit_149 rfl (lv_at hl 1 rfl) ?_
                refine lv_dup hx hb dX8_commit_150 rfl ?_
                refine va_get (D := (dC, dI)) (ci := 8) (v := .int (I24 5 0)) (C := RX8) (T := TX8) (N := 35) hx hb hts hinX8 hown hK hP 0 rG_o rfl 5 (by decide) (hts (.fieldLink RX8 83 "OutboxHouseModel" "end" "I") (by decide +kernel)) (fun _ h9 => h9) rfl dX8_commit_151 ?_
                refine lv_iconst (v := 1) hx hb dX8_commit_154 (by decide) ?_
                refine lv_iadd hx hb dX8_commit_155 ?_
                refine va_put (D := (dC, dI)) (ci := 8) (v := .int ((I24 5 0) + 1)) (ty := .int) (C := RX8) (T := TX8) (N := 35) hx hb hts hinX8 tyX8 tyX8_ok nmX8 hown hK hP hD hS 0 rG_o rfl 5 (by decide) (hts (.fieldLink RX8 83 "OutboxHouseModel" "end" "I") (by decide +kernel)) (fun _ h9 => h9) rfl (by decide +kernel) rfl rfl (Nat.le_of_ble_eq_true rfl) dX8_commit_156 (fun H locs hP hD hS => ?_)
                obtain ⟨I25, hI25⟩ : ∃ z : St, z = st I24 5 0 ((I24 5 0) + 1) := ⟨_, rfl⟩
                replace hP := wP (rE_5 hI25) hP; replace hD := wD (rE_5 hI25) hD; replace h := h _ hI25
                refine lv_iinc (v := x8 + 1) (lv' := [(4, .int (x8 + 1)), (3, .int (x7 + (-1))), (0, .ref (ad 40)), (1, .int p1), (2, .int r3)]) hx hb dX8_commit_159 hl (k := 4) rfl rfl (by decide) rfl (fun ls hl => ?_)
                refine lv_goto (tgt := 36) hx hb dX8_commit_162 (by decide) ?_
                obtain ⟨n26, hlt, hV⟩ := h
                exact ihn6 n26 hlt _ _ _ _ _ hP hD hS ls (lv_sub hl [2, 3, 4, 1, 0] rfl) hV
      exact hlpn6 n60 _ _ _ _ _ hP hD hS ls (lv_sub hl [3, 4, 2, 1, 0] rfl) hV0
    · have h := h.2 hc
      refine lv_bipush (v := (-3)) hx hb dX8_commit_28 (by decide) ?_
      exact W.iret (v := (-3)) hx hb hr (fun t ht hW => hQ _ _ t (-3) I4 h ⟨by rw [ht]; exact hP, hD⟩ (hS.F ht)) hS.2.2 dX8_commit_30
  · have h := h.2 hc
    refine lv_iconst (v := (-1)) hx hb dX8_commit_8 (by decide) ?_
    exact W.iret (v := (-1)) hx hb hr (fun t ht hW => hQ _ _ t (-1) I2 h ⟨by rw [ht]; exact hP, hD⟩ (hS.F ht)) hS.2.2 dX8_commit_9
theorem m_X8_commit (l : Launch) (dC : Nat → ClassId) (dI : Nat → Nat → Nat) (cy : Nat → ClassId) (ad : Nat → Nat) (A : Nat → Prop) (I : St) (p1 : Int32) {post : Int32 → St → Prop} (hD : va_D A (rW ad cy I)) (h : wp_X8_commit I p1 post) : Met l yX8_commit wsX8_commit rmX8_commit (va_Pc [.ref (ad 40), .int p1] (wPre (dC, dI) cy A (rW ad cy I))) (va_Qi (fun r (u : St) => post r u) (fun (u : St) t => wPost (dC, dI) A (rW ad cy u) t) A) 0 0 A := g_X8_commit l dC dI cy ad A I p1 hD h (fun a s0 t r I' h1 h2 h3 => ⟨⟨r, I', rfl, h1, h2⟩, h3⟩)
abbrev rmX8_abort : Room := { frames := 2, cells := 0, slots := 0, locals := 43 }
set_option maxHeartbeats 4000000 in
set_option maxRecDepth 100000 in
theorem g_X8_abort (l : Launch) (dC : Nat → ClassId) (dI : Nat → Nat → Nat) (cy : Nat → ClassId) (ad : Nat → Nat) (A : Nat → Prop) (I : St) (p1 : Int32) {post : Int32 → St → Prop} (hD : va_D A (rW ad cy I)) (h : wp_X8_abort I p1 post) {Qc : Array Value → State → Outcome → State → Prop} (hQ : ∀ (a : Array Value) (s0 t : State) (r : Int32) (I' : St), post r I' → wPost (dC, dI) A (rW ad cy I') t → va_F A s0 t → Qc a s0 (.returned (some (.int r))) t) : Met l yX8_abort wsX8_abort rmX8_abort (va_Pc [.ref (ad 40), .int p1] (wPre (dC, dI) cy A (rW ad cy I))) Qc 0 0 A := by
  refine Met.ofW (cc := cX8_abort) (maxL := 3) (ret := (some .int)) (by decide) rfl ?_
  intro p e s m args below meth c s₁ B hml hv
  obtain ⟨rfl, hP, hK, hN, hA⟩ := hv
  have hx := B.exec
  have hb := B.bytes
  have hr := B.returns
  have hts := atoms_spec (ws := wsX8_abort) B.pre
  have hown : s.vm.findClass RX8 = some m.cls := findClass_of_methodNamed B.named
  have hlocks := B.notSynchronized
  have hinX8 : ∀ w ∈ wsX80, w ∈ wsX8_abort := fun _ h9 => List.mem_cons_of_mem _ (List.mem_append_right _ h9)
  have hS : va_S A s.heap s.heap [] := va_S.rf
  unfold wp_X8_abort at h
  have hl := lv_entry ([.ref (ad 40), .int p1]) (n := 3) (Nat.le_of_ble_eq_true rfl)
  rw [lg_entry_eq]
  generalize (lg_sl ([.ref (ad 40), .int p1]) ++ List.replicate (3 - (lg_sl ([.ref (ad 40), .int p1])).length) Slot.unset).toArray = ls at hl ⊢
  have hl : lv_has ls 3 [(0, .ref (ad 40)), (1, .int p1)] := hl
  refine lv_aload_n hx hb dX8_abort_0 rfl (lv_at hl 0 rfl) ?_
  refine lv_iload_n hx hb dX8_abort_1 rfl (lv_at hl 1 rfl) ?_
  refine va_calli (va_runV (As := [.int p1]) (rest := []) ⟨hx, hb, hml, hown, hts⟩ (m_X8_isTransaction l dC dI cy ad A I p1 hD h) (cwV 1 hts gX8_abort_X8_isTransaction rfl rfl rfl (by decide +kernel) ⟨Nat.le_of_ble_eq_true rfl, Nat.le_of_ble_eq_true rfl⟩) ⟨wPre.blind, va_recv hK hP (ci := 8) (q0 := 0) rfl rG_o, wPre.at hP hK hN hS hA⟩ rfl rfl hl.1 rfl (lv_room (Nat.le_of_ble_eq_true rfl)) dX8_abort_2 ⟨by first | exact Nat.le_of_ble_eq_true rfl | (show _ ≤ 0; omega), by first | exact Nat.le_of_ble_eq_true rfl | (show _ ≤ 0; omega)⟩) hS (fun q _ h => h) (fun q h => h) (fun r1 u t H locs ht hvm hw hB hz1 hk1 hS => ?_)
  obtain ⟨I2, rfl⟩ : ∃ z : St, z = u := ⟨_, rfl⟩
  obtain ⟨hP, hD⟩ := hB; rw [ht] at hP; replace h := hw; try dsimp only at h hP hD
  refine lv_if_ne (tgt := 10) hx hb dX8_abort_5 (by decide) (fun hc => ?_) (fun hc => ?_)
  · have h := h.1 hc
    refine lv_aload_n hx hb dX8_abort_10 rfl (lv_at hl 0 rfl) ?_
    refine lv_iload_n hx hb dX8_abort_11 rfl (lv_at hl 1 rfl) ?_
    refine va_calli (va_runV (As := [.int p1]) (rest := []) ⟨hx, hb, hml, hown, hts⟩ (m_X8_writtenBy l dC dI cy ad A I2 p1 hD h) (cwV 1 hts gX8_abort_X8_writtenBy rfl rfl rfl (by decide +kernel) ⟨Nat.le_of_ble_eq_true rfl, Nat.le_of_ble_eq_true rfl⟩) ⟨wPre.blind, va_recv hK hP (ci := 8) (q0 := 0) rfl rG_o, wPre.at hP hK hN hS hA⟩ rfl rfl hl.1 rfl (lv_room (Nat.le_of_ble_eq_true rfl)) dX8_abort_12 ⟨by first | exact Nat.le_of_ble_eq_true rfl | (show _ ≤ 0; omega), by first | exact Nat.le_of_ble_eq_true rfl | (show _ ≤ 0; omega)⟩) hS (fun q _ h => h) (fun q h => h) (fun r3 u t H locs ht hvm hw hB hz1 hk1 hS => ?_)
    obtain ⟨I4, rfl⟩ : ∃ z : St, z = u := ⟨_, rfl⟩
    obtain ⟨hP, hD⟩ := hB; rw [ht] at hP; replace h := hw; try dsimp only at h hP hD
    refine lv_istore_n (lv' := [(2, .int r3), (0, .ref (ad 40)), (1, .int p1)]) hx hb dX8_abort_15 rfl hl (by decide) rfl (fun ls hl => ?_)
    refine lv_aload_n hx hb dX8_abort_16 rfl (lv_at hl 1 rfl) ?_
    refine va_get (D := (dC, dI)) (ci := 8) (v := .ref (ad 0)) (C := RX8) (T := TX8) (N := 35) hx hb hts hinX8 hown hK hP 0 rG_o rfl 0 (by decide) (hts (.fieldLink RX8 7 "OutboxHouseModel" "isOpen" "[Z") (by decide +kernel)) (fun _ h9 => h9) rfl dX8_abort_17 ?_
    refine lv_iload_n hx hb dX8_abort_20 rfl (lv_at hl 2 rfl) ?_
    refine lv_iconst (v := 0) hx hb dX8_abort_21 (by decide) ?_
    have hv := h.1; replace h := h.2
    refine va_zast hx hb hK hP hD hS 1 1 rG_0 rfl hv dX8_abort_22 (fun H locs hP hD hS => ?_)
    obtain ⟨I5, hI5⟩ : ∃ z : St, z = st I4 0 p1.toNatClampNeg (vp_nar .boolean 0) := ⟨_, rfl⟩
    replace hP := wP (rE_0 hI5) hP; replace hD := wD (rE_0 hI5) hD; replace h := h _ hI5
    refine lv_aload_n hx hb dX8_abort_23 rfl (lv_at hl 1 rfl) ?_
    refine lv_iload_n hx hb dX8_abort_24 rfl (lv_at hl 2 rfl) ?_
    refine va_callv (va_runV (As := [.int p1]) (rest := []) ⟨hx, hb, hml, hown, hts⟩ (m_X8_clears l dC dI cy ad A I5 p1 hD h) (cwV 1 hts gX8_abort_X8_clears rfl rfl rfl (by decide +kernel) ⟨Nat.le_of_ble_eq_true rfl, Nat.le_of_ble_eq_true rfl⟩) ⟨wPre.blind, va_recv hK hP (ci := 8) (q0 := 0) rfl rG_o, wPre.at hP hK hN hS hA⟩ rfl rfl hl.1 rfl (lv_room (Nat.le_of_ble_eq_true rfl)) dX8_abort_25 ⟨by first | exact Nat.le_of_ble_eq_true rfl | (show _ ≤ 0; omega), by first | exact Nat.le_of_ble_eq_true rfl | (show _ ≤ 0; omega)⟩) hS (fun q _ h => h) (fun q h => h) (fun u t H locs ht hvm hw hB hz1 hk1 hS => ?_)
    obtain ⟨I7, rfl⟩ : ∃ z : St, z = u := ⟨_, rfl⟩
    obtain ⟨hP, hD⟩ := hB; rw [ht] at hP; replace h := hw; try dsimp only at h hP hD
    refine lv_iload_n hx hb dX8_abort_28 rfl (lv_at hl 0 rfl) ?_
    exact W.iret (v := r3) hx hb hr (fun t ht hW => hQ _ _ t r3 I7 h ⟨by rw [ht]; exact hP, hD⟩ (hS.F ht)) hS.2.2 dX8_abort_29
  · have h := h.2 hc
    refine lv_iconst (v := (-1)) hx hb dX8_abort_8 (by decide) ?_
    exact W.iret (v := (-1)) hx hb hr (fun t ht hW => hQ _ _ t (-1) I2 h ⟨by rw [ht]; exact hP, hD⟩ (hS.F ht)) hS.2.2 dX8_abort_9
theorem m_X8_abort (l : Launch) (dC : Nat → ClassId) (dI : Nat → Nat → Nat) (cy : Nat → ClassId) (ad : Nat → Nat) (A : Nat → Prop) (I : St) (p1 : Int32) {post : Int32 → St → Prop} (hD : va_D A (rW ad cy I)) (h : wp_X8_abort I p1 post) : Met l yX8_abort wsX8_abort rmX8_abort (va_Pc [.ref (ad 40), .int p1] (wPre (dC, dI) cy A (rW ad cy I))) (va_Qi (fun r (u : St) => post r u) (fun (u : St) t => wPost (dC, dI) A (rW ad cy u) t) A) 0 0 A := g_X8_abort l dC dI cy ad A I p1 hD h (fun a s0 t r I' h1 h2 h3 => ⟨⟨r, I', rfl, h1, h2⟩, h3⟩)
abbrev rmX8_flush : Room := { frames := 0, cells := 0, slots := 0, locals := 0 }
set_option maxHeartbeats 4000000 in
set_option maxRecDepth 100000 in
theorem g_X8_flush (l : Launch) (dC : Nat → ClassId) (dI : Nat → Nat → Nat) (cy : Nat → ClassId) (ad : Nat → Nat) (A : Nat → Prop) (I : St)  {post : Int32 → St → Prop} (hD : va_D A (rW ad cy I)) (h : wp_X8_flush I  post) {Qc : Array Value → State → Outcome → State → Prop} (hQ : ∀ (a : Array Value) (s0 t : State) (r : Int32) (I' : St), post r I' → wPost (dC, dI) A (rW ad cy I') t → va_F A s0 t → Qc a s0 (.returned (some (.int r))) t) : Met l yX8_flush wsX8_flush rmX8_flush (va_Pc [.ref (ad 40)] (wPre (dC, dI) cy A (rW ad cy I))) Qc 0 0 A := by
  refine Met.ofW (cc := cX8_flush) (maxL := 2) (ret := (some .int)) (by decide) rfl ?_
  intro p e s m args below meth c s₁ B hml hv
  obtain ⟨rfl, hP, hK, hN, hA⟩ := hv
  have hx := B.exec
  have hb := B.bytes
  have hr := B.returns
  have hts := atoms_spec (ws := wsX8_flush) B.pre
  have hown : s.vm.findClass RX8 = some m.cls := findClass_of_methodNamed B.named
  have hlocks := B.notSynchronized
  have hinX8 : ∀ w ∈ wsX80, w ∈ wsX8_flush := fun _ h9 => List.mem_cons_of_mem _ (List.mem_append_right _ h9)
  have hS : va_S A s.heap s.heap [] := va_S.rf
  unfold wp_X8_flush at h
  have hl := lv_entry ([.ref (ad 40)]) (n := 2) (Nat.le_of_ble_eq_true rfl)
  rw [lg_entry_eq]
  generalize (lg_sl ([.ref (ad 40)]) ++ List.replicate (2 - (lg_sl ([.ref (ad 40)])).length) Slot.unset).toArray = ls at hl ⊢
  have hl : lv_has ls 2 [(0, .ref (ad 40))] := hl
  refine lv_aload_n hx hb dX8_flush_0 rfl (lv_at hl 0 rfl) ?_
  refine va_get (D := (dC, dI)) (ci := 8) (v := .int (I 5 0)) (C := RX8) (T := TX8) (N := 35) hx hb hts hinX8 hown hK hP 0 rG_o rfl 5 (by decide) (hts (.fieldLink RX8 83 "OutboxHouseModel" "end" "I") (by decide +kernel)) (fun _ h9 => h9) rfl dX8_flush_1 ?_
  refine lv_aload_n hx hb dX8_flush_4 rfl (lv_at hl 0 rfl) ?_
  refine va_get (D := (dC, dI)) (ci := 8) (v := .int (I 6 0)) (C := RX8) (T := TX8) (N := 35) hx hb hts hinX8 hown hK hP 0 rG_o rfl 6 (by decide) (hts (.fieldLink RX8 95 "OutboxHouseModel" "flushed" "I") (by decide +kernel)) (fun _ h9 => h9) rfl dX8_flush_5 ?_
  refine lv_isub hx hb dX8_flush_8 ?_
  refine lv_istore_n (lv' := [(1, .int ((I 5 0) - (I 6 0))), (0, .ref (ad 40))]) hx hb dX8_flush_9 rfl hl (by decide) rfl (fun ls hl => ?_)
  obtain ⟨V1, ⟨n20, hV0⟩, hstepn2⟩ := h
  have hlpn2 : ∀ (n2 : Nat) (I3 : St) (H : Heap) (locs : List Loc), va_P (dC, dI) vwCl (rW ad cy I3) H → va_D A (rW ad cy I3) → va_S A s.heap H locs → ∀ ls : Array Slot, lv_has ls 2 [(0, .ref (ad 40)), (1, .int ((I 5 0) - (I 6 0)))] → V1 n2 I3 → W p l e (headSpec wsX8_flush rmX8_flush).room s m ([.ref (ad 40)] : List Value).toArray below meth c H locs 0 0 (MQ below Qc ([.ref (ad 40)] : List Value).toArray s 0 0 A) (F0 m 10 ls []) := by
    intro n2
    induction n2 using Nat.strongRecOn with
    | _ n2 ihn2 =>
      intro I3 H locs hP hD hS ls hl hV
      have h := hstepn2 n2 I3 hV
      refine lv_aload_n hx hb dX8_flush_10 rfl (lv_at hl 0 rfl) ?_
      refine va_get (D := (dC, dI)) (ci := 8) (v := .int (I3 6 0)) (C := RX8) (T := TX8) (N := 35) hx hb hts hinX8 hown hK hP 0 rG_o rfl 6 (by decide) (hts (.fieldLink RX8 95 "OutboxHouseModel" "flushed" "I") (by decide +kernel)) (fun _ h9 => h9) rfl dX8_flush_11 ?_
      refine lv_aload_n hx hb dX8_flush_14 rfl (lv_at hl 0 rfl) ?_
      refine va_get (D := (dC, dI)) (ci := 8) (v := .int (I3 5 0)) (C := RX8) (T := TX8) (N := 35) hx hb hts hinX8 hown hK hP 0 rG_o rfl 5 (by decide) (hts (.fieldLink RX8 83 "OutboxHouseModel" "end" "I") (by decide +kernel)) (fun _ h9 => h9) rfl dX8_flush_15 ?_
      refine lv_icmp_ge (tgt := 75) hx hb dX8_flush_18 (by decide) (fun hc => ?_) (fun hc => ?_)
      · have h := h.1 hc
        refine lv_iload_n hx hb dX8_flush_75 rfl (lv_at hl 1 rfl) ?_
        exact W.iret (v := (I 5 0) - (I 6 0)) hx hb hr (fun t ht hW => hQ _ _ t ((I 5 0) - (I 6 0)) I3 h ⟨by rw [ht]; exact hP, hD⟩ (hS.F ht)) hS.2.2 dX8_flush_76
      · have h := h.2 hc
        refine lv_aload_n hx hb dX8_flush_21 rfl (lv_at hl 0 rfl) ?_
        refine va_get (D := (dC, dI)) (ci := 8) (v := .ref (ad 3)) (C := RX8) (T := TX8) (N := 35) hx hb hts hinX8 hown hK hP 0 rG_o rfl 3 (by decide) (hts (.fieldLink RX8 20 "OutboxHouseModel" "value" "[I") (by decide +kernel)) (fun _ h9 => h9) rfl dX8_flush_22 ?_
        refine lv_aload_n hx hb dX8_flush_25 rfl (lv_at hl 0 rfl) ?_
        refine va_get (D := (dC, dI)) (ci := 8) (v := .ref (ad 8)) (C := RX8) (T := TX8) (N := 35) hx hb hts hinX8 hown hK hP 0 rG_o rfl 8 (by decide) (hts (.fieldLink RX8 26 "OutboxHouseModel" "logKey" "[I") (by decide +kernel)) (fun _ h9 => h9) rfl dX8_flush_26 ?_
        refine lv_aload_n hx hb dX8_flush_29 rfl (lv_at hl 0 rfl) ?_
        refine va_get (D := (dC, dI)) (ci := 8) (v := .int (I3 6 0)) (C := RX8) (T := TX8) (N := 35) hx hb hts hinX8 hown hK hP 0 rG_o rfl 6 (by decide) (hts (.fieldLink RX8 95 "OutboxHouseModel" "flushed" "I") (by decide +kernel)) (fun _ h9 => h9) rfl dX8_flush_30 ?_
        have hv := h.1; replace h := h.2
        refine va_iald hx hb hK hP 6 0 rG_8 rfl hv dX8_flush_33 ?_
        refine lv_aload_n hx hb dX8_flush_34 rfl (lv_at hl 0 rfl) ?_
        refine va_get (D := (dC, dI)) (ci := 8) (v := .ref (ad 9)) (C := RX8) (T := TX8) (N := 35) hx hb hts hinX8 hown hK hP 0 rG_o rfl 9 (by decide) (hts (.fieldLink RX8 29 "OutboxHouseModel" "logValue" "[I") (by decide +kernel)) (fun _ h9 => h9) rfl dX8_flush_35 ?_
        refine lv_aload_n hx hb dX8_flush_38 rfl (lv_at hl 0 rfl) ?_
        refine va_get (D := (dC, dI)) (ci := 8) (v := .int (I3 6 0)) (C := RX8) (T := TX8) (N := 35) hx hb hts hinX8 hown hK hP 0 rG_o rfl 6 (by decide) (hts (.fieldLink RX8 95 "OutboxHouseModel" "flushed" "I") (by decide +kernel)) (fun _ h9 => h9) rfl dX8_flush_39 ?_
        have hv := h.1; replace h := h.2
        refine va_iald hx hb hK hP 7 0 rG_9 rfl hv dX8_flush_42 ?_
        have hv := h.1; replace h := h.2
        refine va_iast hx hb hK hP hD hS 4 0 rG_3 rfl hv dX8_flush_43 (fun H locs hP hD hS => ?_)
        obtain ⟨I4, hI4⟩ : ∃ z : St, z = st I3 3 (I3 8 (I3 6 0).toNatClampNeg).toNatClampNeg (I3 9 (I3 6 0).toNatClampNeg) := ⟨_, rfl⟩
        replace hP := wP (rE_3 hI4) hP; replace hD := wD (rE_3 hI4) hD; replace h := h _ hI4
        refine lv_aload_n hx hb dX8_flush_44 rfl (lv_at hl 0 rfl) ?_
        refine va_get (D := (dC, dI)) (ci := 8) (v := .ref (ad 4)) (C := RX8) (T := TX8) (N := 35) hx hb hts hinX8 hown hK hP 0 rG_o rfl 4 (by decide) (hts (.fieldLink RX8 23 "OutboxHouseModel" "counts" "[I") (by decide +kernel)) (fun _ h9 => h9) rfl dX8_flush_45 ?_
        refine lv_aload_n hx hb dX8_flush_48 rfl (lv_at hl 0 rfl) ?_
        refine va_get (D := (dC, dI)) (ci := 8) (v := .ref (ad 8)) (C := RX8) (T := TX8) (N := 35) hx hb hts hinX8 hown hK hP 0 rG_o rfl 8 (by decide) (hts (.fieldLink RX8 26 "OutboxHouseModel" "logKey" "[I") (by decide +kernel)) (fun _ h9 => h9) rfl dX8_flush_49 ?_
        refine lv_aload_n hx hb dX8_flush_52 rfl (lv_at hl 0 rfl) ?_
        refine va_get (D := (dC, dI)) (ci := 8) (v := .int (I4 6 0)) (C := RX8) (T := TX8) (N := 35) hx hb hts hinX8 hown hK hP 0 rG_o rfl 6 (by decide) (hts (.fieldLink RX8 95 "OutboxHouseModel" "flushed" "I") (by decide +kernel)) (fun _ h9 => h9) rfl dX8_flush_53 ?_
        have hv := h.1; replace h := h.2
        refine va_iald hx hb hK hP 6 0 rG_8 rfl hv dX8_flush_56 ?_
        refine lv_dup2_11 hx hb dX8_flush_57 rfl rfl ?_
        have hv := h.1; replace h := h.2
        refine va_iald hx hb hK hP 5 0 rG_4 rfl hv dX8_flush_58 ?_
        refine lv_iconst (v := 1) hx hb dX8_flush_59 (by decide) ?_
        refine lv_iadd hx hb dX8_flush_60 ?_
        have hv := h.1; replace h := h.2
        refine va_iast hx hb hK hP hD hS 5 0 rG_4 rfl hv dX8_flush_61 (fun H locs hP hD hS => ?_)
        obtain ⟨I5, hI5⟩ : ∃ z : St, z = st I4 4 (I4 8 (I4 6 0).toNatClampNeg).toNatClampNeg ((I4 4 (I4 8 (I4 6 0).toNatClampNeg).toNatClampNeg) + 1) := ⟨_, rfl⟩
        replace hP := wP (rE_4 hI5) hP; replace hD := wD (rE_4 hI5) hD; replace h := h _ hI5
        refine lv_aload_n hx hb dX8_flush_62 rfl (lv_at hl 0 rfl) ?_
        refine lv_dup hx hb dX8_flush_63 rfl ?_
        refine va_get (D := (dC, dI)) (ci := 8) (v := .int (I5 6 0)) (C := RX8) (T := TX8) (N := 35) hx hb hts hinX8 hown hK hP 0 rG_o rfl 6 (by decide) (hts (.fieldLink RX8 95 "OutboxHouseModel" "flushed" "I") (by decide +kernel)) (fun _ h9 => h9) rfl dX8_flush_64 ?_
        refine lv_iconst (v := 1) hx hb dX8_flush_67 (by decide) ?_
        refine lv_iadd hx hb dX8_flush_68 ?_
        refine va_put (D := (dC, dI)) (ci := 8) (v := .int ((I5 6 0) + 1)) (ty := .int) (C := RX8) (T := TX8) (N := 35) hx hb hts hinX8 tyX8 tyX8_ok nmX8 hown hK hP hD hS 0 rG_o rfl 6 (by decide) (hts (.fieldLink RX8 95 "OutboxHouseModel" "flushed" "I") (by decide +kernel)) (fun _ h9 => h9) rfl (by decide +kernel) rfl rfl (Nat.le_of_ble_eq_true rfl) dX8_flush_69 (fun H locs hP hD hS => ?_)
        obtain ⟨I6, hI6⟩ : ∃ z : St, z = st I5 6 0 ((I5 6 0) + 1) := ⟨_, rfl⟩
        replace hP := wP (rE_6 hI6) hP; replace hD := wD (rE_6 hI6) hD; replace h := h _ hI6
        refine lv_goto (tgt := 10) hx hb dX8_flush_72 (by decide) ?_
        obtain ⟨n7, hlt, hV⟩ := h
        exact ihn2 n7 hlt _ _ _ hP hD hS ls (lv_sub hl [0, 1] rfl) hV
  exact hlpn2 n20 _ _ _ hP hD hS ls (lv_sub hl [1, 0] rfl) hV0
theorem m_X8_flush (l : Launch) (dC : Nat → ClassId) (dI : Nat → Nat → Nat) (cy : Nat → ClassId) (ad : Nat → Nat) (A : Nat → Prop) (I : St)  {post : Int32 → St → Prop} (hD : va_D A (rW ad cy I)) (h : wp_X8_flush I  post) : Met l yX8_flush wsX8_flush rmX8_flush (va_Pc [.ref (ad 40)] (wPre (dC, dI) cy A (rW ad cy I))) (va_Qi (fun r (u : St) => post r u) (fun (u : St) t => wPost (dC, dI) A (rW ad cy u) t) A) 0 0 A := g_X8_flush l dC dI cy ad A I  hD h (fun a s0 t r I' h1 h2 h3 => ⟨⟨r, I', rfl, h1, h2⟩, h3⟩)
