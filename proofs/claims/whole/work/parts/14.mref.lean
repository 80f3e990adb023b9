abbrev rmX8_letsGo : Room := { frames := 0, cells := 0, slots := 0, locals := 0 }
set_option maxHeartbeats 4000000 in
set_option maxRecDepth 100000 in
theorem g_X8_letsGo (l : Launch) (dC : Nat → ClassId) (dI : Nat → Nat → Nat) (cy : Nat → ClassId) (ad : Nat → Nat) (A : Nat → Prop) (I : St) (p1 : Int32) {post : St → Prop} (hD : va_D A (rW ad cy I)) (h : wp_X8_letsGo I p1 post) {Qc : Array Value → State → Outcome → State → Prop} (hQ : ∀ (a : Array Value) (s0 t : State) (I' : St), post I' → wPost (dC, dI) A (rW ad cy I') t → va_F A s0 t → Qc a s0 (.returned (none)) t) : Met l yX8_letsGo wsX8_letsGo rmX8_letsGo (va_Pc [.ref (ad 40), .int p1] (wPre (dC, dI) cy A (rW ad cy I))) Qc 0 0 A := by
  refine Met.ofW (cc := cX8_letsGo) (maxL := 3) (ret := none) (by decide) rfl ?_
  intro p e s m args below meth c s₁ B hml hv
  obtain ⟨rfl, hP, hK, hN, hA⟩ := hv
  have hx := B.exec
  have hb := B.bytes
  have hr := B.returns
  have hts := atoms_spec (ws := wsX8_letsGo) B.pre
  have hown : s.vm.findClass RX8 = some m.cls := findClass_of_methodNamed B.named
  have hlocks := B.notSynchronized
  have hinX8 : ∀ w ∈ wsX80, w ∈ wsX8_letsGo := fun _ h9 => List.mem_cons_of_mem _ (List.mem_append_right _ h9)
  have hS : va_S A s.heap s.heap [] := va_S.rf
  unfold wp_X8_letsGo at h
  have hl := lv_entry ([.ref (ad 40), .int p1]) (n := 3) (Nat.le_of_ble_eq_true rfl)
  rw [lg_entry_eq]
  generalize (lg_sl ([.ref (ad 40), .int p1]) ++ List.replicate (3 - (lg_sl ([.ref (ad 40), .int p1])).length) Slot.unset).toArray = ls at hl ⊢
  have hl : lv_has ls 3 [(0, .ref (ad 40)), (1, .int p1)] := hl
  refine lv_aload_n hx hb dX8_letsGo_0 rfl (lv_at hl 0 rfl) ?_
  refine lv_dup hx hb dX8_letsGo_1 rfl ?_
  refine va_get (D := (dC, dI)) (ci := 8) (v := .int (I 25 0)) (C := RX8) (T := TX8) (N := 35) hx hb hts hinX8 hown hK hP 0 rG_o rfl 25 (by decide) (hts (.fieldLink RX8 115 "OutboxHouseModel" "held" "I") (by decide +kernel)) (fun _ h9 => h9) rfl dX8_letsGo_2 ?_
  refine lv_iconst (v := 1) hx hb dX8_letsGo_5 (by decide) ?_
  refine lv_isub hx hb dX8_letsGo_6 ?_
  refine va_put (D := (dC, dI)) (ci := 8) (v := .int ((I 25 0) - 1)) (ty := .int) (C := RX8) (T := TX8) (N := 35) hx hb hts hinX8 tyX8 tyX8_ok nmX8 hown hK hP hD hS 0 rG_o rfl 25 (by decide) (hts (.fieldLink RX8 115 "OutboxHouseModel" "held" "I") (by decide +kernel)) (fun _ h9 => h9) rfl (by decide +kernel) rfl rfl (Nat.le_of_ble_eq_true rfl) dX8_letsGo_7 (fun H locs hP hD hS => ?_)
  obtain ⟨I1, hI1⟩ : ∃ z : St, z = st I 25 0 ((I 25 0) - 1) := ⟨_, rfl⟩
  replace hP := wP (rE_25 hI1) hP; replace hD := wD (rE_25 hI1) hD; replace h := h _ hI1
  refine lv_iload_n hx hb dX8_letsGo_10 rfl (lv_at hl 1 rfl) ?_
  refine lv_istore_n (lv' := [(2, .int p1), (0, .ref (ad 40)), (1, .int p1)]) hx hb dX8_letsGo_11 rfl hl (by decide) rfl (fun ls hl => ?_)
  obtain ⟨V2, ⟨n30, hV0⟩, hstepn3⟩ := h
  have hlpn3 : ∀ (n3 : Nat) (x4 : Int32) (I5 : St) (H : Heap) (locs : List Loc), va_P (dC, dI) vwCl (rW ad cy I5) H → va_D A (rW ad cy I5) → va_S A s.heap H locs → ∀ ls : Array Slot, lv_has ls 3 [(0, .ref (ad 40)), (1, .int p1), (2, .int x4)] → V2 n3 x4 I5 → W p l e (headSpec wsX8_letsGo rmX8_letsGo).room s m ([.ref (ad 40), .int p1] : List Value).toArray below meth c H locs 0 0 (MQ below Qc ([.ref (ad 40), .int p1] : List Value).toArray s 0 0 A) (F0 m 12 ls []) := by
    intro n3
    induction n3 using Nat.strongRecOn with
    | _ n3 ihn3 =>
      intro x4 I5 H locs hP hD hS ls hl hV
      have h := hstepn3 n3 x4 I5 hV
      refine lv_iload_n hx hb dX8_letsGo_12 rfl (lv_at hl 2 rfl) ?_
      refine lv_aload_n hx hb dX8_letsGo_13 rfl (lv_at hl 0 rfl) ?_
      refine va_get (D := (dC, dI)) (ci := 8) (v := .int (I5 25 0)) (C := RX8) (T := TX8) (N := 35) hx hb hts hinX8 hown hK hP 0 rG_o rfl 25 (by decide) (hts (.fieldLink RX8 115 "OutboxHouseModel" "held" "I") (by decide +kernel)) (fun _ h9 => h9) rfl dX8_letsGo_14 ?_
      refine lv_icmp_ge (tgt := 82) hx hb dX8_letsGo_17 (by decide) (fun hc => ?_) (fun hc => ?_)
      · have h := h.1 hc
        exact W.vret hx hb hr (fun t ht hW => hQ _ _ t I5 h ⟨by rw [ht]; exact hP, hD⟩ (hS.F ht)) hS.2.2 dX8_letsGo_82
      · have h := h.2 hc
        refine lv_aload_n hx hb dX8_letsGo_20 rfl (lv_at hl 0 rfl) ?_
        refine va_get (D := (dC, dI)) (ci := 8) (v := .ref (ad 26)) (C := RX8) (T := TX8) (N := 35) hx hb hts hinX8 hown hK hP 0 rG_o rfl 26 (by decide) (hts (.fieldLink RX8 71 "OutboxHouseModel" "heldKey" "[I") (by decide +kernel)) (fun _ h9 => h9) rfl dX8_letsGo_21 ?_
        refine lv_iload_n hx hb dX8_letsGo_24 rfl (lv_at hl 2 rfl) ?_
        refine lv_aload_n hx hb dX8_letsGo_25 rfl (lv_at hl 0 rfl) ?_
        refine va_get (D := (dC, dI)) (ci := 8) (v := .ref (ad 26)) (C := RX8) (T := TX8) (N := 35) hx hb hts hinX8 hown hK hP 0 rG_o rfl 26 (by decide) (hts (.fieldLink RX8 71 "OutboxHouseModel" "heldKey" "[I") (by decide +kernel)) (fun _ h9 => h9) rfl dX8_letsGo_26 ?_
        refine lv_iload_n hx hb dX8_letsGo_29 rfl (lv_at hl 2 rfl) ?_
        refine lv_iconst (v := 1) hx hb dX8_letsGo_30 (by decide) ?_
        refine lv_iadd hx hb dX8_letsGo_31 ?_
        have hv := h.1; replace h := h.2
        refine va_iald hx hb hK hP 21 0 rG_26 rfl hv dX8_letsGo_32 ?_
        have hv := h.1; replace h := h.2
        refine va_iast hx hb hK hP hD hS 21 0 rG_26 rfl hv dX8_letsGo_33 (fun H locs hP hD hS => ?_)
        obtain ⟨I6, hI6⟩ : ∃ z : St, z = st I5 26 x4.toNatClampNeg (I5 26 (x4 + 1).toNatClampNeg) := ⟨_, rfl⟩
        replace hP := wP (rE_26 hI6) hP; replace hD := wD (rE_26 hI6) hD; replace h := h _ hI6
        refine lv_aload_n hx hb dX8_letsGo_34 rfl (lv_at hl 0 rfl) ?_
        refine va_get (D := (dC, dI)) (ci := 8) (v := .ref (ad 27)) (C := RX8) (T := TX8) (N := 35) hx hb hts hinX8 hown hK hP 0 rG_o rfl 27 (by decide) (hts (.fieldLink RX8 74 "OutboxHouseModel" "heldOrder" "[I") (by decide +kernel)) (fun _ h9 => h9) rfl dX8_letsGo_35 ?_
        refine lv_iload_n hx hb dX8_letsGo_38 rfl (lv_at hl 2 rfl) ?_
        refine lv_aload_n hx hb dX8_letsGo_39 rfl (lv_at hl 0 rfl) ?_
        refine va_get (D := (dC, dI)) (ci := 8) (v := .ref (ad 27)) (C := RX8) (T := TX8) (N := 35) hx hb hts hinX8 hown hK hP 0 rG_o rfl 27 (by decide) (hts (.fieldLink RX8 74 "OutboxHouseModel" "heldOrder" "[I") (by decide +kernel)) (fun _ h9 => h9) rfl dX8_letsGo_40 ?_
        refine lv_iload_n hx hb dX8_letsGo_43 rfl (lv_at hl 2 rfl) ?_
        refine lv_iconst (v := 1) hx hb dX8_letsGo_44 (by decide) ?_
        refine lv_iadd hx hb dX8_letsGo_45 ?_
        have hv := h.1; replace h := h.2
        refine va_iald hx hb hK hP 22 0 rG_27 rfl hv dX8_letsGo_46 ?_
        have hv := h.1; replace h := h.2
        refine va_iast hx hb hK hP hD hS 22 0 rG_27 rfl hv dX8_letsGo_47 (fun H locs hP hD hS => ?_)
        obtain ⟨I7, hI7⟩ : ∃ z : St, z = st I6 27 x4.toNatClampNeg (I6 27 (x4 + 1).toNatClampNeg) := ⟨_, rfl⟩
        replace hP := wP (rE_27 hI7) hP; replace hD := wD (rE_27 hI7) hD; replace h := h _ hI7
        refine lv_aload_n hx hb dX8_letsGo_48 rfl (lv_at hl 0 rfl) ?_
        refine va_get (D := (dC, dI)) (ci := 8) (v := .ref (ad 28)) (C := RX8) (T := TX8) (N := 35) hx hb hts hinX8 hown hK hP 0 rG_o rfl 28 (by decide) (hts (.fieldLink RX8 77 "OutboxHouseModel" "heldValue" "[I") (by decide +kernel)) (fun _ h9 => h9) rfl dX8_letsGo_49 ?_
        refine lv_iload_n hx hb dX8_letsGo_52 rfl (lv_at hl 2 rfl) ?_
        refine lv_aload_n hx hb dX8_letsGo_53 rfl (lv_at hl 0 rfl) ?_
        refine va_get (D := (dC, dI)) (ci := 8) (v := .ref (ad 28)) (C := RX8) (T := TX8) (N := 35) hx hb hts hinX8 hown hK hP 0 rG_o rfl 28 (by decide) (hts (.fieldLink RX8 77 "OutboxHouseModel" "heldValue" "[I") (by decide +kernel)) (fun _ h9 => h9) rfl dX8_letsGo_54 ?_
        refine lv_iload_n hx hb dX8_letsGo_57 rfl (lv_at hl 2 rfl) ?_
        refine lv_iconst (v := 1) hx hb dX8_letsGo_58 (by decide) ?_
        refine lv_iadd hx hb dX8_letsGo_59 ?_
        have hv := h.1; replace h := h.2
        refine va_iald hx hb hK hP 23 0 rG_28 rfl hv dX8_letsGo_60 ?_
        have hv := h.1; replace h := h.2
        refine va_iast hx hb hK hP hD hS 23 0 rG_28 rfl hv dX8_letsGo_61 (fun H locs hP hD hS => ?_)
        obtain ⟨I8, hI8⟩ : ∃ z : St, z = st I7 28 x4.toNatClampNeg (I7 28 (x4 + 1).toNatClampNeg) := ⟨_, rfl⟩
        replace hP := wP (rE_28 hI8) hP; replace hD := wD (rE_28 hI8) hD; replace h := h _ hI8
        refine lv_aload_n hx hb dX8_letsGo_62 rfl (lv_at hl 0 rfl) ?_
        refine va_get (D := (dC, dI)) (ci := 8) (v := .ref (ad 29)) (C := RX8) (T := TX8) (N := 35) hx hb hts hinX8 hown hK hP 0 rG_o rfl 29 (by decide) (hts (.fieldLink RX8 80 "OutboxHouseModel" "heldAt" "[I") (by decide +kernel)) (fun _ h9 => h9) rfl dX8_letsGo_63 ?_
        refine lv_iload_n hx hb dX8_letsGo_66 rfl (lv_at hl 2 rfl) ?_
        refine lv_aload_n hx hb dX8_letsGo_67 rfl (lv_at hl 0 rfl) ?_
        refine va_get (D := (dC, dI)) (ci := 8) (v := .ref (ad 29)) (C := RX8) (T := TX8) (N := 35) hx hb hts hinX8 hown hK hP 0 rG_o rfl 29 (by decide) (hts (.fieldLink RX8 80 "OutboxHouseModel" "heldAt" "[I") (by decide +kernel)) (fun _ h9 => h9) rfl dX8_letsGo_68 ?_
        refine lv_iload_n hx hb dX8_letsGo_71 rfl (lv_at hl 2 rfl) ?_
        refine lv_iconst (v := 1) hx hb dX8_letsGo_72 (by decide) ?_
        refine lv_iadd hx hb dX8_letsGo_73 ?_
        have hv := h.1; replace h := h.2
        refine va_iald hx hb hK hP 24 0 rG_29 rfl hv dX8_letsGo_74 ?_
        have hv := h.1; replace h := h.2
        refine va_iast hx hb hK hP hD hS 24 0 rG_29 rfl hv dX8_letsGo_75 (fun H locs hP hD hS => ?_)
        obtain ⟨I9, hI9⟩ : ∃ z : St, z = st I8 29 x4.toNatClampNeg (I8 29 (x4 + 1).toNatClampNeg) := ⟨_, rfl⟩
        replace hP := wP (rE_29 hI9) hP; replace hD := wD (rE_29 hI9) hD; replace h := h _ hI9
        refine lv_iinc (v := x4 + 1) (lv' := [(2, .int (x4 + 1)), (0, .ref (ad 40)), (1, .int p1)]) hx hb dX8_letsGo_76 hl (k := 2) rfl rfl (by decide) rfl (fun ls hl => ?_)
        refine lv_goto (tgt := 12) hx hb dX8_letsGo_79 (by decide) ?_
        obtain ⟨n10, hlt, hV⟩ := h
        exact ihn3 n10 hlt _ _ _ _ hP hD hS ls (lv_sub hl [1, 2, 0] rfl) hV
  exact hlpn3 n30 _ _ _ _ hP hD hS ls (lv_sub hl [1, 2, 0] rfl) hV0
theorem m_X8_letsGo (l : Launch) (dC : Nat → ClassId) (dI : Nat → Nat → Nat) (cy : Nat → ClassId) (ad : Nat → Nat) (A : Nat → Prop) (I : St) (p1 : Int32) {post : St → Prop} (hD : va_D A (rW ad cy I)) (h : wp_X8_letsGo I p1 post) : Met l yX8_letsGo wsX8_letsGo rmX8_letsGo (va_Pc [.ref (ad 40), .int p1] (wPre (dC, dI) cy A (rW ad cy I))) (va_Qv (fun (u : St) => post u) (fun (u : St) t => wPost (dC, dI) A (rW ad cy u) t) A) 0 0 A := g_X8_letsGo l dC dI cy ad A I p1 hD h (fun a s0 t I' h1 h2 h3 => ⟨⟨I', rfl, h1, h2⟩, h3⟩)
abbrev rmX8_hears : Room := { frames := 1, cells := 0, slots := 0, locals := 23 }
set_option maxHeartbeats 4000000 in
set_option maxRecDepth 100000 in
theorem g_X8_hears (l : Launch) (dC : Nat → ClassId) (dI : Nat → Nat → Nat) (cy : Nat → ClassId) (ad : Nat → Nat) (A : Nat → Prop) (I : St) (p1 : Int32) (p2 : Int32) (p3 : Int32) (p4 : Int32) {post : Int32 → St → Prop} (hD : va_D A (rW ad cy I)) (h : wp_X8_hears I p1 p2 p3 p4 post) {Qc : Array Value → State → Outcome → State → Prop} (hQ : ∀ (a : Array Value) (s0 t : State) (r : Int32) (I' : St), post r I' → wPost (dC, dI) A (rW ad cy I') t → va_F A s0 t → Qc a s0 (.returned (some (.int r))) t) : Met l yX8_hears wsX8_hears rmX8_hears (va_Pc [.ref (ad 40), .int p1, .int p2, .int p3, .int p4] (wPre (dC, dI) cy A (rW ad cy I))) Qc 0 0 A := by
  refine Met.ofW (cc := cX8_hears) (maxL := 6) (ret := (some .int)) (by decide) rfl ?_
  intro p e s m args below meth c s₁ B hml hv
  obtain ⟨rfl, hP, hK, hN, hA⟩ := hv
  have hx := B.exec
  have hb := B.bytes
  have hr := B.returns
  have hts := atoms_spec (ws := wsX8_hears) B.pre
  have hown : s.vm.findClass RX8 = some m.cls := findClass_of_methodNamed B.named
  have hlocks := B.notSynchronized
  have hinX8 : ∀ w ∈ wsX80, w ∈ wsX8_hears := fun _ h9 => List.mem_cons_of_mem _ (List.mem_append_right _ h9)
  have hS : va_S A s.heap s.heap [] := va_S.rf
  unfold wp_X8_hears at h
  have hl := lv_entry ([.ref (ad 40), .int p1, .int p2, .int p3, .int p4]) (n := 6) (Nat.le_of_ble_eq_true rfl)
  rw [lg_entry_eq]
  generalize (lg_sl ([.ref (ad 40), .int p1, .int p2, .int p3, .int p4]) ++ List.replicate (6 - (lg_sl ([.ref (ad 40), .int p1, .int p2, .int p3, .int p4])).length) Slot.unset).toArray = ls at hl ⊢
  have hl : lv_has ls 6 [(0, .ref (ad 40)), (1, .int p1), (2, .int p2), (3, .int p3), (4, .int p4)] := hl
  refine lv_iload_n hx hb dX8_hears_0 rfl (lv_at hl 2 rfl) ?_
  refine lv_aload_n hx hb dX8_hears_1 rfl (lv_at hl 0 rfl) ?_
  refine va_get (D := (dC, dI)) (ci := 8) (v := .ref (ad 20)) (C := RX8) (T := TX8) (N := 35) hx hb hts hinX8 hown hK hP 0 rG_o rfl 20 (by decide) (hts (.fieldLink RX8 56 "OutboxHouseModel" "doneNow" "[I") (by decide +kernel)) (fun _ h9 => h9) rfl dX8_hears_2 ?_
  refine lv_iload_n hx hb dX8_hears_5 rfl (lv_at hl 1 rfl) ?_
  have hv := h.1; replace h := h.2
  refine va_iald hx hb hK hP 16 0 rG_20 rfl hv dX8_hears_6 ?_
  refine lv_icmp_gt (tgt := 22) hx hb dX8_hears_7 (by decide) (fun hc => ?_) (fun hc => ?_)
  · have h := h.1 hc
    refine lv_iload_n hx hb dX8_hears_22 rfl (lv_at hl 2 rfl) ?_
    refine lv_aload_n hx hb dX8_hears_23 rfl (lv_at hl 0 rfl) ?_
    refine va_get (D := (dC, dI)) (ci := 8) (v := .ref (ad 20)) (C := RX8) (T := TX8) (N := 35) hx hb hts hinX8 hown hK hP 0 rG_o rfl 20 (by decide) (hts (.fieldLink RX8 56 "OutboxHouseModel" "doneNow" "[I") (by decide +kernel)) (fun _ h9 => h9) rfl dX8_hears_24 ?_
    refine lv_iload_n hx hb dX8_hears_27 rfl (lv_at hl 1 rfl) ?_
    have hv := h.1; replace h := h.2
    refine va_iald hx hb hK hP 16 0 rG_20 rfl hv dX8_hears_28 ?_
    refine lv_iconst (v := 1) hx hb dX8_hears_29 (by decide) ?_
    refine lv_iadd hx hb dX8_hears_30 ?_
    refine lv_icmp_le (tgt := 129) hx hb dX8_hears_31 (by decide) (fun hc => ?_) (fun hc => ?_)
    · have h := h.1 hc
      refine lv_aload_n hx hb dX8_hears_129 rfl (lv_at hl 0 rfl) ?_
      refine lv_iload_n hx hb dX8_hears_130 rfl (lv_at hl 1 rfl) ?_
      refine lv_iload_n hx hb dX8_hears_131 rfl (lv_at hl 3 rfl) ?_
      refine lv_iload hx hb dX8_hears_132 (lv_at hl 4 rfl) ?_
      refine va_callv (va_runV (As := [.int p1, .int p3, .int p4]) (rest := []) ⟨hx, hb, hml, hown, hts⟩ (m_X8_does l dC dI cy ad A I p1 p3 p4 hD h) (cwV 3 hts gX8_hears_X8_does rfl rfl rfl (by decide +kernel) ⟨Nat.le_of_ble_eq_true rfl, Nat.le_of_ble_eq_true rfl⟩) ⟨wPre.blind, va_recv hK hP (ci := 8) (q0 := 0) rfl rG_o, wPre.at hP hK hN hS hA⟩ rfl rfl hl.1 rfl (lv_room (Nat.le_of_ble_eq_true rfl)) dX8_hears_134 ⟨by first | exact Nat.le_of_ble_eq_true rfl | (show _ ≤ 0; omega), by first | exact Nat.le_of_ble_eq_true rfl | (show _ ≤ 0; omega)⟩) hS (fun q _ h => h) (fun q h => h) (fun u t H locs ht hvm hw hB hz1 hk1 hS => ?_)
      obtain ⟨I2, rfl⟩ : ∃ z : St, z = u := ⟨_, rfl⟩
      obtain ⟨hP, hD⟩ := hB; rw [ht] at hP; replace h := hw; try dsimp only at h hP hD
      refine lv_aload_n hx hb dX8_hears_137 rfl (lv_at hl 0 rfl) ?_
      refine lv_iload_n hx hb dX8_hears_138 rfl (lv_at hl 1 rfl) ?_
      refine lv_aload_n hx hb dX8_hears_139 rfl (lv_at hl 0 rfl) ?_
      refine va_get (D := (dC, dI)) (ci := 8) (v := .ref (ad 20)) (C := RX8) (T := TX8) (N := 35) hx hb hts hinX8 hown hK hP 0 rG_o rfl 20 (by decide) (hts (.fieldLink RX8 56 "OutboxHouseModel" "doneNow" "[I") (by decide +kernel)) (fun _ h9 => h9) rfl dX8_hears_140 ?_
      refine lv_iload_n hx hb dX8_hears_143 rfl (lv_at hl 1 rfl) ?_
      have hv := h.1; replace h := h.2
      refine va_iald hx hb hK hP 16 0 rG_20 rfl hv dX8_hears_144 ?_
      refine lv_iconst (v := 1) hx hb dX8_hears_145 (by decide) ?_
      refine lv_iadd hx hb dX8_hears_146 ?_
      refine va_calli (va_runV (As := [.int p1, .int ((I2 20 p1.toNatClampNeg) + 1)]) (rest := []) ⟨hx, hb, hml, hown, hts⟩ (m_X8_findHeld l dC dI cy ad A I2 p1 ((I2 20 p1.toNatClampNeg) + 1) hD h) (cwV 2 hts gX8_hears_X8_findHeld rfl rfl rfl (by decide +kernel) ⟨Nat.le_of_ble_eq_true rfl, Nat.le_of_ble_eq_true rfl⟩) ⟨wPre.blind, va_recv hK hP (ci := 8) (q0 := 0) rfl rG_o, wPre.at hP hK hN hS hA⟩ rfl rfl hl.1 rfl (lv_room (Nat.le_of_ble_eq_true rfl)) dX8_hears_147 ⟨by first | exact Nat.le_of_ble_eq_true rfl | (show _ ≤ 0; omega), by first | exact Nat.le_of_ble_eq_true rfl | (show _ ≤ 0; omega)⟩) hS (fun q _ h => h) (fun q h => h) (fun r3 u t H locs ht hvm hw hB hz1 hk1 hS => ?_)
      obtain ⟨I4, rfl⟩ : ∃ z : St, z = u := ⟨_, rfl⟩
      obtain ⟨hP, hD⟩ := hB; rw [ht] at hP; replace h := hw; try dsimp only at h hP hD
      refine lv_istore (lv' := [(5, .int r3), (0, .ref (ad 40)), (1, .int p1), (2, .int p2), (3, .int p3), (4, .int p4)]) hx hb dX8_hears_150 hl (by decide) rfl (fun ls hl => ?_)
      obtain ⟨V5, ⟨n60, hV0⟩, hstepn6⟩ := h
      have hlpn6 : ∀ (n6 : Nat) (x7 : Int32) (I8 : St) (H : Heap) (locs : List Loc), va_P (dC, dI) vwCl (rW ad cy I8) H → va_D A (rW ad cy I8) → va_S A s.heap H locs → ∀ ls : Array Slot, lv_has ls 6 [(0, .ref (ad 40)), (1, .int p1), (2, .int p2), (3, .int p3), (4, .int p4), (5, .int x7)] → V5 n6 x7 I8 → W p l e (headSpec wsX8_hears rmX8_hears).room s m ([.ref (ad 40), .int p1, .int p2, .int p3, .int p4] : List Value).toArray below meth c H locs 0 0 (MQ below Qc ([.ref (ad 40), .int p1, .int p2, .int p3, .int p4] : List Value).toArray s 0 0 A) (F0 m 152 ls []) := by
        intro n6
        induction n6 using Nat.strongRecOn with
        | _ n6 ihn6 =>
          intro x7 I8 H locs hP hD hS ls hl hV
          have h := hstepn6 n6 x7 I8 hV
          refine lv_iload hx hb dX8_hears_152 (lv_at hl 5 rfl) ?_
          refine lv_if_lt (tgt := 200) hx hb dX8_hears_154 (by decide) (fun hc => ?_) (fun hc => ?_)
          · have h := h.1 hc
            refine lv_iconst (v := 1) hx hb dX8_hears_200 (by decide) ?_
            exact W.iret (v := 1) hx hb hr (fun t ht hW => hQ _ _ t 1 I8 h ⟨by rw [ht]; exact hP, hD⟩ (hS.F ht)) hS.2.2 dX8_hears_201
          · have h := h.2 hc
            refine lv_aload_n hx hb dX8_hears_157 rfl (lv_at hl 0 rfl) ?_
            refine lv_iload_n hx hb dX8_hears_158 rfl (lv_at hl 1 rfl) ?_
            refine lv_aload_n hx hb dX8_hears_159 rfl (lv_at hl 0 rfl) ?_
            refine va_get (D := (dC, dI)) (ci := 8) (v := .ref (ad 28)) (C := RX8) (T := TX8) (N := 35) hx hb hts hinX8 hown hK hP 0 rG_o rfl 28 (by decide) (hts (.fieldLink RX8 77 "OutboxHouseModel" "heldValue" "[I") (by decide +kernel)) (fun _ h9 => h9) rfl dX8_hears_160 ?_
            refine lv_iload hx hb dX8_hears_163 (lv_at hl 5 rfl) ?_
            have hv := h.1; replace h := h.2
            refine va_iald hx hb hK hP 23 0 rG_28 rfl hv dX8_hears_165 ?_
            refine lv_aload_n hx hb dX8_hears_166 rfl (lv_at hl 0 rfl) ?_
            refine va_get (D := (dC, dI)) (ci := 8) (v := .ref (ad 29)) (C := RX8) (T := TX8) (N := 35) hx hb hts hinX8 hown hK hP 0 rG_o rfl 29 (by decide) (hts (.fieldLink RX8 80 "OutboxHouseModel" "heldAt" "[I") (by decide +kernel)) (fun _ h9 => h9) rfl dX8_hears_167 ?_
            refine lv_iload hx hb dX8_hears_170 (lv_at hl 5 rfl) ?_
            have hv := h.1; replace h := h.2
            refine va_iald hx hb hK hP 24 0 rG_29 rfl hv dX8_hears_172 ?_
            refine va_callv (va_runV (As := [.int p1, .int (I8 28 x7.toNatClampNeg), .int (I8 29 x7.toNatClampNeg)]) (rest := []) ⟨hx, hb, hml, hown, hts⟩ (m_X8_does l dC dI cy ad A I8 p1 (I8 28 x7.toNatClampNeg) (I8 29 x7.toNatClampNeg) hD h) (cwV 3 hts gX8_hears_X8_does rfl rfl rfl (by decide +kernel) ⟨Nat.le_of_ble_eq_true rfl, Nat.le_of_ble_eq_true rfl⟩) ⟨wPre.blind, va_recv hK hP (ci := 8) (q0 := 0) rfl rG_o, wPre.at hP hK hN hS hA⟩ rfl rfl hl.1 rfl (lv_room (Nat.le_of_ble_eq_true rfl)) dX8_hears_173 ⟨by first | exact Nat.le_of_ble_eq_true rfl | (show _ ≤ 0; omega), by first | exact Nat.le_of_ble_eq_true rfl | (show _ ≤ 0; omega)⟩) hS (fun q _ h => h) (fun q h => h) (fun u t H locs ht hvm hw hB hz1 hk1 hS => ?_)
            obtain ⟨I10, rfl⟩ : ∃ z : St, z = u := ⟨_, rfl⟩
            obtain ⟨hP, hD⟩ := hB; rw [ht] at hP; replace h := hw; try dsimp only at h hP hD
            refine lv_aload_n hx hb dX8_hears_176 rfl (lv_at hl 0 rfl) ?_
            refine lv_iload hx hb dX8_hears_177 (lv_at hl 5 rfl) ?_
            refine va_callv (va_runV (As := [.int x7]) (rest := []) ⟨hx, hb, hml, hown, hts⟩ (m_X8_letsGo l dC dI cy ad A I10 x7 hD h) (cwV 1 hts gX8_hears_X8_letsGo rfl rfl rfl (by decide +kernel) ⟨Nat.le_of_ble_eq_true rfl, Nat.le_of_ble_eq_true rfl⟩) ⟨wPre.blind, va_recv hK hP (ci := 8) (q0 := 0) rfl rG_o, wPre.at hP hK hN hS hA⟩ rfl rfl hl.1 rfl (lv_room (Nat.le_of_ble_eq_true rfl)) dX8_hears_179 ⟨by first | exact Nat.le_of_ble_eq_true rfl | (show _ ≤ 0; omega), by first | exact Nat.le_of_ble_eq_true rfl | (show _ ≤ 0; omega)⟩) hS (fun q _ h => h) (fun q h => h) (fun u t H locs ht hvm hw hB hz1 hk1 hS => ?_)
            obtain ⟨I12, rfl⟩ : ∃ z : St, z = u := ⟨_, rfl⟩
            obtain ⟨hP, hD⟩ := hB; rw [ht] at hP; replace h := hw; try dsimp only at h hP hD
            refine lv_aload_n hx hb dX8_hears_182 rfl (lv_at hl 0 rfl) ?_
            refine lv_iload_n hx hb dX8_hears_183 rfl (lv_at hl 1 rfl) ?_
            refine lv_aload_n hx hb dX8_hears_184 rfl (lv_at hl 0 rfl) ?_
            refine va_get (D := (dC, dI)) (ci := 8) (v := .ref (ad 20)) (C := RX8) (T := TX8) (N := 35) hx hb hts hinX8 hown hK hP 0 rG_o rfl 20 (by decide) (hts (.fieldLink RX8 56 "OutboxHouseModel" "doneNow" "[I") (by decide +kernel)) (fun _ h9 => h9) rfl dX8_hears_185 ?_
            refine lv_iload_n hx hb dX8_hears_188 rfl (lv_at hl 1 rfl) ?_
            have hv := h.1; replace h := h.2
            refine va_iald hx hb hK hP 16 0 rG_20 rfl hv dX8_hears_189 ?_
            refine lv_iconst (v := 1) hx hb dX8_hears_190 (by decide) ?_
            refine lv_iadd hx hb dX8_hears_191 ?_
            refine va_calli (va_runV (As := [.int p1, .int ((I12 20 p1.toNatClampNeg) + 1)]) (rest := []) ⟨hx, hb, hml, hown, hts⟩ (m_X8_findHeld l dC dI cy ad A I12 p1 ((I12 20 p1.toNatClampNeg) + 1) hD h) (cwV 2 hts gX8_hears_X8_findHeld rfl rfl rfl (by decide +kernel) ⟨Nat.le_of_ble_eq_true rfl, Nat.le_of_ble_eq_true rfl⟩) ⟨wPre.blind, va_recv hK hP (ci := 8) (q0 := 0) rfl rG_o, wPre.at hP hK hN hS hA⟩ rfl rfl hl.1 rfl (lv_room (Nat.le_of_ble_eq_true rfl)) dX8_hears_192 ⟨by first | exact Nat.le_of_ble_eq_true rfl | (show _ ≤ 0; omega), by first | exact Nat.le_of_ble_eq_true rfl | (show _ ≤ 0; omega)⟩) hS (fun q _ h => h) (fun q h => h) (fun r13 u t H locs ht hvm hw hB hz1 hk1 hS => ?_)
            obtain ⟨I14, rfl⟩ : ∃ z : St, z = u := ⟨_, rfl⟩
            obtain ⟨hP, hD⟩ := hB; rw [ht] at hP; replace h := hw; try dsimp only at h hP hD
            refine lv_istore (lv' := [(5, .int r13), (0, .ref (ad 40)), (1, .int p1), (2, .int p2), (3, .int p3), (4, .int p4)]) hx hb dX8_hears_195 hl (by decide) rfl (fun ls hl => ?_)
            refine lv_goto (tgt := 152) hx hb dX8_hears_197 (by decide) ?_
            obtain ⟨n15, hlt, hV⟩ := h
            exact ihn6 n15 hlt _ _ _ _ hP hD hS ls (lv_sub hl [1, 2, 3, 4, 5, 0] rfl) hV
      exact hlpn6 n60 _ _ _ _ hP hD hS ls (lv_sub hl [1, 2, 3, 4, 5, 0] rfl) hV0
    · have h := h.2 hc
      refine lv_aload_n hx hb dX8_hears_34 rfl (lv_at hl 0 rfl) ?_
      refine lv_iload_n hx hb dX8_hears_35 rfl (lv_at hl 1 rfl) ?_
      refine lv_iload_n hx hb dX8_hears_36 rfl (lv_at hl 2 rfl) ?_
      refine va_calli (va_runV (As := [.int p1, .int p2]) (rest := []) ⟨hx, hb, hml, hown, hts⟩ (m_X8_findHeld l dC dI cy ad A I p1 p2 hD h) (cwV 2 hts gX8_hears_X8_findHeld rfl rfl rfl (by decide +kernel) ⟨Nat.le_of_ble_eq_true rfl, Nat.le_of_ble_eq_true rfl⟩) ⟨wPre.blind, va_recv hK hP (ci := 8) (q0 := 0) rfl rG_o, wPre.at hP hK hN hS hA⟩ rfl rfl hl.1 rfl (lv_room (Nat.le_of_ble_eq_true rfl)) dX8_hears_37 ⟨by first | exact Nat.le_of_ble_eq_true rfl | (show _ ≤ 0; omega), by first | exact Nat.le_of_ble_eq_true rfl | (show _ ≤ 0; omega)⟩) hS (fun q _ h => h) (fun q h => h) (fun r16 u t H locs ht hvm hw hB hz1 hk1 hS => ?_)
      obtain ⟨I17, rfl⟩ : ∃ z : St, z = u := ⟨_, rfl⟩
      obtain ⟨hP, hD⟩ := hB; rw [ht] at hP; replace h := hw; try dsimp only at h hP hD
      refine lv_if_lt (tgt := 55) hx hb dX8_hears_40 (by decide) (fun hc => ?_) (fun hc => ?_)
      · have h := h.1 hc
        refine lv_aload_n hx hb dX8_hears_55 rfl (lv_at hl 0 rfl) ?_
        refine va_get (D := (dC, dI)) (ci := 8) (v := .int (I17 25 0)) (C := RX8) (T := TX8) (N := 35) hx hb hts hinX8 hown hK hP 0 rG_o rfl 25 (by decide) (hts (.fieldLink RX8 115 "OutboxHouseModel" "held" "I") (by decide +kernel)) (fun _ h9 => h9) rfl dX8_hears_56 ?_
        refine lv_bipush (v := 8) hx hb dX8_hears_59 (by decide) ?_
        refine lv_icmp_ne (tgt := 76) hx hb dX8_hears_61 (by decide) (fun hc => ?_) (fun hc => ?_)
        · have h := h.1 hc
          refine lv_aload_n hx hb dX8_hears_76 rfl (lv_at hl 0 rfl) ?_
          refine va_get (D := (dC, dI)) (ci := 8) (v := .ref (ad 26)) (C := RX8) (T := TX8) (N := 35) hx hb hts hinX8 hown hK hP 0 rG_o rfl 26 (by decide) (hts (.fieldLink RX8 71 "OutboxHouseModel" "heldKey" "[I") (by decide +kernel)) (fun _ h9 => h9) rfl dX8_hears_77 ?_
          refine lv_aload_n hx hb dX8_hears_80 rfl (lv_at hl 0 rfl) ?_
          refine va_get (D := (dC, dI)) (ci := 8) (v := .int (I17 25 0)) (C := RX8) (T := TX8) (N := 35) hx hb hts hinX8 hown hK hP 0 rG_o rfl 25 (by decide) (hts (.fieldLink RX8 115 "OutboxHouseModel" "held" "I") (by decide +kernel)) (fun _ h9 => h9) rfl dX8_hears_81 ?_
          refine lv_iload_n hx hb dX8_hears_84 rfl (lv_at hl 1 rfl) ?_
          have hv := h.1; replace h := h.2
          refine va_iast hx hb hK hP hD hS 21 0 rG_26 rfl hv dX8_hears_85 (fun H locs hP hD hS => ?_)
          obtain ⟨I18, hI18⟩ : ∃ z : St, z = st I17 26 (I17 25 0).toNatClampNeg p1 := ⟨_, rfl⟩
          replace hP := wP (rE_26 hI18) hP; replace hD := wD (rE_26 hI18) hD; replace h := h _ hI18
          refine lv_aload_n hx hb dX8_hears_86 rfl (lv_at hl 0 rfl) ?_
          refine va_get (D := (dC, dI)) (ci := 8) (v := .ref (ad 27)) (C := RX8) (T := TX8) (N := 35) hx hb hts hinX8 hown hK hP 0 rG_o rfl 27 (by decide) (hts (.fieldLink RX8 74 "OutboxHouseModel" "heldOrder" "[I") (by decide +kernel)) (fun _ h9 => h9) rfl dX8_hears_87 ?_
          refine lv_aload_n hx hb dX8_hears_90 rfl (lv_at hl 0 rfl) ?_
          refine va_get (D := (dC, dI)) (ci := 8) (v := .int (I18 25 0)) (C := RX8) (T := TX8) (N := 35) hx hb hts hinX8 hown hK hP 0 rG_o rfl 25 (by decide) (hts (.fieldLink RX8 115 "OutboxHouseModel" "held" "I") (by decide +kernel)) (fun _ h9 => h9) rfl dX8_hears_91 ?_
          refine lv_iload_n hx hb dX8_hears_94 rfl (lv_at hl 2 rfl) ?_
          have hv := h.1; replace h := h.2
          refine va_iast hx hb hK hP hD hS 22 0 rG_27 rfl hv dX8_hears_95 (fun H locs hP hD hS => ?_)
          obtain ⟨I19, hI19⟩ : ∃ z : St, z = st I18 27 (I18 25 0).toNatClampNeg p2 := ⟨_, rfl⟩
          replace hP := wP (rE_27 hI19) hP; replace hD := wD (rE_27 hI19) hD; replace h := h _ hI19
          refine lv_aload_n hx hb dX8_hears_96 rfl (lv_at hl 0 rfl) ?_
          refine va_get (D := (dC, dI)) (ci := 8) (v := .ref (ad 28)) (C := RX8) (T := TX8) (N := 35) hx hb hts hinX8 hown hK hP 0 rG_o rfl 28 (by decide) (hts (.fieldLink RX8 77 "OutboxHouseModel" "heldValue" "[I") (by decide +kernel)) (fun _ h9 => h9) rfl dX8_hears_97 ?_
          refine lv_aload_n hx hb dX8_hears_100 rfl (lv_at hl 0 rfl) ?_
          refine va_get (D := (dC, dI)) (ci := 8) (v := .int (I19 25 0)) (C := RX8) (T := TX8) (N := 35) hx hb hts hinX8 hown hK hP 0 rG_o rfl 25 (by decide) (hts (.fieldLink RX8 115 "OutboxHouseModel" "held" "I") (by decide +kernel)) (fun _ h9 => h9) rfl dX8_hears_101 ?_
          refine lv_iload_n hx hb dX8_hears_104 rfl (lv_at hl 3 rfl) ?_
          have hv := h.1; replace h := h.2
          refine va_iast hx hb hK hP hD hS 23 0 rG_28 rfl hv dX8_hears_105 (fun H locs hP hD hS => ?_)
          obtain ⟨I20, hI20⟩ : ∃ z : St, z = st I19 28 (I19 25 0).toNatClampNeg p3 := ⟨_, rfl⟩
          replace hP := wP (rE_28 hI20) hP; replace hD := wD (rE_28 hI20) hD; replace h := h _ hI20
          refine lv_aload_n hx hb dX8_hears_106 rfl (lv_at hl 0 rfl) ?_
          refine va_get (D := (dC, dI)) (ci := 8) (v := .ref (ad 29)) (C := RX8) (T := TX8) (N := 35) hx hb hts hinX8 hown hK hP 0 rG_o rfl 29 (by decide) (hts (.fieldLink RX8 80 "OutboxHouseModel" "heldAt" "[I") (by decide +kernel)) (fun _ h9 => h9) rfl dX8_hears_107 ?_
          refine lv_aload_n hx hb dX8_hears_110 rfl (lv_at hl 0 rfl) ?_
          refine va_get (D := (dC, dI)) (ci := 8) (v := .int (I20 25 0)) (C := RX8) (T := TX8) (N := 35) hx hb hts hinX8 hown hK hP 0 rG_o rfl 25 (by decide) (hts (.fieldLink RX8 115 "OutboxHouseModel" "held" "I") (by decide +kernel)) (fun _ h9 => h9) rfl dX8_hears_111 ?_
          refine lv_iload hx hb dX8_hears_114 (lv_at hl 4 rfl) ?_
          have hv := h.1; replace h := h.2
          refine va_iast hx hb hK hP hD hS 24 0 rG_29 rfl hv dX8_hears_116 (fun H locs hP hD hS => ?_)
          obtain ⟨I21, hI21⟩ : ∃ z : St, z = st I20 29 (I20 25 0).toNatClampNeg p4 := ⟨_, rfl⟩
          replace hP := wP (rE_29 hI21) hP; replace hD := wD (rE_29 hI21) hD; replace h := h _ hI21
          refine lv_aload_n hx hb dX8_hears_117 rfl (lv_at hl 0 rfl) ?_
          refine lv_dup hx hb dX8_hears_118 rfl ?_
          refine va_get (D := (dC, dI)) (ci := 8) (v := .int (I21 25 0)) (C := RX8) (T := TX8) (N := 35) hx hb hts hinX8 hown hK hP 0 rG_o rfl 25 (by decide) (hts (.fieldLink RX8 115 "OutboxHouseModel" "held" "I") (by decide +kernel)) (fun _ h9 => h9) rfl dX8_hears_119 ?_
          refine lv_iconst (v := 1) hx hb dX8_hears_122 (by decide) ?_
          refine lv_iadd hx hb dX8_hears_123 ?_
          refine va_put (D := (dC, dI)) (ci := 8) (v := .int ((I21 25 0) + 1)) (ty := .int) (C := RX8) (T := TX8) (N := 35) hx hb hts hinX8 tyX8 tyX8_ok nmX8 hown hK hP hD hS 0 rG_o rfl 25 (by decide) (hts (.fieldLink RX8 115 "OutboxHouseModel" "held" "I") (by decide +kernel)) (fun _ h9 => h9) rfl (by decide +kernel) rfl rfl (Nat.le_of_ble_eq_true rfl) dX8_hears_124 (fun H locs hP hD hS => ?_)
          obtain ⟨I22, hI22⟩ : ∃ z : St, z = st I21 25 0 ((I21 25 0) + 1) := ⟨_, rfl⟩
          replace hP := wP (rE_25 hI22) hP; replace hD := wD (rE_25 hI22) hD; replace h := h _ hI22
          refine lv_iconst (v := 3) hx hb dX8_hears_127 (by decide) ?_
          exact W.iret (v := 3) hx hb hr (fun t ht hW => hQ _ _ t 3 I22 h ⟨by rw [ht]; exact hP, hD⟩ (hS.F ht)) hS.2.2 dX8_hears_128
        · have h := h.2 hc
          refine lv_aload_n hx hb dX8_hears_64 rfl (lv_at hl 0 rfl) ?_
          refine lv_dup hx hb dX8_hears_65 rfl ?_
          refine va_get (D := (dC, dI)) (ci := 8) (v := .int (I17 33 0)) (C := RX8) (T := TX8) (N := 35) hx hb hts hinX8 hown hK hP 0 rG_o rfl 33 (by decide) (hts (.fieldLink RX8 153 "OutboxHouseModel" "lost" "I") (by decide +kernel)) (fun _ h9 => h9) rfl dX8_hears_66 ?_
          refine lv_iconst (v := 1) hx hb dX8_hears_69 (by decide) ?_
          refine lv_iadd hx hb dX8_hears_70 ?_
          refine va_put (D := (dC, dI)) (ci := 8) (v := .int ((I17 33 0) + 1)) (ty := .int) (C := RX8) (T := TX8) (N := 35) hx hb hts hinX8 tyX8 tyX8_ok nmX8 hown hK hP hD hS 0 rG_o rfl 33 (by decide) (hts (.fieldLink RX8 153 "OutboxHouseModel" "lost" "I") (by decide +kernel)) (fun _ h9 => h9) rfl (by decide +kernel) rfl rfl (Nat.le_of_ble_eq_true rfl) dX8_hears_71 (fun H locs hP hD hS => ?_)
          obtain ⟨I23, hI23⟩ : ∃ z : St, z = st I17 33 0 ((I17 33 0) + 1) := ⟨_, rfl⟩
          replace hP := wP (rE_33 hI23) hP; replace hD := wD (rE_33 hI23) hD; replace h := h _ hI23
          refine lv_iconst (v := 4) hx hb dX8_hears_74 (by decide) ?_
          exact W.iret (v := 4) hx hb hr (fun t ht hW => hQ _ _ t 4 I23 h ⟨by rw [ht]; exact hP, hD⟩ (hS.F ht)) hS.2.2 dX8_hears_75
      · have h := h.2 hc
        refine lv_aload_n hx hb dX8_hears_43 rfl (lv_at hl 0 rfl) ?_
        refine lv_dup hx hb dX8_hears_44 rfl ?_
        refine va_get (D := (dC, dI)) (ci := 8) (v := .int (I17 32 0)) (C := RX8) (T := TX8) (N := 35) hx hb hts hinX8 hown hK hP 0 rG_o rfl 32 (by decide) (hts (.fieldLink RX8 146 "OutboxHouseModel" "twice" "I") (by decide +kernel)) (fun _ h9 => h9) rfl dX8_hears_45 ?_
        refine lv_iconst (v := 1) hx hb dX8_hears_48 (by decide) ?_
        refine lv_iadd hx hb dX8_hears_49 ?_
        refine va_put (D := (dC, dI)) (ci := 8) (v := .int ((I17 32 0) + 1)) (ty := .int) (C := RX8) (T := TX8) (N := 35) hx hb hts hinX8 tyX8 tyX8_ok nmX8 hown hK hP hD hS 0 rG_o rfl 32 (by decide) (hts (.fieldLink RX8 146 "OutboxHouseModel" "twice" "I") (by decide +kernel)) (fun _ h9 => h9) rfl (by decide +kernel) rfl rfl (Nat.le_of_ble_eq_true rfl) dX8_hears_50 (fun H locs hP hD hS => ?_)
        obtain ⟨I24, hI24⟩ : ∃ z : St, z = st I17 32 0 ((I17 32 0) + 1) := ⟨_, rfl⟩
        replace hP := wP (rE_32 hI24) hP; replace hD := wD (rE_32 hI24) hD; replace h := h _ hI24
        refine lv_iconst (v := 2) hx hb dX8_hears_53 (by decide) ?_
        exact W.iret (v := 2) hx hb hr (fun t ht hW => hQ _ _ t 2 I24 h ⟨by rw [ht]; exact hP, hD⟩ (hS.F ht)) hS.2.2 dX8_hears_54
  · have h := h.2 hc
    refine lv_aload_n hx hb dX8_hears_10 rfl (lv_at hl 0 rfl) ?_
    refine lv_dup hx hb dX8_hears_11 rfl ?_
    refine va_get (D := (dC, dI)) (ci := 8) (v := .int (I 32 0)) (C := RX8) (T := TX8) (N := 35) hx hb hts hinX8 hown hK hP 0 rG_o rfl 32 (by decide) (hts (.fieldLink RX8 146 "OutboxHouseModel" "twice" "I") (by decide +kernel)) (fun _ h9 => h9) rfl dX8_hears_12 ?_
    refine lv_iconst (v := 1) hx hb dX8_hears_15 (by decide) ?_
    refine lv_iadd hx hb dX8_hears_16 ?_
    refine va_put (D := (dC, dI)) (ci := 8) (v := .int ((I 32 0) + 1)) (ty := .int) (C := RX8) (T := TX8) (N := 35) hx hb hts hinX8 tyX8 tyX8_ok nmX8 hown hK hP hD hS 0 rG_o rfl 32 (by decide) (hts (.fieldLink RX8 146 "OutboxHouseModel" "twice" "I") (by decide +kernel)) (fun _ h9 => h9) rfl (by decide +kernel) rfl rfl (Nat.le_of_ble_eq_true rfl) dX8_hears_17 (fun H locs hP hD hS => ?_)
    obtain ⟨I25, hI25⟩ : ∃ z : St, z = st I 32 0 ((I 32 0) + 1) := ⟨_, rfl⟩
    replace hP := wP (rE_32 hI25) hP; replace hD := wD (rE_32 hI25) hD; replace h := h _ hI25
    refine lv_iconst (v := 2) hx hb dX8_hears_20 (by decide) ?_
    exact W.iret (v := 2) hx hb hr (fun t ht hW => hQ _ _ t 2 I25 h ⟨by rw [ht]; exact hP, hD⟩ (hS.F ht)) hS.2.2 dX8_hears_21
theorem m_X8_hears (l : Launch) (dC : Nat → ClassId) (dI : Nat → Nat → Nat) (cy : Nat → ClassId) (ad : Nat → Nat) (A : Nat → Prop) (I : St) (p1 : Int32) (p2 : Int32) (p3 : Int32) (p4 : Int32) {post : Int32 → St → Prop} (hD : va_D A (rW ad cy I)) (h : wp_X8_hears I p1 p2 p3 p4 post) : Met l yX8_hears wsX8_hears rmX8_hears (va_Pc [.ref (ad 40), .int p1, .int p2, .int p3, .int p4] (wPre (dC, dI) cy A (rW ad cy I))) (va_Qi (fun r (u : St) => post r u) (fun (u : St) t => wPost (dC, dI) A (rW ad cy u) t) A) 0 0 A := g_X8_hears l dC dI cy ad A I p1 p2 p3 p4 hD h (fun a s0 t r I' h1 h2 h3 => ⟨⟨r, I', rfl, h1, h2⟩, h3⟩)
abbrev rmX8_delivers : Room := { frames := 2, cells := 0, slots := 0, locals := 48 }
set_option maxHeartbeats 4000000 in
set_option maxRecDepth 100000 in
theorem g_X8_delivers (l : Launch) (dC : Nat → ClassId) (dI : Nat → Nat → Nat) (cy : Nat → ClassId) (ad : Nat → Nat) (A : Nat → Prop) (I : St) (p1 : Int32) (p2 : Int32) (p3 : Int32) {post : Int32 → St → Prop} (hD : va_D A (rW ad cy I)) (h : wp_X8_delivers I p1 p2 p3 post) {Qc : Array Value → State → Outcome → State → Prop} (hQ : ∀ (a : Array Value) (s0 t : State) (r : Int32) (I' : St), post r I' → wPost (dC, dI) A (rW ad cy I') t → va_F A s0 t → Qc a s0 (.returned (some (.int r))) t) : Met l yX8_delivers wsX8_delivers rmX8_delivers (va_Pc [.ref (ad 40), .int p1, .int p2, .int p3] (wPre (dC, dI) cy A (rW ad cy I))) Qc 0 0 A := by
  refine Met.ofW (cc := cX8_delivers) (maxL := 9) (ret := (some .int)) (by decide) rfl ?_
  intro p e s m args below meth c s₁ B hml hv
  obtain ⟨rfl, hP, hK, hN, hA⟩ := hv
  have hx := B.exec
  have hb := B.bytes
  have hr := B.returns
  have hts := atoms_spec (ws := wsX8_delivers) B.pre
  have hown : s.vm.findClass RX8 = some m.cls := findClass_of_methodNamed B.named
  have hlocks := B.notSynchronized
  have hinX8 : ∀ w ∈ wsX80, w ∈ wsX8_delivers := fun _ h9 => List.mem_cons_of_mem _ (List.mem_append_right _ h9)
  have hS : va_S A s.heap s.heap [] := va_S.rf
  unfold wp_X8_delivers at h
  have hl := lv_entry ([.ref (ad 40), .int p1, .int p2, .int p3]) (n := 9) (Nat.le_of_ble_eq_true rfl)
  rw [lg_entry_eq]
  generalize (lg_sl ([.ref (ad 40), .int p1, .int p2, .int p3]) ++ List.replicate (9 - (lg_sl ([.ref (ad 40), .int p1, .int p2, .int p3])).length) Slot.unset).toArray = ls at hl ⊢
  have hl : lv_has ls 9 [(0, .ref (ad 40)), (1, .int p1), (2, .int p2), (3, .int p3)] := hl
  refine lv_bipush (v := 40) hx hb dX8_delivers_0 (by decide) ?_
  refine lv_iload_n hx hb dX8_delivers_2 rfl (lv_at hl 1 rfl) ?_
  refine lv_imul hx hb dX8_delivers_3 ?_
  refine lv_iload_n hx hb dX8_delivers_4 rfl (lv_at hl 2 rfl) ?_
  refine lv_iadd hx hb dX8_delivers_5 ?_
  refine lv_istore (lv' := [(4, .int ((40 * p1) + p2)), (0, .ref (ad 40)), (1, .int p1), (2, .int p2), (3, .int p3)]) hx hb dX8_delivers_6 hl (by decide) rfl (fun ls hl => ?_)
  refine lv_aload_n hx hb dX8_delivers_8 rfl (lv_at hl 1 rfl) ?_
  refine va_get (D := (dC, dI)) (ci := 8) (v := .ref (ad 16)) (C := RX8) (T := TX8) (N := 35) hx hb hts hinX8 hown hK hP 0 rG_o rfl 16 (by decide) (hts (.fieldLink RX8 44 "OutboxHouseModel" "letterKey" "[I") (by decide +kernel)) (fun _ h9 => h9) rfl dX8_delivers_9 ?_
  refine lv_iload hx hb dX8_delivers_12 (lv_at hl 0 rfl) ?_
  have hv := h.1; replace h := h.2
  refine va_iald hx hb hK hP 12 0 rG_16 rfl hv dX8_delivers_14 ?_
  refine lv_istore (lv' := [(5, .int (I 16 ((40 * p1) + p2).toNatClampNeg)), (4, .int ((40 * p1) + p2)), (0, .ref (ad 40)), (1, .int p1), (2, .int p2), (3, .int p3)]) hx hb dX8_delivers_15 hl (by decide) rfl (fun ls hl => ?_)
  refine lv_aload_n hx hb dX8_delivers_17 rfl (lv_at hl 2 rfl) ?_
  refine va_get (D := (dC, dI)) (ci := 8) (v := .ref (ad 17)) (C := RX8) (T := TX8) (N := 35) hx hb hts hinX8 hown hK hP 0 rG_o rfl 17 (by decide) (hts (.fieldLink RX8 47 "OutboxHouseModel" "letterOrder" "[I") (by decide +kernel)) (fun _ h9 => h9) rfl dX8_delivers_18 ?_
  refine lv_iload hx hb dX8_delivers_21 (lv_at hl 1 rfl) ?_
  have hv := h.1; replace h := h.2
  refine va_iald hx hb hK hP 13 0 rG_17 rfl hv dX8_delivers_23 ?_
  refine lv_istore (lv' := [(6, .int (I 17 ((40 * p1) + p2).toNatClampNeg)), (5, .int (I 16 ((40 * p1) + p2).toNatClampNeg)), (4, .int ((40 * p1) + p2)), (0, .ref (ad 40)), (1, .int p1), (2, .int p2), (3, .int p3)]) hx hb dX8_delivers_24 hl (by decide) rfl (fun ls hl => ?_)
  refine lv_aload_n hx hb dX8_delivers_26 rfl (lv_at hl 3 rfl) ?_
  refine va_get (D := (dC, dI)) (ci := 8) (v := .ref (ad 18)) (C := RX8) (T := TX8) (N := 35) hx hb hts hinX8 hown hK hP 0 rG_o rfl 18 (by decide) (hts (.fieldLink RX8 50 "OutboxHouseModel" "letterValue" "[I") (by decide +kernel)) (fun _ h9 => h9) rfl dX8_delivers_27 ?_
  refine lv_iload hx hb dX8_delivers_30 (lv_at hl 2 rfl) ?_
  have hv := h.1; replace h := h.2
  refine va_iald hx hb hK hP 14 0 rG_18 rfl hv dX8_delivers_32 ?_
  refine lv_istore (lv' := [(7, .int (I 18 ((40 * p1) + p2).toNatClampNeg)), (6, .int (I 17 ((40 * p1) + p2).toNatClampNeg)), (5, .int (I 16 ((40 * p1) + p2).toNatClampNeg)), (4, .int ((40 * p1) + p2)), (0, .ref (ad 40)), (1, .int p1), (2, .int p2), (3, .int p3)]) hx hb dX8_delivers_33 hl (by decide) rfl (fun ls hl => ?_)
  refine lv_aload_n hx hb dX8_delivers_35 rfl (lv_at hl 4 rfl) ?_
  refine va_get (D := (dC, dI)) (ci := 8) (v := .ref (ad 15)) (C := RX8) (T := TX8) (N := 35) hx hb hts hinX8 hown hK hP 0 rG_o rfl 15 (by decide) (hts (.fieldLink RX8 41 "OutboxHouseModel" "letterAt" "[I") (by decide +kernel)) (fun _ h9 => h9) rfl dX8_delivers_36 ?_
  refine lv_iload hx hb dX8_delivers_39 (lv_at hl 3 rfl) ?_
  have hv := h.1; replace h := h.2
  refine va_iald hx hb hK hP 11 0 rG_15 rfl hv dX8_delivers_41 ?_
  refine lv_istore (lv' := [(8, .int (I 15 ((40 * p1) + p2).toNatClampNeg)), (7, .int (I 18 ((40 * p1) + p2).toNatClampNeg)), (6, .int (I 17 ((40 * p1) + p2).toNatClampNeg)), (5, .int (I 16 ((40 * p1) + p2).toNatClampNeg)), (4, .int ((40 * p1) + p2)), (0, .ref (ad 40)), (1, .int p1), (2, .int p2), (3, .int p3)]) hx hb dX8_delivers_42 hl (by decide) rfl (fun ls hl => ?_)
  refine lv_iload_n hx hb dX8_delivers_44 rfl (lv_at hl 8 rfl) ?_
  refine lv_if_ne (tgt := 54) hx hb dX8_delivers_45 (by decide) (fun hc => ?_) (fun hc => ?_)
  · have h := h.1 hc
    refine lv_aload_n hx hb dX8_delivers_54 rfl (lv_at hl 5 rfl) ?_
    refine lv_iload hx hb dX8_delivers_55 (lv_at hl 3 rfl) ?_
    refine lv_iload hx hb dX8_delivers_57 (lv_at hl 2 rfl) ?_
    refine lv_iload hx hb dX8_delivers_59 (lv_at hl 1 rfl) ?_
    refine lv_iload hx hb dX8_delivers_61 (lv_at hl 0 rfl) ?_
    refine va_calli (va_runV (As := [.int (I 16 ((40 * p1) + p2).toNatClampNeg), .int (I 17 ((40 * p1) + p2).toNatClampNeg), .int (I 18 ((40 * p1) + p2).toNatClampNeg), .int (I 15 ((40 * p1) + p2).toNatClampNeg)]) (rest := []) ⟨hx, hb, hml, hown, hts⟩ (m_X8_hears l dC dI cy ad A I (I 16 ((40 * p1) + p2).toNatClampNeg) (I 17 ((40 * p1) + p2).toNatClampNeg) (I 18 ((40 * p1) + p2).toNatClampNeg) (I 15 ((40 * p1) + p2).toNatClampNeg) hD h) (cwV 4 hts gX8_delivers_X8_hears rfl rfl rfl (by decide +kernel) ⟨Nat.le_of_ble_eq_true rfl, Nat.le_of_ble_eq_true rfl⟩) ⟨wPre.blind, va_recv hK hP (ci := 8) (q0 := 0) rfl rG_o, wPre.at hP hK hN hS hA⟩ rfl rfl hl.1 rfl (lv_room (Nat.le_of_ble_eq_true rfl)) dX8_delivers_63 ⟨by first | exact Nat.le_of_ble_eq_true rfl | (show _ ≤ 0; omega), by first | exact Nat.le_of_ble_eq_true rfl | (show _ ≤ 0; omega)⟩) hS (fun q _ h => h) (fun q h => h) (fun r1 u t H locs ht hvm hw hB hz1 hk1 hS => ?_)
    obtain ⟨I2, rfl⟩ : ∃ z : St, z = u := ⟨_, rfl⟩
    obtain ⟨hP, hD⟩ := hB; rw [ht] at hP; replace h := hw; try dsimp only at h hP hD
    exact W.iret (v := r1) hx hb hr (fun t ht hW => hQ _ _ t r1 I2 h ⟨by rw [ht]; exact hP, hD⟩ (hS.F ht)) hS.2.2 dX8_delivers_66
  · have h := h.2 hc
    refine lv_aload_n hx hb dX8_delivers_48 rfl (lv_at hl 5 rfl) ?_
    refine lv_iload_n hx hb dX8_delivers_49 rfl (lv_at hl 6 rfl) ?_
    refine lv_iload_n hx hb dX8_delivers_50 rfl (lv_at hl 7 rfl) ?_
    refine va_callv (va_runV (As := [.int p1, .int p2]) (rest := []) ⟨hx, hb, hml, hown, hts⟩ (m_X8_takesOut l dC dI cy ad A I p1 p2 hD h) (cwV 2 hts gX8_delivers_X8_takesOut rfl rfl rfl (by decide +kernel) ⟨Nat.le_of_ble_eq_true rfl, Nat.le_of_ble_eq_true rfl⟩) ⟨wPre.blind, va_recv hK hP (ci := 8) (q0 := 0) rfl rG_o, wPre.at hP hK hN hS hA⟩ rfl rfl hl.1 rfl (lv_room (Nat.le_of_ble_eq_true rfl)) dX8_delivers_51 ⟨by first | exact Nat.le_of_ble_eq_true rfl | (show _ ≤ 0; omega), by first | exact Nat.le_of_ble_eq_true rfl | (show _ ≤ 0; omega)⟩) hS (fun q _ h => h) (fun q h => h) (fun u t H locs ht hvm hw hB hz1 hk1 hS => ?_)
    obtain ⟨I4, rfl⟩ : ∃ z : St, z = u := ⟨_, rfl⟩
    obtain ⟨hP, hD⟩ := hB; rw [ht] at hP; replace h := hw; try dsimp only at h hP hD
    refine lv_aload_n hx hb dX8_delivers_54 rfl (lv_at hl 5 rfl) ?_
    refine lv_iload hx hb dX8_delivers_55 (lv_at hl 3 rfl) ?_
    refine lv_iload hx hb dX8_delivers_57 (lv_at hl 2 rfl) ?_
    refine lv_iload hx hb dX8_delivers_59 (lv_at hl 1 rfl) ?_
    refine lv_iload hx hb dX8_delivers_61 (lv_at hl 0 rfl) ?_
    refine va_calli (va_runV (As := [.int (I 16 ((40 * p1) + p2).toNatClampNeg), .int (I 17 ((40 * p1) + p2).toNatClampNeg), .int (I 18 ((40 * p1) + p2).toNatClampNeg), .int (I 15 ((40 * p1) + p2).toNatClampNeg)]) (rest := []) ⟨hx, hb, hml, hown, hts⟩ (m_X8_hears l dC dI cy ad A I4 (I 16 ((40 * p1) + p2).toNatClampNeg) (I 17 ((40 * p1) + p2).toNatClampNeg) (I 18 ((40 * p1) + p2).toNatClampNeg) (I 15 ((40 * p1) + p2).toNatClampNeg) hD h) (cwV 4 hts gX8_delivers_X8_hears rfl rfl rfl (by decide +kernel) ⟨Nat.le_of_ble_eq_true rfl, Nat.le_of_ble_eq_true rfl⟩) ⟨wPre.blind, va_recv hK hP (ci := 8) (q0 := 0) rfl rG_o, wPre.at hP hK hN hS hA⟩ rfl rfl hl.1 rfl (lv_room (Nat.le_of_ble_eq_true rfl)) dX8_delivers_63 ⟨by first | exact Nat.le_of_ble_eq_true rfl | (show _ ≤ 0; omega), by first | exact Nat.le_of_ble_eq_true rfl | (show _ ≤ 0; omega)⟩) hS (fun q _ h => h) (fun q h => h) (fun r5 u t H locs ht hvm hw hB hz1 hk1 hS => ?_)
    obtain ⟨I6, rfl⟩ : ∃ z : St, z = u := ⟨_, rfl⟩
    obtain ⟨hP, hD⟩ := hB; rw [ht] at hP; replace h := hw; try dsimp only at h hP hD
    exact W.iret (v := r5) hx hb hr (fun t ht hW => hQ _ _ t r5 I6 h ⟨by rw [ht]; exact hP, hD⟩ (hS.F ht)) hS.2.2 dX8_delivers_66
theorem m_X8_delivers (l : Launch) (dC : Nat → ClassId) (dI : Nat → Nat → Nat) (cy : Nat → ClassId) (ad : Nat → Nat) (A : Nat → Prop) (I : St) (p1 : Int32) (p2 : Int32) (p3 : Int32) {post : Int32 → St → Prop} (hD : va_D A (rW ad cy I)) (h : wp_X8_delivers I p1 p2 p3 post) : Met l yX8_delivers wsX8_delivers rmX8_delivers (va_Pc [.ref (ad 40), .int p1, .int p2, .int p3] (wPre (dC, dI) cy A (rW ad cy I))) (va_Qi (fun r (u : St) => post r u) (fun (u : St) t => wPost (dC, dI) A (rW ad cy u) t) A) 0 0 A := g_X8_delivers l dC dI cy ad A I p1 p2 p3 hD h (fun a s0 t r I' h1 h2 h3 => ⟨⟨r, I', rfl, h1, h2⟩, h3⟩)
abbrev rmX8_isLetter : Room := { frames := 2, cells := 0, slots := 0, locals := 42 }
set_option maxHeartbeats 4000000 in
set_option maxRecDepth 100000 in
theorem g_X8_isLetter (l : Launch) (dC : Nat → ClassId) (dI : Nat → Nat → Nat) (cy : Nat → ClassId) (ad : Nat → Nat) (A : Nat → Prop) (I : St) (p1 : Int32) (p2 : Int32) {post : Int32 → St → Prop} (hD : va_D A (rW ad cy I)) (h : wp_X8_isLetter I p1 p2 post) {Qc : Array Value → State → Outcome → State → Prop} (hQ : ∀ (a : Array Value) (s0 t : State) (r : Int32) (I' : St), post r I' → wPost (dC, dI) A (rW ad cy I') t → va_F A s0 t → Qc a s0 (.returned (some (.int r))) t) : Met l yX8_isLetter wsX8_isLetter rmX8_isLetter (va_Pc [.ref (ad 40), .int p1, .int p2] (wPre (dC, dI) cy A (rW ad cy I))) Qc 0 0 A := by
  refine Met.ofW (cc := cX8_isLetter) (maxL := 3) (ret := (some .boolean)) (by decide) rfl ?_
  intro p e s m args below meth c s₁ B hml hv
  obtain ⟨rfl, hP, hK, hN, hA⟩ := hv
  have hx := B.exec
  have hb := B.bytes
  have hr := B.returns
  have hts := atoms_spec (ws := wsX8_isLetter) B.pre
  have hown : s.vm.findClass RX8 = some m.cls := findClass_of_methodNamed B.named
  have hlocks := B.notSynchronized
  have hinX8 : ∀ w ∈ wsX80, w ∈ wsX8_isLetter := fun _ h9 => List.mem_cons_of_mem _ (List.mem_append_right _ h9)
  have hS : va_S A s.heap s.heap [] := va_S.rf
  unfold wp_X8_isLetter at h
  have hl := lv_entry ([.ref (ad 40), .int p1, .int p2]) (n := 3) (Nat.le_of_ble_eq_true rfl)
  rw [lg_entry_eq]
  generalize (lg_sl ([.ref (ad 40), .int p1, .int p2]) ++ List.replicate (3 - (lg_sl ([.ref (ad 40), .int p1, .int p2])).length) Slot.unset).toArray = ls at hl ⊢
  have hl : lv_has ls 3 [(0, .ref (ad 40)), (1, .int p1), (2, .int p2)] := hl
  refine lv_iload_n hx hb dX8_isLetter_0 rfl (lv_at hl 1 rfl) ?_
  refine va_calli (va_runS (As := [.int p1]) (rest := []) ⟨hx, hb, hml, hown, hts⟩ (m_X8_isLane l dC dI cy ad A I p1 hD h) (va_cwS 1 hts gX8_isLetter_X8_isLane rfl rfl rfl (by decide +kernel) ⟨Nat.le_of_ble_eq_true rfl, Nat.le_of_ble_eq_true rfl⟩) ⟨wPre.blind, wPre.at hP hK hN hS hA⟩ rfl rfl hl.1 rfl (lv_room (Nat.le_of_ble_eq_true rfl)) dX8_isLetter_1 ⟨by first | exact Nat.le_of_ble_eq_true rfl | (show _ ≤ 0; omega), by first | exact Nat.le_of_ble_eq_true rfl | (show _ ≤ 0; omega)⟩) hS (fun q _ h => h) (fun q h => h) (fun r1 u t H locs ht hvm hw hB hz1 hk1 hS => ?_)
  obtain ⟨I2, rfl⟩ : ∃ z : St, z = u := ⟨_, rfl⟩
  obtain ⟨hP, hD⟩ := hB; rw [ht] at hP; replace h := hw; try dsimp only at h hP hD
  refine lv_if_eq (tgt := 27) hx hb dX8_isLetter_4 (by decide) (fun hc => ?_) (fun hc => ?_)
  · have h := h.1 hc
    refine lv_iconst (v := 0) hx hb dX8_isLetter_27 (by decide) ?_
    exact W.zret (v := 0) (ty := .boolean) hx hb hr rfl (fun t ht hW => hQ _ _ t 0 I2 h ⟨by rw [ht]; exact hP, hD⟩ (hS.F ht)) hS.2.2 dX8_isLetter_28
  · have h := h.2 hc
    refine lv_iload_n hx hb dX8_isLetter_7 rfl (lv_at hl 2 rfl) ?_
    refine lv_iconst (v := 0) hx hb dX8_isLetter_8 (by decide) ?_
    refine lv_aload_n hx hb dX8_isLetter_9 rfl (lv_at hl 0 rfl) ?_
    refine va_get (D := (dC, dI)) (ci := 8) (v := .ref (ad 14)) (C := RX8) (T := TX8) (N := 35) hx hb hts hinX8 hown hK hP 0 rG_o rfl 14 (by decide) (hts (.fieldLink RX8 38 "OutboxHouseModel" "letters" "[I") (by decide +kernel)) (fun _ h9 => h9) rfl dX8_isLetter_10 ?_
    refine lv_iload_n hx hb dX8_isLetter_13 rfl (lv_at hl 1 rfl) ?_
    have hv := h.1; replace h := h.2
    refine va_iald hx hb hK hP 10 0 rG_14 rfl hv dX8_isLetter_14 ?_
    refine lv_iconst (v := 1) hx hb dX8_isLetter_15 (by decide) ?_
    refine lv_isub hx hb dX8_isLetter_16 ?_
    refine va_calli (va_runS (As := [.int p2, .int 0, .int ((I2 14 p1.toNatClampNeg) - 1)]) (rest := []) ⟨hx, hb, hml, hown, hts⟩ (m_X8_in l dC dI cy ad A I2 p2 0 ((I2 14 p1.toNatClampNeg) - 1) hD h) (va_cwS 3 hts gX8_isLetter_X8_in rfl rfl rfl (by decide +kernel) ⟨Nat.le_of_ble_eq_true rfl, Nat.le_of_ble_eq_true rfl⟩) ⟨wPre.blind, wPre.at hP hK hN hS hA⟩ rfl rfl hl.1 rfl (lv_room (Nat.le_of_ble_eq_true rfl)) dX8_isLetter_17 ⟨by first | exact Nat.le_of_ble_eq_true rfl | (show _ ≤ 0; omega), by first | exact Nat.le_of_ble_eq_true rfl | (show _ ≤ 0; omega)⟩) hS (fun q _ h => h) (fun q h => h) (fun r3 u t H locs ht hvm hw hB hz1 hk1 hS => ?_)
    obtain ⟨I4, rfl⟩ : ∃ z : St, z = u := ⟨_, rfl⟩
    obtain ⟨hP, hD⟩ := hB; rw [ht] at hP; replace h := hw; try dsimp only at h hP hD
    refine lv_if_eq (tgt := 27) hx hb dX8_isLetter_20 (by decide) (fun hc => ?_) (fun hc => ?_)
    · have h := h.1 hc
      refine lv_iconst (v := 0) hx hb dX8_isLetter_27 (by decide) ?_
      exact W.zret (v := 0) (ty := .boolean) hx hb hr rfl (fun t ht hW => hQ _ _ t 0 I4 h ⟨by rw [ht]; exact hP, hD⟩ (hS.F ht)) hS.2.2 dX8_isLetter_28
    · have h := h.2 hc
      refine lv_iconst (v := 1) hx hb dX8_isLetter_23 (by decide) ?_
      refine lv_goto (tgt := 28) hx hb dX8_isLetter_24 (by decide) ?_
      exact W.zret (v := 1) (ty := .boolean) hx hb hr rfl (fun t ht hW => hQ _ _ t 1 I4 h ⟨by rw [ht]; exact hP, hD⟩ (hS.F ht)) hS.2.2 dX8_isLetter_28
theorem m_X8_isLetter (l : Launch) (dC : Nat → ClassId) (dI : Nat → Nat → Nat) (cy : Nat → ClassId) (ad : Nat → Nat) (A : Nat → Prop) (I : St) (p1 : Int32) (p2 : Int32) {post : Int32 → St → Prop} (hD : va_D A (rW ad cy I)) (h : wp_X8_isLetter I p1 p2 post) : Met l yX8_isLetter wsX8_isLetter rmX8_isLetter (va_Pc [.ref (ad 40), .int p1, .int p2] (wPre (dC, dI) cy A (rW ad cy I))) (va_Qi (fun r (u : St) => post r u) (fun (u : St) t => wPost (dC, dI) A (rW ad cy u) t) A) 0 0 A := g_X8_isLetter l dC dI cy ad A I p1 p2 hD h (fun a s0 t r I' h1 h2 h3 => ⟨⟨r, I', rfl, h1, h2⟩, h3⟩)
abbrev rmX8_deliver : Room := { frames := 3, cells := 0, slots := 0, locals := 76 }
set_option maxHeartbeats 4000000 in
set_option maxRecDepth 100000 in
theorem g_X8_deliver (l : Launch) (dC : Nat → ClassId) (dI : Nat → Nat → Nat) (cy : Nat → ClassId) (ad : Nat → Nat) (A : Nat → Prop) (I : St) (p1 : Int32) (p2 : Int32) (p3 : Int32) {post : Int32 → St → Prop} (hD : va_D A (rW ad cy I)) (h : wp_X8_deliver I p1 p2 p3 post) {Qc : Array Value → State → Outcome → State → Prop} (hQ : ∀ (a : Array Value) (s0 t : State) (r : Int32) (I' : St), post r I' → wPost (dC, dI) A (rW ad cy I') t → va_F A s0 t → Qc a s0 (.returned (some (.int r))) t) : Met l yX8_deliver wsX8_deliver rmX8_deliver (va_Pc [.ref (ad 40), .int p1, .int p2, .int p3] (wPre (dC, dI) cy A (rW ad cy I))) Qc 0 0 A := by
  refine Met.ofW (cc := cX8_deliver) (maxL := 4) (ret := (some .int)) (by decide) rfl ?_
  intro p e s m args below meth c s₁ B hml hv
  obtain ⟨rfl, hP, hK, hN, hA⟩ := hv
  have hx := B.exec
  have hb := B.bytes
  have hr := B.returns
  have hts := atoms_spec (ws := wsX8_deliver) B.pre
  have hown : s.vm.findClass RX8 = some m.cls := findClass_of_methodNamed B.named
  have hlocks := B.notSynchronized
  have hS : va_S A s.heap s.heap [] := va_S.rf
  unfold wp_X8_deliver at h
  have hl := lv_entry ([.ref (ad 40), .int p1, .int p2, .int p3]) (n := 4) (Nat.le_of_ble_eq_true rfl)
  rw [lg_entry_eq]
  generalize (lg_sl ([.ref (ad 40), .int p1, .int p2, .int p3]) ++ List.replicate (4 - (lg_sl ([.ref (ad 40), .int p1, .int p2, .int p3])).length) Slot.unset).toArray = ls at hl ⊢
  have hl : lv_has ls 4 [(0, .ref (ad 40)), (1, .int p1), (2, .int p2), (3, .int p3)] := hl
  refine lv_aload_n hx hb dX8_deliver_0 rfl (lv_at hl 0 rfl) ?_
  refine lv_iload_n hx hb dX8_deliver_1 rfl (lv_at hl 1 rfl) ?_
  refine lv_iload_n hx hb dX8_deliver_2 rfl (lv_at hl 2 rfl) ?_
  refine va_calli (va_runV (As := [.int p1, .int p2]) (rest := []) ⟨hx, hb, hml, hown, hts⟩ (m_X8_isLetter l dC dI cy ad A I p1 p2 hD h) (cwV 2 hts gX8_deliver_X8_isLetter rfl rfl rfl (by decide +kernel) ⟨Nat.le_of_ble_eq_true rfl, Nat.le_of_ble_eq_true rfl⟩) ⟨wPre.blind, va_recv hK hP (ci := 8) (q0 := 0) rfl rG_o, wPre.at hP hK hN hS hA⟩ rfl rfl hl.1 rfl (lv_room (Nat.le_of_ble_eq_true rfl)) dX8_deliver_3 ⟨by first | exact Nat.le_of_ble_eq_true rfl | (show _ ≤ 0; omega), by first | exact Nat.le_of_ble_eq_true rfl | (show _ ≤ 0; omega)⟩) hS (fun q _ h => h) (fun q h => h) (fun r1 u t H locs ht hvm hw hB hz1 hk1 hS => ?_)
  obtain ⟨I2, rfl⟩ : ∃ z : St, z = u := ⟨_, rfl⟩
  obtain ⟨hP, hD⟩ := hB; rw [ht] at hP; replace h := hw; try dsimp only at h hP hD
  refine lv_if_eq (tgt := 19) hx hb dX8_deliver_6 (by decide) (fun hc => ?_) (fun hc => ?_)
  · have h := h.1 hc
    refine lv_iconst (v := (-1)) hx hb dX8_deliver_19 (by decide) ?_
    exact W.iret (v := (-1)) hx hb hr (fun t ht hW => hQ _ _ t (-1) I2 h ⟨by rw [ht]; exact hP, hD⟩ (hS.F ht)) hS.2.2 dX8_deliver_20
  · have h := h.2 hc
    refine lv_aload_n hx hb dX8_deliver_9 rfl (lv_at hl 0 rfl) ?_
    refine lv_iload_n hx hb dX8_deliver_10 rfl (lv_at hl 1 rfl) ?_
    refine lv_iload_n hx hb dX8_deliver_11 rfl (lv_at hl 2 rfl) ?_
    refine lv_iload_n hx hb dX8_deliver_12 rfl (lv_at hl 3 rfl) ?_
    refine va_calli (va_runV (As := [.int p1, .int p2, .int p3]) (rest := []) ⟨hx, hb, hml, hown, hts⟩ (m_X8_delivers l dC dI cy ad A I2 p1 p2 p3 hD h) (cwV 3 hts gX8_deliver_X8_delivers rfl rfl rfl (by decide +kernel) ⟨Nat.le_of_ble_eq_true rfl, Nat.le_of_ble_eq_true rfl⟩) ⟨wPre.blind, va_recv hK hP (ci := 8) (q0 := 0) rfl rG_o, wPre.at hP hK hN hS hA⟩ rfl rfl hl.1 rfl (lv_room (Nat.le_of_ble_eq_true rfl)) dX8_deliver_13 ⟨by first | exact Nat.le_of_ble_eq_true rfl | (show _ ≤ 0; omega), by first | exact Nat.le_of_ble_eq_true rfl | (show _ ≤ 0; omega)⟩) hS (fun q _ h => h) (fun q h => h) (fun r3 u t H locs ht hvm hw hB hz1 hk1 hS => ?_)
    obtain ⟨I4, rfl⟩ : ∃ z : St, z = u := ⟨_, rfl⟩
    obtain ⟨hP, hD⟩ := hB; rw [ht] at hP; replace h := hw; try dsimp only at h hP hD
    refine lv_goto (tgt := 20) hx hb dX8_deliver_16 (by decide) ?_
    exact W.iret (v := r3) hx hb hr (fun t ht hW => hQ _ _ t r3 I4 h ⟨by rw [ht]; exact hP, hD⟩ (hS.F ht)) hS.2.2 dX8_deliver_20
theorem m_X8_deliver (l : Launch) (dC : Nat → ClassId) (dI : Nat → Nat → Nat) (cy : Nat → ClassId) (ad : Nat → Nat) (A : Nat → Prop) (I : St) (p1 : Int32) (p2 : Int32) (p3 : Int32) {post : Int32 → St → Prop} (hD : va_D A (rW ad cy I)) (h : wp_X8_deliver I p1 p2 p3 post) : Met l yX8_deliver wsX8_deliver rmX8_deliver (va_Pc [.ref (ad 40), .int p1, .int p2, .int p3] (wPre (dC, dI) cy A (rW ad cy I))) (va_Qi (fun r (u : St) => post r u) (fun (u : St) t => wPost (dC, dI) A (rW ad cy u) t) A) 0 0 A := g_X8_deliver l dC dI cy ad A I p1 p2 p3 hD h (fun a s0 t r I' h1 h2 h3 => ⟨⟨r, I', rfl, h1, h2⟩, h3⟩)
