abbrev rmX8_relays : Room := { frames := 0, cells := 0, slots := 0, locals := 0 }
set_option maxHeartbeats 4000000 in
set_option maxRecDepth 100000 in
theorem g_X8_relays (l : Launch) (dC : Nat → ClassId) (dI : Nat → Nat → Nat) (cy : Nat → ClassId) (ad : Nat → Nat) (A : Nat → Prop) (I : St) (p1 : Int32) {post : Int32 → St → Prop} (hD : va_D A (rW ad cy I)) (h : wp_X8_relays I p1 post) {Qc : Array Value → State → Outcome → State → Prop} (hQ : ∀ (a : Array Value) (s0 t : State) (r : Int32) (I' : St), post r I' → wPost (dC, dI) A (rW ad cy I') t → va_F A s0 t → Qc a s0 (.returned (some (.int r))) t) : Met l yX8_relays wsX8_relays rmX8_relays (va_Pc [.ref (ad 40), .int p1] (wPre (dC, dI) cy A (rW ad cy I))) Qc 0 0 A := by
  refine Met.ofW (cc := cX8_relays) (maxL := 5) (ret := (some .int)) (by decide) rfl ?_
  intro p e s m args below meth c s₁ B hml hv
  obtain ⟨rfl, hP, hK, hN, hA⟩ := hv
  have hx := B.exec
  have hb := B.bytes
  have hr := B.returns
  have hts := atoms_spec (ws := wsX8_relays) B.pre
  have hown : s.vm.findClass RX8 = some m.cls := findClass_of_methodNamed B.named
  have hlocks := B.notSynchronized
  have hinX8 : ∀ w ∈ wsX80, w ∈ wsX8_relays := fun _ h9 => List.mem_cons_of_mem _ (List.mem_append_right _ h9)
  have hS : va_S A s.heap s.heap [] := va_S.rf
  unfold wp_X8_relays at h
  have hl := lv_entry ([.ref (ad 40), .int p1]) (n := 5) (Nat.le_of_ble_eq_true rfl)
  rw [lg_entry_eq]
  generalize (lg_sl ([.ref (ad 40), .int p1]) ++ List.replicate (5 - (lg_sl ([.ref (ad 40), .int p1])).length) Slot.unset).toArray = ls at hl ⊢
  have hl : lv_has ls 5 [(0, .ref (ad 40)), (1, .int p1)] := hl
  refine lv_iconst (v := 0) hx hb dX8_relays_0 (by decide) ?_
  refine lv_istore_n (lv' := [(2, .int 0), (0, .ref (ad 40)), (1, .int p1)]) hx hb dX8_relays_1 rfl hl (by decide) rfl (fun ls hl => ?_)
  obtain ⟨V1, ⟨n20, hV0⟩, hstepn2⟩ := h
  have hlpn2 : ∀ (n2 : Nat) (x3 : Int32) (I4 : St) (H : Heap) (locs : List Loc), va_P (dC, dI) vwCl (rW ad cy I4) H → va_D A (rW ad cy I4) → va_S A s.heap H locs → ∀ ls : Array Slot, lv_has ls 5 [(0, .ref (ad 40)), (1, .int p1), (2, .int x3)] → V1 n2 x3 I4 → W p l e (headSpec wsX8_relays rmX8_relays).room s m ([.ref (ad 40), .int p1] : List Value).toArray below meth c H locs 0 0 (MQ below Qc ([.ref (ad 40), .int p1] : List Value).toArray s 0 0 A) (F0 m 2 ls []) := by
    intro n2
    induction n2 using Nat.strongRecOn with
    | _ n2 ihn2 =>
      intro x3 I4 H locs hP hD hS ls hl hV
      have h := hstepn2 n2 x3 I4 hV
      refine lv_iload_n hx hb dX8_relays_2 rfl (lv_at hl 2 rfl) ?_
      refine lv_iload_n hx hb dX8_relays_3 rfl (lv_at hl 1 rfl) ?_
      refine lv_icmp_ge (tgt := 159) hx hb dX8_relays_4 (by decide) (fun hc => ?_) (fun hc => ?_)
      · have h := h.1 hc
        refine lv_iload_n hx hb dX8_relays_159 rfl (lv_at hl 2 rfl) ?_
        exact W.iret (v := x3) hx hb hr (fun t ht hW => hQ _ _ t x3 I4 h ⟨by rw [ht]; exact hP, hD⟩ (hS.F ht)) hS.2.2 dX8_relays_160
      · have h := h.2 hc
        refine lv_aload_n hx hb dX8_relays_7 rfl (lv_at hl 0 rfl) ?_
        refine va_get (D := (dC, dI)) (ci := 8) (v := .int (I4 12 0)) (C := RX8) (T := TX8) (N := 35) hx hb hts hinX8 hown hK hP 0 rG_o rfl 12 (by decide) (hts (.fieldLink RX8 125 "OutboxHouseModel" "position" "I") (by decide +kernel)) (fun _ h9 => h9) rfl dX8_relays_8 ?_
        refine lv_aload_n hx hb dX8_relays_11 rfl (lv_at hl 0 rfl) ?_
        refine va_get (D := (dC, dI)) (ci := 8) (v := .int (I4 6 0)) (C := RX8) (T := TX8) (N := 35) hx hb hts hinX8 hown hK hP 0 rG_o rfl 6 (by decide) (hts (.fieldLink RX8 95 "OutboxHouseModel" "flushed" "I") (by decide +kernel)) (fun _ h9 => h9) rfl dX8_relays_12 ?_
        refine lv_icmp_ge (tgt := 159) hx hb dX8_relays_15 (by decide) (fun hc => ?_) (fun hc => ?_)
        · have h := h.1 hc
          refine lv_iload_n hx hb dX8_relays_159 rfl (lv_at hl 2 rfl) ?_
          exact W.iret (v := x3) hx hb hr (fun t ht hW => hQ _ _ t x3 I4 h ⟨by rw [ht]; exact hP, hD⟩ (hS.F ht)) hS.2.2 dX8_relays_160
        · have h := h.2 hc
          refine lv_aload_n hx hb dX8_relays_18 rfl (lv_at hl 0 rfl) ?_
          refine va_get (D := (dC, dI)) (ci := 8) (v := .ref (ad 14)) (C := RX8) (T := TX8) (N := 35) hx hb hts hinX8 hown hK hP 0 rG_o rfl 14 (by decide) (hts (.fieldLink RX8 38 "OutboxHouseModel" "letters" "[I") (by decide +kernel)) (fun _ h9 => h9) rfl dX8_relays_19 ?_
          refine lv_aload_n hx hb dX8_relays_22 rfl (lv_at hl 0 rfl) ?_
          refine va_get (D := (dC, dI)) (ci := 8) (v := .ref (ad 8)) (C := RX8) (T := TX8) (N := 35) hx hb hts hinX8 hown hK hP 0 rG_o rfl 8 (by decide) (hts (.fieldLink RX8 26 "OutboxHouseModel" "logKey" "[I") (by decide +kernel)) (fun _ h9 => h9) rfl dX8_relays_23 ?_
          refine lv_aload_n hx hb dX8_relays_26 rfl (lv_at hl 0 rfl) ?_
          refine va_get (D := (dC, dI)) (ci := 8) (v := .int (I4 12 0)) (C := RX8) (T := TX8) (N := 35) hx hb hts hinX8 hown hK hP 0 rG_o rfl 12 (by decide) (hts (.fieldLink RX8 125 "OutboxHouseModel" "position" "I") (by decide +kernel)) (fun _ h9 => h9) rfl dX8_relays_27 ?_
          have hv := h.1; replace h := h.2
          refine va_iald hx hb hK hP 6 0 rG_8 rfl hv dX8_relays_30 ?_
          refine lv_iconst (v := 3) hx hb dX8_relays_31 (by decide) ?_
          refine lv_irem hx hb dX8_relays_32 (by decide) ?_
          have hv := h.1; replace h := h.2
          refine va_iald hx hb hK hP 10 0 rG_14 rfl hv dX8_relays_33 ?_
          refine lv_bipush (v := 40) hx hb dX8_relays_34 (by decide) ?_
          refine lv_icmp_ge (tgt := 159) hx hb dX8_relays_36 (by decide) (fun hc => ?_) (fun hc => ?_)
          · have h := h.1 hc
            refine lv_iload_n hx hb dX8_relays_159 rfl (lv_at hl 2 rfl) ?_
            exact W.iret (v := x3) hx hb hr (fun t ht hW => hQ _ _ t x3 I4 h ⟨by rw [ht]; exact hP, hD⟩ (hS.F ht)) hS.2.2 dX8_relays_160
          · have h := h.2 hc
            refine lv_aload_n hx hb dX8_relays_39 rfl (lv_at hl 0 rfl) ?_
            refine va_get (D := (dC, dI)) (ci := 8) (v := .ref (ad 8)) (C := RX8) (T := TX8) (N := 35) hx hb hts hinX8 hown hK hP 0 rG_o rfl 8 (by decide) (hts (.fieldLink RX8 26 "OutboxHouseModel" "logKey" "[I") (by decide +kernel)) (fun _ h9 => h9) rfl dX8_relays_40 ?_
            refine lv_aload_n hx hb dX8_relays_43 rfl (lv_at hl 0 rfl) ?_
            refine va_get (D := (dC, dI)) (ci := 8) (v := .int (I4 12 0)) (C := RX8) (T := TX8) (N := 35) hx hb hts hinX8 hown hK hP 0 rG_o rfl 12 (by decide) (hts (.fieldLink RX8 125 "OutboxHouseModel" "position" "I") (by decide +kernel)) (fun _ h9 => h9) rfl dX8_relays_44 ?_
            have hv := h.1; replace h := h.2
            refine va_iald hx hb hK hP 6 0 rG_8 rfl hv dX8_relays_47 ?_
            refine lv_iconst (v := 3) hx hb dX8_relays_48 (by decide) ?_
            refine lv_irem hx hb dX8_relays_49 (by decide) ?_
            refine lv_istore_n (lv' := [(3, .int ((I4 8 (I4 12 0).toNatClampNeg) - (I4 8 (I4 12 0).toNatClampNeg) / 3 * 3)), (0, .ref (ad 40)), (1, .int p1), (2, .int x3)]) hx hb dX8_relays_50 rfl hl (by decide) rfl (fun ls hl => ?_)
            refine lv_bipush (v := 40) hx hb dX8_relays_51 (by decide) ?_
            refine lv_iload_n hx hb dX8_relays_53 rfl (lv_at hl 0 rfl) ?_
            refine lv_imul hx hb dX8_relays_54 ?_
            refine lv_aload_n hx hb dX8_relays_55 rfl (lv_at hl 1 rfl) ?_
            refine va_get (D := (dC, dI)) (ci := 8) (v := .ref (ad 14)) (C := RX8) (T := TX8) (N := 35) hx hb hts hinX8 hown hK hP 0 rG_o rfl 14 (by decide) (hts (.fieldLink RX8 38 "OutboxHouseModel" "letters" "[I") (by decide +kernel)) (fun _ h9 => h9) rfl dX8_relays_56 ?_
            refine lv_iload_n hx hb dX8_relays_59 rfl (lv_at hl 0 rfl) ?_
            have hv := h.1; replace h := h.2
            refine va_iald hx hb hK hP 10 0 rG_14 rfl hv dX8_relays_60 ?_
            refine lv_iadd hx hb dX8_relays_61 ?_
            refine lv_istore (lv' := [(4, .int ((40 * ((I4 8 (I4 12 0).toNatClampNeg) - (I4 8 (I4 12 0).toNatClampNeg) / 3 * 3)) + (I4 14 ((I4 8 (I4 12 0).toNatClampNeg) - (I4 8 (I4 12 0).toNatClampNeg) / 3 * 3).toNatClampNeg))), (3, .int ((I4 8 (I4 12 0).toNatClampNeg) - (I4 8 (I4 12 0).toNatClampNeg) / 3 * 3)), (0, .ref (ad 40)), (1, .int p1), (2, .int x3)]) hx hb dX8_relays_62 hl (by decide) rfl (fun ls hl => ?_)
            refine lv_aload_n hx hb dX8_relays_64 rfl (lv_at hl 2 rfl) ?_
            refine va_get (D := (dC, dI)) (ci := 8) (v := .ref (ad 15)) (C := RX8) (T := TX8) (N := 35) hx hb hts hinX8 hown hK hP 0 rG_o rfl 15 (by decide) (hts (.fieldLink RX8 41 "OutboxHouseModel" "letterAt" "[I") (by decide +kernel)) (fun _ h9 => h9) rfl dX8_relays_65 ?_
            refine lv_iload hx hb dX8_relays_68 (lv_at hl 0 rfl) ?_
            refine lv_aload_n hx hb dX8_relays_70 rfl (lv_at hl 2 rfl) ?_
            refine va_get (D := (dC, dI)) (ci := 8) (v := .int (I4 12 0)) (C := RX8) (T := TX8) (N := 35) hx hb hts hinX8 hown hK hP 0 rG_o rfl 12 (by decide) (hts (.fieldLink RX8 125 "OutboxHouseModel" "position" "I") (by decide +kernel)) (fun _ h9 => h9) rfl dX8_relays_71 ?_
            have hv := h.1; replace h := h.2
            refine va_iast hx hb hK hP hD hS 11 0 rG_15 rfl hv dX8_relays_74 (fun H locs hP hD hS => ?_)
            obtain ⟨I5, hI5⟩ : ∃ z : St, z = st I4 15 ((40 * ((I4 8 (I4 12 0).toNatClampNeg) - (I4 8 (I4 12 0).toNatClampNeg) / 3 * 3)) + (I4 14 ((I4 8 (I4 12 0).toNatClampNeg) - (I4 8 (I4 12 0).toNatClampNeg) / 3 * 3).toNatClampNeg)).toNatClampNeg (I4 12 0) := ⟨_, rfl⟩
            replace hP := wP (rE_15 hI5) hP; replace hD := wD (rE_15 hI5) hD; replace h := h _ hI5
            refine lv_aload_n hx hb dX8_relays_75 rfl (lv_at hl 2 rfl) ?_
            refine va_get (D := (dC, dI)) (ci := 8) (v := .ref (ad 16)) (C := RX8) (T := TX8) (N := 35) hx hb hts hinX8 hown hK hP 0 rG_o rfl 16 (by decide) (hts (.fieldLink RX8 44 "OutboxHouseModel" "letterKey" "[I") (by decide +kernel)) (fun _ h9 => h9) rfl dX8_relays_76 ?_
            refine lv_iload hx hb dX8_relays_79 (lv_at hl 0 rfl) ?_
            refine lv_aload_n hx hb dX8_relays_81 rfl (lv_at hl 2 rfl) ?_
            refine va_get (D := (dC, dI)) (ci := 8) (v := .ref (ad 8)) (C := RX8) (T := TX8) (N := 35) hx hb hts hinX8 hown hK hP 0 rG_o rfl 8 (by decide) (hts (.fieldLink RX8 26 "OutboxHouseModel" "logKey" "[I") (by decide +kernel)) (fun _ h9 => h9) rfl dX8_relays_82 ?_
            refine lv_aload_n hx hb dX8_relays_85 rfl (lv_at hl 2 rfl) ?_
            refine va_get (D := (dC, dI)) (ci := 8) (v := .int (I5 12 0)) (C := RX8) (T := TX8) (N := 35) hx hb hts hinX8 hown hK hP 0 rG_o rfl 12 (by decide) (hts (.fieldLink RX8 125 "OutboxHouseModel" "position" "I") (by decide +kernel)) (fun _ h9 => h9) rfl dX8_relays_86 ?_
            have hv := h.1; replace h := h.2
            refine va_iald hx hb hK hP 6 0 rG_8 rfl hv dX8_relays_89 ?_
            have hv := h.1; replace h := h.2
            refine va_iast hx hb hK hP hD hS 12 0 rG_16 rfl hv dX8_relays_90 (fun H locs hP hD hS => ?_)
            obtain ⟨I6, hI6⟩ : ∃ z : St, z = st I5 16 ((40 * ((I4 8 (I4 12 0).toNatClampNeg) - (I4 8 (I4 12 0).toNatClampNeg) / 3 * 3)) + (I4 14 ((I4 8 (I4 12 0).toNatClampNeg) - (I4 8 (I4 12 0).toNatClampNeg) / 3 * 3).toNatClampNeg)).toNatClampNeg (I5 8 (I5 12 0).toNatClampNeg) := ⟨_, rfl⟩
            replace hP := wP (rE_16 hI6) hP; replace hD := wD (rE_16 hI6) hD; replace h := h _ hI6
            refine lv_aload_n hx hb dX8_relays_91 rfl (lv_at hl 2 rfl) ?_
            refine va_get (D := (dC, dI)) (ci := 8) (v := .ref (ad 17)) (C := RX8) (T := TX8) (N := 35) hx hb hts hinX8 hown hK hP 0 rG_o rfl 17 (by decide) (hts (.fieldLink RX8 47 "OutboxHouseModel" "letterOrder" "[I") (by decide +kernel)) (fun _ h9 => h9) rfl dX8_relays_92 ?_
            refine lv_iload hx hb dX8_relays_95 (lv_at hl 0 rfl) ?_
            refine lv_aload_n hx hb dX8_relays_97 rfl (lv_at hl 2 rfl) ?_
            refine va_get (D := (dC, dI)) (ci := 8) (v := .ref (ad 10)) (C := RX8) (T := TX8) (N := 35) hx hb hts hinX8 hown hK hP 0 rG_o rfl 10 (by decide) (hts (.fieldLink RX8 32 "OutboxHouseModel" "logOrder" "[I") (by decide +kernel)) (fun _ h9 => h9) rfl dX8_relays_98 ?_
            refine lv_aload_n hx hb dX8_relays_101 rfl (lv_at hl 2 rfl) ?_
            refine va_get (D := (dC, dI)) (ci := 8) (v := .int (I6 12 0)) (C := RX8) (T := TX8) (N := 35) hx hb hts hinX8 hown hK hP 0 rG_o rfl 12 (by decide) (hts (.fieldLink RX8 125 "OutboxHouseModel" "position" "I") (by decide +kernel)) (fun _ h9 => h9) rfl dX8_relays_102 ?_
            have hv := h.1; replace h := h.2
            refine va_iald hx hb hK hP 8 0 rG_10 rfl hv dX8_relays_105 ?_
            have hv := h.1; replace h := h.2
            refine va_iast hx hb hK hP hD hS 13 0 rG_17 rfl hv dX8_relays_106 (fun H locs hP hD hS => ?_)
            obtain ⟨I7, hI7⟩ : ∃ z : St, z = st I6 17 ((40 * ((I4 8 (I4 12 0).toNatClampNeg) - (I4 8 (I4 12 0).toNatClampNeg) / 3 * 3)) + (I4 14 ((I4 8 (I4 12 0).toNatClampNeg) - (I4 8 (I4 12 0).toNatClampNeg) / 3 * 3).toNatClampNeg)).toNatClampNeg (I6 10 (I6 12 0).toNatClampNeg) := ⟨_, rfl⟩
            replace hP := wP (rE_17 hI7) hP; replace hD := wD (rE_17 hI7) hD; replace h := h _ hI7
            refine lv_aload_n hx hb dX8_relays_107 rfl (lv_at hl 2 rfl) ?_
            refine va_get (D := (dC, dI)) (ci := 8) (v := .ref (ad 18)) (C := RX8) (T := TX8) (N := 35) hx hb hts hinX8 hown hK hP 0 rG_o rfl 18 (by decide) (hts (.fieldLink RX8 50 "OutboxHouseModel" "letterValue" "[I") (by decide +kernel)) (fun _ h9 => h9) rfl dX8_relays_108 ?_
            refine lv_iload hx hb dX8_relays_111 (lv_at hl 0 rfl) ?_
            refine lv_aload_n hx hb dX8_relays_113 rfl (lv_at hl 2 rfl) ?_
            refine va_get (D := (dC, dI)) (ci := 8) (v := .ref (ad 9)) (C := RX8) (T := TX8) (N := 35) hx hb hts hinX8 hown hK hP 0 rG_o rfl 9 (by decide) (hts (.fieldLink RX8 29 "OutboxHouseModel" "logValue" "[I") (by decide +kernel)) (fun _ h9 => h9) rfl dX8_relays_114 ?_
            refine lv_aload_n hx hb dX8_relays_117 rfl (lv_at hl 2 rfl) ?_
            refine va_get (D := (dC, dI)) (ci := 8) (v := .int (I7 12 0)) (C := RX8) (T := TX8) (N := 35) hx hb hts hinX8 hown hK hP 0 rG_o rfl 12 (by decide) (hts (.fieldLink RX8 125 "OutboxHouseModel" "position" "I") (by decide +kernel)) (fun _ h9 => h9) rfl dX8_relays_118 ?_
            have hv := h.1; replace h := h.2
            refine va_iald hx hb hK hP 7 0 rG_9 rfl hv dX8_relays_121 ?_
            have hv := h.1; replace h := h.2
            refine va_iast hx hb hK hP hD hS 14 0 rG_18 rfl hv dX8_relays_122 (fun H locs hP hD hS => ?_)
            obtain ⟨I8, hI8⟩ : ∃ z : St, z = st I7 18 ((40 * ((I4 8 (I4 12 0).toNatClampNeg) - (I4 8 (I4 12 0).toNatClampNeg) / 3 * 3)) + (I4 14 ((I4 8 (I4 12 0).toNatClampNeg) - (I4 8 (I4 12 0).toNatClampNeg) / 3 * 3).toNatClampNeg)).toNatClampNeg (I7 9 (I7 12 0).toNatClampNeg) := ⟨_, rfl⟩
            replace hP := wP (rE_18 hI8) hP; replace hD := wD (rE_18 hI8) hD; replace h := h _ hI8
            refine lv_aload_n hx hb dX8_relays_123 rfl (lv_at hl 2 rfl) ?_
            refine va_get (D := (dC, dI)) (ci := 8) (v := .ref (ad 14)) (C := RX8) (T := TX8) (N := 35) hx hb hts hinX8 hown hK hP 0 rG_o rfl 14 (by decide) (hts (.fieldLink RX8 38 "OutboxHouseModel" "letters" "[I") (by decide +kernel)) (fun _ h9 => h9) rfl dX8_relays_124 ?_
            refine lv_iload_n hx hb dX8_relays_127 rfl (lv_at hl 1 rfl) ?_
            refine lv_dup2_11 hx hb dX8_relays_128 rfl rfl ?_
            have hv := h.1; replace h := h.2
            refine va_iald hx hb hK hP 10 0 rG_14 rfl hv dX8_relays_129 ?_
            refine lv_iconst (v := 1) hx hb dX8_relays_130 (by decide) ?_
            refine lv_iadd hx hb dX8_relays_131 ?_
            have hv := h.1; replace h := h.2
            refine va_iast hx hb hK hP hD hS 10 0 rG_14 rfl hv dX8_relays_132 (fun H locs hP hD hS => ?_)
            obtain ⟨I9, hI9⟩ : ∃ z : St, z = st I8 14 ((I4 8 (I4 12 0).toNatClampNeg) - (I4 8 (I4 12 0).toNatClampNeg) / 3 * 3).toNatClampNeg ((I8 14 ((I4 8 (I4 12 0).toNatClampNeg) - (I4 8 (I4 12 0).toNatClampNeg) / 3 * 3).toNatClampNeg) + 1) := ⟨_, rfl⟩
            replace hP := wP (rE_14 hI9) hP; replace hD := wD (rE_14 hI9) hD; replace h := h _ hI9
            refine lv_aload_n hx hb dX8_relays_133 rfl (lv_at hl 2 rfl) ?_
            refine lv_dup hx hb dX8_relays_134 rfl ?_
            refine va_get (D := (dC, dI)) (ci := 8) (v := .int (I9 30 0)) (C := RX8) (T := TX8) (N := 35) hx hb hts hinX8 hown hK hP 0 rG_o rfl 30 (by decide) (hts (.fieldLink RX8 137 "OutboxHouseModel" "sent" "I") (by decide +kernel)) (fun _ h9 => h9) rfl dX8_relays_135 ?_
            refine lv_iconst (v := 1) hx hb dX8_relays_138 (by decide) ?_
            refine lv_iadd hx hb dX8_relays_139 ?_
            refine va_put (D := (dC, dI)) (ci := 8) (v := .int ((I9 30 0) + 1)) (ty := .int) (C := RX8) (T := TX8) (N := 35) hx hb hts hinX8 tyX8 tyX8_ok nmX8 hown hK hP hD hS 0 rG_o rfl 30 (by decide) (hts (.fieldLink RX8 137 "OutboxHouseModel" "sent" "I") (by decide +kernel)) (fun _ h9 => h9) rfl (by decide +kernel) rfl rfl (Nat.le_of_ble_eq_true rfl) dX8_relays_140 (fun H locs hP hD hS => ?_)
            obtain ⟨I10, hI10⟩ : ∃ z : St, z = st I9 30 0 ((I9 30 0) + 1) := ⟨_, rfl⟩
            replace hP := wP (rE_30 hI10) hP; replace hD := wD (rE_30 hI10) hD; replace h := h _ hI10
            refine lv_aload_n hx hb dX8_relays_143 rfl (lv_at hl 2 rfl) ?_
            refine lv_dup hx hb dX8_relays_144 rfl ?_
            refine va_get (D := (dC, dI)) (ci := 8) (v := .int (I10 12 0)) (C := RX8) (T := TX8) (N := 35) hx hb hts hinX8 hown hK hP 0 rG_o rfl 12 (by decide) (hts (.fieldLink RX8 125 "OutboxHouseModel" "position" "I") (by decide +kernel)) (fun _ h9 => h9) rfl dX8_relays_145 ?_
            refine lv_iconst (v := 1) hx hb dX8_relays_148 (by decide) ?_
            refine lv_iadd hx hb dX8_relays_149 ?_
            refine va_put (D := (dC, dI)) (ci := 8) (v := .int ((I10 12 0) + 1)) (ty := .int) (C := RX8) (T := TX8) (N := 35) hx hb hts hinX8 tyX8 tyX8_ok nmX8 hown hK hP hD hS 0 rG_o rfl 12 (by decide) (hts (.fieldLink RX8 125 "OutboxHouseModel" "position" "I") (by decide +kernel)) (fun _ h9 => h9) rfl (by decide +kernel) rfl rfl (Nat.le_of_ble_eq_true rfl) dX8_relays_150 (fun H locs hP hD hS => ?_)
            obtain ⟨I11, hI11⟩ : ∃ z : St, z = st I10 12 0 ((I10 12 0) + 1) := ⟨_, rfl⟩
            replace hP := wP (rE_12 hI11) hP; replace hD := wD (rE_12 hI11) hD; replace h := h _ hI11
            refine lv_iinc (v := x3 + 1) (lv' := [(2, .int (x3 + 1)), (4, .int ((40 * ((I4 8 (I4 12 0).toNatClampNeg) - (I4 8 (I4 12 0).toNatClampNeg) / 3 * 3)) + (I4 14 ((I4 8 (I4 12 0).toNatClampNeg) - (I4 8 (I4 12 0).toNatClampNeg) / 3 * 3).toNatClampNeg))), (3, .int ((I4 8 (I4 12 0).toNatClampNeg) - (I4 8 (I4 12 0).toNatClampNeg) / 3 * 3)), (0, .ref (ad 40)), (1, .int p1)]) hx hb dX8_relays_153 hl (k := 4) rfl rfl (by decide) rfl (fun ls hl => ?_)
            refine lv_goto (tgt := 2) hx hb dX8_relays_156 (by decide) ?_
            obtain ⟨n12, hlt, hV⟩ := h
            exact ihn2 n12 hlt _ _ _ _ hP hD hS ls (lv_sub hl [3, 4, 0] rfl) hV
  exact hlpn2 n20 _ _ _ _ hP hD hS ls (lv_sub hl [1, 2, 0] rfl) hV0
theorem m_X8_relays (l : Launch) (dC : Nat → ClassId) (dI : Nat → Nat → Nat) (cy : Nat → ClassId) (ad : Nat → Nat) (A : Nat → Prop) (I : St) (p1 : Int32) {post : Int32 → St → Prop} (hD : va_D A (rW ad cy I)) (h : wp_X8_relays I p1 post) : Met l yX8_relays wsX8_relays rmX8_relays (va_Pc [.ref (ad 40), .int p1] (wPre (dC, dI) cy A (rW ad cy I))) (va_Qi (fun r (u : St) => post r u) (fun (u : St) t => wPost (dC, dI) A (rW ad cy u) t) A) 0 0 A := g_X8_relays l dC dI cy ad A I p1 hD h (fun a s0 t r I' h1 h2 h3 => ⟨⟨r, I', rfl, h1, h2⟩, h3⟩)
abbrev rmX8_relay : Room := { frames := 1, cells := 0, slots := 0, locals := 24 }
set_option maxHeartbeats 4000000 in
set_option maxRecDepth 100000 in
theorem g_X8_relay (l : Launch) (dC : Nat → ClassId) (dI : Nat → Nat → Nat) (cy : Nat → ClassId) (ad : Nat → Nat) (A : Nat → Prop) (I : St) (p1 : Int32) {post : Int32 → St → Prop} (hD : va_D A (rW ad cy I)) (h : wp_X8_relay I p1 post) {Qc : Array Value → State → Outcome → State → Prop} (hQ : ∀ (a : Array Value) (s0 t : State) (r : Int32) (I' : St), post r I' → wPost (dC, dI) A (rW ad cy I') t → va_F A s0 t → Qc a s0 (.returned (some (.int r))) t) : Met l yX8_relay wsX8_relay rmX8_relay (va_Pc [.ref (ad 40), .int p1] (wPre (dC, dI) cy A (rW ad cy I))) Qc 0 0 A := by
  refine Met.ofW (cc := cX8_relay) (maxL := 2) (ret := (some .int)) (by decide) rfl ?_
  intro p e s m args below meth c s₁ B hml hv
  obtain ⟨rfl, hP, hK, hN, hA⟩ := hv
  have hx := B.exec
  have hb := B.bytes
  have hr := B.returns
  have hts := atoms_spec (ws := wsX8_relay) B.pre
  have hown : s.vm.findClass RX8 = some m.cls := findClass_of_methodNamed B.named
  have hlocks := B.notSynchronized
  have hS : va_S A s.heap s.heap [] := va_S.rf
  unfold wp_X8_relay at h
  have hl := lv_entry ([.ref (ad 40), .int p1]) (n := 2) (Nat.le_of_ble_eq_true rfl)
  rw [lg_entry_eq]
  generalize (lg_sl ([.ref (ad 40), .int p1]) ++ List.replicate (2 - (lg_sl ([.ref (ad 40), .int p1])).length) Slot.unset).toArray = ls at hl ⊢
  have hl : lv_has ls 2 [(0, .ref (ad 40)), (1, .int p1)] := hl
  refine lv_iload_n hx hb dX8_relay_0 rfl (lv_at hl 1 rfl) ?_
  refine lv_iconst (v := 1) hx hb dX8_relay_1 (by decide) ?_
  refine lv_bipush (v := 20) hx hb dX8_relay_2 (by decide) ?_
  refine va_calli (va_runS (As := [.int p1, .int 1, .int 20]) (rest := []) ⟨hx, hb, hml, hown, hts⟩ (m_X8_in l dC dI cy ad A I p1 1 20 hD h) (va_cwS 3 hts gX8_relay_X8_in rfl rfl rfl (by decide +kernel) ⟨Nat.le_of_ble_eq_true rfl, Nat.le_of_ble_eq_true rfl⟩) ⟨wPre.blind, wPre.at hP hK hN hS hA⟩ rfl rfl hl.1 rfl (lv_room (Nat.le_of_ble_eq_true rfl)) dX8_relay_4 ⟨by first | exact Nat.le_of_ble_eq_true rfl | (show _ ≤ 0; omega), by first | exact Nat.le_of_ble_eq_true rfl | (show _ ≤ 0; omega)⟩) hS (fun q _ h => h) (fun q h => h) (fun r1 u t H locs ht hvm hw hB hz1 hk1 hS => ?_)
  obtain ⟨I2, rfl⟩ : ∃ z : St, z = u := ⟨_, rfl⟩
  obtain ⟨hP, hD⟩ := hB; rw [ht] at hP; replace h := hw; try dsimp only at h hP hD
  refine lv_if_eq (tgt := 18) hx hb dX8_relay_7 (by decide) (fun hc => ?_) (fun hc => ?_)
  · have h := h.1 hc
    refine lv_iconst (v := (-1)) hx hb dX8_relay_18 (by decide) ?_
    exact W.iret (v := (-1)) hx hb hr (fun t ht hW => hQ _ _ t (-1) I2 h ⟨by rw [ht]; exact hP, hD⟩ (hS.F ht)) hS.2.2 dX8_relay_19
  · have h := h.2 hc
    refine lv_aload_n hx hb dX8_relay_10 rfl (lv_at hl 0 rfl) ?_
    refine lv_iload_n hx hb dX8_relay_11 rfl (lv_at hl 1 rfl) ?_
    refine va_calli (va_runV (As := [.int p1]) (rest := []) ⟨hx, hb, hml, hown, hts⟩ (m_X8_relays l dC dI cy ad A I2 p1 hD h) (cwV 1 hts gX8_relay_X8_relays rfl rfl rfl (by decide +kernel) ⟨Nat.le_of_ble_eq_true rfl, Nat.le_of_ble_eq_true rfl⟩) ⟨wPre.blind, va_recv hK hP (ci := 8) (q0 := 0) rfl rG_o, wPre.at hP hK hN hS hA⟩ rfl rfl hl.1 rfl (lv_room (Nat.le_of_ble_eq_true rfl)) dX8_relay_12 ⟨by first | exact Nat.le_of_ble_eq_true rfl | (show _ ≤ 0; omega), by first | exact Nat.le_of_ble_eq_true rfl | (show _ ≤ 0; omega)⟩) hS (fun q _ h => h) (fun q h => h) (fun r3 u t H locs ht hvm hw hB hz1 hk1 hS => ?_)
    obtain ⟨I4, rfl⟩ : ∃ z : St, z = u := ⟨_, rfl⟩
    obtain ⟨hP, hD⟩ := hB; rw [ht] at hP; replace h := hw; try dsimp only at h hP hD
    refine lv_goto (tgt := 19) hx hb dX8_relay_15 (by decide) ?_
    exact W.iret (v := r3) hx hb hr (fun t ht hW => hQ _ _ t r3 I4 h ⟨by rw [ht]; exact hP, hD⟩ (hS.F ht)) hS.2.2 dX8_relay_19
theorem m_X8_relay (l : Launch) (dC : Nat → ClassId) (dI : Nat → Nat → Nat) (cy : Nat → ClassId) (ad : Nat → Nat) (A : Nat → Prop) (I : St) (p1 : Int32) {post : Int32 → St → Prop} (hD : va_D A (rW ad cy I)) (h : wp_X8_relay I p1 post) : Met l yX8_relay wsX8_relay rmX8_relay (va_Pc [.ref (ad 40), .int p1] (wPre (dC, dI) cy A (rW ad cy I))) (va_Qi (fun r (u : St) => post r u) (fun (u : St) t => wPost (dC, dI) A (rW ad cy u) t) A) 0 0 A := g_X8_relay l dC dI cy ad A I p1 hD h (fun a s0 t r I' h1 h2 h3 => ⟨⟨r, I', rfl, h1, h2⟩, h3⟩)
abbrev rmX8_cut : Room := { frames := 0, cells := 0, slots := 0, locals := 0 }
set_option maxHeartbeats 4000000 in
set_option maxRecDepth 100000 in
theorem g_X8_cut (l : Launch) (dC : Nat → ClassId) (dI : Nat → Nat → Nat) (cy : Nat → ClassId) (ad : Nat → Nat) (A : Nat → Prop) (I : St)  {post : Int32 → St → Prop} (hD : va_D A (rW ad cy I)) (h : wp_X8_cut I  post) {Qc : Array Value → State → Outcome → State → Prop} (hQ : ∀ (a : Array Value) (s0 t : State) (r : Int32) (I' : St), post r I' → wPost (dC, dI) A (rW ad cy I') t → va_F A s0 t → Qc a s0 (.returned (some (.int r))) t) : Met l yX8_cut wsX8_cut rmX8_cut (va_Pc [.ref (ad 40)] (wPre (dC, dI) cy A (rW ad cy I))) Qc 0 0 A := by
  refine Met.ofW (cc := cX8_cut) (maxL := 2) (ret := (some .int)) (by decide) rfl ?_
  intro p e s m args below meth c s₁ B hml hv
  obtain ⟨rfl, hP, hK, hN, hA⟩ := hv
  have hx := B.exec
  have hb := B.bytes
  have hr := B.returns
  have hts := atoms_spec (ws := wsX8_cut) B.pre
  have hown : s.vm.findClass RX8 = some m.cls := findClass_of_methodNamed B.named
  have hlocks := B.notSynchronized
  have hinX8 : ∀ w ∈ wsX80, w ∈ wsX8_cut := fun _ h9 => List.mem_cons_of_mem _ (List.mem_append_right _ h9)
  have hS : va_S A s.heap s.heap [] := va_S.rf
  unfold wp_X8_cut at h
  have hl := lv_entry ([.ref (ad 40)]) (n := 2) (Nat.le_of_ble_eq_true rfl)
  rw [lg_entry_eq]
  generalize (lg_sl ([.ref (ad 40)]) ++ List.replicate (2 - (lg_sl ([.ref (ad 40)])).length) Slot.unset).toArray = ls at hl ⊢
  have hl : lv_has ls 2 [(0, .ref (ad 40))] := hl
  refine lv_aload_n hx hb dX8_cut_0 rfl (lv_at hl 0 rfl) ?_
  refine va_get (D := (dC, dI)) (ci := 8) (v := .int (I 13 0)) (C := RX8) (T := TX8) (N := 35) hx hb hts hinX8 hown hK hP 0 rG_o rfl 13 (by decide) (hts (.fieldLink RX8 128 "OutboxHouseModel" "mark" "I") (by decide +kernel)) (fun _ h9 => h9) rfl dX8_cut_1 ?_
  refine lv_aload_n hx hb dX8_cut_4 rfl (lv_at hl 0 rfl) ?_
  refine va_get (D := (dC, dI)) (ci := 8) (v := .int (I 7 0)) (C := RX8) (T := TX8) (N := 35) hx hb hts hinX8 hown hK hP 0 rG_o rfl 7 (by decide) (hts (.fieldLink RX8 134 "OutboxHouseModel" "first" "I") (by decide +kernel)) (fun _ h9 => h9) rfl dX8_cut_5 ?_
  refine lv_isub hx hb dX8_cut_8 ?_
  refine lv_istore_n (lv' := [(1, .int ((I 13 0) - (I 7 0))), (0, .ref (ad 40))]) hx hb dX8_cut_9 rfl hl (by decide) rfl (fun ls hl => ?_)
  refine lv_aload_n hx hb dX8_cut_10 rfl (lv_at hl 1 rfl) ?_
  refine lv_aload_n hx hb dX8_cut_11 rfl (lv_at hl 1 rfl) ?_
  refine va_get (D := (dC, dI)) (ci := 8) (v := .int (I 13 0)) (C := RX8) (T := TX8) (N := 35) hx hb hts hinX8 hown hK hP 0 rG_o rfl 13 (by decide) (hts (.fieldLink RX8 128 "OutboxHouseModel" "mark" "I") (by decide +kernel)) (fun _ h9 => h9) rfl dX8_cut_12 ?_
  refine va_put (D := (dC, dI)) (ci := 8) (v := .int (I 13 0)) (ty := .int) (C := RX8) (T := TX8) (N := 35) hx hb hts hinX8 tyX8 tyX8_ok nmX8 hown hK hP hD hS 0 rG_o rfl 7 (by decide) (hts (.fieldLink RX8 134 "OutboxHouseModel" "first" "I") (by decide +kernel)) (fun _ h9 => h9) rfl (by decide +kernel) rfl rfl (Nat.le_of_ble_eq_true rfl) dX8_cut_15 (fun H locs hP hD hS => ?_)
  obtain ⟨I1, hI1⟩ : ∃ z : St, z = st I 7 0 (I 13 0) := ⟨_, rfl⟩
  replace hP := wP (rE_7 hI1) hP; replace hD := wD (rE_7 hI1) hD; replace h := h _ hI1
  refine lv_iload_n hx hb dX8_cut_18 rfl (lv_at hl 0 rfl) ?_
  exact W.iret (v := (I 13 0) - (I 7 0)) hx hb hr (fun t ht hW => hQ _ _ t ((I 13 0) - (I 7 0)) I1 h ⟨by rw [ht]; exact hP, hD⟩ (hS.F ht)) hS.2.2 dX8_cut_19
theorem m_X8_cut (l : Launch) (dC : Nat → ClassId) (dI : Nat → Nat → Nat) (cy : Nat → ClassId) (ad : Nat → Nat) (A : Nat → Prop) (I : St)  {post : Int32 → St → Prop} (hD : va_D A (rW ad cy I)) (h : wp_X8_cut I  post) : Met l yX8_cut wsX8_cut rmX8_cut (va_Pc [.ref (ad 40)] (wPre (dC, dI) cy A (rW ad cy I))) (va_Qi (fun r (u : St) => post r u) (fun (u : St) t => wPost (dC, dI) A (rW ad cy u) t) A) 0 0 A := g_X8_cut l dC dI cy ad A I  hD h (fun a s0 t r I' h1 h2 h3 => ⟨⟨r, I', rfl, h1, h2⟩, h3⟩)
abbrev rmX8_isLane : Room := { frames := 1, cells := 0, slots := 0, locals := 22 }
set_option maxHeartbeats 4000000 in
set_option maxRecDepth 100000 in
theorem g_X8_isLane (l : Launch) (dC : Nat → ClassId) (dI : Nat → Nat → Nat) (cy : Nat → ClassId) (ad : Nat → Nat) (A : Nat → Prop) (I : St) (p1 : Int32) {post : Int32 → St → Prop} (hD : va_D A (rW ad cy I)) (h : wp_X8_isLane I p1 post) {Qc : Array Value → State → Outcome → State → Prop} (hQ : ∀ (a : Array Value) (s0 t : State) (r : Int32) (I' : St), post r I' → wPost (dC, dI) A (rW ad cy I') t → va_F A s0 t → Qc a s0 (.returned (some (.int r))) t) : Met l yX8_isLane wsX8_isLane rmX8_isLane (va_Pc [.int p1] (wPre (dC, dI) cy A (rW ad cy I))) Qc 0 0 A := by
  refine Met.ofW (cc := cX8_isLane) (maxL := 1) (ret := (some .boolean)) (by decide) rfl ?_
  intro p e s m args below meth c s₁ B hml hv
  obtain ⟨rfl, hP, hK, hN, hA⟩ := hv
  have hx := B.exec
  have hb := B.bytes
  have hr := B.returns
  have hts := atoms_spec (ws := wsX8_isLane) B.pre
  have hown : s.vm.findClass RX8 = some m.cls := findClass_of_methodNamed B.named
  have hlocks := B.notSynchronized
  have hS : va_S A s.heap s.heap [] := va_S.rf
  unfold wp_X8_isLane at h
  have hl := lv_entry ([.int p1]) (n := 1) (Nat.le_of_ble_eq_true rfl)
  rw [lg_entry_eq]
  generalize (lg_sl ([.int p1]) ++ List.replicate (1 - (lg_sl ([.int p1])).length) Slot.unset).toArray = ls at hl ⊢
  have hl : lv_has ls 1 [(0, .int p1)] := hl
  refine lv_iload_n hx hb dX8_isLane_0 rfl (lv_at hl 0 rfl) ?_
  refine lv_iconst (v := 0) hx hb dX8_isLane_1 (by decide) ?_
  refine lv_iconst (v := 2) hx hb dX8_isLane_2 (by decide) ?_
  refine va_calli (va_runS (As := [.int p1, .int 0, .int 2]) (rest := []) ⟨hx, hb, hml, hown, hts⟩ (m_X8_in l dC dI cy ad A I p1 0 2 hD h) (va_cwS 3 hts gX8_isLane_X8_in rfl rfl rfl (by decide +kernel) ⟨Nat.le_of_ble_eq_true rfl, Nat.le_of_ble_eq_true rfl⟩) ⟨wPre.blind, wPre.at hP hK hN hS hA⟩ rfl rfl hl.1 rfl (lv_room (Nat.le_of_ble_eq_true rfl)) dX8_isLane_3 ⟨by first | exact Nat.le_of_ble_eq_true rfl | (show _ ≤ 0; omega), by first | exact Nat.le_of_ble_eq_true rfl | (show _ ≤ 0; omega)⟩) hS (fun q _ h => h) (fun q h => h) (fun r1 u t H locs ht hvm hw hB hz1 hk1 hS => ?_)
  obtain ⟨I2, rfl⟩ : ∃ z : St, z = u := ⟨_, rfl⟩
  obtain ⟨hP, hD⟩ := hB; rw [ht] at hP; replace h := hw; try dsimp only at h hP hD
  exact W.zret (v := r1) (ty := .boolean) hx hb hr h.1 (fun t ht hW => hQ _ _ t r1 I2 h.2 ⟨by rw [ht]; exact hP, hD⟩ (hS.F ht)) hS.2.2 dX8_isLane_6
theorem m_X8_isLane (l : Launch) (dC : Nat → ClassId) (dI : Nat → Nat → Nat) (cy : Nat → ClassId) (ad : Nat → Nat) (A : Nat → Prop) (I : St) (p1 : Int32) {post : Int32 → St → Prop} (hD : va_D A (rW ad cy I)) (h : wp_X8_isLane I p1 post) : Met l yX8_isLane wsX8_isLane rmX8_isLane (va_Pc [.int p1] (wPre (dC, dI) cy A (rW ad cy I))) (va_Qi (fun r (u : St) => post r u) (fun (u : St) t => wPost (dC, dI) A (rW ad cy u) t) A) 0 0 A := g_X8_isLane l dC dI cy ad A I p1 hD h (fun a s0 t r I' h1 h2 h3 => ⟨⟨r, I', rfl, h1, h2⟩, h3⟩)
abbrev rmX8_takesOut : Room := { frames := 0, cells := 0, slots := 0, locals := 0 }
set_option maxHeartbeats 4000000 in
set_option maxRecDepth 100000 in
theorem g_X8_takesOut (l : Launch) (dC : Nat → ClassId) (dI : Nat → Nat → Nat) (cy : Nat → ClassId) (ad : Nat → Nat) (A : Nat → Prop) (I : St) (p1 : Int32) (p2 : Int32) {post : St → Prop} (hD : va_D A (rW ad cy I)) (h : wp_X8_takesOut I p1 p2 post) {Qc : Array Value → State → Outcome → State → Prop} (hQ : ∀ (a : Array Value) (s0 t : State) (I' : St), post I' → wPost (dC, dI) A (rW ad cy I') t → va_F A s0 t → Qc a s0 (.returned (none)) t) : Met l yX8_takesOut wsX8_takesOut rmX8_takesOut (va_Pc [.ref (ad 40), .int p1, .int p2] (wPre (dC, dI) cy A (rW ad cy I))) Qc 0 0 A := by
  refine Met.ofW (cc := cX8_takesOut) (maxL := 4) (ret := none) (by decide) rfl ?_
  intro p e s m args below meth c s₁ B hml hv
  obtain ⟨rfl, hP, hK, hN, hA⟩ := hv
  have hx := B.exec
  have hb := B.bytes
  have hr := B.returns
  have hts := atoms_spec (ws := wsX8_takesOut) B.pre
  have hown : s.vm.findClass RX8 = some m.cls := findClass_of_methodNamed B.named
  have hlocks := B.notSynchronized
  have hinX8 : ∀ w ∈ wsX80, w ∈ wsX8_takesOut := fun _ h9 => List.mem_cons_of_mem _ (List.mem_append_right _ h9)
  have hS : va_S A s.heap s.heap [] := va_S.rf
  unfold wp_X8_takesOut at h
  have hl := lv_entry ([.ref (ad 40), .int p1, .int p2]) (n := 4) (Nat.le_of_ble_eq_true rfl)
  rw [lg_entry_eq]
  generalize (lg_sl ([.ref (ad 40), .int p1, .int p2]) ++ List.replicate (4 - (lg_sl ([.ref (ad 40), .int p1, .int p2])).length) Slot.unset).toArray = ls at hl ⊢
  have hl : lv_has ls 4 [(0, .ref (ad 40)), (1, .int p1), (2, .int p2)] := hl
  refine lv_aload_n hx hb dX8_takesOut_0 rfl (lv_at hl 0 rfl) ?_
  refine va_get (D := (dC, dI)) (ci := 8) (v := .ref (ad 14)) (C := RX8) (T := TX8) (N := 35) hx hb hts hinX8 hown hK hP 0 rG_o rfl 14 (by decide) (hts (.fieldLink RX8 38 "OutboxHouseModel" "letters" "[I") (by decide +kernel)) (fun _ h9 => h9) rfl dX8_takesOut_1 ?_
  refine lv_iload_n hx hb dX8_takesOut_4 rfl (lv_at hl 1 rfl) ?_
  refine lv_dup2_11 hx hb dX8_takesOut_5 rfl rfl ?_
  have hv := h.1; replace h := h.2
  refine va_iald hx hb hK hP 10 0 rG_14 rfl hv dX8_takesOut_6 ?_
  refine lv_iconst (v := 1) hx hb dX8_takesOut_7 (by decide) ?_
  refine lv_isub hx hb dX8_takesOut_8 ?_
  have hv := h.1; replace h := h.2
  refine va_iast hx hb hK hP hD hS 10 0 rG_14 rfl hv dX8_takesOut_9 (fun H locs hP hD hS => ?_)
  obtain ⟨I1, hI1⟩ : ∃ z : St, z = st I 14 p1.toNatClampNeg ((I 14 p1.toNatClampNeg) - 1) := ⟨_, rfl⟩
  replace hP := wP (rE_14 hI1) hP; replace hD := wD (rE_14 hI1) hD; replace h := h _ hI1
  refine lv_bipush (v := 40) hx hb dX8_takesOut_10 (by decide) ?_
  refine lv_iload_n hx hb dX8_takesOut_12 rfl (lv_at hl 1 rfl) ?_
  refine lv_imul hx hb dX8_takesOut_13 ?_
  refine lv_iload_n hx hb dX8_takesOut_14 rfl (lv_at hl 2 rfl) ?_
  refine lv_iadd hx hb dX8_takesOut_15 ?_
  refine lv_istore_n (lv' := [(3, .int ((40 * p1) + p2)), (0, .ref (ad 40)), (1, .int p1), (2, .int p2)]) hx hb dX8_takesOut_16 rfl hl (by decide) rfl (fun ls hl => ?_)
  obtain ⟨V2, ⟨n30, hV0⟩, hstepn3⟩ := h
  have hlpn3 : ∀ (n3 : Nat) (x4 : Int32) (I5 : St) (H : Heap) (locs : List Loc), va_P (dC, dI) vwCl (rW ad cy I5) H → va_D A (rW ad cy I5) → va_S A s.heap H locs → ∀ ls : Array Slot, lv_has ls 4 [(0, .ref (ad 40)), (1, .int p1), (2, .int p2), (3, .int x4)] → V2 n3 x4 I5 → W p l e (headSpec wsX8_takesOut rmX8_takesOut).room s m ([.ref (ad 40), .int p1, .int p2] : List Value).toArray below meth c H locs 0 0 (MQ below Qc ([.ref (ad 40), .int p1, .int p2] : List Value).toArray s 0 0 A) (F0 m 17 ls []) := by
    intro n3
    induction n3 using Nat.strongRecOn with
    | _ n3 ihn3 =>
      intro x4 I5 H locs hP hD hS ls hl hV
      have h := hstepn3 n3 x4 I5 hV
      refine lv_iload_n hx hb dX8_takesOut_17 rfl (lv_at hl 3 rfl) ?_
      refine lv_bipush (v := 40) hx hb dX8_takesOut_18 (by decide) ?_
      refine lv_iload_n hx hb dX8_takesOut_20 rfl (lv_at hl 1 rfl) ?_
      refine lv_imul hx hb dX8_takesOut_21 ?_
      refine lv_aload_n hx hb dX8_takesOut_22 rfl (lv_at hl 0 rfl) ?_
      refine va_get (D := (dC, dI)) (ci := 8) (v := .ref (ad 14)) (C := RX8) (T := TX8) (N := 35) hx hb hts hinX8 hown hK hP 0 rG_o rfl 14 (by decide) (hts (.fieldLink RX8 38 "OutboxHouseModel" "letters" "[I") (by decide +kernel)) (fun _ h9 => h9) rfl dX8_takesOut_23 ?_
      refine lv_iload_n hx hb dX8_takesOut_26 rfl (lv_at hl 1 rfl) ?_
      have hv := h.1; replace h := h.2
      refine va_iald hx hb hK hP 10 0 rG_14 rfl hv dX8_takesOut_27 ?_
      refine lv_iadd hx hb dX8_takesOut_28 ?_
      refine lv_icmp_ge (tgt := 94) hx hb dX8_takesOut_29 (by decide) (fun hc => ?_) (fun hc => ?_)
      · have h := h.1 hc
        exact W.vret hx hb hr (fun t ht hW => hQ _ _ t I5 h ⟨by rw [ht]; exact hP, hD⟩ (hS.F ht)) hS.2.2 dX8_takesOut_94
      · have h := h.2 hc
        refine lv_aload_n hx hb dX8_takesOut_32 rfl (lv_at hl 0 rfl) ?_
        refine va_get (D := (dC, dI)) (ci := 8) (v := .ref (ad 15)) (C := RX8) (T := TX8) (N := 35) hx hb hts hinX8 hown hK hP 0 rG_o rfl 15 (by decide) (hts (.fieldLink RX8 41 "OutboxHouseModel" "letterAt" "[I") (by decide +kernel)) (fun _ h9 => h9) rfl dX8_takesOut_33 ?_
        refine lv_iload_n hx hb dX8_takesOut_36 rfl (lv_at hl 3 rfl) ?_
        refine lv_aload_n hx hb dX8_takesOut_37 rfl (lv_at hl 0 rfl) ?_
        refine va_get (D := (dC, dI)) (ci := 8) (v := .ref (ad 15)) (C := RX8) (T := TX8) (N := 35) hx hb hts hinX8 hown hK hP 0 rG_o rfl 15 (by decide) (hts (.fieldLink RX8 41 "OutboxHouseModel" "letterAt" "[I") (by decide +kernel)) (fun _ h9 => h9) rfl dX8_takesOut_38 ?_
        refine lv_iload_n hx hb dX8_takesOut_41 rfl (lv_at hl 3 rfl) ?_
        refine lv_iconst (v := 1) hx hb dX8_takesOut_42 (by decide) ?_
        refine lv_iadd hx hb dX8_takesOut_43 ?_
        have hv := h.1; replace h := h.2
        refine va_iald hx hb hK hP 11 0 rG_15 rfl hv dX8_takesOut_44 ?_
        have hv := h.1; replace h := h.2
        refine va_iast hx hb hK hP hD hS 11 0 rG_15 rfl hv dX8_takesOut_45 (fun H locs hP hD hS => ?_)
        obtain ⟨I6, hI6⟩ : ∃ z : St, z = st I5 15 x4.toNatClampNeg (I5 15 (x4 + 1).toNatClampNeg) := ⟨_, rfl⟩
        replace hP := wP (rE_15 hI6) hP; replace hD := wD (rE_15 hI6) hD; replace h := h _ hI6
        refine lv_aload_n hx hb dX8_takesOut_46 rfl (lv_at hl 0 rfl) ?_
        refine va_get (D := (dC, dI)) (ci := 8) (v := .ref (ad 16)) (C := RX8) (T := TX8) (N := 35) hx hb hts hinX8 hown hK hP 0 rG_o rfl 16 (by decide) (hts (.fieldLink RX8 44 "OutboxHouseModel" "letterKey" "[I") (by decide +kernel)) (fun _ h9 => h9) rfl dX8_takesOut_47 ?_
        refine lv_iload_n hx hb dX8_takesOut_50 rfl (lv_at hl 3 rfl) ?_
        refine lv_aload_n hx hb dX8_takesOut_51 rfl (lv_at hl 0 rfl) ?_
        refine va_get (D := (dC, dI)) (ci := 8) (v := .ref (ad 16)) (C := RX8) (T := TX8) (N := 35) hx hb hts hinX8 hown hK hP 0 rG_o rfl 16 (by decide) (hts (.fieldLink RX8 44 "OutboxHouseModel" "letterKey" "[I") (by decide +kernel)) (fun _ h9 => h9) rfl dX8_takesOut_52 ?_
        refine lv_iload_n hx hb dX8_takesOut_55 rfl (lv_at hl 3 rfl) ?_
        refine lv_iconst (v := 1) hx hb dX8_takesOut_56 (by decide) ?_
        refine lv_iadd hx hb dX8_takesOut_57 ?_
        have hv := h.1; replace h := h.2
        refine va_iald hx hb hK hP 12 0 rG_16 rfl hv dX8_takesOut_58 ?_
        have hv := h.1; replace h := h.2
        refine va_iast hx hb hK hP hD hS 12 0 rG_16 rfl hv dX8_takesOut_59 (fun H locs hP hD hS => ?_)
        obtain ⟨I7, hI7⟩ : ∃ z : St, z = st I6 16 x4.toNatClampNeg (I6 16 (x4 + 1).toNatClampNeg) := ⟨_, rfl⟩
        replace hP := wP (rE_16 hI7) hP; replace hD := wD (rE_16 hI7) hD; replace h := h _ hI7
        refine lv_aload_n hx hb dX8_takesOut_60 rfl (lv_at hl 0 rfl) ?_
        refine va_get (D := (dC, dI)) (ci := 8) (v := .ref (ad 17)) (C := RX8) (T := TX8) (N := 35) hx hb hts hinX8 hown hK hP 0 rG_o rfl 17 (by decide) (hts (.fieldLink RX8 47 "OutboxHouseModel" "letterOrder" "[I") (by decide +kernel)) (fun _ h9 => h9) rfl dX8_takesOut_61 ?_
        refine lv_iload_n hx hb dX8_takesOut_64 rfl (lv_at hl 3 rfl) ?_
        refine lv_aload_n hx hb dX8_takesOut_65 rfl (lv_at hl 0 rfl) ?_
        refine va_get (D := (dC, dI)) (ci := 8) (v := .ref (ad 17)) (C := RX8) (T := TX8) (N := 35) hx hb hts hinX8 hown hK hP 0 rG_o rfl 17 (by decide) (hts (.fieldLink RX8 47 "OutboxHouseModel" "letterOrder" "[I") (by decide +kernel)) (fun _ h9 => h9) rfl dX8_takesOut_66 ?_
        refine lv_iload_n hx hb dX8_takesOut_69 rfl (lv_at hl 3 rfl) ?_
        refine lv_iconst (v := 1) hx hb dX8_takesOut_70 (by decide) ?_
        refine lv_iadd hx hb dX8_takesOut_71 ?_
        have hv := h.1; replace h := h.2
        refine va_iald hx hb hK hP 13 0 rG_17 rfl hv dX8_takesOut_72 ?_
        have hv := h.1; replace h := h.2
        refine va_iast hx hb hK hP hD hS 13 0 rG_17 rfl hv dX8_takesOut_73 (fun H locs hP hD hS => ?_)
        obtain ⟨I8, hI8⟩ : ∃ z : St, z = st I7 17 x4.toNatClampNeg (I7 17 (x4 + 1).toNatClampNeg) := ⟨_, rfl⟩
        replace hP := wP (rE_17 hI8) hP; replace hD := wD (rE_17 hI8) hD; replace h := h _ hI8
        refine lv_aload_n hx hb dX8_takesOut_74 rfl (lv_at hl 0 rfl) ?_
        refine va_get (D := (dC, dI)) (ci := 8) (v := .ref (ad 18)) (C := RX8) (T := TX8) (N := 35) hx hb hts hinX8 hown hK hP 0 rG_o rfl 18 (by decide) (hts (.fieldLink RX8 50 "OutboxHouseModel" "letterValue" "[I") (by decide +kernel)) (fun _ h9 => h9) rfl dX8_takesOut_75 ?_
        refine lv_iload_n hx hb dX8_takesOut_78 rfl (lv_at hl 3 rfl) ?_
        refine lv_aload_n hx hb dX8_takesOut_79 rfl (lv_at hl 0 rfl) ?_
        refine va_get (D := (dC, dI)) (ci := 8) (v := .ref (ad 18)) (C := RX8) (T := TX8) (N := 35) hx hb hts hinX8 hown hK hP 0 rG_o rfl 18 (by decide) (hts (.fieldLink RX8 50 "OutboxHouseModel" "letterValue" "[I") (by decide +kernel)) (fun _ h9 => h9) rfl dX8_takesOut_80 ?_
        refine lv_iload_n hx hb dX8_takesOut_83 rfl (lv_at hl 3 rfl) ?_
        refine lv_iconst (v := 1) hx hb dX8_takesOut_84 (by decide) ?_
        refine lv_iadd hx hb dX8_takesOut_85 ?_
        have hv := h.1; replace h := h.2
        refine va_iald hx hb hK hP 14 0 rG_18 rfl hv dX8_takesOut_86 ?_
        have hv := h.1; replace h := h.2
        refine va_iast hx hb hK hP hD hS 14 0 rG_18 rfl hv dX8_takesOut_87 (fun H locs hP hD hS => ?_)
        obtain ⟨I9, hI9⟩ : ∃ z : St, z = st I8 18 x4.toNatClampNeg (I8 18 (x4 + 1).toNatClampNeg) := ⟨_, rfl⟩
        replace hP := wP (rE_18 hI9) hP; replace hD := wD (rE_18 hI9) hD; replace h := h _ hI9
        refine lv_iinc (v := x4 + 1) (lv' := [(3, .int (x4 + 1)), (0, .ref (ad 40)), (1, .int p1), (2, .int p2)]) hx hb dX8_takesOut_88 hl (k := 3) rfl rfl (by decide) rfl (fun ls hl => ?_)
        refine lv_goto (tgt := 17) hx hb dX8_takesOut_91 (by decide) ?_
        obtain ⟨n10, hlt, hV⟩ := h
        exact ihn3 n10 hlt _ _ _ _ hP hD hS ls (lv_sub hl [1, 2, 3, 0] rfl) hV
  exact hlpn3 n30 _ _ _ _ hP hD hS ls (lv_sub hl [1, 2, 3, 0] rfl) hV0
theorem m_X8_takesOut (l : Launch) (dC : Nat → ClassId) (dI : Nat → Nat → Nat) (cy : Nat → ClassId) (ad : Nat → Nat) (A : Nat → Prop) (I : St) (p1 : Int32) (p2 : Int32) {post : St → Prop} (hD : va_D A (rW ad cy I)) (h : wp_X8_takesOut I p1 p2 post) : Met l yX8_takesOut wsX8_takesOut rmX8_takesOut (va_Pc [.ref (ad 40), .int p1, .int p2] (wPre (dC, dI) cy A (rW ad cy I))) (va_Qv (fun (u : St) => post u) (fun (u : St) t => wPost (dC, dI) A (rW ad cy u) t) A) 0 0 A := g_X8_takesOut l dC dI cy ad A I p1 p2 hD h (fun a s0 t I' h1 h2 h3 => ⟨⟨I', rfl, h1, h2⟩, h3⟩)
abbrev rmX8_does : Room := { frames := 0, cells := 0, slots := 0, locals := 0 }
set_option maxHeartbeats 4000000 in
set_option maxRecDepth 100000 in
theorem g_X8_does (l : Launch) (dC : Nat → ClassId) (dI : Nat → Nat → Nat) (cy : Nat → ClassId) (ad : Nat → Nat) (A : Nat → Prop) (I : St) (p1 : Int32) (p2 : Int32) (p3 : Int32) {post : St → Prop} (hD : va_D A (rW ad cy I)) (h : wp_X8_does I p1 p2 p3 post) {Qc : Array Value → State → Outcome → State → Prop} (hQ : ∀ (a : Array Value) (s0 t : State) (I' : St), post I' → wPost (dC, dI) A (rW ad cy I') t → va_F A s0 t → Qc a s0 (.returned (none)) t) : Met l yX8_does wsX8_does rmX8_does (va_Pc [.ref (ad 40), .int p1, .int p2, .int p3] (wPre (dC, dI) cy A (rW ad cy I))) Qc 0 0 A := by
  refine Met.ofW (cc := cX8_does) (maxL := 4) (ret := none) (by decide) rfl ?_
  intro p e s m args below meth c s₁ B hml hv
  obtain ⟨rfl, hP, hK, hN, hA⟩ := hv
  have hx := B.exec
  have hb := B.bytes
  have hr := B.returns
  have hts := atoms_spec (ws := wsX8_does) B.pre
  have hown : s.vm.findClass RX8 = some m.cls := findClass_of_methodNamed B.named
  have hlocks := B.notSynchronized
  have hinX8 : ∀ w ∈ wsX80, w ∈ wsX8_does := fun _ h9 => List.mem_cons_of_mem _ (List.mem_append_right _ h9)
  have hS : va_S A s.heap s.heap [] := va_S.rf
  unfold wp_X8_does at h
  have hl := lv_entry ([.ref (ad 40), .int p1, .int p2, .int p3]) (n := 4) (Nat.le_of_ble_eq_true rfl)
  rw [lg_entry_eq]
  generalize (lg_sl ([.ref (ad 40), .int p1, .int p2, .int p3]) ++ List.replicate (4 - (lg_sl ([.ref (ad 40), .int p1, .int p2, .int p3])).length) Slot.unset).toArray = ls at hl ⊢
  have hl : lv_has ls 4 [(0, .ref (ad 40)), (1, .int p1), (2, .int p2), (3, .int p3)] := hl
  refine lv_aload_n hx hb dX8_does_0 rfl (lv_at hl 0 rfl) ?_
  refine va_get (D := (dC, dI)) (ci := 8) (v := .ref (ad 19)) (C := RX8) (T := TX8) (N := 35) hx hb hts hinX8 hown hK hP 0 rG_o rfl 19 (by decide) (hts (.fieldLink RX8 53 "OutboxHouseModel" "valueNow" "[I") (by decide +kernel)) (fun _ h9 => h9) rfl dX8_does_1 ?_
  refine lv_iload_n hx hb dX8_does_4 rfl (lv_at hl 1 rfl) ?_
  refine lv_iload_n hx hb dX8_does_5 rfl (lv_at hl 2 rfl) ?_
  have hv := h.1; replace h := h.2
  refine va_iast hx hb hK hP hD hS 15 0 rG_19 rfl hv dX8_does_6 (fun H locs hP hD hS => ?_)
  obtain ⟨I1, hI1⟩ : ∃ z : St, z = st I 19 p1.toNatClampNeg p2 := ⟨_, rfl⟩
  replace hP := wP (rE_19 hI1) hP; replace hD := wD (rE_19 hI1) hD; replace h := h _ hI1
  refine lv_aload_n hx hb dX8_does_7 rfl (lv_at hl 0 rfl) ?_
  refine va_get (D := (dC, dI)) (ci := 8) (v := .ref (ad 20)) (C := RX8) (T := TX8) (N := 35) hx hb hts hinX8 hown hK hP 0 rG_o rfl 20 (by decide) (hts (.fieldLink RX8 56 "OutboxHouseModel" "doneNow" "[I") (by decide +kernel)) (fun _ h9 => h9) rfl dX8_does_8 ?_
  refine lv_iload_n hx hb dX8_does_11 rfl (lv_at hl 1 rfl) ?_
  refine lv_dup2_11 hx hb dX8_does_12 rfl rfl ?_
  have hv := h.1; replace h := h.2
  refine va_iald hx hb hK hP 16 0 rG_20 rfl hv dX8_does_13 ?_
  refine lv_iconst (v := 1) hx hb dX8_does_14 (by decide) ?_
  refine lv_iadd hx hb dX8_does_15 ?_
  have hv := h.1; replace h := h.2
  refine va_iast hx hb hK hP hD hS 16 0 rG_20 rfl hv dX8_does_16 (fun H locs hP hD hS => ?_)
  obtain ⟨I2, hI2⟩ : ∃ z : St, z = st I1 20 p1.toNatClampNeg ((I1 20 p1.toNatClampNeg) + 1) := ⟨_, rfl⟩
  replace hP := wP (rE_20 hI2) hP; replace hD := wD (rE_20 hI2) hD; replace h := h _ hI2
  refine lv_aload_n hx hb dX8_does_17 rfl (lv_at hl 0 rfl) ?_
  refine va_get (D := (dC, dI)) (ci := 8) (v := .ref (ad 21)) (C := RX8) (T := TX8) (N := 35) hx hb hts hinX8 hown hK hP 0 rG_o rfl 21 (by decide) (hts (.fieldLink RX8 59 "OutboxHouseModel" "hasNow" "[Z") (by decide +kernel)) (fun _ h9 => h9) rfl dX8_does_18 ?_
  refine lv_iload_n hx hb dX8_does_21 rfl (lv_at hl 3 rfl) ?_
  refine lv_iconst (v := 1) hx hb dX8_does_22 (by decide) ?_
  have hv := h.1; replace h := h.2
  refine va_zast hx hb hK hP hD hS 17 1 rG_21 rfl hv dX8_does_23 (fun H locs hP hD hS => ?_)
  obtain ⟨I3, hI3⟩ : ∃ z : St, z = st I2 21 p3.toNatClampNeg (vp_nar .boolean 1) := ⟨_, rfl⟩
  replace hP := wP (rE_21 hI3) hP; replace hD := wD (rE_21 hI3) hD; replace h := h _ hI3
  refine lv_aload_n hx hb dX8_does_24 rfl (lv_at hl 0 rfl) ?_
  refine lv_dup hx hb dX8_does_25 rfl ?_
  refine va_get (D := (dC, dI)) (ci := 8) (v := .int (I3 31 0)) (C := RX8) (T := TX8) (N := 35) hx hb hts hinX8 hown hK hP 0 rG_o rfl 31 (by decide) (hts (.fieldLink RX8 143 "OutboxHouseModel" "doneEver" "I") (by decide +kernel)) (fun _ h9 => h9) rfl dX8_does_26 ?_
  refine lv_iconst (v := 1) hx hb dX8_does_29 (by decide) ?_
  refine lv_iadd hx hb dX8_does_30 ?_
  refine va_put (D := (dC, dI)) (ci := 8) (v := .int ((I3 31 0) + 1)) (ty := .int) (C := RX8) (T := TX8) (N := 35) hx hb hts hinX8 tyX8 tyX8_ok nmX8 hown hK hP hD hS 0 rG_o rfl 31 (by decide) (hts (.fieldLink RX8 143 "OutboxHouseModel" "doneEver" "I") (by decide +kernel)) (fun _ h9 => h9) rfl (by decide +kernel) rfl rfl (Nat.le_of_ble_eq_true rfl) dX8_does_31 (fun H locs hP hD hS => ?_)
  obtain ⟨I4, hI4⟩ : ∃ z : St, z = st I3 31 0 ((I3 31 0) + 1) := ⟨_, rfl⟩
  replace hP := wP (rE_31 hI4) hP; replace hD := wD (rE_31 hI4) hD; replace h := h _ hI4
  exact W.vret hx hb hr (fun t ht hW => hQ _ _ t I4 h ⟨by rw [ht]; exact hP, hD⟩ (hS.F ht)) hS.2.2 dX8_does_34
theorem m_X8_does (l : Launch) (dC : Nat → ClassId) (dI : Nat → Nat → Nat) (cy : Nat → ClassId) (ad : Nat → Nat) (A : Nat → Prop) (I : St) (p1 : Int32) (p2 : Int32) (p3 : Int32) {post : St → Prop} (hD : va_D A (rW ad cy I)) (h : wp_X8_does I p1 p2 p3 post) : Met l yX8_does wsX8_does rmX8_does (va_Pc [.ref (ad 40), .int p1, .int p2, .int p3] (wPre (dC, dI) cy A (rW ad cy I))) (va_Qv (fun (u : St) => post u) (fun (u : St) t => wPost (dC, dI) A (rW ad cy u) t) A) 0 0 A := g_X8_does l dC dI cy ad A I p1 p2 p3 hD h (fun a s0 t I' h1 h2 h3 => ⟨⟨I', rfl, h1, h2⟩, h3⟩)
abbrev rmX8_findHeld : Room := { frames := 0, cells := 0, slots := 0, locals := 0 }
set_option maxHeartbeats 4000000 in
set_option maxRecDepth 100000 in
theorem g_X8_findHeld (l : Launch) (dC : Nat → ClassId) (dI : Nat → Nat → Nat) (cy : Nat → ClassId) (ad : Nat → Nat) (A : Nat → Prop) (I : St) (p1 : Int32) (p2 : Int32) {post : Int32 → St → Prop} (hD : va_D A (rW ad cy I)) (h : wp_X8_findHeld I p1 p2 post) {Qc : Array Value → State → Outcome → State → Prop} (hQ : ∀ (a : Array Value) (s0 t : State) (r : Int32) (I' : St), post r I' → wPost (dC, dI) A (rW ad cy I') t → va_F A s0 t → Qc a s0 (.returned (some (.int r))) t) : Met l yX8_findHeld wsX8_findHeld rmX8_findHeld (va_Pc [.ref (ad 40), .int p1, .int p2] (wPre (dC, dI) cy A (rW ad cy I))) Qc 0 0 A := by
  refine Met.ofW (cc := cX8_findHeld) (maxL := 4) (ret := (some .int)) (by decide) rfl ?_
  intro p e s m args below meth c s₁ B hml hv
  obtain ⟨rfl, hP, hK, hN, hA⟩ := hv
  have hx := B.exec
  have hb := B.bytes
  have hr := B.returns
  have hts := atoms_spec (ws := wsX8_findHeld) B.pre
  have hown : s.vm.findClass RX8 = some m.cls := findClass_of_methodNamed B.named
  have hlocks := B.notSynchronized
  have hinX8 : ∀ w ∈ wsX80, w ∈ wsX8_findHeld := fun _ h9 => List.mem_cons_of_mem _ (List.mem_append_right _ h9)
  have hS : va_S A s.heap s.heap [] := va_S.rf
  unfold wp_X8_findHeld at h
  have hl := lv_entry ([.ref (ad 40), .int p1, .int p2]) (n := 4) (Nat.le_of_ble_eq_true rfl)
  rw [lg_entry_eq]
  generalize (lg_sl ([.ref (ad 40), .int p1, .int p2]) ++ List.replicate (4 - (lg_sl ([.ref (ad 40), .int p1, .int p2])).length) Slot.unset).toArray = ls at hl ⊢
  have hl : lv_has ls 4 [(0, .ref (ad 40)), (1, .int p1), (2, .int p2)] := hl
  refine lv_iconst (v := 0) hx hb dX8_findHeld_0 (by decide) ?_
  refine lv_istore_n (lv' := [(3, .int 0), (0, .ref (ad 40)), (1, .int p1), (2, .int p2)]) hx hb dX8_findHeld_1 rfl hl (by decide) rfl (fun ls hl => ?_)
  obtain ⟨V1, ⟨n20, hV0⟩, hstepn2⟩ := h
  have hlpn2 : ∀ (n2 : Nat) (x3 : Int32) (I4 : St) (H : Heap) (locs : List Loc), va_P (dC, dI) vwCl (rW ad cy I4) H → va_D A (rW ad cy I4) → va_S A s.heap H locs → ∀ ls : Array Slot, lv_has ls 4 [(0, .ref (ad 40)), (1, .int p1), (2, .int p2), (3, .int x3)] → V1 n2 x3 I4 → W p l e (headSpec wsX8_findHeld rmX8_findHeld).room s m ([.ref (ad 40), .int p1, .int p2] : List Value).toArray below meth c H locs 0 0 (MQ below Qc ([.ref (ad 40), .int p1, .int p2] : List Value).toArray s 0 0 A) (F0 m 2 ls []) := by
    intro n2
    induction n2 using Nat.strongRecOn with
    | _ n2 ihn2 =>
      intro x3 I4 H locs hP hD hS ls hl hV
      have h := hstepn2 n2 x3 I4 hV
      refine lv_iload_n hx hb dX8_findHeld_2 rfl (lv_at hl 3 rfl) ?_
      refine lv_aload_n hx hb dX8_findHeld_3 rfl (lv_at hl 0 rfl) ?_
      refine va_get (D := (dC, dI)) (ci := 8) (v := .int (I4 25 0)) (C := RX8) (T := TX8) (N := 35) hx hb hts hinX8 hown hK hP 0 rG_o rfl 25 (by decide) (hts (.fieldLink RX8 115 "OutboxHouseModel" "held" "I") (by decide +kernel)) (fun _ h9 => h9) rfl dX8_findHeld_4 ?_
      refine lv_icmp_ge (tgt := 38) hx hb dX8_findHeld_7 (by decide) (fun hc => ?_) (fun hc => ?_)
      · have h := h.1 hc
        refine lv_iconst (v := (-1)) hx hb dX8_findHeld_38 (by decide) ?_
        exact W.iret (v := (-1)) hx hb hr (fun t ht hW => hQ _ _ t (-1) I4 h ⟨by rw [ht]; exact hP, hD⟩ (hS.F ht)) hS.2.2 dX8_findHeld_39
      · have h := h.2 hc
        refine lv_aload_n hx hb dX8_findHeld_10 rfl (lv_at hl 0 rfl) ?_
        refine va_get (D := (dC, dI)) (ci := 8) (v := .ref (ad 26)) (C := RX8) (T := TX8) (N := 35) hx hb hts hinX8 hown hK hP 0 rG_o rfl 26 (by decide) (hts (.fieldLink RX8 71 "OutboxHouseModel" "heldKey" "[I") (by decide +kernel)) (fun _ h9 => h9) rfl dX8_findHeld_11 ?_
        refine lv_iload_n hx hb dX8_findHeld_14 rfl (lv_at hl 3 rfl) ?_
        have hv := h.1; replace h := h.2
        refine va_iald hx hb hK hP 21 0 rG_26 rfl hv dX8_findHeld_15 ?_
        refine lv_iload_n hx hb dX8_findHeld_16 rfl (lv_at hl 1 rfl) ?_
        refine lv_icmp_ne (tgt := 32) hx hb dX8_findHeld_17 (by decide) (fun hc => ?_) (fun hc => ?_)
        · have h := h.1 hc
          refine lv_iinc (v := x3 + 1) (lv' := [(3, .int (x3 + 1)), (0, .ref (ad 40)), (1, .int p1), (2, .int p2)]) hx hb dX8_findHeld_32 hl (k := 3) rfl rfl (by decide) rfl (fun ls hl => ?_)
          refine lv_goto (tgt := 2) hx hb dX8_findHeld_35 (by decide) ?_
          obtain ⟨n5, hlt, hV⟩ := h
          exact ihn2 n5 hlt _ _ _ _ hP hD hS ls (lv_sub hl [1, 2, 3, 0] rfl) hV
        · have h := h.2 hc
          refine lv_aload_n hx hb dX8_findHeld_20 rfl (lv_at hl 0 rfl) ?_
          refine va_get (D := (dC, dI)) (ci := 8) (v := .ref (ad 27)) (C := RX8) (T := TX8) (N := 35) hx hb hts hinX8 hown hK hP 0 rG_o rfl 27 (by decide) (hts (.fieldLink RX8 74 "OutboxHouseModel" "heldOrder" "[I") (by decide +kernel)) (fun _ h9 => h9) rfl dX8_findHeld_21 ?_
          refine lv_iload_n hx hb dX8_findHeld_24 rfl (lv_at hl 3 rfl) ?_
          have hv := h.1; replace h := h.2
          refine va_iald hx hb hK hP 22 0 rG_27 rfl hv dX8_findHeld_25 ?_
          refine lv_iload_n hx hb dX8_findHeld_26 rfl (lv_at hl 2 rfl) ?_
          refine lv_icmp_ne (tgt := 32) hx hb dX8_findHeld_27 (by decide) (fun hc => ?_) (fun hc => ?_)
          · have h := h.1 hc
            refine lv_iinc (v := x3 + 1) (lv' := [(3, .int (x3 + 1)), (0, .ref (ad 40)), (1, .int p1), (2, .int p2)]) hx hb dX8_findHeld_32 hl (k := 3) rfl rfl (by decide) rfl (fun ls hl => ?_)
            refine lv_goto (tgt := 2) hx hb dX8_findHeld_35 (by decide) ?_
            obtain ⟨n6, hlt, hV⟩ := h
            exact ihn2 n6 hlt _ _ _ _ hP hD hS ls (lv_sub hl [1, 2, 3, 0] rfl) hV
          · have h := h.2 hc
            refine lv_iload_n hx hb dX8_findHeld_30 rfl (lv_at hl 3 rfl) ?_
            exact W.iret (v := x3) hx hb hr (fun t ht hW => hQ _ _ t x3 I4 h ⟨by rw [ht]; exact hP, hD⟩ (hS.F ht)) hS.2.2 dX8_findHeld_31
  exact hlpn2 n20 _ _ _ _ hP hD hS ls (lv_sub hl [1, 2, 3, 0] rfl) hV0
theorem m_X8_findHeld (l : Launch) (dC : Nat → ClassId) (dI : Nat → Nat → Nat) (cy : Nat → ClassId) (ad : Nat → Nat) (A : Nat → Prop) (I : St) (p1 : Int32) (p2 : Int32) {post : Int32 → St → Prop} (hD : va_D A (rW ad cy I)) (h : wp_X8_findHeld I p1 p2 post) : Met l yX8_findHeld wsX8_findHeld rmX8_findHeld (va_Pc [.ref (ad 40), .int p1, .int p2] (wPre (dC, dI) cy A (rW ad cy I))) (va_Qi (fun r (u : St) => post r u) (fun (u : St) t => wPost (dC, dI) A (rW ad cy u) t) A) 0 0 A := g_X8_findHeld l dC dI cy ad A I p1 p2 hD h (fun a s0 t r I' h1 h2 h3 => ⟨⟨r, I', rfl, h1, h2⟩, h3⟩)
