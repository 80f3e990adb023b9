abbrev rmX8_crashSource : Room := { frames := 1, cells := 0, slots := 0, locals := 22 }
set_option maxHeartbeats 4000000 in
set_option maxRecDepth 100000 in
theorem g_X8_crashSource (l : Launch) (dC : Nat → ClassId) (dI : Nat → Nat → Nat) (cy : Nat → ClassId) (ad : Nat → Nat) (A : Nat → Prop) (I : St)  {post : Int32 → St → Prop} (hD : va_D A (rW ad cy I)) (h : wp_X8_crashSource I  post) {Qc : Array Value → State → Outcome → State → Prop} (hQ : ∀ (a : Array Value) (s0 t : State) (r : Int32) (I' : St), post r I' → wPost (dC, dI) A (rW ad cy I') t → va_F A s0 t → Qc a s0 (.returned (some (.int r))) t) : Met l yX8_crashSource wsX8_crashSource rmX8_crashSource (va_Pc [.ref (ad 40)] (wPre (dC, dI) cy A (rW ad cy I))) Qc 0 0 A := by
  refine Met.ofW (cc := cX8_crashSource) (maxL := 3) (ret := (some .int)) (by decide) rfl ?_
  intro p e s m args below meth c s₁ B hml hv
  obtain ⟨rfl, hP, hK, hN, hA⟩ := hv
  have hx := B.exec
  have hb := B.bytes
  have hr := B.returns
  have hts := atoms_spec (ws := wsX8_crashSource) B.pre
  have hown : s.vm.findClass RX8 = some m.cls := findClass_of_methodNamed B.named
  have hlocks := B.notSynchronized
  have hinX8 : ∀ w ∈ wsX80, w ∈ wsX8_crashSource := fun _ h9 => List.mem_cons_of_mem _ (List.mem_append_right _ h9)
  have hS : va_S A s.heap s.heap [] := va_S.rf
  unfold wp_X8_crashSource at h
  have hl := lv_entry ([.ref (ad 40)]) (n := 3) (Nat.le_of_ble_eq_true rfl)
  rw [lg_entry_eq]
  generalize (lg_sl ([.ref (ad 40)]) ++ List.replicate (3 - (lg_sl ([.ref (ad 40)])).length) Slot.unset).toArray = ls at hl ⊢
  have hl : lv_has ls 3 [(0, .ref (ad 40))] := hl
  refine lv_aload_n hx hb dX8_crashSource_0 rfl (lv_at hl 0 rfl) ?_
  refine va_get (D := (dC, dI)) (ci := 8) (v := .int (I 5 0)) (C := RX8) (T := TX8) (N := 35) hx hb hts hinX8 hown hK hP 0 rG_o rfl 5 (by decide) (hts (.fieldLink RX8 83 "OutboxHouseModel" "end" "I") (by decide +kernel)) (fun _ h9 => h9) rfl dX8_crashSource_1 ?_
  refine lv_aload_n hx hb dX8_crashSource_4 rfl (lv_at hl 0 rfl) ?_
  refine va_get (D := (dC, dI)) (ci := 8) (v := .int (I 6 0)) (C := RX8) (T := TX8) (N := 35) hx hb hts hinX8 hown hK hP 0 rG_o rfl 6 (by decide) (hts (.fieldLink RX8 95 "OutboxHouseModel" "flushed" "I") (by decide +kernel)) (fun _ h9 => h9) rfl dX8_crashSource_5 ?_
  refine lv_isub hx hb dX8_crashSource_8 ?_
  refine lv_istore_n (lv' := [(1, .int ((I 5 0) - (I 6 0))), (0, .ref (ad 40))]) hx hb dX8_crashSource_9 rfl hl (by decide) rfl (fun ls hl => ?_)
  refine lv_aload_n hx hb dX8_crashSource_10 rfl (lv_at hl 1 rfl) ?_
  refine lv_aload_n hx hb dX8_crashSource_11 rfl (lv_at hl 1 rfl) ?_
  refine va_get (D := (dC, dI)) (ci := 8) (v := .int (I 6 0)) (C := RX8) (T := TX8) (N := 35) hx hb hts hinX8 hown hK hP 0 rG_o rfl 6 (by decide) (hts (.fieldLink RX8 95 "OutboxHouseModel" "flushed" "I") (by decide +kernel)) (fun _ h9 => h9) rfl dX8_crashSource_12 ?_
  refine va_put (D := (dC, dI)) (ci := 8) (v := .int (I 6 0)) (ty := .int) (C := RX8) (T := TX8) (N := 35) hx hb hts hinX8 tyX8 tyX8_ok nmX8 hown hK hP hD hS 0 rG_o rfl 5 (by decide) (hts (.fieldLink RX8 83 "OutboxHouseModel" "end" "I") (by decide +kernel)) (fun _ h9 => h9) rfl (by decide +kernel) rfl rfl (Nat.le_of_ble_eq_true rfl) dX8_crashSource_15 (fun H locs hP hD hS => ?_)
  obtain ⟨I1, hI1⟩ : ∃ z : St, z = st I 5 0 (I 6 0) := ⟨_, rfl⟩
  replace hP := wP (rE_5 hI1) hP; replace hD := wD (rE_5 hI1) hD; replace h := h _ hI1
  refine lv_iconst (v := 0) hx hb dX8_crashSource_18 (by decide) ?_
  refine lv_istore_n (lv' := [(2, .int 0), (1, .int ((I 5 0) - (I 6 0))), (0, .ref (ad 40))]) hx hb dX8_crashSource_19 rfl hl (by decide) rfl (fun ls hl => ?_)
  obtain ⟨V2, ⟨n30, hV0⟩, hstepn3⟩ := h
  have hlpn3 : ∀ (n3 : Nat) (x4 : Int32) (I5 : St) (H : Heap) (locs : List Loc), va_P (dC, dI) vwCl (rW ad cy I5) H → va_D A (rW ad cy I5) → va_S A s.heap H locs → ∀ ls : Array Slot, lv_has ls 3 [(0, .ref (ad 40)), (1, .int ((I 5 0) - (I 6 0))), (2, .int x4)] → V2 n3 x4 I5 → W p l e (headSpec wsX8_crashSource rmX8_crashSource).room s m ([.ref (ad 40)] : List Value).toArray below meth c H locs 0 0 (MQ below Qc ([.ref (ad 40)] : List Value).toArray s 0 0 A) (F0 m 20 ls []) := by
    intro n3
    induction n3 using Nat.strongRecOn with
    | _ n3 ihn3 =>
      intro x4 I5 H locs hP hD hS ls hl hV
      have h := hstepn3 n3 x4 I5 hV
      refine lv_iload_n hx hb dX8_crashSource_20 rfl (lv_at hl 2 rfl) ?_
      refine lv_iconst (v := 4) hx hb dX8_crashSource_21 (by decide) ?_
      refine lv_icmp_ge (tgt := 43) hx hb dX8_crashSource_22 (by decide) (fun hc => ?_) (fun hc => ?_)
      · have h := h.1 hc
        refine lv_iload_n hx hb dX8_crashSource_43 rfl (lv_at hl 1 rfl) ?_
        exact W.iret (v := (I 5 0) - (I 6 0)) hx hb hr (fun t ht hW => hQ _ _ t ((I 5 0) - (I 6 0)) I5 h ⟨by rw [ht]; exact hP, hD⟩ (hS.F ht)) hS.2.2 dX8_crashSource_44
      · have h := h.2 hc
        refine lv_aload_n hx hb dX8_crashSource_25 rfl (lv_at hl 0 rfl) ?_
        refine va_get (D := (dC, dI)) (ci := 8) (v := .ref (ad 0)) (C := RX8) (T := TX8) (N := 35) hx hb hts hinX8 hown hK hP 0 rG_o rfl 0 (by decide) (hts (.fieldLink RX8 7 "OutboxHouseModel" "isOpen" "[Z") (by decide +kernel)) (fun _ h9 => h9) rfl dX8_crashSource_26 ?_
        refine lv_iload_n hx hb dX8_crashSource_29 rfl (lv_at hl 2 rfl) ?_
        refine lv_iconst (v := 0) hx hb dX8_crashSource_30 (by decide) ?_
        have hv := h.1; replace h := h.2
        refine va_zast hx hb hK hP hD hS 1 1 rG_0 rfl hv dX8_crashSource_31 (fun H locs hP hD hS => ?_)
        obtain ⟨I6, hI6⟩ : ∃ z : St, z = st I5 0 x4.toNatClampNeg (vp_nar .boolean 0) := ⟨_, rfl⟩
        replace hP := wP (rE_0 hI6) hP; replace hD := wD (rE_0 hI6) hD; replace h := h _ hI6
        refine lv_aload_n hx hb dX8_crashSource_32 rfl (lv_at hl 0 rfl) ?_
        refine lv_iload_n hx hb dX8_crashSource_33 rfl (lv_at hl 2 rfl) ?_
        refine va_callv (va_runV (As := [.int x4]) (rest := []) ⟨hx, hb, hml, hown, hts⟩ (m_X8_clears l dC dI cy ad A I6 x4 hD h) (cwV 1 hts gX8_crashSource_X8_clears rfl rfl rfl (by decide +kernel) ⟨Nat.le_of_ble_eq_true rfl, Nat.le_of_ble_eq_true rfl⟩) ⟨wPre.blind, va_recv hK hP (ci := 8) (q0 := 0) rfl rG_o, wPre.at hP hK hN hS hA⟩ rfl rfl hl.1 rfl (lv_room (Nat.le_of_ble_eq_true rfl)) dX8_crashSource_34 ⟨by first | exact Nat.le_of_ble_eq_true rfl | (show _ ≤ 0; omega), by first | exact Nat.le_of_ble_eq_true rfl | (show _ ≤ 0; omega)⟩) hS (fun q _ h => h) (fun q h => h) (fun u t H locs ht hvm hw hB hz1 hk1 hS => ?_)
        obtain ⟨I8, rfl⟩ : ∃ z : St, z = u := ⟨_, rfl⟩
        obtain ⟨hP, hD⟩ := hB; rw [ht] at hP; replace h := hw; try dsimp only at h hP hD
        refine lv_iinc (v := x4 + 1) (lv' := [(2, .int (x4 + 1)), (0, .ref (ad 40)), (1, .int ((I 5 0) - (I 6 0)))]) hx hb dX8_crashSource_37 hl (k := 2) rfl rfl (by decide) rfl (fun ls hl => ?_)
        refine lv_goto (tgt := 20) hx hb dX8_crashSource_40 (by decide) ?_
        obtain ⟨n9, hlt, hV⟩ := h
        exact ihn3 n9 hlt _ _ _ _ hP hD hS ls (lv_sub hl [1, 2, 0] rfl) hV
  exact hlpn3 n30 _ _ _ _ hP hD hS ls (lv_sub hl [2, 1, 0] rfl) hV0
theorem m_X8_crashSource (l : Launch) (dC : Nat → ClassId) (dI : Nat → Nat → Nat) (cy : Nat → ClassId) (ad : Nat → Nat) (A : Nat → Prop) (I : St)  {post : Int32 → St → Prop} (hD : va_D A (rW ad cy I)) (h : wp_X8_crashSource I  post) : Met l yX8_crashSource wsX8_crashSource rmX8_crashSource (va_Pc [.ref (ad 40)] (wPre (dC, dI) cy A (rW ad cy I))) (va_Qi (fun r (u : St) => post r u) (fun (u : St) t => wPost (dC, dI) A (rW ad cy u) t) A) 0 0 A := g_X8_crashSource l dC dI cy ad A I  hD h (fun a s0 t r I' h1 h2 h3 => ⟨⟨r, I', rfl, h1, h2⟩, h3⟩)
abbrev rmX8_crashTarget : Room := { frames := 0, cells := 0, slots := 0, locals := 0 }
set_option maxHeartbeats 4000000 in
set_option maxRecDepth 100000 in
theorem g_X8_crashTarget (l : Launch) (dC : Nat → ClassId) (dI : Nat → Nat → Nat) (cy : Nat → ClassId) (ad : Nat → Nat) (A : Nat → Prop) (I : St)  {post : Int32 → St → Prop} (hD : va_D A (rW ad cy I)) (h : wp_X8_crashTarget I  post) {Qc : Array Value → State → Outcome → State → Prop} (hQ : ∀ (a : Array Value) (s0 t : State) (r : Int32) (I' : St), post r I' → wPost (dC, dI) A (rW ad cy I') t → va_F A s0 t → Qc a s0 (.returned (some (.int r))) t) : Met l yX8_crashTarget wsX8_crashTarget rmX8_crashTarget (va_Pc [.ref (ad 40)] (wPre (dC, dI) cy A (rW ad cy I))) Qc 0 0 A := by
  refine Met.ofW (cc := cX8_crashTarget) (maxL := 3) (ret := (some .int)) (by decide) rfl ?_
  intro p e s m args below meth c s₁ B hml hv
  obtain ⟨rfl, hP, hK, hN, hA⟩ := hv
  have hx := B.exec
  have hb := B.bytes
  have hr := B.returns
  have hts := atoms_spec (ws := wsX8_crashTarget) B.pre
  have hown : s.vm.findClass RX8 = some m.cls := findClass_of_methodNamed B.named
  have hlocks := B.notSynchronized
  have hinX8 : ∀ w ∈ wsX80, w ∈ wsX8_crashTarget := fun _ h9 => List.mem_cons_of_mem _ (List.mem_append_right _ h9)
  have hS : va_S A s.heap s.heap [] := va_S.rf
  unfold wp_X8_crashTarget at h
  have hl := lv_entry ([.ref (ad 40)]) (n := 3) (Nat.le_of_ble_eq_true rfl)
  rw [lg_entry_eq]
  generalize (lg_sl ([.ref (ad 40)]) ++ List.replicate (3 - (lg_sl ([.ref (ad 40)])).length) Slot.unset).toArray = ls at hl ⊢
  have hl : lv_has ls 3 [(0, .ref (ad 40))] := hl
  refine lv_iconst (v := 0) hx hb dX8_crashTarget_0 (by decide) ?_
  refine lv_istore_n (lv' := [(1, .int 0), (0, .ref (ad 40))]) hx hb dX8_crashTarget_1 rfl hl (by decide) rfl (fun ls hl => ?_)
  refine lv_iconst (v := 0) hx hb dX8_crashTarget_2 (by decide) ?_
  refine lv_istore_n (lv' := [(2, .int 0), (1, .int 0), (0, .ref (ad 40))]) hx hb dX8_crashTarget_3 rfl hl (by decide) rfl (fun ls hl => ?_)
  obtain ⟨V1, ⟨n20, hV0⟩, hstepn2⟩ := h
  have hlpn2 : ∀ (n2 : Nat) (x3 : Int32) (x4 : Int32) (I5 : St) (H : Heap) (locs : List Loc), va_P (dC, dI) vwCl (rW ad cy I5) H → va_D A (rW ad cy I5) → va_S A s.heap H locs → ∀ ls : Array Slot, lv_has ls 3 [(0, .ref (ad 40)), (1, .int x3), (2, .int x4)] → V1 n2 x3 x4 I5 → W p l e (headSpec wsX8_crashTarget rmX8_crashTarget).room s m ([.ref (ad 40)] : List Value).toArray below meth c H locs 0 0 (MQ below Qc ([.ref (ad 40)] : List Value).toArray s 0 0 A) (F0 m 4 ls []) := by
    intro n2
    induction n2 using Nat.strongRecOn with
    | _ n2 ihn2 =>
      intro x3 x4 I5 H locs hP hD hS ls hl hV
      have h := hstepn2 n2 x3 x4 I5 hV
      refine lv_iload_n hx hb dX8_crashTarget_4 rfl (lv_at hl 2 rfl) ?_
      refine lv_bipush (v := 6) hx hb dX8_crashTarget_5 (by decide) ?_
      refine lv_icmp_ge (tgt := 56) hx hb dX8_crashTarget_7 (by decide) (fun hc => ?_) (fun hc => ?_)
      · have h := h.1 hc
        refine lv_iconst (v := 0) hx hb dX8_crashTarget_56 (by decide) ?_
        refine lv_istore_n (lv' := [(2, .int 0), (0, .ref (ad 40)), (1, .int x3)]) hx hb dX8_crashTarget_57 rfl hl (by decide) rfl (fun ls hl => ?_)
        obtain ⟨V6, ⟨n70, hV0⟩, hstepn7⟩ := h
        have hlpn7 : ∀ (n7 : Nat) (x8 : Int32) (I9 : St) (H : Heap) (locs : List Loc), va_P (dC, dI) vwCl (rW ad cy I9) H → va_D A (rW ad cy I9) → va_S A s.heap H locs → ∀ ls : Array Slot, lv_has ls 3 [(0, .ref (ad 40)), (1, .int x3), (2, .int x8)] → V6 n7 x8 I9 → W p l e (headSpec wsX8_crashTarget rmX8_crashTarget).room s m ([.ref (ad 40)] : List Value).toArray below meth c H locs 0 0 (MQ below Qc ([.ref (ad 40)] : List Value).toArray s 0 0 A) (F0 m 58 ls []) := by
          intro n7
          induction n7 using Nat.strongRecOn with
          | _ n7 ihn7 =>
            intro x8 I9 H locs hP hD hS ls hl hV
            have h := hstepn7 n7 x8 I9 hV
            refine lv_iload_n hx hb dX8_crashTarget_58 rfl (lv_at hl 2 rfl) ?_
            refine lv_sipush (v := 400) hx hb dX8_crashTarget_59 (by decide) ?_
            refine lv_icmp_ge (tgt := 83) hx hb dX8_crashTarget_62 (by decide) (fun hc => ?_) (fun hc => ?_)
            · have h := h.1 hc
              refine lv_aload_n hx hb dX8_crashTarget_83 rfl (lv_at hl 0 rfl) ?_
              refine lv_iconst (v := 0) hx hb dX8_crashTarget_84 (by decide) ?_
              refine va_put (D := (dC, dI)) (ci := 8) (v := .int 0) (ty := .int) (C := RX8) (T := TX8) (N := 35) hx hb hts hinX8 tyX8 tyX8_ok nmX8 hown hK hP hD hS 0 rG_o rfl 25 (by decide) (hts (.fieldLink RX8 115 "OutboxHouseModel" "held" "I") (by decide +kernel)) (fun _ h9 => h9) rfl (by decide +kernel) rfl rfl (Nat.le_of_ble_eq_true rfl) dX8_crashTarget_85 (fun H locs hP hD hS => ?_)
              obtain ⟨I10, hI10⟩ : ∃ z : St, z = st I9 25 0 0 := ⟨_, rfl⟩
              replace hP := wP (rE_25 hI10) hP; replace hD := wD (rE_25 hI10) hD; replace h := h _ hI10
              refine lv_iload_n hx hb dX8_crashTarget_88 rfl (lv_at hl 1 rfl) ?_
              exact W.iret (v := x3) hx hb hr (fun t ht hW => hQ _ _ t x3 I10 h ⟨by rw [ht]; exact hP, hD⟩ (hS.F ht)) hS.2.2 dX8_crashTarget_89
            · have h := h.2 hc
              refine lv_aload_n hx hb dX8_crashTarget_65 rfl (lv_at hl 0 rfl) ?_
              refine va_get (D := (dC, dI)) (ci := 8) (v := .ref (ad 21)) (C := RX8) (T := TX8) (N := 35) hx hb hts hinX8 hown hK hP 0 rG_o rfl 21 (by decide) (hts (.fieldLink RX8 59 "OutboxHouseModel" "hasNow" "[Z") (by decide +kernel)) (fun _ h9 => h9) rfl dX8_crashTarget_66 ?_
              refine lv_iload_n hx hb dX8_crashTarget_69 rfl (lv_at hl 2 rfl) ?_
              refine lv_aload_n hx hb dX8_crashTarget_70 rfl (lv_at hl 0 rfl) ?_
              refine va_get (D := (dC, dI)) (ci := 8) (v := .ref (ad 24)) (C := RX8) (T := TX8) (N := 35) hx hb hts hinX8 hown hK hP 0 rG_o rfl 24 (by decide) (hts (.fieldLink RX8 68 "OutboxHouseModel" "hasDisk" "[Z") (by decide +kernel)) (fun _ h9 => h9) rfl dX8_crashTarget_71 ?_
              refine lv_iload_n hx hb dX8_crashTarget_74 rfl (lv_at hl 2 rfl) ?_
              have hv := h.1; replace h := h.2
              refine va_zald hx hb hK hP 20 1 rG_24 rfl hv dX8_crashTarget_75 ?_
              have hv := h.1; replace h := h.2
              refine va_zast hx hb hK hP hD hS 17 1 rG_21 rfl hv dX8_crashTarget_76 (fun H locs hP hD hS => ?_)
              obtain ⟨I11, hI11⟩ : ∃ z : St, z = st I9 21 x8.toNatClampNeg (vp_nar .boolean (I9 24 x8.toNatClampNeg)) := ⟨_, rfl⟩
              replace hP := wP (rE_21 hI11) hP; replace hD := wD (rE_21 hI11) hD; replace h := h _ hI11
              refine lv_iinc (v := x8 + 1) (lv' := [(2, .int (x8 + 1)), (0, .ref (ad 40)), (1, .int x3)]) hx hb dX8_crashTarget_77 hl (k := 2) rfl rfl (by decide) rfl (fun ls hl => ?_)
              refine lv_goto (tgt := 58) hx hb dX8_crashTarget_80 (by decide) ?_
              obtain ⟨n12, hlt, hV⟩ := h
              exact ihn7 n12 hlt _ _ _ _ hP hD hS ls (lv_sub hl [1, 2, 0] rfl) hV
        exact hlpn7 n70 _ _ _ _ hP hD hS ls (lv_sub hl [1, 2, 0] rfl) hV0
      · have h := h.2 hc
        refine lv_iload_n hx hb dX8_crashTarget_10 rfl (lv_at hl 1 rfl) ?_
        refine lv_aload_n hx hb dX8_crashTarget_11 rfl (lv_at hl 0 rfl) ?_
        refine va_get (D := (dC, dI)) (ci := 8) (v := .ref (ad 20)) (C := RX8) (T := TX8) (N := 35) hx hb hts hinX8 hown hK hP 0 rG_o rfl 20 (by decide) (hts (.fieldLink RX8 56 "OutboxHouseModel" "doneNow" "[I") (by decide +kernel)) (fun _ h9 => h9) rfl dX8_crashTarget_12 ?_
        refine lv_iload_n hx hb dX8_crashTarget_15 rfl (lv_at hl 2 rfl) ?_
        have hv := h.1; replace h := h.2
        refine va_iald hx hb hK hP 16 0 rG_20 rfl hv dX8_crashTarget_16 ?_
        refine lv_aload_n hx hb dX8_crashTarget_17 rfl (lv_at hl 0 rfl) ?_
        refine va_get (D := (dC, dI)) (ci := 8) (v := .ref (ad 23)) (C := RX8) (T := TX8) (N := 35) hx hb hts hinX8 hown hK hP 0 rG_o rfl 23 (by decide) (hts (.fieldLink RX8 65 "OutboxHouseModel" "doneDisk" "[I") (by decide +kernel)) (fun _ h9 => h9) rfl dX8_crashTarget_18 ?_
        refine lv_iload_n hx hb dX8_crashTarget_21 rfl (lv_at hl 2 rfl) ?_
        have hv := h.1; replace h := h.2
        refine va_iald hx hb hK hP 19 0 rG_23 rfl hv dX8_crashTarget_22 ?_
        refine lv_isub hx hb dX8_crashTarget_23 ?_
        refine lv_iadd hx hb dX8_crashTarget_24 ?_
        refine lv_istore_n (lv' := [(1, .int (x3 + ((I5 20 x4.toNatClampNeg) - (I5 23 x4.toNatClampNeg)))), (0, .ref (ad 40)), (2, .int x4)]) hx hb dX8_crashTarget_25 rfl hl (by decide) rfl (fun ls hl => ?_)
        refine lv_aload_n hx hb dX8_crashTarget_26 rfl (lv_at hl 1 rfl) ?_
        refine va_get (D := (dC, dI)) (ci := 8) (v := .ref (ad 19)) (C := RX8) (T := TX8) (N := 35) hx hb hts hinX8 hown hK hP 0 rG_o rfl 19 (by decide) (hts (.fieldLink RX8 53 "OutboxHouseModel" "valueNow" "[I") (by decide +kernel)) (fun _ h9 => h9) rfl dX8_crashTarget_27 ?_
        refine lv_iload_n hx hb dX8_crashTarget_30 rfl (lv_at hl 2 rfl) ?_
        refine lv_aload_n hx hb dX8_crashTarget_31 rfl (lv_at hl 1 rfl) ?_
        refine va_get (D := (dC, dI)) (ci := 8) (v := .ref (ad 22)) (C := RX8) (T := TX8) (N := 35) hx hb hts hinX8 hown hK hP 0 rG_o rfl 22 (by decide) (hts (.fieldLink RX8 62 "OutboxHouseModel" "valueDisk" "[I") (by decide +kernel)) (fun _ h9 => h9) rfl dX8_crashTarget_32 ?_
        refine lv_iload_n hx hb dX8_crashTarget_35 rfl (lv_at hl 2 rfl) ?_
        have hv := h.1; replace h := h.2
        refine va_iald hx hb hK hP 18 0 rG_22 rfl hv dX8_crashTarget_36 ?_
        have hv := h.1; replace h := h.2
        refine va_iast hx hb hK hP hD hS 15 0 rG_19 rfl hv dX8_crashTarget_37 (fun H locs hP hD hS => ?_)
        obtain ⟨I13, hI13⟩ : ∃ z : St, z = st I5 19 x4.toNatClampNeg (I5 22 x4.toNatClampNeg) := ⟨_, rfl⟩
        replace hP := wP (rE_19 hI13) hP; replace hD := wD (rE_19 hI13) hD; replace h := h _ hI13
        refine lv_aload_n hx hb dX8_crashTarget_38 rfl (lv_at hl 1 rfl) ?_
        refine va_get (D := (dC, dI)) (ci := 8) (v := .ref (ad 20)) (C := RX8) (T := TX8) (N := 35) hx hb hts hinX8 hown hK hP 0 rG_o rfl 20 (by decide) (hts (.fieldLink RX8 56 "OutboxHouseModel" "doneNow" "[I") (by decide +kernel)) (fun _ h9 => h9) rfl dX8_crashTarget_39 ?_
        refine lv_iload_n hx hb dX8_crashTarget_42 rfl (lv_at hl 2 rfl) ?_
        refine lv_aload_n hx hb dX8_crashTarget_43 rfl (lv_at hl 1 rfl) ?_
        refine va_get (D := (dC, dI)) (ci := 8) (v := .ref (ad 23)) (C := RX8) (T := TX8) (N := 35) hx hb hts hinX8 hown hK hP 0 rG_o rfl 23 (by decide) (hts (.fieldLink RX8 65 "OutboxHouseModel" "doneDisk" "[I") (by decide +kernel)) (fun _ h9 => h9) rfl dX8_crashTarget_44 ?_
        refine lv_iload_n hx hb dX8_crashTarget_47 rfl (lv_at hl 2 rfl) ?_
        have hv := h.1; replace h := h.2
        refine va_iald hx hb hK hP 19 0 rG_23 rfl hv dX8_crashTarget_48 ?_
        have hv := h.1; replace h := h.2
        refine va_iast hx hb hK hP hD hS 16 0 rG_20 rfl hv dX8_crashTarget_49 (fun H locs hP hD hS => ?_)
        obtain ⟨I14, hI14⟩ : ∃ z : St, z = st I13 20 x4.toNatClampNeg (I13 23 x4.toNatClampNeg) := ⟨_, rfl⟩
        replace hP := wP (rE_20 hI14) hP; replace hD := wD (rE_20 hI14) hD; replace h := h _ hI14
        refine lv_iinc (v := x4 + 1) (lv' := [(2, .int (x4 + 1)), (1, .int (x3 + ((I5 20 x4.toNatClampNeg) - (I5 23 x4.toNatClampNeg)))), (0, .ref (ad 40))]) hx hb dX8_crashTarget_50 hl (k := 2) rfl rfl (by decide) rfl (fun ls hl => ?_)
        refine lv_goto (tgt := 4) hx hb dX8_crashTarget_53 (by decide) ?_
        obtain ⟨n15, hlt, hV⟩ := h
        exact ihn2 n15 hlt _ _ _ _ _ hP hD hS ls (lv_sub hl [2, 1, 0] rfl) hV
  exact hlpn2 n20 _ _ _ _ _ hP hD hS ls (lv_sub hl [2, 1, 0] rfl) hV0
theorem m_X8_crashTarget (l : Launch) (dC : Nat → ClassId) (dI : Nat → Nat → Nat) (cy : Nat → ClassId) (ad : Nat → Nat) (A : Nat → Prop) (I : St)  {post : Int32 → St → Prop} (hD : va_D A (rW ad cy I)) (h : wp_X8_crashTarget I  post) : Met l yX8_crashTarget wsX8_crashTarget rmX8_crashTarget (va_Pc [.ref (ad 40)] (wPre (dC, dI) cy A (rW ad cy I))) (va_Qi (fun r (u : St) => post r u) (fun (u : St) t => wPost (dC, dI) A (rW ad cy u) t) A) 0 0 A := g_X8_crashTarget l dC dI cy ad A I  hD h (fun a s0 t r I' h1 h2 h3 => ⟨⟨r, I', rfl, h1, h2⟩, h3⟩)
abbrev rmX8_crash : Room := { frames := 2, cells := 0, slots := 0, locals := 44 }
set_option maxHeartbeats 4000000 in
set_option maxRecDepth 100000 in
theorem g_X8_crash (l : Launch) (dC : Nat → ClassId) (dI : Nat → Nat → Nat) (cy : Nat → ClassId) (ad : Nat → Nat) (A : Nat → Prop) (I : St) (p1 : Int32) {post : Int32 → St → Prop} (hD : va_D A (rW ad cy I)) (h : wp_X8_crash I p1 post) {Qc : Array Value → State → Outcome → State → Prop} (hQ : ∀ (a : Array Value) (s0 t : State) (r : Int32) (I' : St), post r I' → wPost (dC, dI) A (rW ad cy I') t → va_F A s0 t → Qc a s0 (.returned (some (.int r))) t) : Met l yX8_crash wsX8_crash rmX8_crash (va_Pc [.ref (ad 40), .int p1] (wPre (dC, dI) cy A (rW ad cy I))) Qc 0 0 A := by
  refine Met.ofW (cc := cX8_crash) (maxL := 3) (ret := (some .int)) (by decide) rfl ?_
  intro p e s m args below meth c s₁ B hml hv
  obtain ⟨rfl, hP, hK, hN, hA⟩ := hv
  have hx := B.exec
  have hb := B.bytes
  have hr := B.returns
  have hts := atoms_spec (ws := wsX8_crash) B.pre
  have hown : s.vm.findClass RX8 = some m.cls := findClass_of_methodNamed B.named
  have hlocks := B.notSynchronized
  have hinX8 : ∀ w ∈ wsX80, w ∈ wsX8_crash := fun _ h9 => List.mem_cons_of_mem _ (List.mem_append_right _ h9)
  have hS : va_S A s.heap s.heap [] := va_S.rf
  unfold wp_X8_crash at h
  have hl := lv_entry ([.ref (ad 40), .int p1]) (n := 3) (Nat.le_of_ble_eq_true rfl)
  rw [lg_entry_eq]
  generalize (lg_sl ([.ref (ad 40), .int p1]) ++ List.replicate (3 - (lg_sl ([.ref (ad 40), .int p1])).length) Slot.unset).toArray = ls at hl ⊢
  have hl : lv_has ls 3 [(0, .ref (ad 40)), (1, .int p1)] := hl
  refine lv_iload_n hx hb dX8_crash_0 rfl (lv_at hl 1 rfl) ?_
  refine lv_iconst (v := 0) hx hb dX8_crash_1 (by decide) ?_
  refine lv_iconst (v := 2) hx hb dX8_crash_2 (by decide) ?_
  refine va_calli (va_runS (As := [.int p1, .int 0, .int 2]) (rest := []) ⟨hx, hb, hml, hown, hts⟩ (m_X8_in l dC dI cy ad A I p1 0 2 hD h) (va_cwS 3 hts gX8_crash_X8_in rfl rfl rfl (by decide +kernel) ⟨Nat.le_of_ble_eq_true rfl, Nat.le_of_ble_eq_true rfl⟩) ⟨wPre.blind, wPre.at hP hK hN hS hA⟩ rfl rfl hl.1 rfl (lv_room (Nat.le_of_ble_eq_true rfl)) dX8_crash_3 ⟨by first | exact Nat.le_of_ble_eq_true rfl | (show _ ≤ 0; omega), by first | exact Nat.le_of_ble_eq_true rfl | (show _ ≤ 0; omega)⟩) hS (fun q _ h => h) (fun q h => h) (fun r1 u t H locs ht hvm hw hB hz1 hk1 hS => ?_)
  obtain ⟨I2, rfl⟩ : ∃ z : St, z = u := ⟨_, rfl⟩
  obtain ⟨hP, hD⟩ := hB; rw [ht] at hP; replace h := hw; try dsimp only at h hP hD
  refine lv_if_ne (tgt := 11) hx hb dX8_crash_6 (by decide) (fun hc => ?_) (fun hc => ?_)
  · have h := h.1 hc
    refine lv_aload_n hx hb dX8_crash_11 rfl (lv_at hl 0 rfl) ?_
    refine lv_dup hx hb dX8_crash_12 rfl ?_
    refine va_get (D := (dC, dI)) (ci := 8) (v := .int (I2 34 0)) (C := RX8) (T := TX8) (N := 35) hx hb hts hinX8 hown hK hP 0 rG_o rfl 34 (by decide) (hts (.fieldLink RX8 118 "OutboxHouseModel" "crashes" "I") (by decide +kernel)) (fun _ h9 => h9) rfl dX8_crash_13 ?_
    refine lv_iconst (v := 1) hx hb dX8_crash_16 (by decide) ?_
    refine lv_iadd hx hb dX8_crash_17 ?_
    refine va_put (D := (dC, dI)) (ci := 8) (v := .int ((I2 34 0) + 1)) (ty := .int) (C := RX8) (T := TX8) (N := 35) hx hb hts hinX8 tyX8 tyX8_ok nmX8 hown hK hP hD hS 0 rG_o rfl 34 (by decide) (hts (.fieldLink RX8 118 "OutboxHouseModel" "crashes" "I") (by decide +kernel)) (fun _ h9 => h9) rfl (by decide +kernel) rfl rfl (Nat.le_of_ble_eq_true rfl) dX8_crash_18 (fun H locs hP hD hS => ?_)
    obtain ⟨I3, hI3⟩ : ∃ z : St, z = st I2 34 0 ((I2 34 0) + 1) := ⟨_, rfl⟩
    replace hP := wP (rE_34 hI3) hP; replace hD := wD (rE_34 hI3) hD; replace h := h _ hI3
    refine lv_iload_n hx hb dX8_crash_21 rfl (lv_at hl 1 rfl) ?_
    refine lv_if_ne (tgt := 30) hx hb dX8_crash_22 (by decide) (fun hc => ?_) (fun hc => ?_)
    · have h := h.1 hc
      refine lv_iload_n hx hb dX8_crash_30 rfl (lv_at hl 1 rfl) ?_
      refine lv_iconst (v := 1) hx hb dX8_crash_31 (by decide) ?_
      refine lv_icmp_ne (tgt := 55) hx hb dX8_crash_32 (by decide) (fun hc => ?_) (fun hc => ?_)
      · have h := h.1 hc
        refine lv_aload_n hx hb dX8_crash_55 rfl (lv_at hl 0 rfl) ?_
        refine va_calli (va_runV (As := []) (rest := []) ⟨hx, hb, hml, hown, hts⟩ (m_X8_crashTarget l dC dI cy ad A I3  hD h) (cwV 0 hts gX8_crash_X8_crashTarget rfl rfl rfl (by decide +kernel) ⟨Nat.le_of_ble_eq_true rfl, Nat.le_of_ble_eq_true rfl⟩) ⟨wPre.blind, va_recv hK hP (ci := 8) (q0 := 0) rfl rG_o, wPre.at hP hK hN hS hA⟩ rfl rfl hl.1 rfl (lv_room (Nat.le_of_ble_eq_true rfl)) dX8_crash_56 ⟨by first | exact Nat.le_of_ble_eq_true rfl | (show _ ≤ 0; omega), by first | exact Nat.le_of_ble_eq_true rfl | (show _ ≤ 0; omega)⟩) hS (fun q _ h => h) (fun q h => h) (fun r4 u t H locs ht hvm hw hB hz1 hk1 hS => ?_)
        obtain ⟨I5, rfl⟩ : ∃ z : St, z = u := ⟨_, rfl⟩
        obtain ⟨hP, hD⟩ := hB; rw [ht] at hP; replace h := hw; try dsimp only at h hP hD
        exact W.iret (v := r4) hx hb hr (fun t ht hW => hQ _ _ t r4 I5 h ⟨by rw [ht]; exact hP, hD⟩ (hS.F ht)) hS.2.2 dX8_crash_59
      · have h := h.2 hc
        refine lv_aload_n hx hb dX8_crash_35 rfl (lv_at hl 0 rfl) ?_
        refine va_get (D := (dC, dI)) (ci := 8) (v := .int (I3 12 0)) (C := RX8) (T := TX8) (N := 35) hx hb hts hinX8 hown hK hP 0 rG_o rfl 12 (by decide) (hts (.fieldLink RX8 125 "OutboxHouseModel" "position" "I") (by decide +kernel)) (fun _ h9 => h9) rfl dX8_crash_36 ?_
        refine lv_aload_n hx hb dX8_crash_39 rfl (lv_at hl 0 rfl) ?_
        refine va_get (D := (dC, dI)) (ci := 8) (v := .int (I3 13 0)) (C := RX8) (T := TX8) (N := 35) hx hb hts hinX8 hown hK hP 0 rG_o rfl 13 (by decide) (hts (.fieldLink RX8 128 "OutboxHouseModel" "mark" "I") (by decide +kernel)) (fun _ h9 => h9) rfl dX8_crash_40 ?_
        refine lv_isub hx hb dX8_crash_43 ?_
        refine lv_istore_n (lv' := [(2, .int ((I3 12 0) - (I3 13 0))), (0, .ref (ad 40)), (1, .int p1)]) hx hb dX8_crash_44 rfl hl (by decide) rfl (fun ls hl => ?_)
        refine lv_aload_n hx hb dX8_crash_45 rfl (lv_at hl 1 rfl) ?_
        refine lv_aload_n hx hb dX8_crash_46 rfl (lv_at hl 1 rfl) ?_
        refine va_get (D := (dC, dI)) (ci := 8) (v := .int (I3 13 0)) (C := RX8) (T := TX8) (N := 35) hx hb hts hinX8 hown hK hP 0 rG_o rfl 13 (by decide) (hts (.fieldLink RX8 128 "OutboxHouseModel" "mark" "I") (by decide +kernel)) (fun _ h9 => h9) rfl dX8_crash_47 ?_
        refine va_put (D := (dC, dI)) (ci := 8) (v := .int (I3 13 0)) (ty := .int) (C := RX8) (T := TX8) (N := 35) hx hb hts hinX8 tyX8 tyX8_ok nmX8 hown hK hP hD hS 0 rG_o rfl 12 (by decide) (hts (.fieldLink RX8 125 "OutboxHouseModel" "position" "I") (by decide +kernel)) (fun _ h9 => h9) rfl (by decide +kernel) rfl rfl (Nat.le_of_ble_eq_true rfl) dX8_crash_50 (fun H locs hP hD hS => ?_)
        obtain ⟨I6, hI6⟩ : ∃ z : St, z = st I3 12 0 (I3 13 0) := ⟨_, rfl⟩
        replace hP := wP (rE_12 hI6) hP; replace hD := wD (rE_12 hI6) hD; replace h := h _ hI6
        refine lv_iload_n hx hb dX8_crash_53 rfl (lv_at hl 0 rfl) ?_
        exact W.iret (v := (I3 12 0) - (I3 13 0)) hx hb hr (fun t ht hW => hQ _ _ t ((I3 12 0) - (I3 13 0)) I6 h ⟨by rw [ht]; exact hP, hD⟩ (hS.F ht)) hS.2.2 dX8_crash_54
    · have h := h.2 hc
      refine lv_aload_n hx hb dX8_crash_25 rfl (lv_at hl 0 rfl) ?_
      refine va_calli (va_runV (As := []) (rest := []) ⟨hx, hb, hml, hown, hts⟩ (m_X8_crashSource l dC dI cy ad A I3  hD h) (cwV 0 hts gX8_crash_X8_crashSource rfl rfl rfl (by decide +kernel) ⟨Nat.le_of_ble_eq_true rfl, Nat.le_of_ble_eq_true rfl⟩) ⟨wPre.blind, va_recv hK hP (ci := 8) (q0 := 0) rfl rG_o, wPre.at hP hK hN hS hA⟩ rfl rfl hl.1 rfl (lv_room (Nat.le_of_ble_eq_true rfl)) dX8_crash_26 ⟨by first | exact Nat.le_of_ble_eq_true rfl | (show _ ≤ 0; omega), by first | exact Nat.le_of_ble_eq_true rfl | (show _ ≤ 0; omega)⟩) hS (fun q _ h => h) (fun q h => h) (fun r7 u t H locs ht hvm hw hB hz1 hk1 hS => ?_)
      obtain ⟨I8, rfl⟩ : ∃ z : St, z = u := ⟨_, rfl⟩
      obtain ⟨hP, hD⟩ := hB; rw [ht] at hP; replace h := hw; try dsimp only at h hP hD
      exact W.iret (v := r7) hx hb hr (fun t ht hW => hQ _ _ t r7 I8 h ⟨by rw [ht]; exact hP, hD⟩ (hS.F ht)) hS.2.2 dX8_crash_29
  · have h := h.2 hc
    refine lv_iconst (v := (-1)) hx hb dX8_crash_9 (by decide) ?_
    exact W.iret (v := (-1)) hx hb hr (fun t ht hW => hQ _ _ t (-1) I2 h ⟨by rw [ht]; exact hP, hD⟩ (hS.F ht)) hS.2.2 dX8_crash_10
theorem m_X8_crash (l : Launch) (dC : Nat → ClassId) (dI : Nat → Nat → Nat) (cy : Nat → ClassId) (ad : Nat → Nat) (A : Nat → Prop) (I : St) (p1 : Int32) {post : Int32 → St → Prop} (hD : va_D A (rW ad cy I)) (h : wp_X8_crash I p1 post) : Met l yX8_crash wsX8_crash rmX8_crash (va_Pc [.ref (ad 40), .int p1] (wPre (dC, dI) cy A (rW ad cy I))) (va_Qi (fun r (u : St) => post r u) (fun (u : St) t => wPost (dC, dI) A (rW ad cy u) t) A) 0 0 A := g_X8_crash l dC dI cy ad A I p1 hD h (fun a s0 t r I' h1 h2 h3 => ⟨⟨r, I', rfl, h1, h2⟩, h3⟩)
abbrev rmX8_key : Room := { frames := 2, cells := 0, slots := 0, locals := 42 }
set_option maxHeartbeats 4000000 in
set_option maxRecDepth 100000 in
theorem g_X8_key (l : Launch) (dC : Nat → ClassId) (dI : Nat → Nat → Nat) (cy : Nat → ClassId) (ad : Nat → Nat) (A : Nat → Prop) (I : St) (p1 : Int32) (p2 : Int32) {post : Int32 → St → Prop} (hD : va_D A (rW ad cy I)) (h : wp_X8_key I p1 p2 post) {Qc : Array Value → State → Outcome → State → Prop} (hQ : ∀ (a : Array Value) (s0 t : State) (r : Int32) (I' : St), post r I' → wPost (dC, dI) A (rW ad cy I') t → va_F A s0 t → Qc a s0 (.returned (some (.int r))) t) : Met l yX8_key wsX8_key rmX8_key (va_Pc [.ref (ad 40), .int p1, .int p2] (wPre (dC, dI) cy A (rW ad cy I))) Qc 0 0 A := by
  refine Met.ofW (cc := cX8_key) (maxL := 3) (ret := (some .int)) (by decide) rfl ?_
  intro p e s m args below meth c s₁ B hml hv
  obtain ⟨rfl, hP, hK, hN, hA⟩ := hv
  have hx := B.exec
  have hb := B.bytes
  have hr := B.returns
  have hts := atoms_spec (ws := wsX8_key) B.pre
  have hown : s.vm.findClass RX8 = some m.cls := findClass_of_methodNamed B.named
  have hlocks := B.notSynchronized
  have hinX8 : ∀ w ∈ wsX80, w ∈ wsX8_key := fun _ h9 => List.mem_cons_of_mem _ (List.mem_append_right _ h9)
  have hS : va_S A s.heap s.heap [] := va_S.rf
  unfold wp_X8_key at h
  have hl := lv_entry ([.ref (ad 40), .int p1, .int p2]) (n := 3) (Nat.le_of_ble_eq_true rfl)
  rw [lg_entry_eq]
  generalize (lg_sl ([.ref (ad 40), .int p1, .int p2]) ++ List.replicate (3 - (lg_sl ([.ref (ad 40), .int p1, .int p2])).length) Slot.unset).toArray = ls at hl ⊢
  have hl : lv_has ls 3 [(0, .ref (ad 40)), (1, .int p1), (2, .int p2)] := hl
  refine lv_iload_n hx hb dX8_key_0 rfl (lv_at hl 1 rfl) ?_
  refine va_calli (va_runS (As := [.int p1]) (rest := []) ⟨hx, hb, hml, hown, hts⟩ (m_X8_isKey l dC dI cy ad A I p1 hD h) (va_cwS 1 hts gX8_key_X8_isKey rfl rfl rfl (by decide +kernel) ⟨Nat.le_of_ble_eq_true rfl, Nat.le_of_ble_eq_true rfl⟩) ⟨wPre.blind, wPre.at hP hK hN hS hA⟩ rfl rfl hl.1 rfl (lv_room (Nat.le_of_ble_eq_true rfl)) dX8_key_1 ⟨by first | exact Nat.le_of_ble_eq_true rfl | (show _ ≤ 0; omega), by first | exact Nat.le_of_ble_eq_true rfl | (show _ ≤ 0; omega)⟩) hS (fun q _ h => h) (fun q h => h) (fun r1 u t H locs ht hvm hw hB hz1 hk1 hS => ?_)
  obtain ⟨I2, rfl⟩ : ∃ z : St, z = u := ⟨_, rfl⟩
  obtain ⟨hP, hD⟩ := hB; rw [ht] at hP; replace h := hw; try dsimp only at h hP hD
  refine lv_if_ne (tgt := 9) hx hb dX8_key_4 (by decide) (fun hc => ?_) (fun hc => ?_)
  · have h := h.1 hc
    refine lv_iload_n hx hb dX8_key_9 rfl (lv_at hl 2 rfl) ?_
    by_cases e0 : p2 = 0
    · have h := h.1 e0
      refine lv_tableIn (off := 42) (tgt := 52) hx hb dX8_key_10 (by rw [e0]; decide) (by rw [e0]; decide) (by rw [e0]; rfl) (by decide) ?_
      refine lv_aload_n hx hb dX8_key_52 rfl (lv_at hl 0 rfl) ?_
      refine va_get (D := (dC, dI)) (ci := 8) (v := .ref (ad 3)) (C := RX8) (T := TX8) (N := 35) hx hb hts hinX8 hown hK hP 0 rG_o rfl 3 (by decide) (hts (.fieldLink RX8 20 "OutboxHouseModel" "value" "[I") (by decide +kernel)) (fun _ h9 => h9) rfl dX8_key_53 ?_
      refine lv_iload_n hx hb dX8_key_56 rfl (lv_at hl 1 rfl) ?_
      have hv := h.1; replace h := h.2
      refine va_iald hx hb hK hP 4 0 rG_3 rfl hv dX8_key_57 ?_
      exact W.iret (v := I2 3 p1.toNatClampNeg) hx hb hr (fun t ht hW => hQ _ _ t (I2 3 p1.toNatClampNeg) I2 h ⟨by rw [ht]; exact hP, hD⟩ (hS.F ht)) hS.2.2 dX8_key_58
    replace h := h.2
    by_cases e1 : p2 = 1
    · have h := h.1 e1
      refine lv_tableIn (off := 49) (tgt := 59) hx hb dX8_key_10 (by rw [e1]; decide) (by rw [e1]; decide) (by rw [e1]; rfl) (by decide) ?_
      refine lv_aload_n hx hb dX8_key_59 rfl (lv_at hl 0 rfl) ?_
      refine va_get (D := (dC, dI)) (ci := 8) (v := .ref (ad 4)) (C := RX8) (T := TX8) (N := 35) hx hb hts hinX8 hown hK hP 0 rG_o rfl 4 (by decide) (hts (.fieldLink RX8 23 "OutboxHouseModel" "counts" "[I") (by decide +kernel)) (fun _ h9 => h9) rfl dX8_key_60 ?_
      refine lv_iload_n hx hb dX8_key_63 rfl (lv_at hl 1 rfl) ?_
      have hv := h.1; replace h := h.2
      refine va_iald hx hb hK hP 5 0 rG_4 rfl hv dX8_key_64 ?_
      exact W.iret (v := I2 4 p1.toNatClampNeg) hx hb hr (fun t ht hW => hQ _ _ t (I2 4 p1.toNatClampNeg) I2 h ⟨by rw [ht]; exact hP, hD⟩ (hS.F ht)) hS.2.2 dX8_key_65
    replace h := h.2
    by_cases e2 : p2 = 2
    · have h := h.1 e2
      refine lv_tableIn (off := 56) (tgt := 66) hx hb dX8_key_10 (by rw [e2]; decide) (by rw [e2]; decide) (by rw [e2]; rfl) (by decide) ?_
      refine lv_aload_n hx hb dX8_key_66 rfl (lv_at hl 0 rfl) ?_
      refine lv_iload_n hx hb dX8_key_67 rfl (lv_at hl 1 rfl) ?_
      refine va_calli (va_runV (As := [.int p1]) (rest := []) ⟨hx, hb, hml, hown, hts⟩ (m_X8_isUnderWay l dC dI cy ad A I2 p1 hD h) (cwV 1 hts gX8_key_X8_isUnderWay rfl rfl rfl (by decide +kernel) ⟨Nat.le_of_ble_eq_true rfl, Nat.le_of_ble_eq_true rfl⟩) ⟨wPre.blind, va_recv hK hP (ci := 8) (q0 := 0) rfl rG_o, wPre.at hP hK hN hS hA⟩ rfl rfl hl.1 rfl (lv_room (Nat.le_of_ble_eq_true rfl)) dX8_key_68 ⟨by first | exact Nat.le_of_ble_eq_true rfl | (show _ ≤ 0; omega), by first | exact Nat.le_of_ble_eq_true rfl | (show _ ≤ 0; omega)⟩) hS (fun q _ h => h) (fun q h => h) (fun r3 u t H locs ht hvm hw hB hz1 hk1 hS => ?_)
      obtain ⟨I4, rfl⟩ : ∃ z : St, z = u := ⟨_, rfl⟩
      obtain ⟨hP, hD⟩ := hB; rw [ht] at hP; replace h := hw; try dsimp only at h hP hD
      refine lv_if_eq (tgt := 78) hx hb dX8_key_71 (by decide) (fun hc => ?_) (fun hc => ?_)
      · have h := h.1 hc
        refine lv_aload_n hx hb dX8_key_78 rfl (lv_at hl 0 rfl) ?_
        refine lv_iload_n hx hb dX8_key_79 rfl (lv_at hl 1 rfl) ?_
        refine va_calli (va_runV (As := [.int p1]) (rest := []) ⟨hx, hb, hml, hown, hts⟩ (m_X8_writer l dC dI cy ad A I4 p1 hD h) (cwV 1 hts gX8_key_X8_writer rfl rfl rfl (by decide +kernel) ⟨Nat.le_of_ble_eq_true rfl, Nat.le_of_ble_eq_true rfl⟩) ⟨wPre.blind, va_recv hK hP (ci := 8) (q0 := 0) rfl rG_o, wPre.at hP hK hN hS hA⟩ rfl rfl hl.1 rfl (lv_room (Nat.le_of_ble_eq_true rfl)) dX8_key_80 ⟨by first | exact Nat.le_of_ble_eq_true rfl | (show _ ≤ 0; omega), by first | exact Nat.le_of_ble_eq_true rfl | (show _ ≤ 0; omega)⟩) hS (fun q _ h => h) (fun q h => h) (fun r5 u t H locs ht hvm hw hB hz1 hk1 hS => ?_)
        obtain ⟨I6, rfl⟩ : ∃ z : St, z = u := ⟨_, rfl⟩
        obtain ⟨hP, hD⟩ := hB; rw [ht] at hP; replace h := hw; try dsimp only at h hP hD
        refine lv_if_lt (tgt := 90) hx hb dX8_key_83 (by decide) (fun hc => ?_) (fun hc => ?_)
        · have h := h.1 hc
          refine lv_iconst (v := 0) hx hb dX8_key_90 (by decide) ?_
          exact W.iret (v := 0) hx hb hr (fun t ht hW => hQ _ _ t 0 I6 h ⟨by rw [ht]; exact hP, hD⟩ (hS.F ht)) hS.2.2 dX8_key_91
        · have h := h.2 hc
          refine lv_iconst (v := 1) hx hb dX8_key_86 (by decide) ?_
          refine lv_goto (tgt := 91) hx hb dX8_key_87 (by decide) ?_
          exact W.iret (v := 1) hx hb hr (fun t ht hW => hQ _ _ t 1 I6 h ⟨by rw [ht]; exact hP, hD⟩ (hS.F ht)) hS.2.2 dX8_key_91
      · have h := h.2 hc
        refine lv_iconst (v := 2) hx hb dX8_key_74 (by decide) ?_
        refine lv_goto (tgt := 91) hx hb dX8_key_75 (by decide) ?_
        exact W.iret (v := 2) hx hb hr (fun t ht hW => hQ _ _ t 2 I4 h ⟨by rw [ht]; exact hP, hD⟩ (hS.F ht)) hS.2.2 dX8_key_91
    replace h := h.2
    by_cases e3 : p2 = 3
    · have h := h.1 e3
      refine lv_tableIn (off := 82) (tgt := 92) hx hb dX8_key_10 (by rw [e3]; decide) (by rw [e3]; decide) (by rw [e3]; rfl) (by decide) ?_
      refine lv_aload_n hx hb dX8_key_92 rfl (lv_at hl 0 rfl) ?_
      refine va_get (D := (dC, dI)) (ci := 8) (v := .ref (ad 19)) (C := RX8) (T := TX8) (N := 35) hx hb hts hinX8 hown hK hP 0 rG_o rfl 19 (by decide) (hts (.fieldLink RX8 53 "OutboxHouseModel" "valueNow" "[I") (by decide +kernel)) (fun _ h9 => h9) rfl dX8_key_93 ?_
      refine lv_iload_n hx hb dX8_key_96 rfl (lv_at hl 1 rfl) ?_
      have hv := h.1; replace h := h.2
      refine va_iald hx hb hK hP 15 0 rG_19 rfl hv dX8_key_97 ?_
      exact W.iret (v := I2 19 p1.toNatClampNeg) hx hb hr (fun t ht hW => hQ _ _ t (I2 19 p1.toNatClampNeg) I2 h ⟨by rw [ht]; exact hP, hD⟩ (hS.F ht)) hS.2.2 dX8_key_98
    replace h := h.2
    by_cases e4 : p2 = 4
    · have h := h.1 e4
      refine lv_tableIn (off := 89) (tgt := 99) hx hb dX8_key_10 (by rw [e4]; decide) (by rw [e4]; decide) (by rw [e4]; rfl) (by decide) ?_
      refine lv_aload_n hx hb dX8_key_99 rfl (lv_at hl 0 rfl) ?_
      refine va_get (D := (dC, dI)) (ci := 8) (v := .ref (ad 20)) (C := RX8) (T := TX8) (N := 35) hx hb hts hinX8 hown hK hP 0 rG_o rfl 20 (by decide) (hts (.fieldLink RX8 56 "OutboxHouseModel" "doneNow" "[I") (by decide +kernel)) (fun _ h9 => h9) rfl dX8_key_100 ?_
      refine lv_iload_n hx hb dX8_key_103 rfl (lv_at hl 1 rfl) ?_
      have hv := h.1; replace h := h.2
      refine va_iald hx hb hK hP 16 0 rG_20 rfl hv dX8_key_104 ?_
      exact W.iret (v := I2 20 p1.toNatClampNeg) hx hb hr (fun t ht hW => hQ _ _ t (I2 20 p1.toNatClampNeg) I2 h ⟨by rw [ht]; exact hP, hD⟩ (hS.F ht)) hS.2.2 dX8_key_105
    replace h := h.2
    by_cases e5 : p2 = 5
    · have h := h.1 e5
      refine lv_tableIn (off := 96) (tgt := 106) hx hb dX8_key_10 (by rw [e5]; decide) (by rw [e5]; decide) (by rw [e5]; rfl) (by decide) ?_
      refine lv_aload_n hx hb dX8_key_106 rfl (lv_at hl 0 rfl) ?_
      refine va_get (D := (dC, dI)) (ci := 8) (v := .ref (ad 22)) (C := RX8) (T := TX8) (N := 35) hx hb hts hinX8 hown hK hP 0 rG_o rfl 22 (by decide) (hts (.fieldLink RX8 62 "OutboxHouseModel" "valueDisk" "[I") (by decide +kernel)) (fun _ h9 => h9) rfl dX8_key_107 ?_
      refine lv_iload_n hx hb dX8_key_110 rfl (lv_at hl 1 rfl) ?_
      have hv := h.1; replace h := h.2
      refine va_iald hx hb hK hP 18 0 rG_22 rfl hv dX8_key_111 ?_
      exact W.iret (v := I2 22 p1.toNatClampNeg) hx hb hr (fun t ht hW => hQ _ _ t (I2 22 p1.toNatClampNeg) I2 h ⟨by rw [ht]; exact hP, hD⟩ (hS.F ht)) hS.2.2 dX8_key_112
    replace h := h.2
    by_cases e6 : p2 = 6
    · have h := h.1 e6
      refine lv_tableIn (off := 103) (tgt := 113) hx hb dX8_key_10 (by rw [e6]; decide) (by rw [e6]; decide) (by rw [e6]; rfl) (by decide) ?_
      refine lv_aload_n hx hb dX8_key_113 rfl (lv_at hl 0 rfl) ?_
      refine va_get (D := (dC, dI)) (ci := 8) (v := .ref (ad 23)) (C := RX8) (T := TX8) (N := 35) hx hb hts hinX8 hown hK hP 0 rG_o rfl 23 (by decide) (hts (.fieldLink RX8 65 "OutboxHouseModel" "doneDisk" "[I") (by decide +kernel)) (fun _ h9 => h9) rfl dX8_key_114 ?_
      refine lv_iload_n hx hb dX8_key_117 rfl (lv_at hl 1 rfl) ?_
      have hv := h.1; replace h := h.2
      refine va_iald hx hb hK hP 19 0 rG_23 rfl hv dX8_key_118 ?_
      exact W.iret (v := I2 23 p1.toNatClampNeg) hx hb hr (fun t ht hW => hQ _ _ t (I2 23 p1.toNatClampNeg) I2 h ⟨by rw [ht]; exact hP, hD⟩ (hS.F ht)) hS.2.2 dX8_key_119
    replace h := h.2
    have h := h ⟨e0, e1, e2, e3, e4, e5, e6⟩
    refine lv_tableOut (tgt := 120) hx hb dX8_key_10 (by have z0 := lv_neT e0 (a := 0) (by decide); have z1 := lv_neT e1 (a := 1) (by decide); have z2 := lv_neT e2 (a := 2) (by decide); have z3 := lv_neT e3 (a := 3) (by decide); have z4 := lv_neT e4 (a := 4) (by decide); have z5 := lv_neT e5 (a := 5) (by decide); have z6 := lv_neT e6 (a := 6) (by decide); omega) (by decide) ?_
    refine lv_iconst (v := 0) hx hb dX8_key_120 (by decide) ?_
    exact W.iret (v := 0) hx hb hr (fun t ht hW => hQ _ _ t 0 I2 h ⟨by rw [ht]; exact hP, hD⟩ (hS.F ht)) hS.2.2 dX8_key_121
  · have h := h.2 hc
    refine lv_iconst (v := 0) hx hb dX8_key_7 (by decide) ?_
    exact W.iret (v := 0) hx hb hr (fun t ht hW => hQ _ _ t 0 I2 h ⟨by rw [ht]; exact hP, hD⟩ (hS.F ht)) hS.2.2 dX8_key_8
theorem m_X8_key (l : Launch) (dC : Nat → ClassId) (dI : Nat → Nat → Nat) (cy : Nat → ClassId) (ad : Nat → Nat) (A : Nat → Prop) (I : St) (p1 : Int32) (p2 : Int32) {post : Int32 → St → Prop} (hD : va_D A (rW ad cy I)) (h : wp_X8_key I p1 p2 post) : Met l yX8_key wsX8_key rmX8_key (va_Pc [.ref (ad 40), .int p1, .int p2] (wPre (dC, dI) cy A (rW ad cy I))) (va_Qi (fun r (u : St) => post r u) (fun (u : St) t => wPost (dC, dI) A (rW ad cy u) t) A) 0 0 A := g_X8_key l dC dI cy ad A I p1 p2 hD h (fun a s0 t r I' h1 h2 h3 => ⟨⟨r, I', rfl, h1, h2⟩, h3⟩)
abbrev rmX8_log : Room := { frames := 1, cells := 0, slots := 0, locals := 22 }
set_option maxHeartbeats 4000000 in
set_option maxRecDepth 100000 in
theorem g_X8_log (l : Launch) (dC : Nat → ClassId) (dI : Nat → Nat → Nat) (cy : Nat → ClassId) (ad : Nat → Nat) (A : Nat → Prop) (I : St) (p1 : Int32) (p2 : Int32) {post : Int32 → St → Prop} (hD : va_D A (rW ad cy I)) (h : wp_X8_log I p1 p2 post) {Qc : Array Value → State → Outcome → State → Prop} (hQ : ∀ (a : Array Value) (s0 t : State) (r : Int32) (I' : St), post r I' → wPost (dC, dI) A (rW ad cy I') t → va_F A s0 t → Qc a s0 (.returned (some (.int r))) t) : Met l yX8_log wsX8_log rmX8_log (va_Pc [.ref (ad 40), .int p1, .int p2] (wPre (dC, dI) cy A (rW ad cy I))) Qc 0 0 A := by
  refine Met.ofW (cc := cX8_log) (maxL := 3) (ret := (some .int)) (by decide) rfl ?_
  intro p e s m args below meth c s₁ B hml hv
  obtain ⟨rfl, hP, hK, hN, hA⟩ := hv
  have hx := B.exec
  have hb := B.bytes
  have hr := B.returns
  have hts := atoms_spec (ws := wsX8_log) B.pre
  have hown : s.vm.findClass RX8 = some m.cls := findClass_of_methodNamed B.named
  have hlocks := B.notSynchronized
  have hinX8 : ∀ w ∈ wsX80, w ∈ wsX8_log := fun _ h9 => List.mem_cons_of_mem _ (List.mem_append_right _ h9)
  have hS : va_S A s.heap s.heap [] := va_S.rf
  unfold wp_X8_log at h
  have hl := lv_entry ([.ref (ad 40), .int p1, .int p2]) (n := 3) (Nat.le_of_ble_eq_true rfl)
  rw [lg_entry_eq]
  generalize (lg_sl ([.ref (ad 40), .int p1, .int p2]) ++ List.replicate (3 - (lg_sl ([.ref (ad 40), .int p1, .int p2])).length) Slot.unset).toArray = ls at hl ⊢
  have hl : lv_has ls 3 [(0, .ref (ad 40)), (1, .int p1), (2, .int p2)] := hl
  refine lv_iload_n hx hb dX8_log_0 rfl (lv_at hl 2 rfl) ?_
  refine lv_iconst (v := 0) hx hb dX8_log_1 (by decide) ?_
  refine lv_iconst (v := 4) hx hb dX8_log_2 (by decide) ?_
  refine va_calli (va_runS (As := [.int p2, .int 0, .int 4]) (rest := []) ⟨hx, hb, hml, hown, hts⟩ (m_X8_in l dC dI cy ad A I p2 0 4 hD h) (va_cwS 3 hts gX8_log_X8_in rfl rfl rfl (by decide +kernel) ⟨Nat.le_of_ble_eq_true rfl, Nat.le_of_ble_eq_true rfl⟩) ⟨wPre.blind, wPre.at hP hK hN hS hA⟩ rfl rfl hl.1 rfl (lv_room (Nat.le_of_ble_eq_true rfl)) dX8_log_3 ⟨by first | exact Nat.le_of_ble_eq_true rfl | (show _ ≤ 0; omega), by first | exact Nat.le_of_ble_eq_true rfl | (show _ ≤ 0; omega)⟩) hS (fun q _ h => h) (fun q h => h) (fun r1 u t H locs ht hvm hw hB hz1 hk1 hS => ?_)
  obtain ⟨I2, rfl⟩ : ∃ z : St, z = u := ⟨_, rfl⟩
  obtain ⟨hP, hD⟩ := hB; rw [ht] at hP; replace h := hw; try dsimp only at h hP hD
  refine lv_if_ne (tgt := 11) hx hb dX8_log_6 (by decide) (fun hc => ?_) (fun hc => ?_)
  · have h := h.1 hc
    refine lv_iload_n hx hb dX8_log_11 rfl (lv_at hl 1 rfl) ?_
    refine lv_aload_n hx hb dX8_log_12 rfl (lv_at hl 0 rfl) ?_
    refine va_get (D := (dC, dI)) (ci := 8) (v := .int (I2 7 0)) (C := RX8) (T := TX8) (N := 35) hx hb hts hinX8 hown hK hP 0 rG_o rfl 7 (by decide) (hts (.fieldLink RX8 134 "OutboxHouseModel" "first" "I") (by decide +kernel)) (fun _ h9 => h9) rfl dX8_log_13 ?_
    refine lv_aload_n hx hb dX8_log_16 rfl (lv_at hl 0 rfl) ?_
    refine va_get (D := (dC, dI)) (ci := 8) (v := .int (I2 5 0)) (C := RX8) (T := TX8) (N := 35) hx hb hts hinX8 hown hK hP 0 rG_o rfl 5 (by decide) (hts (.fieldLink RX8 83 "OutboxHouseModel" "end" "I") (by decide +kernel)) (fun _ h9 => h9) rfl dX8_log_17 ?_
    refine lv_iconst (v := 1) hx hb dX8_log_20 (by decide) ?_
    refine lv_isub hx hb dX8_log_21 ?_
    refine va_calli (va_runS (As := [.int p1, .int (I2 7 0), .int ((I2 5 0) - 1)]) (rest := []) ⟨hx, hb, hml, hown, hts⟩ (m_X8_in l dC dI cy ad A I2 p1 (I2 7 0) ((I2 5 0) - 1) hD h) (va_cwS 3 hts gX8_log_X8_in rfl rfl rfl (by decide +kernel) ⟨Nat.le_of_ble_eq_true rfl, Nat.le_of_ble_eq_true rfl⟩) ⟨wPre.blind, wPre.at hP hK hN hS hA⟩ rfl rfl hl.1 rfl (lv_room (Nat.le_of_ble_eq_true rfl)) dX8_log_22 ⟨by first | exact Nat.le_of_ble_eq_true rfl | (show _ ≤ 0; omega), by first | exact Nat.le_of_ble_eq_true rfl | (show _ ≤ 0; omega)⟩) hS (fun q _ h => h) (fun q h => h) (fun r3 u t H locs ht hvm hw hB hz1 hk1 hS => ?_)
    obtain ⟨I4, rfl⟩ : ∃ z : St, z = u := ⟨_, rfl⟩
    obtain ⟨hP, hD⟩ := hB; rw [ht] at hP; replace h := hw; try dsimp only at h hP hD
    refine lv_if_ne (tgt := 31) hx hb dX8_log_25 (by decide) (fun hc => ?_) (fun hc => ?_)
    · have h := h.1 hc
      refine lv_iload_n hx hb dX8_log_31 rfl (lv_at hl 2 rfl) ?_
      by_cases e0 : p2 = 0
      · have h := h.1 e0
        refine lv_tableIn (off := 32) (tgt := 64) hx hb dX8_log_32 (by rw [e0]; decide) (by rw [e0]; decide) (by rw [e0]; rfl) (by decide) ?_
        refine lv_aload_n hx hb dX8_log_64 rfl (lv_at hl 0 rfl) ?_
        refine va_get (D := (dC, dI)) (ci := 8) (v := .ref (ad 8)) (C := RX8) (T := TX8) (N := 35) hx hb hts hinX8 hown hK hP 0 rG_o rfl 8 (by decide) (hts (.fieldLink RX8 26 "OutboxHouseModel" "logKey" "[I") (by decide +kernel)) (fun _ h9 => h9) rfl dX8_log_65 ?_
        refine lv_iload_n hx hb dX8_log_68 rfl (lv_at hl 1 rfl) ?_
        have hv := h.1; replace h := h.2
        refine va_iald hx hb hK hP 6 0 rG_8 rfl hv dX8_log_69 ?_
        exact W.iret (v := I4 8 p1.toNatClampNeg) hx hb hr (fun t ht hW => hQ _ _ t (I4 8 p1.toNatClampNeg) I4 h ⟨by rw [ht]; exact hP, hD⟩ (hS.F ht)) hS.2.2 dX8_log_70
      replace h := h.2
      by_cases e1 : p2 = 1
      · have h := h.1 e1
        refine lv_tableIn (off := 39) (tgt := 71) hx hb dX8_log_32 (by rw [e1]; decide) (by rw [e1]; decide) (by rw [e1]; rfl) (by decide) ?_
        refine lv_aload_n hx hb dX8_log_71 rfl (lv_at hl 0 rfl) ?_
        refine va_get (D := (dC, dI)) (ci := 8) (v := .ref (ad 9)) (C := RX8) (T := TX8) (N := 35) hx hb hts hinX8 hown hK hP 0 rG_o rfl 9 (by decide) (hts (.fieldLink RX8 29 "OutboxHouseModel" "logValue" "[I") (by decide +kernel)) (fun _ h9 => h9) rfl dX8_log_72 ?_
        refine lv_iload_n hx hb dX8_log_75 rfl (lv_at hl 1 rfl) ?_
        have hv := h.1; replace h := h.2
        refine va_iald hx hb hK hP 7 0 rG_9 rfl hv dX8_log_76 ?_
        exact W.iret (v := I4 9 p1.toNatClampNeg) hx hb hr (fun t ht hW => hQ _ _ t (I4 9 p1.toNatClampNeg) I4 h ⟨by rw [ht]; exact hP, hD⟩ (hS.F ht)) hS.2.2 dX8_log_77
      replace h := h.2
      by_cases e2 : p2 = 2
      · have h := h.1 e2
        refine lv_tableIn (off := 46) (tgt := 78) hx hb dX8_log_32 (by rw [e2]; decide) (by rw [e2]; decide) (by rw [e2]; rfl) (by decide) ?_
        refine lv_aload_n hx hb dX8_log_78 rfl (lv_at hl 0 rfl) ?_
        refine va_get (D := (dC, dI)) (ci := 8) (v := .ref (ad 10)) (C := RX8) (T := TX8) (N := 35) hx hb hts hinX8 hown hK hP 0 rG_o rfl 10 (by decide) (hts (.fieldLink RX8 32 "OutboxHouseModel" "logOrder" "[I") (by decide +kernel)) (fun _ h9 => h9) rfl dX8_log_79 ?_
        refine lv_iload_n hx hb dX8_log_82 rfl (lv_at hl 1 rfl) ?_
        have hv := h.1; replace h := h.2
        refine va_iald hx hb hK hP 8 0 rG_10 rfl hv dX8_log_83 ?_
        exact W.iret (v := I4 10 p1.toNatClampNeg) hx hb hr (fun t ht hW => hQ _ _ t (I4 10 p1.toNatClampNeg) I4 h ⟨by rw [ht]; exact hP, hD⟩ (hS.F ht)) hS.2.2 dX8_log_84
      replace h := h.2
      by_cases e3 : p2 = 3
      · have h := h.1 e3
        refine lv_tableIn (off := 53) (tgt := 85) hx hb dX8_log_32 (by rw [e3]; decide) (by rw [e3]; decide) (by rw [e3]; rfl) (by decide) ?_
        refine lv_iload_n hx hb dX8_log_85 rfl (lv_at hl 1 rfl) ?_
        refine lv_aload_n hx hb dX8_log_86 rfl (lv_at hl 0 rfl) ?_
        refine va_get (D := (dC, dI)) (ci := 8) (v := .int (I4 6 0)) (C := RX8) (T := TX8) (N := 35) hx hb hts hinX8 hown hK hP 0 rG_o rfl 6 (by decide) (hts (.fieldLink RX8 95 "OutboxHouseModel" "flushed" "I") (by decide +kernel)) (fun _ h9 => h9) rfl dX8_log_87 ?_
        refine lv_icmp_ge (tgt := 97) hx hb dX8_log_90 (by decide) (fun hc => ?_) (fun hc => ?_)
        · have h := h.1 hc
          refine lv_iconst (v := 0) hx hb dX8_log_97 (by decide) ?_
          exact W.iret (v := 0) hx hb hr (fun t ht hW => hQ _ _ t 0 I4 h ⟨by rw [ht]; exact hP, hD⟩ (hS.F ht)) hS.2.2 dX8_log_98
        · have h := h.2 hc
          refine lv_iconst (v := 1) hx hb dX8_log_93 (by decide) ?_
          refine lv_goto (tgt := 98) hx hb dX8_log_94 (by decide) ?_
          exact W.iret (v := 1) hx hb hr (fun t ht hW => hQ _ _ t 1 I4 h ⟨by rw [ht]; exact hP, hD⟩ (hS.F ht)) hS.2.2 dX8_log_98
      replace h := h.2
      have h := h ⟨e0, e1, e2, e3⟩
      refine lv_tableOut (tgt := 99) hx hb dX8_log_32 (by have z0 := lv_neT e0 (a := 0) (by decide); have z1 := lv_neT e1 (a := 1) (by decide); have z2 := lv_neT e2 (a := 2) (by decide); have z3 := lv_neT e3 (a := 3) (by decide); omega) (by decide) ?_
      refine lv_aload_n hx hb dX8_log_99 rfl (lv_at hl 0 rfl) ?_
      refine va_get (D := (dC, dI)) (ci := 8) (v := .ref (ad 11)) (C := RX8) (T := TX8) (N := 35) hx hb hts hinX8 hown hK hP 0 rG_o rfl 11 (by decide) (hts (.fieldLink RX8 35 "OutboxHouseModel" "isLast" "[Z") (by decide +kernel)) (fun _ h9 => h9) rfl dX8_log_100 ?_
      refine lv_iload_n hx hb dX8_log_103 rfl (lv_at hl 1 rfl) ?_
      have hv := h.1; replace h := h.2
      refine va_zald hx hb hK hP 9 1 rG_11 rfl hv dX8_log_104 ?_
      refine lv_if_eq (tgt := 112) hx hb dX8_log_105 (by decide) (fun hc => ?_) (fun hc => ?_)
      · have h := h.1 hc
        refine lv_iconst (v := 0) hx hb dX8_log_112 (by decide) ?_
        exact W.iret (v := 0) hx hb hr (fun t ht hW => hQ _ _ t 0 I4 h ⟨by rw [ht]; exact hP, hD⟩ (hS.F ht)) hS.2.2 dX8_log_113
      · have h := h.2 hc
        refine lv_iconst (v := 1) hx hb dX8_log_108 (by decide) ?_
        refine lv_goto (tgt := 113) hx hb dX8_log_109 (by decide) ?_
        exact W.iret (v := 1) hx hb hr (fun t ht hW => hQ _ _ t 1 I4 h ⟨by rw [ht]; exact hP, hD⟩ (hS.F ht)) hS.2.2 dX8_log_113
    · have h := h.2 hc
      refine lv_bipush (v := (-9)) hx hb dX8_log_28 (by decide) ?_
      exact W.iret (v := (-9)) hx hb hr (fun t ht hW => hQ _ _ t (-9) I4 h ⟨by rw [ht]; exact hP, hD⟩ (hS.F ht)) hS.2.2 dX8_log_30
  · have h := h.2 hc
    refine lv_iconst (v := (-1)) hx hb dX8_log_9 (by decide) ?_
    exact W.iret (v := (-1)) hx hb hr (fun t ht hW => hQ _ _ t (-1) I2 h ⟨by rw [ht]; exact hP, hD⟩ (hS.F ht)) hS.2.2 dX8_log_10
theorem m_X8_log (l : Launch) (dC : Nat → ClassId) (dI : Nat → Nat → Nat) (cy : Nat → ClassId) (ad : Nat → Nat) (A : Nat → Prop) (I : St) (p1 : Int32) (p2 : Int32) {post : Int32 → St → Prop} (hD : va_D A (rW ad cy I)) (h : wp_X8_log I p1 p2 post) : Met l yX8_log wsX8_log rmX8_log (va_Pc [.ref (ad 40), .int p1, .int p2] (wPre (dC, dI) cy A (rW ad cy I))) (va_Qi (fun r (u : St) => post r u) (fun (u : St) t => wPost (dC, dI) A (rW ad cy u) t) A) 0 0 A := g_X8_log l dC dI cy ad A I p1 p2 hD h (fun a s0 t r I' h1 h2 h3 => ⟨⟨r, I', rfl, h1, h2⟩, h3⟩)
