abbrev rmX6_become : Room := { frames := 0, cells := 0, slots := 0, locals := 0 }
set_option maxHeartbeats 4000000 in
set_option maxRecDepth 100000 in
theorem g_X6_become (l : Launch) (dC : Nat → ClassId) (dI : Nat → Nat → Nat) (cy : Nat → ClassId) (ad : Nat → Nat) (A : Nat → Prop) (I : St) (J : Rf) (LP : List Nat) (P : St) (j : Nat) (h_j : 20 ≤ j ∧ j ≤ 21) (j2 : Nat) (h_j2 : 20 ≤ j2 ∧ j2 ≤ 21) {post : Int32 → St → Rf → List Nat → St → Prop} (hD : va_D A (cW ad cy I J LP P)) (h : wp_X6_become I J LP P j j2 post) {Qc : Array Value → State → Outcome → State → Prop} (hQ : ∀ (a : Array Value) (s0 t : State) (r : Int32) (I' : St) (J' : Rf) (LP' : List Nat) (P' : St), post r I' J' LP' P' → wPost (dC, dI) A (cW ad cy I' J' LP' P') t → va_F A s0 t → Qc a s0 (.returned (some (.int r))) t) : Met l yX6_become wsX6_become rmX6_become (va_Pc [.ref (ad j), .ref (ad j2)] (wPre (dC, dI) cy A (cW ad cy I J LP P))) Qc 0 0 A := by
  refine Met.ofW (cc := cX6_become) (maxL := 4) (ret := (some .int)) (by decide) rfl ?_
  intro p e s m args below meth c s₁ B hml hv
  obtain ⟨rfl, hP, hK, hN, hA⟩ := hv
  have hx := B.exec
  have hb := B.bytes
  have hr := B.returns
  have hts := atoms_spec (ws := wsX6_become) B.pre
  have hown : s.vm.findClass RX6 = some m.cls := findClass_of_methodNamed B.named
  have hlocks := B.notSynchronized
  have hinX6 : ∀ w ∈ wsX60, w ∈ wsX6_become := fun _ h9 => List.mem_cons_of_mem _ (List.mem_append_right _ h9)
  have hS : va_S A s.heap s.heap [] := va_S.rf
  unfold wp_X6_become at h
  have hl := lv_entry ([.ref (ad j), .ref (ad j2)]) (n := 4) (Nat.le_of_ble_eq_true rfl)
  rw [lg_entry_eq]
  generalize (lg_sl ([.ref (ad j), .ref (ad j2)]) ++ List.replicate (4 - (lg_sl ([.ref (ad j), .ref (ad j2)])).length) Slot.unset).toArray = ls at hl ⊢
  have hl : lv_has ls 4 [(0, .ref (ad j)), (1, .ref (ad j2))] := hl
  refine lv_iconst (v := 0) hx hb dX6_become_0 (by decide) ?_
  refine lv_istore_n (lv' := [(2, .int 0), (0, .ref (ad j)), (1, .ref (ad j2))]) hx hb dX6_become_1 rfl hl (by decide) rfl (fun ls hl => ?_)
  refine lv_iconst (v := 0) hx hb dX6_become_2 (by decide) ?_
  refine lv_istore_n (lv' := [(3, .int 0), (2, .int 0), (0, .ref (ad j)), (1, .ref (ad j2))]) hx hb dX6_become_3 rfl hl (by decide) rfl (fun ls hl => ?_)
  obtain ⟨V1, ⟨n20, hV0⟩, hstepn2⟩ := h
  have hlpn2 : ∀ (n2 : Nat) (x3 : Int32) (x4 : Int32) (I5 : St) (J6 : Rf) (LP7 : List Nat) (P8 : St) (H : Heap) (locs : List Loc), va_P (dC, dI) vwCl (cW ad cy I5 J6 LP7 P8) H → va_D A (cW ad cy I5 J6 LP7 P8) → va_S A s.heap H locs → ∀ ls : Array Slot, lv_has ls 4 [(0, .ref (ad j)), (1, .ref (ad j2)), (2, .int x3), (3, .int x4)] → V1 n2 x3 x4 I5 J6 LP7 P8 → W p l e (headSpec wsX6_become rmX6_become).room s m ([.ref (ad j), .ref (ad j2)] : List Value).toArray below meth c H locs 0 0 (MQ below Qc ([.ref (ad j), .ref (ad j2)] : List Value).toArray s 0 0 A) (F0 m 4 ls []) := by
    intro n2
    induction n2 using Nat.strongRecOn with
    | _ n2 ihn2 =>
      intro x3 x4 I5 J6 LP7 P8 H locs hP hD hS ls hl hV
      have h := hstepn2 n2 x3 x4 I5 J6 LP7 P8 hV
      refine lv_iload_n hx hb dX6_become_4 rfl (lv_at hl 3 rfl) ?_
      refine lv_bipush (v := 6) hx hb dX6_become_5 (by decide) ?_
      refine lv_icmp_ge (tgt := 56) hx hb dX6_become_7 (by decide) (fun hc => ?_) (fun hc => ?_)
      · have h := h.1 hc
        refine lv_aload_n hx hb dX6_become_56 rfl (lv_at hl 0 rfl) ?_
        refine lv_aload_n hx hb dX6_become_57 rfl (lv_at hl 1 rfl) ?_
        refine va_get (D := (dC, dI)) (ci := 6) (v := .int (I5 j2 0)) (C := RX6) (T := TX6) (N := 3) hx hb hts hinX6 hown hK hP j2 (cG_ts (j := j2) h_j2) rfl 2 (by decide) (hts (.fieldLink RX6 30 "OutboxHouse$TargetState" "upTo" "I") (by decide +kernel)) (fun _ h9 => h9) rfl dX6_become_58 ?_
        refine va_put (D := (dC, dI)) (ci := 6) (v := .int (I5 j2 0)) (ty := .int) (C := RX6) (T := TX6) (N := 3) hx hb hts hinX6 tyX6 tyX6_ok nmX6 hown hK hP hD hS j (cG_ts (j := j) h_j) rfl 2 (by decide) (hts (.fieldLink RX6 30 "OutboxHouse$TargetState" "upTo" "I") (by decide +kernel)) (fun _ h9 => h9) rfl (by decide +kernel) rfl rfl (Nat.le_of_ble_eq_true rfl) dX6_become_61 (fun H locs hP hD hS => ?_)
        obtain ⟨I9, hI9⟩ : ∃ z : St, z = st I5 j 0 (I5 j2 0) := ⟨_, rfl⟩
        replace hP := wP (cE_ts h_j hI9) hP; replace hD := wD (cE_ts h_j hI9) hD; replace h := h _ hI9
        refine lv_iload_n hx hb dX6_become_64 rfl (lv_at hl 2 rfl) ?_
        exact W.iret (v := x3) hx hb hr (fun t ht hW => hQ _ _ t x3 I9 J6 LP7 P8 h ⟨by rw [ht]; exact hP, hD⟩ (hS.F ht)) hS.2.2 dX6_become_65
      · have h := h.2 hc
        refine lv_iload_n hx hb dX6_become_10 rfl (lv_at hl 2 rfl) ?_
        refine lv_aload_n hx hb dX6_become_11 rfl (lv_at hl 1 rfl) ?_
        refine va_get (D := (dC, dI)) (ci := 6) (v := .ref (ad (j2 + 4))) (C := RX6) (T := TX6) (N := 3) hx hb hts hinX6 hown hK hP j2 (cG_ts (j := j2) h_j2) rfl 1 (by decide) (hts (.fieldLink RX6 15 "OutboxHouse$TargetState" "done" "[I") (by decide +kernel)) (fun _ h9 => h9) rfl dX6_become_12 ?_
        refine lv_iload_n hx hb dX6_become_15 rfl (lv_at hl 3 rfl) ?_
        have hv := h.1; replace h := h.2
        refine va_iald hx hb hK hP (j2 + 4) 0 (cG_tsd (j := j2) h_j2) rfl hv dX6_become_16 ?_
        refine lv_aload_n hx hb dX6_become_17 rfl (lv_at hl 0 rfl) ?_
        refine va_get (D := (dC, dI)) (ci := 6) (v := .ref (ad (j + 4))) (C := RX6) (T := TX6) (N := 3) hx hb hts hinX6 hown hK hP j (cG_ts (j := j) h_j) rfl 1 (by decide) (hts (.fieldLink RX6 15 "OutboxHouse$TargetState" "done" "[I") (by decide +kernel)) (fun _ h9 => h9) rfl dX6_become_18 ?_
        refine lv_iload_n hx hb dX6_become_21 rfl (lv_at hl 3 rfl) ?_
        have hv := h.1; replace h := h.2
        refine va_iald hx hb hK hP (j + 4) 0 (cG_tsd (j := j) h_j) rfl hv dX6_become_22 ?_
        refine lv_isub hx hb dX6_become_23 ?_
        refine lv_iadd hx hb dX6_become_24 ?_
        refine lv_istore_n (lv' := [(2, .int (x3 + ((I5 (j2 + 4) x4.toNatClampNeg) - (I5 (j + 4) x4.toNatClampNeg)))), (0, .ref (ad j)), (1, .ref (ad j2)), (3, .int x4)]) hx hb dX6_become_25 rfl hl (by decide) rfl (fun ls hl => ?_)
        refine lv_aload_n hx hb dX6_become_26 rfl (lv_at hl 1 rfl) ?_
        refine va_get (D := (dC, dI)) (ci := 6) (v := .ref (ad (j + 2))) (C := RX6) (T := TX6) (N := 3) hx hb hts hinX6 hown hK hP j (cG_ts (j := j) h_j) rfl 0 (by decide) (hts (.fieldLink RX6 9 "OutboxHouse$TargetState" "values" "[I") (by decide +kernel)) (fun _ h9 => h9) rfl dX6_become_27 ?_
        refine lv_iload_n hx hb dX6_become_30 rfl (lv_at hl 3 rfl) ?_
        refine lv_aload_n hx hb dX6_become_31 rfl (lv_at hl 2 rfl) ?_
        refine va_get (D := (dC, dI)) (ci := 6) (v := .ref (ad (j2 + 2))) (C := RX6) (T := TX6) (N := 3) hx hb hts hinX6 hown hK hP j2 (cG_ts (j := j2) h_j2) rfl 0 (by decide) (hts (.fieldLink RX6 9 "OutboxHouse$TargetState" "values" "[I") (by decide +kernel)) (fun _ h9 => h9) rfl dX6_become_32 ?_
        refine lv_iload_n hx hb dX6_become_35 rfl (lv_at hl 3 rfl) ?_
        have hv := h.1; replace h := h.2
        refine va_iald hx hb hK hP (j2 + 2) 0 (cG_tsv (j := j2) h_j2) rfl hv dX6_become_36 ?_
        have hv := h.1; replace h := h.2
        refine va_iast hx hb hK hP hD hS (j + 2) 0 (cG_tsv (j := j) h_j) rfl hv dX6_become_37 (fun H locs hP hD hS => ?_)
        obtain ⟨I10, hI10⟩ : ∃ z : St, z = st I5 (j + 2) x4.toNatClampNeg (I5 (j2 + 2) x4.toNatClampNeg) := ⟨_, rfl⟩
        replace hP := wP (cE_tsv h_j hI10) hP; replace hD := wD (cE_tsv h_j hI10) hD; replace h := h _ hI10
        refine lv_aload_n hx hb dX6_become_38 rfl (lv_at hl 1 rfl) ?_
        refine va_get (D := (dC, dI)) (ci := 6) (v := .ref (ad (j + 4))) (C := RX6) (T := TX6) (N := 3) hx hb hts hinX6 hown hK hP j (cG_ts (j := j) h_j) rfl 1 (by decide) (hts (.fieldLink RX6 15 "OutboxHouse$TargetState" "done" "[I") (by decide +kernel)) (fun _ h9 => h9) rfl dX6_become_39 ?_
        refine lv_iload_n hx hb dX6_become_42 rfl (lv_at hl 3 rfl) ?_
        refine lv_aload_n hx hb dX6_become_43 rfl (lv_at hl 2 rfl) ?_
        refine va_get (D := (dC, dI)) (ci := 6) (v := .ref (ad (j2 + 4))) (C := RX6) (T := TX6) (N := 3) hx hb hts hinX6 hown hK hP j2 (cG_ts (j := j2) h_j2) rfl 1 (by decide) (hts (.fieldLink RX6 15 "OutboxHouse$TargetState" "done" "[I") (by decide +kernel)) (fun _ h9 => h9) rfl dX6_become_44 ?_
        refine lv_iload_n hx hb dX6_become_47 rfl (lv_at hl 3 rfl) ?_
        have hv := h.1; replace h := h.2
        refine va_iald hx hb hK hP (j2 + 4) 0 (cG_tsd (j := j2) h_j2) rfl hv dX6_become_48 ?_
        have hv := h.1; replace h := h.2
        refine va_iast hx hb hK hP hD hS (j + 4) 0 (cG_tsd (j := j) h_j) rfl hv dX6_become_49 (fun H locs hP hD hS => ?_)
        obtain ⟨I11, hI11⟩ : ∃ z : St, z = st I10 (j + 4) x4.toNatClampNeg (I10 (j2 + 4) x4.toNatClampNeg) := ⟨_, rfl⟩
        replace hP := wP (cE_tsd h_j hI11) hP; replace hD := wD (cE_tsd h_j hI11) hD; replace h := h _ hI11
        refine lv_iinc (v := x4 + 1) (lv' := [(3, .int (x4 + 1)), (2, .int (x3 + ((I5 (j2 + 4) x4.toNatClampNeg) - (I5 (j + 4) x4.toNatClampNeg)))), (0, .ref (ad j)), (1, .ref (ad j2))]) hx hb dX6_become_50 hl (k := 3) rfl rfl (by decide) rfl (fun ls hl => ?_)
        refine lv_goto (tgt := 4) hx hb dX6_become_53 (by decide) ?_
        obtain ⟨n12, hlt, hV⟩ := h
        exact ihn2 n12 hlt _ _ _ _ _ _ _ _ hP hD hS ls (lv_sub hl [2, 3, 1, 0] rfl) hV
  exact hlpn2 n20 _ _ _ _ _ _ _ _ hP hD hS ls (lv_sub hl [2, 3, 1, 0] rfl) hV0
theorem m_X6_become (l : Launch) (dC : Nat → ClassId) (dI : Nat → Nat → Nat) (cy : Nat → ClassId) (ad : Nat → Nat) (A : Nat → Prop) (I : St) (J : Rf) (LP : List Nat) (P : St) (j : Nat) (h_j : 20 ≤ j ∧ j ≤ 21) (j2 : Nat) (h_j2 : 20 ≤ j2 ∧ j2 ≤ 21) {post : Int32 → St → Rf → List Nat → St → Prop} (hD : va_D A (cW ad cy I J LP P)) (h : wp_X6_become I J LP P j j2 post) : Met l yX6_become wsX6_become rmX6_become (va_Pc [.ref (ad j), .ref (ad j2)] (wPre (dC, dI) cy A (cW ad cy I J LP P))) (va_Qi (fun r (u : CS) => post r u.1 u.2.1 u.2.2.1 u.2.2.2) (fun (u : CS) t => wPost (dC, dI) A (cW ad cy u.1 u.2.1 u.2.2.1 u.2.2.2) t) A) 0 0 A := g_X6_become l dC dI cy ad A I J LP P j h_j j2 h_j2 hD h (fun a s0 t r I' J' LP' P' h1 h2 h3 => ⟨⟨r, (I', J', LP', P'), rfl, h1, h2⟩, h3⟩)
abbrev rmX5_saveMemory : Room := { frames := 1, cells := 0, slots := 0, locals := 23 }
set_option maxHeartbeats 4000000 in
set_option maxRecDepth 100000 in
theorem g_X5_saveMemory (l : Launch) (dC : Nat → ClassId) (dI : Nat → Nat → Nat) (cy : Nat → ClassId) (ad : Nat → Nat) (A : Nat → Prop) (I : St) (J : Rf) (LP : List Nat) (P : St)  {post : Int32 → St → Rf → List Nat → St → Prop} (hD : va_D A (cW ad cy I J LP P)) (h : wp_X5_saveMemory I J LP P  post) {Qc : Array Value → State → Outcome → State → Prop} (hQ : ∀ (a : Array Value) (s0 t : State) (r : Int32) (I' : St) (J' : Rf) (LP' : List Nat) (P' : St), post r I' J' LP' P' → wPost (dC, dI) A (cW ad cy I' J' LP' P') t → va_F A s0 t → Qc a s0 (.returned (some (.int r))) t) : Met l yX5_saveMemory wsX5_saveMemory rmX5_saveMemory (va_Pc [.ref (ad 19)] (wPre (dC, dI) cy A (cW ad cy I J LP P))) Qc 0 0 A := by
  refine Met.ofW (cc := cX5_saveMemory) (maxL := 1) (ret := (some .int)) (by decide) rfl ?_
  intro p e s m args below meth c s₁ B hml hv
  obtain ⟨rfl, hP, hK, hN, hA⟩ := hv
  have hx := B.exec
  have hb := B.bytes
  have hr := B.returns
  have hts := atoms_spec (ws := wsX5_saveMemory) B.pre
  have hown : s.vm.findClass RX5 = some m.cls := findClass_of_methodNamed B.named
  have hlocks := B.notSynchronized
  have hinX5 : ∀ w ∈ wsX50, w ∈ wsX5_saveMemory := fun _ h9 => List.mem_cons_of_mem _ (List.mem_append_left _ (List.mem_append_right _ h9))
  have hS : va_S A s.heap s.heap [] := va_S.rf
  unfold wp_X5_saveMemory at h
  have hl := lv_entry ([.ref (ad 19)]) (n := 1) (Nat.le_of_ble_eq_true rfl)
  rw [lg_entry_eq]
  generalize (lg_sl ([.ref (ad 19)]) ++ List.replicate (1 - (lg_sl ([.ref (ad 19)])).length) Slot.unset).toArray = ls at hl ⊢
  have hl : lv_has ls 1 [(0, .ref (ad 19))] := hl
  refine lv_aload_n hx hb dX5_saveMemory_0 rfl (lv_at hl 0 rfl) ?_
  refine va_get (D := (dC, dI)) (ci := 5) (v := .ref (ad 21)) (C := RX5) (T := TX5) (N := 7) hx hb hts hinX5 hown hK hP 19 cG_19 rfl 2 (by decide) (hts (.fieldLink RX5 18 "OutboxHouse$Target" "disk" "LOutboxHouse$TargetState;") (by decide +kernel)) (fun _ h9 => h9) rfl dX5_saveMemory_1 ?_
  refine lv_aload_n hx hb dX5_saveMemory_4 rfl (lv_at hl 0 rfl) ?_
  refine va_get (D := (dC, dI)) (ci := 5) (v := .ref (ad 20)) (C := RX5) (T := TX5) (N := 7) hx hb hts hinX5 hown hK hP 19 cG_19 rfl 1 (by decide) (hts (.fieldLink RX5 12 "OutboxHouse$Target" "memory" "LOutboxHouse$TargetState;") (by decide +kernel)) (fun _ h9 => h9) rfl dX5_saveMemory_5 ?_
  refine va_calli (va_runV (As := [.ref (ad 20)]) (rest := []) ⟨hx, hb, hml, hown, hts⟩ (m_X6_become l dC dI cy ad A I J LP P 21 (by decide) 20 (by decide) hD h) (cwV 1 hts gX5_saveMemory_X6_become rfl rfl rfl (by decide +kernel) ⟨Nat.le_of_ble_eq_true rfl, Nat.le_of_ble_eq_true rfl⟩) ⟨wPre.blind, va_recv hK hP (ci := 6) (q0 := 21) rfl (cG_ts (j := 21) (by decide)), wPre.at hP hK hN hS hA⟩ rfl rfl hl.1 rfl (lv_room (Nat.le_of_ble_eq_true rfl)) dX5_saveMemory_8 ⟨by first | exact Nat.le_of_ble_eq_true rfl | (show _ ≤ 0; omega), by first | exact Nat.le_of_ble_eq_true rfl | (show _ ≤ 0; omega)⟩) hS (fun q _ h => h) (fun q h => h) (fun r1 u t H locs ht hvm hw hB hz1 hk1 hS => ?_)
  obtain ⟨I2, J3, LP4, P5⟩ := u
  obtain ⟨hP, hD⟩ := hB; rw [ht] at hP; replace h := hw; try dsimp only at h hP hD
  exact W.iret (v := r1) hx hb hr (fun t ht hW => hQ _ _ t r1 I2 J3 LP4 P5 h ⟨by rw [ht]; exact hP, hD⟩ (hS.F ht)) hS.2.2 dX5_saveMemory_11
theorem m_X5_saveMemory (l : Launch) (dC : Nat → ClassId) (dI : Nat → Nat → Nat) (cy : Nat → ClassId) (ad : Nat → Nat) (A : Nat → Prop) (I : St) (J : Rf) (LP : List Nat) (P : St)  {post : Int32 → St → Rf → List Nat → St → Prop} (hD : va_D A (cW ad cy I J LP P)) (h : wp_X5_saveMemory I J LP P  post) : Met l yX5_saveMemory wsX5_saveMemory rmX5_saveMemory (va_Pc [.ref (ad 19)] (wPre (dC, dI) cy A (cW ad cy I J LP P))) (va_Qi (fun r (u : CS) => post r u.1 u.2.1 u.2.2.1 u.2.2.2) (fun (u : CS) t => wPost (dC, dI) A (cW ad cy u.1 u.2.1 u.2.2.1 u.2.2.2) t) A) 0 0 A := g_X5_saveMemory l dC dI cy ad A I J LP P  hD h (fun a s0 t r I' J' LP' P' h1 h2 h3 => ⟨⟨r, (I', J', LP', P'), rfl, h1, h2⟩, h3⟩)
abbrev rmX5_restart : Room := { frames := 1, cells := 0, slots := 0, locals := 23 }
set_option maxHeartbeats 4000000 in
set_option maxRecDepth 100000 in
theorem g_X5_restart (l : Launch) (dC : Nat → ClassId) (dI : Nat → Nat → Nat) (cy : Nat → ClassId) (ad : Nat → Nat) (A : Nat → Prop) (I : St) (J : Rf) (LP : List Nat) (P : St)  {post : Int32 → St → Rf → List Nat → St → Prop} (hD : va_D A (cW ad cy I J LP P)) (h : wp_X5_restart I J LP P  post) {Qc : Array Value → State → Outcome → State → Prop} (hQ : ∀ (a : Array Value) (s0 t : State) (r : Int32) (I' : St) (J' : Rf) (LP' : List Nat) (P' : St), post r I' J' LP' P' → wPost (dC, dI) A (cW ad cy I' J' LP' P') t → va_F A s0 t → Qc a s0 (.returned (some (.int r))) t) : Met l yX5_restart wsX5_restart rmX5_restart (va_Pc [.ref (ad 19)] (wPre (dC, dI) cy A (cW ad cy I J LP P))) Qc 0 0 A := by
  refine Met.ofW (cc := cX5_restart) (maxL := 1) (ret := (some .int)) (by decide) rfl ?_
  intro p e s m args below meth c s₁ B hml hv
  obtain ⟨rfl, hP, hK, hN, hA⟩ := hv
  have hx := B.exec
  have hb := B.bytes
  have hr := B.returns
  have hts := atoms_spec (ws := wsX5_restart) B.pre
  have hown : s.vm.findClass RX5 = some m.cls := findClass_of_methodNamed B.named
  have hlocks := B.notSynchronized
  have hinX5 : ∀ w ∈ wsX50, w ∈ wsX5_restart := fun _ h9 => List.mem_cons_of_mem _ (List.mem_append_left _ (List.mem_append_left _ (List.mem_append_right _ h9)))
  have hS : va_S A s.heap s.heap [] := va_S.rf
  unfold wp_X5_restart at h
  have hl := lv_entry ([.ref (ad 19)]) (n := 1) (Nat.le_of_ble_eq_true rfl)
  rw [lg_entry_eq]
  generalize (lg_sl ([.ref (ad 19)]) ++ List.replicate (1 - (lg_sl ([.ref (ad 19)])).length) Slot.unset).toArray = ls at hl ⊢
  have hl : lv_has ls 1 [(0, .ref (ad 19))] := hl
  refine lv_aload_n hx hb dX5_restart_0 rfl (lv_at hl 0 rfl) ?_
  refine va_get (D := (dC, dI)) (ci := 5) (v := .ref (ad 14)) (C := RX5) (T := TX5) (N := 7) hx hb hts hinX5 hown hK hP 19 cG_19 rfl 3 (by decide) (hts (.fieldLink RX5 26 "OutboxHouse$Target" "held" "LOutboxHouse$Row;") (by decide +kernel)) (fun _ h9 => h9) rfl dX5_restart_1 ?_
  refine va_callv (va_runV (As := []) (rest := []) ⟨hx, hb, hml, hown, hts⟩ (m_X3_clear l dC dI cy ad A I J LP P 14 (by decide) hD h) (cwV 0 hts gX5_restart_X3_clear rfl rfl rfl (by decide +kernel) ⟨Nat.le_of_ble_eq_true rfl, Nat.le_of_ble_eq_true rfl⟩) ⟨wPre.blind, va_recv hK hP (ci := 3) (q0 := 14) rfl (cG_row (j := 14) (by decide)), wPre.at hP hK hN hS hA⟩ rfl rfl hl.1 rfl (lv_room (Nat.le_of_ble_eq_true rfl)) dX5_restart_4 ⟨by first | exact Nat.le_of_ble_eq_true rfl | (show _ ≤ 0; omega), by first | exact Nat.le_of_ble_eq_true rfl | (show _ ≤ 0; omega)⟩) hS (fun q _ h => h) (fun q h => h) (fun u t H locs ht hvm hw hB hz1 hk1 hS => ?_)
  obtain ⟨I2, J3, LP4, P5⟩ := u
  obtain ⟨hP, hD⟩ := hB; rw [ht] at hP; replace h := hw; try dsimp only at h hP hD
  refine lv_aload_n hx hb dX5_restart_7 rfl (lv_at hl 0 rfl) ?_
  refine va_get (D := (dC, dI)) (ci := 5) (v := .ref (ad 20)) (C := RX5) (T := TX5) (N := 7) hx hb hts hinX5 hown hK hP 19 cG_19 rfl 1 (by decide) (hts (.fieldLink RX5 12 "OutboxHouse$Target" "memory" "LOutboxHouse$TargetState;") (by decide +kernel)) (fun _ h9 => h9) rfl dX5_restart_8 ?_
  refine lv_aload_n hx hb dX5_restart_11 rfl (lv_at hl 0 rfl) ?_
  refine va_get (D := (dC, dI)) (ci := 5) (v := .ref (ad 21)) (C := RX5) (T := TX5) (N := 7) hx hb hts hinX5 hown hK hP 19 cG_19 rfl 2 (by decide) (hts (.fieldLink RX5 18 "OutboxHouse$Target" "disk" "LOutboxHouse$TargetState;") (by decide +kernel)) (fun _ h9 => h9) rfl dX5_restart_12 ?_
  refine va_calli (va_runV (As := [.ref (ad 21)]) (rest := []) ⟨hx, hb, hml, hown, hts⟩ (m_X6_become l dC dI cy ad A I2 J3 LP4 P5 20 (by decide) 21 (by decide) hD h) (cwV 1 hts gX5_restart_X6_become rfl rfl rfl (by decide +kernel) ⟨Nat.le_of_ble_eq_true rfl, Nat.le_of_ble_eq_true rfl⟩) ⟨wPre.blind, va_recv hK hP (ci := 6) (q0 := 20) rfl (cG_ts (j := 20) (by decide)), wPre.at hP hK hN hS hA⟩ rfl rfl hl.1 rfl (lv_room (Nat.le_of_ble_eq_true rfl)) dX5_restart_15 ⟨by first | exact Nat.le_of_ble_eq_true rfl | (show _ ≤ 0; omega), by first | exact Nat.le_of_ble_eq_true rfl | (show _ ≤ 0; omega)⟩) hS (fun q _ h => h) (fun q h => h) (fun r6 u t H locs ht hvm hw hB hz1 hk1 hS => ?_)
  obtain ⟨I7, J8, LP9, P10⟩ := u
  obtain ⟨hP, hD⟩ := hB; rw [ht] at hP; replace h := hw; try dsimp only at h hP hD
  refine lv_ineg hx hb dX5_restart_18 ?_
  exact W.iret (v := -r6) hx hb hr (fun t ht hW => hQ _ _ t (-r6) I7 J8 LP9 P10 h ⟨by rw [ht]; exact hP, hD⟩ (hS.F ht)) hS.2.2 dX5_restart_19
theorem m_X5_restart (l : Launch) (dC : Nat → ClassId) (dI : Nat → Nat → Nat) (cy : Nat → ClassId) (ad : Nat → Nat) (A : Nat → Prop) (I : St) (J : Rf) (LP : List Nat) (P : St)  {post : Int32 → St → Rf → List Nat → St → Prop} (hD : va_D A (cW ad cy I J LP P)) (h : wp_X5_restart I J LP P  post) : Met l yX5_restart wsX5_restart rmX5_restart (va_Pc [.ref (ad 19)] (wPre (dC, dI) cy A (cW ad cy I J LP P))) (va_Qi (fun r (u : CS) => post r u.1 u.2.1 u.2.2.1 u.2.2.2) (fun (u : CS) t => wPost (dC, dI) A (cW ad cy u.1 u.2.1 u.2.2.1 u.2.2.2) t) A) 0 0 A := g_X5_restart l dC dI cy ad A I J LP P  hD h (fun a s0 t r I' J' LP' P' h1 h2 h3 => ⟨⟨r, (I', J', LP', P'), rfl, h1, h2⟩, h3⟩)
abbrev rmX5_diskIsWhole : Room := { frames := 1, cells := 0, slots := 0, locals := 21 }
set_option maxHeartbeats 4000000 in
set_option maxRecDepth 100000 in
theorem g_X5_diskIsWhole (l : Launch) (dC : Nat → ClassId) (dI : Nat → Nat → Nat) (cy : Nat → ClassId) (ad : Nat → Nat) (A : Nat → Prop) (I : St) (J : Rf) (LP : List Nat) (P : St)  {post : Int32 → St → Rf → List Nat → St → Prop} (hD : va_D A (cW ad cy I J LP P)) (h : wp_X5_diskIsWhole I J LP P  post) {Qc : Array Value → State → Outcome → State → Prop} (hQ : ∀ (a : Array Value) (s0 t : State) (r : Int32) (I' : St) (J' : Rf) (LP' : List Nat) (P' : St), post r I' J' LP' P' → wPost (dC, dI) A (cW ad cy I' J' LP' P') t → va_F A s0 t → Qc a s0 (.returned (some (.int r))) t) : Met l yX5_diskIsWhole wsX5_diskIsWhole rmX5_diskIsWhole (va_Pc [.ref (ad 19)] (wPre (dC, dI) cy A (cW ad cy I J LP P))) Qc 0 0 A := by
  refine Met.ofW (cc := cX5_diskIsWhole) (maxL := 5) (ret := (some .boolean)) (by decide) rfl ?_
  intro p e s m args below meth c s₁ B hml hv
  obtain ⟨rfl, hP, hK, hN, hA⟩ := hv
  have hx := B.exec
  have hb := B.bytes
  have hr := B.returns
  have hts := atoms_spec (ws := wsX5_diskIsWhole) B.pre
  have hown : s.vm.findClass RX5 = some m.cls := findClass_of_methodNamed B.named
  have hlocks := B.notSynchronized
  have hinX5 : ∀ w ∈ wsX50, w ∈ wsX5_diskIsWhole := fun _ h9 => List.mem_cons_of_mem _ (List.mem_append_left _ (List.mem_append_left _ (List.mem_append_left _ (List.mem_append_right _ h9))))
  have hinX0 : ∀ w ∈ wsX00, w ∈ wsX5_diskIsWhole := fun _ h9 => List.mem_cons_of_mem _ (List.mem_append_left _ (List.mem_append_left _ (List.mem_append_right _ h9)))
  have hS : va_S A s.heap s.heap [] := va_S.rf
  unfold wp_X5_diskIsWhole at h
  have hl := lv_entry ([.ref (ad 19)]) (n := 5) (Nat.le_of_ble_eq_true rfl)
  rw [lg_entry_eq]
  generalize (lg_sl ([.ref (ad 19)]) ++ List.replicate (5 - (lg_sl ([.ref (ad 19)])).length) Slot.unset).toArray = ls at hl ⊢
  have hl : lv_has ls 5 [(0, .ref (ad 19))] := hl
  refine lv_iconst (v := 0) hx hb dX5_diskIsWhole_0 (by decide) ?_
  refine lv_istore_n (lv' := [(1, .int 0), (0, .ref (ad 19))]) hx hb dX5_diskIsWhole_1 rfl hl (by decide) rfl (fun ls hl => ?_)
  refine lv_iconst (v := 0) hx hb dX5_diskIsWhole_2 (by decide) ?_
  refine lv_istore_n (lv' := [(2, .int 0), (1, .int 0), (0, .ref (ad 19))]) hx hb dX5_diskIsWhole_3 rfl hl (by decide) rfl (fun ls hl => ?_)
  refine lv_iconst (v := 0) hx hb dX5_diskIsWhole_4 (by decide) ?_
  refine lv_istore_n (lv' := [(3, .int 0), (2, .int 0), (1, .int 0), (0, .ref (ad 19))]) hx hb dX5_diskIsWhole_5 rfl hl (by decide) rfl (fun ls hl => ?_)
  obtain ⟨V1, ⟨n20, hV0⟩, hstepn2⟩ := h
  have hlpn2 : ∀ (n2 : Nat) (x3 : Int32) (x4 : Int32) (x5 : Int32) (I6 : St) (J7 : Rf) (LP8 : List Nat) (P9 : St) (H : Heap) (locs : List Loc), va_P (dC, dI) vwCl (cW ad cy I6 J7 LP8 P9) H → va_D A (cW ad cy I6 J7 LP8 P9) → va_S A s.heap H locs → ∀ ls : Array Slot, lv_has ls 5 [(0, .ref (ad 19)), (1, .int x3), (2, .int x4), (3, .int x5)] → V1 n2 x3 x4 x5 I6 J7 LP8 P9 → W p l e (headSpec wsX5_diskIsWhole rmX5_diskIsWhole).room s m ([.ref (ad 19)] : List Value).toArray below meth c H locs 0 0 (MQ below Qc ([.ref (ad 19)] : List Value).toArray s 0 0 A) (F0 m 6 ls []) := by
    intro n2
    induction n2 using Nat.strongRecOn with
    | _ n2 ihn2 =>
      intro x3 x4 x5 I6 J7 LP8 P9 H locs hP hD hS ls hl hV
      have h := hstepn2 n2 x3 x4 x5 I6 J7 LP8 P9 hV
      refine lv_iload_n hx hb dX5_diskIsWhole_6 rfl (lv_at hl 3 rfl) ?_
      refine lv_sipush (v := 400) hx hb dX5_diskIsWhole_7 (by decide) ?_
      refine lv_icmp_ge (tgt := 78) hx hb dX5_diskIsWhole_10 (by decide) (fun hc => ?_) (fun hc => ?_)
      · have h := h.1 hc
        refine lv_iconst (v := 1) hx hb dX5_diskIsWhole_78 (by decide) ?_
        exact W.zret (v := 1) (ty := .boolean) hx hb hr rfl (fun t ht hW => hQ _ _ t 1 I6 J7 LP8 P9 h ⟨by rw [ht]; exact hP, hD⟩ (hS.F ht)) hS.2.2 dX5_diskIsWhole_79
      · have h := h.2 hc
        refine lv_aload_n hx hb dX5_diskIsWhole_13 rfl (lv_at hl 0 rfl) ?_
        refine va_get (D := (dC, dI)) (ci := 5) (v := .ref (ad 1)) (C := RX5) (T := TX5) (N := 7) hx hb hts hinX5 hown hK hP 19 cG_19 rfl 0 (by decide) (hts (.fieldLink RX5 30 "OutboxHouse$Target" "changes" "LOutboxHouse$ChangeLog;") (by decide +kernel)) (fun _ h9 => h9) rfl dX5_diskIsWhole_14 ?_
        refine lv_iload_n hx hb dX5_diskIsWhole_17 rfl (lv_at hl 3 rfl) ?_
        refine va_callq (va_runV (As := [.int x5]) (rest := []) ⟨hx, hb, hml, hown, hts⟩ (m_X1_flushedAt l dC dI cy ad A I6 J7 LP8 P9 x5 hD h) (cwV 1 hts gX5_diskIsWhole_X1_flushedAt rfl rfl rfl (by decide +kernel) ⟨Nat.le_of_ble_eq_true rfl, Nat.le_of_ble_eq_true rfl⟩) ⟨wPre.blind, va_recv hK hP (ci := 1) (q0 := 1) rfl cG_1, wPre.at hP hK hN hS hA⟩ rfl rfl hl.1 rfl (lv_room (Nat.le_of_ble_eq_true rfl)) dX5_diskIsWhole_18 ⟨by first | exact Nat.le_of_ble_eq_true rfl | (show _ ≤ 0; omega), by first | exact Nat.le_of_ble_eq_true rfl | (show _ ≤ 0; omega)⟩) hS (fun q _ h => h) (fun q h => h) (fun r10 u t H locs ht hvm hw hB hz1 hk1 hS => ?_)
        obtain ⟨I11, J12, LP13, P14⟩ := u
        obtain ⟨hP, hD⟩ := hB; rw [ht] at hP; replace h := hw; try dsimp only at h hP hD
        rcases r10 with _ | a15
        · replace h := h.1 rfl
          refine W.eq (g2 := F0 m 21 ls [.null]) rfl ?_
          refine lv_astoreN (lv' := [(4, .null), (0, .ref (ad 19)), (1, .int x3), (2, .int x4), (3, .int x5)]) hx hb dX5_diskIsWhole_21 hl (by decide) rfl (fun ls hl => ?_)
          refine lv_aloadN hx hb dX5_diskIsWhole_23 (lv_at hl 0 rfl) ?_
          refine lv_ifnonnullN hx hb dX5_diskIsWhole_25 ?_
          refine lv_goto (tgt := 78) hx hb dX5_diskIsWhole_28 (by decide) ?_
          refine lv_iconst (v := 1) hx hb dX5_diskIsWhole_78 (by decide) ?_
          exact W.zret (v := 1) (ty := .boolean) hx hb hr rfl (fun t ht hW => hQ _ _ t 1 I11 J12 LP13 P14 h ⟨by rw [ht]; exact hP, hD⟩ (hS.F ht)) hS.2.2 dX5_diskIsWhole_79
        · replace h := h.2 _ rfl
          refine W.eq (g2 := F0 m 21 ls [.ref a15]) rfl ?_
          refine lv_astore (lv' := [(4, .ref a15), (0, .ref (ad 19)), (1, .int x3), (2, .int x4), (3, .int x5)]) hx hb dX5_diskIsWhole_21 hl (by decide) rfl (fun ls hl => ?_)
          refine lv_aload hx hb dX5_diskIsWhole_23 (lv_at hl 0 rfl) ?_
          refine lv_ifnonnull (tgt := 31) hx hb dX5_diskIsWhole_25 (by decide) ?_
          refine lv_aload_n hx hb dX5_diskIsWhole_31 rfl (lv_at hl 1 rfl) ?_
          refine va_get (D := (dC, dI)) (ci := 5) (v := .ref (ad 21)) (C := RX5) (T := TX5) (N := 7) hx hb hts hinX5 hown hK hP 19 cG_19 rfl 2 (by decide) (hts (.fieldLink RX5 18 "OutboxHouse$Target" "disk" "LOutboxHouse$TargetState;") (by decide +kernel)) (fun _ h9 => h9) rfl dX5_diskIsWhole_32 ?_
          refine lv_aload hx hb dX5_diskIsWhole_35 (lv_at hl 0 rfl) ?_
          refine va_calli (va_runV (As := [.ref a15]) (rest := []) ⟨hx, hb, hml, hown, hts⟩ (m_X6_has l dC dI cy ad A I11 J12 LP13 P14 21 (by decide) (some a15) hD h) (cwV 1 hts gX5_diskIsWhole_X6_has rfl rfl rfl (by decide +kernel) ⟨Nat.le_of_ble_eq_true rfl, Nat.le_of_ble_eq_true rfl⟩) ⟨wPre.blind, va_recv hK hP (ci := 6) (q0 := 21) rfl (cG_ts (j := 21) (by decide)), wPre.at hP hK hN hS hA⟩ rfl rfl hl.1 rfl (lv_room (Nat.le_of_ble_eq_true rfl)) dX5_diskIsWhole_37 ⟨by first | exact Nat.le_of_ble_eq_true rfl | (show _ ≤ 0; omega), by first | exact Nat.le_of_ble_eq_true rfl | (show _ ≤ 0; omega)⟩) hS (fun q _ h => h) (fun q h => h) (fun r16 u t H locs ht hvm hw hB hz1 hk1 hS => ?_)
          obtain ⟨I17, J18, LP19, P20⟩ := u
          obtain ⟨hP, hD⟩ := hB; rw [ht] at hP; replace h := hw; try dsimp only at h hP hD
          refine lv_if_eq (tgt := 48) hx hb dX5_diskIsWhole_40 (by decide) (fun hc => ?_) (fun hc => ?_)
          · have h := h.1 hc
            refine lv_iconst (v := 1) hx hb dX5_diskIsWhole_48 (by decide) ?_
            refine lv_istore_n (lv' := [(2, .int 1), (4, .ref a15), (0, .ref (ad 19)), (1, .int x3), (3, .int x5)]) hx hb dX5_diskIsWhole_49 rfl hl (by decide) rfl (fun ls hl => ?_)
            refine lv_iload_n hx hb dX5_diskIsWhole_50 rfl (lv_at hl 3 rfl) ?_
            refine lv_if_eq (tgt := 60) hx hb dX5_diskIsWhole_51 (by decide) (fun hc => ?_) (fun hc => ?_)
            · have h := h.1 hc
              refine lv_aload hx hb dX5_diskIsWhole_60 (lv_at hl 1 rfl) ?_
              have hm := h.1; replace h := h.2
              obtain ⟨q21, hq21⟩ := cG_p (ad := ad) (cy := cy) (I := I17) (J := J18) (P := P20) hm
              refine va_get (D := (dC, dI)) (ci := 0) (v := .int (P20 a15 4)) (C := RX0) (T := TX0) (N := 5) hx hb hts hinX0 hown hK hP q21 hq21 rfl 4 (by decide) (hts (.fieldLink RX5 101 "OutboxHouse$Change" "last" "Z") (by decide +kernel)) (fun _ h9 => h9) rfl dX5_diskIsWhole_62 ?_
              refine lv_if_eq (tgt := 72) hx hb dX5_diskIsWhole_65 (by decide) (fun hc => ?_) (fun hc => ?_)
              · have h := h.1 hc
                refine lv_iinc (v := x5 + 1) (lv' := [(3, .int (x5 + 1)), (2, .int 1), (4, .ref a15), (0, .ref (ad 19)), (1, .int x3)]) hx hb dX5_diskIsWhole_72 hl (k := 4) rfl rfl (by decide) rfl (fun ls hl => ?_)
                refine lv_goto (tgt := 6) hx hb dX5_diskIsWhole_75 (by decide) ?_
                obtain ⟨n22, hlt, hV⟩ := h
                exact ihn2 n22 hlt _ _ _ _ _ _ _ _ _ hP hD hS ls (lv_sub hl [3, 4, 1, 0] rfl) hV
              · have h := h.2 hc
                refine lv_iconst (v := 0) hx hb dX5_diskIsWhole_68 (by decide) ?_
                refine lv_istore_n (lv' := [(1, .int 0), (2, .int 1), (4, .ref a15), (0, .ref (ad 19)), (3, .int x5)]) hx hb dX5_diskIsWhole_69 rfl hl (by decide) rfl (fun ls hl => ?_)
                refine lv_iconst (v := 0) hx hb dX5_diskIsWhole_70 (by decide) ?_
                refine lv_istore_n (lv' := [(2, .int 0), (1, .int 0), (4, .ref a15), (0, .ref (ad 19)), (3, .int x5)]) hx hb dX5_diskIsWhole_71 rfl hl (by decide) rfl (fun ls hl => ?_)
                refine lv_iinc (v := x5 + 1) (lv' := [(3, .int (x5 + 1)), (2, .int 0), (1, .int 0), (4, .ref a15), (0, .ref (ad 19))]) hx hb dX5_diskIsWhole_72 hl (k := 4) rfl rfl (by decide) rfl (fun ls hl => ?_)
                refine lv_goto (tgt := 6) hx hb dX5_diskIsWhole_75 (by decide) ?_
                obtain ⟨n23, hlt, hV⟩ := h
                exact ihn2 n23 hlt _ _ _ _ _ _ _ _ _ hP hD hS ls (lv_sub hl [4, 2, 1, 0] rfl) hV
            · have h := h.2 hc
              refine lv_iload_n hx hb dX5_diskIsWhole_54 rfl (lv_at hl 0 rfl) ?_
              refine lv_if_eq (tgt := 60) hx hb dX5_diskIsWhole_55 (by decide) (fun hc => absurd hc (by decide)) (fun hc => ?_)
              refine lv_iconst (v := 0) hx hb dX5_diskIsWhole_58 (by decide) ?_
              exact W.zret (v := 0) (ty := .boolean) hx hb hr rfl (fun t ht hW => hQ _ _ t 0 I17 J18 LP19 P20 h ⟨by rw [ht]; exact hP, hD⟩ (hS.F ht)) hS.2.2 dX5_diskIsWhole_59
          · have h := h.2 hc
            refine lv_iconst (v := 1) hx hb dX5_diskIsWhole_43 (by decide) ?_
            refine lv_istore_n (lv' := [(1, .int 1), (4, .ref a15), (0, .ref (ad 19)), (2, .int x4), (3, .int x5)]) hx hb dX5_diskIsWhole_44 rfl hl (by decide) rfl (fun ls hl => ?_)
            refine lv_goto (tgt := 50) hx hb dX5_diskIsWhole_45 (by decide) ?_
            refine lv_iload_n hx hb dX5_diskIsWhole_50 rfl (lv_at hl 0 rfl) ?_
            refine lv_if_eq (tgt := 60) hx hb dX5_diskIsWhole_51 (by decide) (fun hc => absurd hc (by decide)) (fun hc => ?_)
            refine lv_iload_n hx hb dX5_diskIsWhole_54 rfl (lv_at hl 3 rfl) ?_
            refine lv_if_eq (tgt := 60) hx hb dX5_diskIsWhole_55 (by decide) (fun hc => ?_) (fun hc => ?_)
            · have h := h.1 hc
              refine lv_aload hx hb dX5_diskIsWhole_60 (lv_at hl 1 rfl) ?_
              have hm := h.1; replace h := h.2
              obtain ⟨q24, hq24⟩ := cG_p (ad := ad) (cy := cy) (I := I17) (J := J18) (P := P20) hm
              refine va_get (D := (dC, dI)) (ci := 0) (v := .int (P20 a15 4)) (C := RX0) (T := TX0) (N := 5) hx hb hts hinX0 hown hK hP q24 hq24 rfl 4 (by decide) (hts (.fieldLink RX5 101 "OutboxHouse$Change" "last" "Z") (by decide +kernel)) (fun _ h9 => h9) rfl dX5_diskIsWhole_62 ?_
              refine lv_if_eq (tgt := 72) hx hb dX5_diskIsWhole_65 (by decide) (fun hc => ?_) (fun hc => ?_)
              · have h := h.1 hc
                refine lv_iinc (v := x5 + 1) (lv' := [(3, .int (x5 + 1)), (1, .int 1), (4, .ref a15), (0, .ref (ad 19)), (2, .int x4)]) hx hb dX5_diskIsWhole_72 hl (k := 4) rfl rfl (by decide) rfl (fun ls hl => ?_)
                refine lv_goto (tgt := 6) hx hb dX5_diskIsWhole_75 (by decide) ?_
                obtain ⟨n25, hlt, hV⟩ := h
                exact ihn2 n25 hlt _ _ _ _ _ _ _ _ _ hP hD hS ls (lv_sub hl [3, 1, 4, 0] rfl) hV
              · have h := h.2 hc
                refine lv_iconst (v := 0) hx hb dX5_diskIsWhole_68 (by decide) ?_
                refine lv_istore_n (lv' := [(1, .int 0), (4, .ref a15), (0, .ref (ad 19)), (2, .int x4), (3, .int x5)]) hx hb dX5_diskIsWhole_69 rfl hl (by decide) rfl (fun ls hl => ?_)
                refine lv_iconst (v := 0) hx hb dX5_diskIsWhole_70 (by decide) ?_
                refine lv_istore_n (lv' := [(2, .int 0), (1, .int 0), (4, .ref a15), (0, .ref (ad 19)), (3, .int x5)]) hx hb dX5_diskIsWhole_71 rfl hl (by decide) rfl (fun ls hl => ?_)
                refine lv_iinc (v := x5 + 1) (lv' := [(3, .int (x5 + 1)), (2, .int 0), (1, .int 0), (4, .ref a15), (0, .ref (ad 19))]) hx hb dX5_diskIsWhole_72 hl (k := 4) rfl rfl (by decide) rfl (fun ls hl => ?_)
                refine lv_goto (tgt := 6) hx hb dX5_diskIsWhole_75 (by decide) ?_
                obtain ⟨n26, hlt, hV⟩ := h
                exact ihn2 n26 hlt _ _ _ _ _ _ _ _ _ hP hD hS ls (lv_sub hl [4, 2, 1, 0] rfl) hV
            · have h := h.2 hc
              refine lv_iconst (v := 0) hx hb dX5_diskIsWhole_58 (by decide) ?_
              exact W.zret (v := 0) (ty := .boolean) hx hb hr rfl (fun t ht hW => hQ _ _ t 0 I17 J18 LP19 P20 h ⟨by rw [ht]; exact hP, hD⟩ (hS.F ht)) hS.2.2 dX5_diskIsWhole_59
  exact hlpn2 n20 _ _ _ _ _ _ _ _ _ hP hD hS ls (lv_sub hl [3, 2, 1, 0] rfl) hV0
theorem m_X5_diskIsWhole (l : Launch) (dC : Nat → ClassId) (dI : Nat → Nat → Nat) (cy : Nat → ClassId) (ad : Nat → Nat) (A : Nat → Prop) (I : St) (J : Rf) (LP : List Nat) (P : St)  {post : Int32 → St → Rf → List Nat → St → Prop} (hD : va_D A (cW ad cy I J LP P)) (h : wp_X5_diskIsWhole I J LP P  post) : Met l yX5_diskIsWhole wsX5_diskIsWhole rmX5_diskIsWhole (va_Pc [.ref (ad 19)] (wPre (dC, dI) cy A (cW ad cy I J LP P))) (va_Qi (fun r (u : CS) => post r u.1 u.2.1 u.2.2.1 u.2.2.2) (fun (u : CS) t => wPost (dC, dI) A (cW ad cy u.1 u.2.1 u.2.2.1 u.2.2.2) t) A) 0 0 A := g_X5_diskIsWhole l dC dI cy ad A I J LP P  hD h (fun a s0 t r I' J' LP' P' h1 h2 h3 => ⟨⟨r, (I', J', LP', P'), rfl, h1, h2⟩, h3⟩)
abbrev rmX6_isAsFlushed : Room := { frames := 1, cells := 0, slots := 0, locals := 21 }
set_option maxHeartbeats 4000000 in
set_option maxRecDepth 100000 in
theorem g_X6_isAsFlushed (l : Launch) (dC : Nat → ClassId) (dI : Nat → Nat → Nat) (cy : Nat → ClassId) (ad : Nat → Nat) (A : Nat → Prop) (I : St) (J : Rf) (LP : List Nat) (P : St) (j : Nat) (h_j : 20 ≤ j ∧ j ≤ 21) {post : Int32 → St → Rf → List Nat → St → Prop} (hD : va_D A (cW ad cy I J LP P)) (h : wp_X6_isAsFlushed I J LP P j post) {Qc : Array Value → State → Outcome → State → Prop} (hQ : ∀ (a : Array Value) (s0 t : State) (r : Int32) (I' : St) (J' : Rf) (LP' : List Nat) (P' : St), post r I' J' LP' P' → wPost (dC, dI) A (cW ad cy I' J' LP' P') t → va_F A s0 t → Qc a s0 (.returned (some (.int r))) t) : Met l yX6_isAsFlushed wsX6_isAsFlushed rmX6_isAsFlushed (va_Pc [.ref (ad j), .ref (ad 1)] (wPre (dC, dI) cy A (cW ad cy I J LP P))) Qc 0 0 A := by
  refine Met.ofW (cc := cX6_isAsFlushed) (maxL := 4) (ret := (some .boolean)) (by decide) rfl ?_
  intro p e s m args below meth c s₁ B hml hv
  obtain ⟨rfl, hP, hK, hN, hA⟩ := hv
  have hx := B.exec
  have hb := B.bytes
  have hr := B.returns
  have hts := atoms_spec (ws := wsX6_isAsFlushed) B.pre
  have hown : s.vm.findClass RX6 = some m.cls := findClass_of_methodNamed B.named
  have hlocks := B.notSynchronized
  have hinX0 : ∀ w ∈ wsX00, w ∈ wsX6_isAsFlushed := fun _ h9 => List.mem_cons_of_mem _ (List.mem_append_left _ (List.mem_append_left _ (List.mem_append_right _ h9)))
  have hinX6 : ∀ w ∈ wsX60, w ∈ wsX6_isAsFlushed := fun _ h9 => List.mem_cons_of_mem _ (List.mem_append_left _ (List.mem_append_right _ h9))
  have hS : va_S A s.heap s.heap [] := va_S.rf
  unfold wp_X6_isAsFlushed at h
  have hl := lv_entry ([.ref (ad j), .ref (ad 1)]) (n := 4) (Nat.le_of_ble_eq_true rfl)
  rw [lg_entry_eq]
  generalize (lg_sl ([.ref (ad j), .ref (ad 1)]) ++ List.replicate (4 - (lg_sl ([.ref (ad j), .ref (ad 1)])).length) Slot.unset).toArray = ls at hl ⊢
  have hl : lv_has ls 4 [(0, .ref (ad j)), (1, .ref (ad 1))] := hl
  refine lv_iconst (v := 0) hx hb dX6_isAsFlushed_0 (by decide) ?_
  refine lv_istore_n (lv' := [(2, .int 0), (0, .ref (ad j)), (1, .ref (ad 1))]) hx hb dX6_isAsFlushed_1 rfl hl (by decide) rfl (fun ls hl => ?_)
  obtain ⟨V1, ⟨n20, hV0⟩, hstepn2⟩ := h
  have hlpn2 : ∀ (n2 : Nat) (x3 : Int32) (I4 : St) (J5 : Rf) (LP6 : List Nat) (P7 : St) (H : Heap) (locs : List Loc), va_P (dC, dI) vwCl (cW ad cy I4 J5 LP6 P7) H → va_D A (cW ad cy I4 J5 LP6 P7) → va_S A s.heap H locs → ∀ ls : Array Slot, lv_has ls 4 [(0, .ref (ad j)), (1, .ref (ad 1)), (2, .int x3)] → V1 n2 x3 I4 J5 LP6 P7 → W p l e (headSpec wsX6_isAsFlushed rmX6_isAsFlushed).room s m ([.ref (ad j), .ref (ad 1)] : List Value).toArray below meth c H locs 0 0 (MQ below Qc ([.ref (ad j), .ref (ad 1)] : List Value).toArray s 0 0 A) (F0 m 2 ls []) := by
    intro n2
    induction n2 using Nat.strongRecOn with
    | _ n2 ihn2 =>
      intro x3 I4 J5 LP6 P7 H locs hP hD hS ls hl hV
      have h := hstepn2 n2 x3 I4 J5 LP6 P7 hV
      refine lv_iload_n hx hb dX6_isAsFlushed_2 rfl (lv_at hl 2 rfl) ?_
      refine lv_sipush (v := 400) hx hb dX6_isAsFlushed_3 (by decide) ?_
      refine lv_icmp_ge (tgt := 62) hx hb dX6_isAsFlushed_6 (by decide) (fun hc => ?_) (fun hc => ?_)
      · have h := h.1 hc
        refine lv_iconst (v := 1) hx hb dX6_isAsFlushed_62 (by decide) ?_
        exact W.zret (v := 1) (ty := .boolean) hx hb hr rfl (fun t ht hW => hQ _ _ t 1 I4 J5 LP6 P7 h ⟨by rw [ht]; exact hP, hD⟩ (hS.F ht)) hS.2.2 dX6_isAsFlushed_63
      · have h := h.2 hc
        refine lv_aload_n hx hb dX6_isAsFlushed_9 rfl (lv_at hl 1 rfl) ?_
        refine lv_iload_n hx hb dX6_isAsFlushed_10 rfl (lv_at hl 2 rfl) ?_
        refine va_callq (va_runV (As := [.int x3]) (rest := []) ⟨hx, hb, hml, hown, hts⟩ (m_X1_flushedAt l dC dI cy ad A I4 J5 LP6 P7 x3 hD h) (cwV 1 hts gX6_isAsFlushed_X1_flushedAt rfl rfl rfl (by decide +kernel) ⟨Nat.le_of_ble_eq_true rfl, Nat.le_of_ble_eq_true rfl⟩) ⟨wPre.blind, va_recv hK hP (ci := 1) (q0 := 1) rfl cG_1, wPre.at hP hK hN hS hA⟩ rfl rfl hl.1 rfl (lv_room (Nat.le_of_ble_eq_true rfl)) dX6_isAsFlushed_11 ⟨by first | exact Nat.le_of_ble_eq_true rfl | (show _ ≤ 0; omega), by first | exact Nat.le_of_ble_eq_true rfl | (show _ ≤ 0; omega)⟩) hS (fun q _ h => h) (fun q h => h) (fun r8 u t H locs ht hvm hw hB hz1 hk1 hS => ?_)
        obtain ⟨I9, J10, LP11, P12⟩ := u
        obtain ⟨hP, hD⟩ := hB; rw [ht] at hP; replace h := hw; try dsimp only at h hP hD
        rcases r8 with _ | a13
        · replace h := h.1 rfl
          refine W.eq (g2 := F0 m 14 ls [.null]) rfl ?_
          refine lv_astore_nN (lv' := [(3, .null), (0, .ref (ad j)), (1, .ref (ad 1)), (2, .int x3)]) hx hb dX6_isAsFlushed_14 rfl hl (by decide) rfl (fun ls hl => ?_)
          refine lv_aload_nN hx hb dX6_isAsFlushed_15 rfl (lv_at hl 0 rfl) ?_
          refine lv_ifnonnullN hx hb dX6_isAsFlushed_16 ?_
          refine lv_goto (tgt := 62) hx hb dX6_isAsFlushed_19 (by decide) ?_
          refine lv_iconst (v := 1) hx hb dX6_isAsFlushed_62 (by decide) ?_
          exact W.zret (v := 1) (ty := .boolean) hx hb hr rfl (fun t ht hW => hQ _ _ t 1 I9 J10 LP11 P12 h ⟨by rw [ht]; exact hP, hD⟩ (hS.F ht)) hS.2.2 dX6_isAsFlushed_63
        · replace h := h.2 _ rfl
          refine W.eq (g2 := F0 m 14 ls [.ref a13]) rfl ?_
          refine lv_astore_n (lv' := [(3, .ref a13), (0, .ref (ad j)), (1, .ref (ad 1)), (2, .int x3)]) hx hb dX6_isAsFlushed_14 rfl hl (by decide) rfl (fun ls hl => ?_)
          refine lv_aload_n hx hb dX6_isAsFlushed_15 rfl (lv_at hl 0 rfl) ?_
          refine lv_ifnonnull (tgt := 22) hx hb dX6_isAsFlushed_16 (by decide) ?_
          refine lv_aload_n hx hb dX6_isAsFlushed_22 rfl (lv_at hl 0 rfl) ?_
          have hm := h.1; replace h := h.2
          obtain ⟨q14, hq14⟩ := cG_p (ad := ad) (cy := cy) (I := I9) (J := J10) (P := P12) hm
          refine va_get (D := (dC, dI)) (ci := 0) (v := .int (P12 a13 3)) (C := RX0) (T := TX0) (N := 5) hx hb hts hinX0 hown hK hP q14 hq14 rfl 3 (by decide) (hts (.fieldLink RX6 18 "OutboxHouse$Change" "order" "I") (by decide +kernel)) (fun _ h9 => h9) rfl dX6_isAsFlushed_23 ?_
          refine lv_aload_n hx hb dX6_isAsFlushed_26 rfl (lv_at hl 1 rfl) ?_
          refine va_get (D := (dC, dI)) (ci := 6) (v := .ref (ad (j + 4))) (C := RX6) (T := TX6) (N := 3) hx hb hts hinX6 hown hK hP j (cG_ts (j := j) h_j) rfl 1 (by decide) (hts (.fieldLink RX6 15 "OutboxHouse$TargetState" "done" "[I") (by decide +kernel)) (fun _ h9 => h9) rfl dX6_isAsFlushed_27 ?_
          refine lv_aload_n hx hb dX6_isAsFlushed_30 rfl (lv_at hl 0 rfl) ?_
          have hm := h.1; replace h := h.2
          obtain ⟨q15, hq15⟩ := cG_p (ad := ad) (cy := cy) (I := I9) (J := J10) (P := P12) hm
          refine va_get (D := (dC, dI)) (ci := 0) (v := .int (P12 a13 1)) (C := RX0) (T := TX0) (N := 5) hx hb hts hinX0 hown hK hP q15 hq15 rfl 1 (by decide) (hts (.fieldLink RX6 24 "OutboxHouse$Change" "key" "I") (by decide +kernel)) (fun _ h9 => h9) rfl dX6_isAsFlushed_31 ?_
          have hv := h.1; replace h := h.2
          refine va_iald hx hb hK hP (j + 4) 0 (cG_tsd (j := j) h_j) rfl hv dX6_isAsFlushed_34 ?_
          refine lv_icmp_ne (tgt := 56) hx hb dX6_isAsFlushed_35 (by decide) (fun hc => ?_) (fun hc => ?_)
          · have h := h.1 hc
            refine lv_iinc (v := x3 + 1) (lv' := [(2, .int (x3 + 1)), (3, .ref a13), (0, .ref (ad j)), (1, .ref (ad 1))]) hx hb dX6_isAsFlushed_56 hl (k := 3) rfl rfl (by decide) rfl (fun ls hl => ?_)
            refine lv_goto (tgt := 2) hx hb dX6_isAsFlushed_59 (by decide) ?_
            obtain ⟨n16, hlt, hV⟩ := h
            exact ihn2 n16 hlt _ _ _ _ _ _ _ hP hD hS ls (lv_sub hl [2, 3, 0] rfl) hV
          · have h := h.2 hc
            refine lv_aload_n hx hb dX6_isAsFlushed_38 rfl (lv_at hl 0 rfl) ?_
            have hm := h.1; replace h := h.2
            obtain ⟨q17, hq17⟩ := cG_p (ad := ad) (cy := cy) (I := I9) (J := J10) (P := P12) hm
            refine va_get (D := (dC, dI)) (ci := 0) (v := .int (P12 a13 2)) (C := RX0) (T := TX0) (N := 5) hx hb hts hinX0 hown hK hP q17 hq17 rfl 2 (by decide) (hts (.fieldLink RX6 27 "OutboxHouse$Change" "value" "I") (by decide +kernel)) (fun _ h9 => h9) rfl dX6_isAsFlushed_39 ?_
            refine lv_aload_n hx hb dX6_isAsFlushed_42 rfl (lv_at hl 1 rfl) ?_
            refine va_get (D := (dC, dI)) (ci := 6) (v := .ref (ad (j + 2))) (C := RX6) (T := TX6) (N := 3) hx hb hts hinX6 hown hK hP j (cG_ts (j := j) h_j) rfl 0 (by decide) (hts (.fieldLink RX6 9 "OutboxHouse$TargetState" "values" "[I") (by decide +kernel)) (fun _ h9 => h9) rfl dX6_isAsFlushed_43 ?_
            refine lv_aload_n hx hb dX6_isAsFlushed_46 rfl (lv_at hl 0 rfl) ?_
            have hm := h.1; replace h := h.2
            obtain ⟨q18, hq18⟩ := cG_p (ad := ad) (cy := cy) (I := I9) (J := J10) (P := P12) hm
            refine va_get (D := (dC, dI)) (ci := 0) (v := .int (P12 a13 1)) (C := RX0) (T := TX0) (N := 5) hx hb hts hinX0 hown hK hP q18 hq18 rfl 1 (by decide) (hts (.fieldLink RX6 24 "OutboxHouse$Change" "key" "I") (by decide +kernel)) (fun _ h9 => h9) rfl dX6_isAsFlushed_47 ?_
            have hv := h.1; replace h := h.2
            refine va_iald hx hb hK hP (j + 2) 0 (cG_tsv (j := j) h_j) rfl hv dX6_isAsFlushed_50 ?_
            refine lv_icmp_eq (tgt := 56) hx hb dX6_isAsFlushed_51 (by decide) (fun hc => ?_) (fun hc => ?_)
            · have h := h.1 hc
              refine lv_iinc (v := x3 + 1) (lv' := [(2, .int (x3 + 1)), (3, .ref a13), (0, .ref (ad j)), (1, .ref (ad 1))]) hx hb dX6_isAsFlushed_56 hl (k := 3) rfl rfl (by decide) rfl (fun ls hl => ?_)
              refine lv_goto (tgt := 2) hx hb dX6_isAsFlushed_59 (by decide) ?_
              obtain ⟨n19, hlt, hV⟩ := h
              exact ihn2 n19 hlt _ _ _ _ _ _ _ hP hD hS ls (lv_sub hl [2, 3, 0] rfl) hV
            · have h := h.2 hc
              refine lv_iconst (v := 0) hx hb dX6_isAsFlushed_54 (by decide) ?_
              exact W.zret (v := 0) (ty := .boolean) hx hb hr rfl (fun t ht hW => hQ _ _ t 0 I9 J10 LP11 P12 h ⟨by rw [ht]; exact hP, hD⟩ (hS.F ht)) hS.2.2 dX6_isAsFlushed_55
  exact hlpn2 n20 _ _ _ _ _ _ _ hP hD hS ls (lv_sub hl [1, 2, 0] rfl) hV0
theorem m_X6_isAsFlushed (l : Launch) (dC : Nat → ClassId) (dI : Nat → Nat → Nat) (cy : Nat → ClassId) (ad : Nat → Nat) (A : Nat → Prop) (I : St) (J : Rf) (LP : List Nat) (P : St) (j : Nat) (h_j : 20 ≤ j ∧ j ≤ 21) {post : Int32 → St → Rf → List Nat → St → Prop} (hD : va_D A (cW ad cy I J LP P)) (h : wp_X6_isAsFlushed I J LP P j post) : Met l yX6_isAsFlushed wsX6_isAsFlushed rmX6_isAsFlushed (va_Pc [.ref (ad j), .ref (ad 1)] (wPre (dC, dI) cy A (cW ad cy I J LP P))) (va_Qi (fun r (u : CS) => post r u.1 u.2.1 u.2.2.1 u.2.2.2) (fun (u : CS) t => wPost (dC, dI) A (cW ad cy u.1 u.2.1 u.2.2.1 u.2.2.2) t) A) 0 0 A := g_X6_isAsFlushed l dC dI cy ad A I J LP P j h_j hD h (fun a s0 t r I' J' LP' P' h1 h2 h3 => ⟨⟨r, (I', J', LP', P'), rfl, h1, h2⟩, h3⟩)
abbrev rmX7_begin : Room := { frames := 1, cells := 0, slots := 0, locals := 21 }
set_option maxHeartbeats 4000000 in
set_option maxRecDepth 100000 in
theorem g_X7_begin (l : Launch) (dC : Nat → ClassId) (dI : Nat → Nat → Nat) (cy : Nat → ClassId) (ad : Nat → Nat) (A : Nat → Prop) (I : St) (J : Rf) (LP : List Nat) (P : St)  {post : Int32 → St → Rf → List Nat → St → Prop} (hD : va_D A (cW ad cy I J LP P)) (h : wp_X7_begin I J LP P  post) {Qc : Array Value → State → Outcome → State → Prop} (hQ : ∀ (a : Array Value) (s0 t : State) (r : Int32) (I' : St) (J' : Rf) (LP' : List Nat) (P' : St), post r I' J' LP' P' → wPost (dC, dI) A (cW ad cy I' J' LP' P') t → va_F A s0 t → Qc a s0 (.returned (some (.int r))) t) : Met l yX7_begin wsX7_begin rmX7_begin (va_Pc [.ref (ad 0)] (wPre (dC, dI) cy A (cW ad cy I J LP P))) Qc 0 0 A := by
  refine Met.ofW (cc := cX7_begin) (maxL := 1) (ret := (some .int)) (by decide) rfl ?_
  intro p e s m args below meth c s₁ B hml hv
  obtain ⟨rfl, hP, hK, hN, hA⟩ := hv
  have hx := B.exec
  have hb := B.bytes
  have hr := B.returns
  have hts := atoms_spec (ws := wsX7_begin) B.pre
  have hown : s.vm.findClass RX7 = some m.cls := findClass_of_methodNamed B.named
  have hlocks := B.notSynchronized
  have hinX7 : ∀ w ∈ wsX70, w ∈ wsX7_begin := fun _ h9 => List.mem_cons_of_mem _ (List.mem_append_left _ (List.mem_append_right _ h9))
  have hS : va_S A s.heap s.heap [] := va_S.rf
  unfold wp_X7_begin at h
  have hl := lv_entry ([.ref (ad 0)]) (n := 1) (Nat.le_of_ble_eq_true rfl)
  rw [lg_entry_eq]
  generalize (lg_sl ([.ref (ad 0)]) ++ List.replicate (1 - (lg_sl ([.ref (ad 0)])).length) Slot.unset).toArray = ls at hl ⊢
  have hl : lv_has ls 1 [(0, .ref (ad 0))] := hl
  refine lv_aload_n hx hb dX7_begin_0 rfl (lv_at hl 0 rfl) ?_
  refine va_get (D := (dC, dI)) (ci := 7) (v := .ref (ad 3)) (C := RX7) (T := TX7) (N := 5) hx hb hts hinX7 hown hK hP 0 cG_0 rfl 1 (by decide) (hts (.fieldLink RX7 21 "OutboxHouse" "source" "LOutboxHouse$Source;") (by decide +kernel)) (fun _ h9 => h9) rfl dX7_begin_1 ?_
  refine va_calli (va_runV (As := []) (rest := []) ⟨hx, hb, hml, hown, hts⟩ (m_X4_openFirstFree l dC dI cy ad A I J LP P  hD h) (cwV 0 hts gX7_begin_X4_openFirstFree rfl rfl rfl (by decide +kernel) ⟨Nat.le_of_ble_eq_true rfl, Nat.le_of_ble_eq_true rfl⟩) ⟨wPre.blind, va_recv hK hP (ci := 4) (q0 := 3) rfl cG_3, wPre.at hP hK hN hS hA⟩ rfl rfl hl.1 rfl (lv_room (Nat.le_of_ble_eq_true rfl)) dX7_begin_4 ⟨by first | exact Nat.le_of_ble_eq_true rfl | (show _ ≤ 0; omega), by first | exact Nat.le_of_ble_eq_true rfl | (show _ ≤ 0; omega)⟩) hS (fun q _ h => h) (fun q h => h) (fun r1 u t H locs ht hvm hw hB hz1 hk1 hS => ?_)
  obtain ⟨I2, J3, LP4, P5⟩ := u
  obtain ⟨hP, hD⟩ := hB; rw [ht] at hP; replace h := hw; try dsimp only at h hP hD
  exact W.iret (v := r1) hx hb hr (fun t ht hW => hQ _ _ t r1 I2 J3 LP4 P5 h ⟨by rw [ht]; exact hP, hD⟩ (hS.F ht)) hS.2.2 dX7_begin_7
theorem m_X7_begin (l : Launch) (dC : Nat → ClassId) (dI : Nat → Nat → Nat) (cy : Nat → ClassId) (ad : Nat → Nat) (A : Nat → Prop) (I : St) (J : Rf) (LP : List Nat) (P : St)  {post : Int32 → St → Rf → List Nat → St → Prop} (hD : va_D A (cW ad cy I J LP P)) (h : wp_X7_begin I J LP P  post) : Met l yX7_begin wsX7_begin rmX7_begin (va_Pc [.ref (ad 0)] (wPre (dC, dI) cy A (cW ad cy I J LP P))) (va_Qi (fun r (u : CS) => post r u.1 u.2.1 u.2.2.1 u.2.2.2) (fun (u : CS) t => wPost (dC, dI) A (cW ad cy u.1 u.2.1 u.2.2.1 u.2.2.2) t) A) 0 0 A := g_X7_begin l dC dI cy ad A I J LP P  hD h (fun a s0 t r I' J' LP' P' h1 h2 h3 => ⟨⟨r, (I', J', LP', P'), rfl, h1, h2⟩, h3⟩)
abbrev rmX7_isKey : Room := { frames := 0, cells := 0, slots := 0, locals := 0 }
set_option maxHeartbeats 4000000 in
set_option maxRecDepth 100000 in
theorem g_X7_isKey (l : Launch) (dC : Nat → ClassId) (dI : Nat → Nat → Nat) (cy : Nat → ClassId) (ad : Nat → Nat) (A : Nat → Prop) (I : St) (J : Rf) (LP : List Nat) (P : St) (p1 : Int32) {post : Int32 → St → Rf → List Nat → St → Prop} (hD : va_D A (cW ad cy I J LP P)) (h : wp_X7_isKey I J LP P p1 post) {Qc : Array Value → State → Outcome → State → Prop} (hQ : ∀ (a : Array Value) (s0 t : State) (r : Int32) (I' : St) (J' : Rf) (LP' : List Nat) (P' : St), post r I' J' LP' P' → wPost (dC, dI) A (cW ad cy I' J' LP' P') t → va_F A s0 t → Qc a s0 (.returned (some (.int r))) t) : Met l yX7_isKey wsX7_isKey rmX7_isKey (va_Pc [.int p1] (wPre (dC, dI) cy A (cW ad cy I J LP P))) Qc 0 0 A := by
  refine Met.ofW (cc := cX7_isKey) (maxL := 1) (ret := (some .boolean)) (by decide) rfl ?_
  intro p e s m args below meth c s₁ B hml hv
  obtain ⟨rfl, hP, hK, hN, hA⟩ := hv
  have hx := B.exec
  have hb := B.bytes
  have hr := B.returns
  have hts := atoms_spec (ws := wsX7_isKey) B.pre
  have hown : s.vm.findClass RX7 = some m.cls := findClass_of_methodNamed B.named
  have hlocks := B.notSynchronized
  have hS : va_S A s.heap s.heap [] := va_S.rf
  unfold wp_X7_isKey at h
  have hl := lv_entry ([.int p1]) (n := 1) (Nat.le_of_ble_eq_true rfl)
  rw [lg_entry_eq]
  generalize (lg_sl ([.int p1]) ++ List.replicate (1 - (lg_sl ([.int p1])).length) Slot.unset).toArray = ls at hl ⊢
  have hl : lv_has ls 1 [(0, .int p1)] := hl
  refine lv_iload_n hx hb dX7_isKey_0 rfl (lv_at hl 0 rfl) ?_
  refine lv_if_lt (tgt := 14) hx hb dX7_isKey_1 (by decide) (fun hc => ?_) (fun hc => ?_)
  · have h := h.1 hc
    refine lv_iconst (v := 0) hx hb dX7_isKey_14 (by decide) ?_
    exact W.zret (v := 0) (ty := .boolean) hx hb hr rfl (fun t ht hW => hQ _ _ t 0 I J LP P h ⟨by rw [ht]; exact hP, hD⟩ (hS.F ht)) hS.2.2 dX7_isKey_15
  · have h := h.2 hc
    refine lv_iload_n hx hb dX7_isKey_4 rfl (lv_at hl 0 rfl) ?_
    refine lv_bipush (v := 6) hx hb dX7_isKey_5 (by decide) ?_
    refine lv_icmp_ge (tgt := 14) hx hb dX7_isKey_7 (by decide) (fun hc => ?_) (fun hc => ?_)
    · have h := h.1 hc
      refine lv_iconst (v := 0) hx hb dX7_isKey_14 (by decide) ?_
      exact W.zret (v := 0) (ty := .boolean) hx hb hr rfl (fun t ht hW => hQ _ _ t 0 I J LP P h ⟨by rw [ht]; exact hP, hD⟩ (hS.F ht)) hS.2.2 dX7_isKey_15
    · have h := h.2 hc
      refine lv_iconst (v := 1) hx hb dX7_isKey_10 (by decide) ?_
      refine lv_goto (tgt := 15) hx hb dX7_isKey_11 (by decide) ?_
      exact W.zret (v := 1) (ty := .boolean) hx hb hr rfl (fun t ht hW => hQ _ _ t 1 I J LP P h ⟨by rw [ht]; exact hP, hD⟩ (hS.F ht)) hS.2.2 dX7_isKey_15
theorem m_X7_isKey (l : Launch) (dC : Nat → ClassId) (dI : Nat → Nat → Nat) (cy : Nat → ClassId) (ad : Nat → Nat) (A : Nat → Prop) (I : St) (J : Rf) (LP : List Nat) (P : St) (p1 : Int32) {post : Int32 → St → Rf → List Nat → St → Prop} (hD : va_D A (cW ad cy I J LP P)) (h : wp_X7_isKey I J LP P p1 post) : Met l yX7_isKey wsX7_isKey rmX7_isKey (va_Pc [.int p1] (wPre (dC, dI) cy A (cW ad cy I J LP P))) (va_Qi (fun r (u : CS) => post r u.1 u.2.1 u.2.2.1 u.2.2.2) (fun (u : CS) t => wPost (dC, dI) A (cW ad cy u.1 u.2.1 u.2.2.1 u.2.2.2) t) A) 0 0 A := g_X7_isKey l dC dI cy ad A I J LP P p1 hD h (fun a s0 t r I' J' LP' P' h1 h2 h3 => ⟨⟨r, (I', J', LP', P'), rfl, h1, h2⟩, h3⟩)
abbrev rmX7_write : Room := { frames := 1, cells := 0, slots := 0, locals := 23 }
set_option maxHeartbeats 4000000 in
set_option maxRecDepth 100000 in
theorem g_X7_write (l : Launch) (dC : Nat → ClassId) (dI : Nat → Nat → Nat) (cy : Nat → ClassId) (ad : Nat → Nat) (A : Nat → Prop) (I : St) (J : Rf) (LP : List Nat) (P : St) (p1 : Int32) (p2 : Int32) (p3 : Int32) {post : Int32 → St → Rf → List Nat → St → Prop} (hD : va_D A (cW ad cy I J LP P)) (h : wp_X7_write I J LP P p1 p2 p3 post) {Qc : Array Value → State → Outcome → State → Prop} (hQ : ∀ (a : Array Value) (s0 t : State) (r : Int32) (I' : St) (J' : Rf) (LP' : List Nat) (P' : St), post r I' J' LP' P' → wPost (dC, dI) A (cW ad cy I' J' LP' P') t → va_F A s0 t → Qc a s0 (.returned (some (.int r))) t) : Met l yX7_write wsX7_write rmX7_write (va_Pc [.ref (ad 0), .int p1, .int p2, .int p3] (wPre (dC, dI) cy A (cW ad cy I J LP P))) Qc 0 0 A := by
  refine Met.ofW (cc := cX7_write) (maxL := 4) (ret := (some .int)) (by decide) rfl ?_
  intro p e s m args below meth c s₁ B hml hv
  obtain ⟨rfl, hP, hK, hN, hA⟩ := hv
  have hx := B.exec
  have hb := B.bytes
  have hr := B.returns
  have hts := atoms_spec (ws := wsX7_write) B.pre
  have hown : s.vm.findClass RX7 = some m.cls := findClass_of_methodNamed B.named
  have hlocks := B.notSynchronized
  have hinX7 : ∀ w ∈ wsX70, w ∈ wsX7_write := fun _ h9 => List.mem_cons_of_mem _ (List.mem_append_left _ (List.mem_append_right _ h9))
  have hS : va_S A s.heap s.heap [] := va_S.rf
  unfold wp_X7_write at h
  have hl := lv_entry ([.ref (ad 0), .int p1, .int p2, .int p3]) (n := 4) (Nat.le_of_ble_eq_true rfl)
  rw [lg_entry_eq]
  generalize (lg_sl ([.ref (ad 0), .int p1, .int p2, .int p3]) ++ List.replicate (4 - (lg_sl ([.ref (ad 0), .int p1, .int p2, .int p3])).length) Slot.unset).toArray = ls at hl ⊢
  have hl : lv_has ls 4 [(0, .ref (ad 0)), (1, .int p1), (2, .int p2), (3, .int p3)] := hl
  refine lv_aload_n hx hb dX7_write_0 rfl (lv_at hl 0 rfl) ?_
  refine va_get (D := (dC, dI)) (ci := 7) (v := .ref (ad 3)) (C := RX7) (T := TX7) (N := 5) hx hb hts hinX7 hown hK hP 0 cG_0 rfl 1 (by decide) (hts (.fieldLink RX7 21 "OutboxHouse" "source" "LOutboxHouse$Source;") (by decide +kernel)) (fun _ h9 => h9) rfl dX7_write_1 ?_
  refine lv_iload_n hx hb dX7_write_4 rfl (lv_at hl 1 rfl) ?_
  refine va_calli (va_runV (As := [.int p1]) (rest := []) ⟨hx, hb, hml, hown, hts⟩ (m_X4_isOpen l dC dI cy ad A I J LP P p1 hD h) (cwV 1 hts gX7_write_X4_isOpen rfl rfl rfl (by decide +kernel) ⟨Nat.le_of_ble_eq_true rfl, Nat.le_of_ble_eq_true rfl⟩) ⟨wPre.blind, va_recv hK hP (ci := 4) (q0 := 3) rfl cG_3, wPre.at hP hK hN hS hA⟩ rfl rfl hl.1 rfl (lv_room (Nat.le_of_ble_eq_true rfl)) dX7_write_5 ⟨by first | exact Nat.le_of_ble_eq_true rfl | (show _ ≤ 0; omega), by first | exact Nat.le_of_ble_eq_true rfl | (show _ ≤ 0; omega)⟩) hS (fun q _ h => h) (fun q h => h) (fun r1 u t H locs ht hvm hw hB hz1 hk1 hS => ?_)
  obtain ⟨I2, J3, LP4, P5⟩ := u
  obtain ⟨hP, hD⟩ := hB; rw [ht] at hP; replace h := hw; try dsimp only at h hP hD
  refine lv_if_eq (tgt := 18) hx hb dX7_write_8 (by decide) (fun hc => ?_) (fun hc => ?_)
  · have h := h.1 hc
    refine lv_iconst (v := (-1)) hx hb dX7_write_18 (by decide) ?_
    exact W.iret (v := (-1)) hx hb hr (fun t ht hW => hQ _ _ t (-1) I2 J3 LP4 P5 h ⟨by rw [ht]; exact hP, hD⟩ (hS.F ht)) hS.2.2 dX7_write_19
  · have h := h.2 hc
    refine lv_iload_n hx hb dX7_write_11 rfl (lv_at hl 2 rfl) ?_
    refine va_calli (va_runS (As := [.int p2]) (rest := []) ⟨hx, hb, hml, hown, hts⟩ (m_X7_isKey l dC dI cy ad A I2 J3 LP4 P5 p2 hD h) (va_cwS 1 hts gX7_write_X7_isKey rfl rfl rfl (by decide +kernel) ⟨Nat.le_of_ble_eq_true rfl, Nat.le_of_ble_eq_true rfl⟩) ⟨wPre.blind, wPre.at hP hK hN hS hA⟩ rfl rfl hl.1 rfl (lv_room (Nat.le_of_ble_eq_true rfl)) dX7_write_12 ⟨by first | exact Nat.le_of_ble_eq_true rfl | (show _ ≤ 0; omega), by first | exact Nat.le_of_ble_eq_true rfl | (show _ ≤ 0; omega)⟩) hS (fun q _ h => h) (fun q h => h) (fun r6 u t H locs ht hvm hw hB hz1 hk1 hS => ?_)
    obtain ⟨I7, J8, LP9, P10⟩ := u
    obtain ⟨hP, hD⟩ := hB; rw [ht] at hP; replace h := hw; try dsimp only at h hP hD
    refine lv_if_ne (tgt := 20) hx hb dX7_write_15 (by decide) (fun hc => ?_) (fun hc => ?_)
    · have h := h.1 hc
      refine lv_aload_n hx hb dX7_write_20 rfl (lv_at hl 0 rfl) ?_
      refine va_get (D := (dC, dI)) (ci := 7) (v := .ref (ad 3)) (C := RX7) (T := TX7) (N := 5) hx hb hts hinX7 hown hK hP 0 cG_0 rfl 1 (by decide) (hts (.fieldLink RX7 21 "OutboxHouse" "source" "LOutboxHouse$Source;") (by decide +kernel)) (fun _ h9 => h9) rfl dX7_write_21 ?_
      refine lv_iload_n hx hb dX7_write_24 rfl (lv_at hl 1 rfl) ?_
      refine lv_iload_n hx hb dX7_write_25 rfl (lv_at hl 2 rfl) ?_
      refine lv_iload_n hx hb dX7_write_26 rfl (lv_at hl 3 rfl) ?_
      refine va_calli (va_runV (As := [.int p1, .int p2, .int p3]) (rest := []) ⟨hx, hb, hml, hown, hts⟩ (m_X4_draft l dC dI cy ad A I7 J8 LP9 P10 p1 p2 p3 hD h) (cwV 3 hts gX7_write_X4_draft rfl rfl rfl (by decide +kernel) ⟨Nat.le_of_ble_eq_true rfl, Nat.le_of_ble_eq_true rfl⟩) ⟨wPre.blind, va_recv hK hP (ci := 4) (q0 := 3) rfl cG_3, wPre.at hP hK hN hS hA⟩ rfl rfl hl.1 rfl (lv_room (Nat.le_of_ble_eq_true rfl)) dX7_write_27 ⟨by first | exact Nat.le_of_ble_eq_true rfl | (show _ ≤ 0; omega), by first | exact Nat.le_of_ble_eq_true rfl | (show _ ≤ 0; omega)⟩) hS (fun q _ h => h) (fun q h => h) (fun r11 u t H locs ht hvm hw hB hz1 hk1 hS => ?_)
      obtain ⟨I12, J13, LP14, P15⟩ := u
      obtain ⟨hP, hD⟩ := hB; rw [ht] at hP; replace h := hw; try dsimp only at h hP hD
      refine lv_if_eq (tgt := 37) hx hb dX7_write_30 (by decide) (fun hc => ?_) (fun hc => ?_)
      · have h := h.1 hc
        refine lv_bipush (v := (-2)) hx hb dX7_write_37 (by decide) ?_
        exact W.iret (v := (-2)) hx hb hr (fun t ht hW => hQ _ _ t (-2) I12 J13 LP14 P15 h ⟨by rw [ht]; exact hP, hD⟩ (hS.F ht)) hS.2.2 dX7_write_39
      · have h := h.2 hc
        refine lv_iconst (v := 1) hx hb dX7_write_33 (by decide) ?_
        refine lv_goto (tgt := 39) hx hb dX7_write_34 (by decide) ?_
        exact W.iret (v := 1) hx hb hr (fun t ht hW => hQ _ _ t 1 I12 J13 LP14 P15 h ⟨by rw [ht]; exact hP, hD⟩ (hS.F ht)) hS.2.2 dX7_write_39
    · have h := h.2 hc
      refine lv_iconst (v := (-1)) hx hb dX7_write_18 (by decide) ?_
      exact W.iret (v := (-1)) hx hb hr (fun t ht hW => hQ _ _ t (-1) I7 J8 LP9 P10 h ⟨by rw [ht]; exact hP, hD⟩ (hS.F ht)) hS.2.2 dX7_write_19
theorem m_X7_write (l : Launch) (dC : Nat → ClassId) (dI : Nat → Nat → Nat) (cy : Nat → ClassId) (ad : Nat → Nat) (A : Nat → Prop) (I : St) (J : Rf) (LP : List Nat) (P : St) (p1 : Int32) (p2 : Int32) (p3 : Int32) {post : Int32 → St → Rf → List Nat → St → Prop} (hD : va_D A (cW ad cy I J LP P)) (h : wp_X7_write I J LP P p1 p2 p3 post) : Met l yX7_write wsX7_write rmX7_write (va_Pc [.ref (ad 0), .int p1, .int p2, .int p3] (wPre (dC, dI) cy A (cW ad cy I J LP P))) (va_Qi (fun r (u : CS) => post r u.1 u.2.1 u.2.2.1 u.2.2.2) (fun (u : CS) t => wPost (dC, dI) A (cW ad cy u.1 u.2.1 u.2.2.1 u.2.2.2) t) A) 0 0 A := g_X7_write l dC dI cy ad A I J LP P p1 p2 p3 hD h (fun a s0 t r I' J' LP' P' h1 h2 h3 => ⟨⟨r, (I', J', LP', P'), rfl, h1, h2⟩, h3⟩)
