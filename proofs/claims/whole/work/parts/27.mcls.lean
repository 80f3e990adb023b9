abbrev rmX7_whole : Room := { frames := 2, cells := 0, slots := 0, locals := 45 }
set_option maxHeartbeats 4000000 in
set_option maxRecDepth 100000 in
theorem g_X7_whole (l : Launch) (dC : Nat → ClassId) (dI : Nat → Nat → Nat) (cy : Nat → ClassId) (ad : Nat → Nat) (A : Nat → Prop) (I : St) (J : Rf) (LP : List Nat) (P : St)  {post : Int32 → St → Rf → List Nat → St → Prop} (hD : va_D A (cW ad cy I J LP P)) (h : wp_X7_whole I J LP P  post) {Qc : Array Value → State → Outcome → State → Prop} (hQ : ∀ (a : Array Value) (s0 t : State) (r : Int32) (I' : St) (J' : Rf) (LP' : List Nat) (P' : St), post r I' J' LP' P' → wPost (dC, dI) A (cW ad cy I' J' LP' P') t → va_F A s0 t → Qc a s0 (.returned (some (.int r))) t) : Met l yX7_whole wsX7_whole rmX7_whole (va_Pc [.ref (ad 0)] (wPre (dC, dI) cy A (cW ad cy I J LP P))) Qc 0 0 A := by
  refine Met.ofW (cc := cX7_whole) (maxL := 1) (ret := (some .int)) (by decide) rfl ?_
  intro p e s m args below meth c s₁ B hml hv
  obtain ⟨rfl, hP, hK, hN, hA⟩ := hv
  have hx := B.exec
  have hb := B.bytes
  have hr := B.returns
  have hts := atoms_spec (ws := wsX7_whole) B.pre
  have hown : s.vm.findClass RX7 = some m.cls := findClass_of_methodNamed B.named
  have hlocks := B.notSynchronized
  have hinX7 : ∀ w ∈ wsX70, w ∈ wsX7_whole := fun _ h9 => List.mem_cons_of_mem _ (List.mem_append_left _ (List.mem_append_left _ (List.mem_append_left _ (List.mem_append_left _ (List.mem_append_right _ h9)))))
  have hS : va_S A s.heap s.heap [] := va_S.rf
  unfold wp_X7_whole at h
  have hl := lv_entry ([.ref (ad 0)]) (n := 1) (Nat.le_of_ble_eq_true rfl)
  rw [lg_entry_eq]
  generalize (lg_sl ([.ref (ad 0)]) ++ List.replicate (1 - (lg_sl ([.ref (ad 0)])).length) Slot.unset).toArray = ls at hl ⊢
  have hl : lv_has ls 1 [(0, .ref (ad 0))] := hl
  refine lv_aload_n hx hb dX7_whole_0 rfl (lv_at hl 0 rfl) ?_
  refine va_get (D := (dC, dI)) (ci := 7) (v := .ref (ad 19)) (C := RX7) (T := TX7) (N := 5) hx hb hts hinX7 hown hK hP 0 cG_0 rfl 3 (by decide) (hts (.fieldLink RX7 35 "OutboxHouse" "target" "LOutboxHouse$Target;") (by decide +kernel)) (fun _ h9 => h9) rfl dX7_whole_1 ?_
  refine va_calli (va_runV (As := []) (rest := []) ⟨hx, hb, hml, hown, hts⟩ (m_X5_diskIsWhole l dC dI cy ad A I J LP P  hD h) (cwV 0 hts gX7_whole_X5_diskIsWhole rfl rfl rfl (by decide +kernel) ⟨Nat.le_of_ble_eq_true rfl, Nat.le_of_ble_eq_true rfl⟩) ⟨wPre.blind, va_recv hK hP (ci := 5) (q0 := 19) rfl cG_19, wPre.at hP hK hN hS hA⟩ rfl rfl hl.1 rfl (lv_room (Nat.le_of_ble_eq_true rfl)) dX7_whole_4 ⟨by first | exact Nat.le_of_ble_eq_true rfl | (show _ ≤ 0; omega), by first | exact Nat.le_of_ble_eq_true rfl | (show _ ≤ 0; omega)⟩) hS (fun q _ h => h) (fun q h => h) (fun r1 u t H locs ht hvm hw hB hz1 hk1 hS => ?_)
  obtain ⟨I2, J3, LP4, P5⟩ := u
  obtain ⟨hP, hD⟩ := hB; rw [ht] at hP; replace h := hw; try dsimp only at h hP hD
  refine lv_if_eq (tgt := 14) hx hb dX7_whole_7 (by decide) (fun hc => ?_) (fun hc => ?_)
  · have h := h.1 hc
    refine lv_iconst (v := 0) hx hb dX7_whole_14 (by decide) ?_
    exact W.iret (v := 0) hx hb hr (fun t ht hW => hQ _ _ t 0 I2 J3 LP4 P5 h ⟨by rw [ht]; exact hP, hD⟩ (hS.F ht)) hS.2.2 dX7_whole_15
  · have h := h.2 hc
    refine lv_iconst (v := 1) hx hb dX7_whole_10 (by decide) ?_
    refine lv_goto (tgt := 15) hx hb dX7_whole_11 (by decide) ?_
    exact W.iret (v := 1) hx hb hr (fun t ht hW => hQ _ _ t 1 I2 J3 LP4 P5 h ⟨by rw [ht]; exact hP, hD⟩ (hS.F ht)) hS.2.2 dX7_whole_15
theorem m_X7_whole (l : Launch) (dC : Nat → ClassId) (dI : Nat → Nat → Nat) (cy : Nat → ClassId) (ad : Nat → Nat) (A : Nat → Prop) (I : St) (J : Rf) (LP : List Nat) (P : St)  {post : Int32 → St → Rf → List Nat → St → Prop} (hD : va_D A (cW ad cy I J LP P)) (h : wp_X7_whole I J LP P  post) : Met l yX7_whole wsX7_whole rmX7_whole (va_Pc [.ref (ad 0)] (wPre (dC, dI) cy A (cW ad cy I J LP P))) (va_Qi (fun r (u : CS) => post r u.1 u.2.1 u.2.2.1 u.2.2.2) (fun (u : CS) t => wPost (dC, dI) A (cW ad cy u.1 u.2.1 u.2.2.1 u.2.2.2) t) A) 0 0 A := g_X7_whole l dC dI cy ad A I J LP P  hD h (fun a s0 t r I' J' LP' P' h1 h2 h3 => ⟨⟨r, (I', J', LP', P'), rfl, h1, h2⟩, h3⟩)
abbrev rmX7_prefix : Room := { frames := 2, cells := 0, slots := 0, locals := 44 }
set_option maxHeartbeats 4000000 in
set_option maxRecDepth 100000 in
theorem g_X7_prefix (l : Launch) (dC : Nat → ClassId) (dI : Nat → Nat → Nat) (cy : Nat → ClassId) (ad : Nat → Nat) (A : Nat → Prop) (I : St) (J : Rf) (LP : List Nat) (P : St) (p1 : Int32) {post : Int32 → St → Rf → List Nat → St → Prop} (hD : va_D A (cW ad cy I J LP P)) (h : wp_X7_prefix I J LP P p1 post) {Qc : Array Value → State → Outcome → State → Prop} (hQ : ∀ (a : Array Value) (s0 t : State) (r : Int32) (I' : St) (J' : Rf) (LP' : List Nat) (P' : St), post r I' J' LP' P' → wPost (dC, dI) A (cW ad cy I' J' LP' P') t → va_F A s0 t → Qc a s0 (.returned (some (.int r))) t) : Met l yX7_prefix wsX7_prefix rmX7_prefix (va_Pc [.ref (ad 0), .int p1] (wPre (dC, dI) cy A (cW ad cy I J LP P))) Qc 0 0 A := by
  refine Met.ofW (cc := cX7_prefix) (maxL := 3) (ret := (some .int)) (by decide) rfl ?_
  intro p e s m args below meth c s₁ B hml hv
  obtain ⟨rfl, hP, hK, hN, hA⟩ := hv
  have hx := B.exec
  have hb := B.bytes
  have hr := B.returns
  have hts := atoms_spec (ws := wsX7_prefix) B.pre
  have hown : s.vm.findClass RX7 = some m.cls := findClass_of_methodNamed B.named
  have hlocks := B.notSynchronized
  have hinX7 : ∀ w ∈ wsX70, w ∈ wsX7_prefix := fun _ h9 => List.mem_cons_of_mem _ (List.mem_append_left _ (List.mem_append_left _ (List.mem_append_left _ (List.mem_append_left _ (List.mem_append_right _ h9)))))
  have hinX5 : ∀ w ∈ wsX50, w ∈ wsX7_prefix := fun _ h9 => List.mem_cons_of_mem _ (List.mem_append_left _ (List.mem_append_left _ (List.mem_append_left _ (List.mem_append_right _ h9))))
  have hS : va_S A s.heap s.heap [] := va_S.rf
  unfold wp_X7_prefix at h
  have hl := lv_entry ([.ref (ad 0), .int p1]) (n := 3) (Nat.le_of_ble_eq_true rfl)
  rw [lg_entry_eq]
  generalize (lg_sl ([.ref (ad 0), .int p1]) ++ List.replicate (3 - (lg_sl ([.ref (ad 0), .int p1])).length) Slot.unset).toArray = ls at hl ⊢
  have hl : lv_has ls 3 [(0, .ref (ad 0)), (1, .int p1)] := hl
  refine lv_iload_n hx hb dX7_prefix_0 rfl (lv_at hl 1 rfl) ?_
  refine lv_if_lt (tgt := 9) hx hb dX7_prefix_1 (by decide) (fun hc => ?_) (fun hc => ?_)
  · have h := h.1 hc
    refine lv_iconst (v := (-1)) hx hb dX7_prefix_9 (by decide) ?_
    exact W.iret (v := (-1)) hx hb hr (fun t ht hW => hQ _ _ t (-1) I J LP P h ⟨by rw [ht]; exact hP, hD⟩ (hS.F ht)) hS.2.2 dX7_prefix_10
  · have h := h.2 hc
    refine lv_iload_n hx hb dX7_prefix_4 rfl (lv_at hl 1 rfl) ?_
    refine lv_iconst (v := 1) hx hb dX7_prefix_5 (by decide) ?_
    refine lv_icmp_le (tgt := 11) hx hb dX7_prefix_6 (by decide) (fun hc => ?_) (fun hc => ?_)
    · have h := h.1 hc
      refine lv_iload_n hx hb dX7_prefix_11 rfl (lv_at hl 1 rfl) ?_
      refine lv_if_ne (tgt := 25) hx hb dX7_prefix_12 (by decide) (fun hc => ?_) (fun hc => ?_)
      · have h := h.1 hc
        refine lv_aload_n hx hb dX7_prefix_25 rfl (lv_at hl 0 rfl) ?_
        refine va_get (D := (dC, dI)) (ci := 7) (v := .ref (ad 19)) (C := RX7) (T := TX7) (N := 5) hx hb hts hinX7 hown hK hP 0 cG_0 rfl 3 (by decide) (hts (.fieldLink RX7 35 "OutboxHouse" "target" "LOutboxHouse$Target;") (by decide +kernel)) (fun _ h9 => h9) rfl dX7_prefix_26 ?_
        refine va_getN (D := (dC, dI)) (ci := 5) (v := .ref (ad 21)) (C := RX5) (T := TX5) (N := 7) hx hb hts hinX5 hown hK hP 19 cG_19 rfl 2 (by decide) (va_Nw.use rfl (hN.1 (RX7, 105, "OutboxHouse$Target", "disk", "LOutboxHouse$TargetState;", "OutboxHouse") (by decide +kernel))) (fun _ h9 => h9) rfl dX7_prefix_29 ?_
        refine lv_astore_n (lv' := [(2, .ref (ad 21)), (0, .ref (ad 0)), (1, .int p1)]) hx hb dX7_prefix_32 rfl hl (by decide) rfl (fun ls hl => ?_)
        refine lv_aload_n hx hb dX7_prefix_33 rfl (lv_at hl 0 rfl) ?_
        refine lv_aload_n hx hb dX7_prefix_34 rfl (lv_at hl 1 rfl) ?_
        refine va_get (D := (dC, dI)) (ci := 7) (v := .ref (ad 1)) (C := RX7) (T := TX7) (N := 5) hx hb hts hinX7 hown hK hP 0 cG_0 rfl 0 (by decide) (hts (.fieldLink RX7 10 "OutboxHouse" "changes" "LOutboxHouse$ChangeLog;") (by decide +kernel)) (fun _ h9 => h9) rfl dX7_prefix_35 ?_
        refine va_calli (va_runV (As := [.ref (ad 1)]) (rest := []) ⟨hx, hb, hml, hown, hts⟩ (m_X6_isAsFlushed l dC dI cy ad A I J LP P 21 (by decide) hD h) (cwV 1 hts gX7_prefix_X6_isAsFlushed rfl rfl rfl (by decide +kernel) ⟨Nat.le_of_ble_eq_true rfl, Nat.le_of_ble_eq_true rfl⟩) ⟨wPre.blind, va_recv hK hP (ci := 6) (q0 := 21) rfl (cG_ts (j := 21) (by decide)), wPre.at hP hK hN hS hA⟩ rfl rfl hl.1 rfl (lv_room (Nat.le_of_ble_eq_true rfl)) dX7_prefix_38 ⟨by first | exact Nat.le_of_ble_eq_true rfl | (show _ ≤ 0; omega), by first | exact Nat.le_of_ble_eq_true rfl | (show _ ≤ 0; omega)⟩) hS (fun q _ h => h) (fun q h => h) (fun r1 u t H locs ht hvm hw hB hz1 hk1 hS => ?_)
        obtain ⟨I2, J3, LP4, P5⟩ := u
        obtain ⟨hP, hD⟩ := hB; rw [ht] at hP; replace h := hw; try dsimp only at h hP hD
        refine lv_if_eq (tgt := 48) hx hb dX7_prefix_41 (by decide) (fun hc => ?_) (fun hc => ?_)
        · have h := h.1 hc
          refine lv_iconst (v := 0) hx hb dX7_prefix_48 (by decide) ?_
          exact W.iret (v := 0) hx hb hr (fun t ht hW => hQ _ _ t 0 I2 J3 LP4 P5 h ⟨by rw [ht]; exact hP, hD⟩ (hS.F ht)) hS.2.2 dX7_prefix_49
        · have h := h.2 hc
          refine lv_iconst (v := 1) hx hb dX7_prefix_44 (by decide) ?_
          refine lv_goto (tgt := 49) hx hb dX7_prefix_45 (by decide) ?_
          exact W.iret (v := 1) hx hb hr (fun t ht hW => hQ _ _ t 1 I2 J3 LP4 P5 h ⟨by rw [ht]; exact hP, hD⟩ (hS.F ht)) hS.2.2 dX7_prefix_49
      · have h := h.2 hc
        refine lv_aload_n hx hb dX7_prefix_15 rfl (lv_at hl 0 rfl) ?_
        refine va_get (D := (dC, dI)) (ci := 7) (v := .ref (ad 19)) (C := RX7) (T := TX7) (N := 5) hx hb hts hinX7 hown hK hP 0 cG_0 rfl 3 (by decide) (hts (.fieldLink RX7 35 "OutboxHouse" "target" "LOutboxHouse$Target;") (by decide +kernel)) (fun _ h9 => h9) rfl dX7_prefix_16 ?_
        refine va_getN (D := (dC, dI)) (ci := 5) (v := .ref (ad 20)) (C := RX5) (T := TX5) (N := 7) hx hb hts hinX5 hown hK hP 19 cG_19 rfl 1 (by decide) (va_Nw.use rfl (hN.1 (RX7, 95, "OutboxHouse$Target", "memory", "LOutboxHouse$TargetState;", "OutboxHouse") (by decide +kernel))) (fun _ h9 => h9) rfl dX7_prefix_19 ?_
        refine lv_goto (tgt := 32) hx hb dX7_prefix_22 (by decide) ?_
        refine lv_astore_n (lv' := [(2, .ref (ad 20)), (0, .ref (ad 0)), (1, .int p1)]) hx hb dX7_prefix_32 rfl hl (by decide) rfl (fun ls hl => ?_)
        refine lv_aload_n hx hb dX7_prefix_33 rfl (lv_at hl 0 rfl) ?_
        refine lv_aload_n hx hb dX7_prefix_34 rfl (lv_at hl 1 rfl) ?_
        refine va_get (D := (dC, dI)) (ci := 7) (v := .ref (ad 1)) (C := RX7) (T := TX7) (N := 5) hx hb hts hinX7 hown hK hP 0 cG_0 rfl 0 (by decide) (hts (.fieldLink RX7 10 "OutboxHouse" "changes" "LOutboxHouse$ChangeLog;") (by decide +kernel)) (fun _ h9 => h9) rfl dX7_prefix_35 ?_
        refine va_calli (va_runV (As := [.ref (ad 1)]) (rest := []) ⟨hx, hb, hml, hown, hts⟩ (m_X6_isAsFlushed l dC dI cy ad A I J LP P 20 (by decide) hD h) (cwV 1 hts gX7_prefix_X6_isAsFlushed rfl rfl rfl (by decide +kernel) ⟨Nat.le_of_ble_eq_true rfl, Nat.le_of_ble_eq_true rfl⟩) ⟨wPre.blind, va_recv hK hP (ci := 6) (q0 := 20) rfl (cG_ts (j := 20) (by decide)), wPre.at hP hK hN hS hA⟩ rfl rfl hl.1 rfl (lv_room (Nat.le_of_ble_eq_true rfl)) dX7_prefix_38 ⟨by first | exact Nat.le_of_ble_eq_true rfl | (show _ ≤ 0; omega), by first | exact Nat.le_of_ble_eq_true rfl | (show _ ≤ 0; omega)⟩) hS (fun q _ h => h) (fun q h => h) (fun r6 u t H locs ht hvm hw hB hz1 hk1 hS => ?_)
        obtain ⟨I7, J8, LP9, P10⟩ := u
        obtain ⟨hP, hD⟩ := hB; rw [ht] at hP; replace h := hw; try dsimp only at h hP hD
        refine lv_if_eq (tgt := 48) hx hb dX7_prefix_41 (by decide) (fun hc => ?_) (fun hc => ?_)
        · have h := h.1 hc
          refine lv_iconst (v := 0) hx hb dX7_prefix_48 (by decide) ?_
          exact W.iret (v := 0) hx hb hr (fun t ht hW => hQ _ _ t 0 I7 J8 LP9 P10 h ⟨by rw [ht]; exact hP, hD⟩ (hS.F ht)) hS.2.2 dX7_prefix_49
        · have h := h.2 hc
          refine lv_iconst (v := 1) hx hb dX7_prefix_44 (by decide) ?_
          refine lv_goto (tgt := 49) hx hb dX7_prefix_45 (by decide) ?_
          exact W.iret (v := 1) hx hb hr (fun t ht hW => hQ _ _ t 1 I7 J8 LP9 P10 h ⟨by rw [ht]; exact hP, hD⟩ (hS.F ht)) hS.2.2 dX7_prefix_49
    · have h := h.2 hc
      refine lv_iconst (v := (-1)) hx hb dX7_prefix_9 (by decide) ?_
      exact W.iret (v := (-1)) hx hb hr (fun t ht hW => hQ _ _ t (-1) I J LP P h ⟨by rw [ht]; exact hP, hD⟩ (hS.F ht)) hS.2.2 dX7_prefix_10
theorem m_X7_prefix (l : Launch) (dC : Nat → ClassId) (dI : Nat → Nat → Nat) (cy : Nat → ClassId) (ad : Nat → Nat) (A : Nat → Prop) (I : St) (J : Rf) (LP : List Nat) (P : St) (p1 : Int32) {post : Int32 → St → Rf → List Nat → St → Prop} (hD : va_D A (cW ad cy I J LP P)) (h : wp_X7_prefix I J LP P p1 post) : Met l yX7_prefix wsX7_prefix rmX7_prefix (va_Pc [.ref (ad 0), .int p1] (wPre (dC, dI) cy A (cW ad cy I J LP P))) (va_Qi (fun r (u : CS) => post r u.1 u.2.1 u.2.2.1 u.2.2.2) (fun (u : CS) t => wPost (dC, dI) A (cW ad cy u.1 u.2.1 u.2.2.1 u.2.2.2) t) A) 0 0 A := g_X7_prefix l dC dI cy ad A I J LP P p1 hD h (fun a s0 t r I' J' LP' P' h1 h2 h3 => ⟨⟨r, (I', J', LP', P'), rfl, h1, h2⟩, h3⟩)
abbrev rmX7_count : Room := { frames := 1, cells := 0, slots := 0, locals := 22 }
set_option maxHeartbeats 4000000 in
set_option maxRecDepth 100000 in
theorem g_X7_count (l : Launch) (dC : Nat → ClassId) (dI : Nat → Nat → Nat) (cy : Nat → ClassId) (ad : Nat → Nat) (A : Nat → Prop) (I : St) (J : Rf) (LP : List Nat) (P : St) (p1 : Int32) {post : Int32 → St → Rf → List Nat → St → Prop} (hD : va_D A (cW ad cy I J LP P)) (h : wp_X7_count I J LP P p1 post) {Qc : Array Value → State → Outcome → State → Prop} (hQ : ∀ (a : Array Value) (s0 t : State) (r : Int32) (I' : St) (J' : Rf) (LP' : List Nat) (P' : St), post r I' J' LP' P' → wPost (dC, dI) A (cW ad cy I' J' LP' P') t → va_F A s0 t → Qc a s0 (.returned (some (.int r))) t) : Met l yX7_count wsX7_count rmX7_count (va_Pc [.ref (ad 0), .int p1] (wPre (dC, dI) cy A (cW ad cy I J LP P))) Qc 0 0 A := by
  refine Met.ofW (cc := cX7_count) (maxL := 2) (ret := (some .int)) (by decide) rfl ?_
  intro p e s m args below meth c s₁ B hml hv
  obtain ⟨rfl, hP, hK, hN, hA⟩ := hv
  have hx := B.exec
  have hb := B.bytes
  have hr := B.returns
  have hts := atoms_spec (ws := wsX7_count) B.pre
  have hown : s.vm.findClass RX7 = some m.cls := findClass_of_methodNamed B.named
  have hlocks := B.notSynchronized
  have hinX7 : ∀ w ∈ wsX70, w ∈ wsX7_count := fun _ h9 => List.mem_cons_of_mem _ (List.mem_append_left _ (List.mem_append_left _ (List.mem_append_left _ (List.mem_append_left _ (List.mem_append_left _ (List.mem_append_left _ (List.mem_append_right _ h9)))))))
  have hinX1 : ∀ w ∈ wsX10, w ∈ wsX7_count := fun _ h9 => List.mem_cons_of_mem _ (List.mem_append_left _ (List.mem_append_left _ (List.mem_append_left _ (List.mem_append_left _ (List.mem_append_left _ (List.mem_append_right _ h9))))))
  have hinX2 : ∀ w ∈ wsX20, w ∈ wsX7_count := fun _ h9 => List.mem_cons_of_mem _ (List.mem_append_left _ (List.mem_append_left _ (List.mem_append_left _ (List.mem_append_left _ (List.mem_append_right _ h9)))))
  have hinX5 : ∀ w ∈ wsX50, w ∈ wsX7_count := fun _ h9 => List.mem_cons_of_mem _ (List.mem_append_left _ (List.mem_append_left _ (List.mem_append_left _ (List.mem_append_right _ h9))))
  have hinX3 : ∀ w ∈ wsX30, w ∈ wsX7_count := fun _ h9 => List.mem_cons_of_mem _ (List.mem_append_left _ (List.mem_append_left _ (List.mem_append_right _ h9)))
  have hinX6 : ∀ w ∈ wsX60, w ∈ wsX7_count := fun _ h9 => List.mem_cons_of_mem _ (List.mem_append_left _ (List.mem_append_right _ h9))
  have hS : va_S A s.heap s.heap [] := va_S.rf
  unfold wp_X7_count at h
  have hl := lv_entry ([.ref (ad 0), .int p1]) (n := 2) (Nat.le_of_ble_eq_true rfl)
  rw [lg_entry_eq]
  generalize (lg_sl ([.ref (ad 0), .int p1]) ++ List.replicate (2 - (lg_sl ([.ref (ad 0), .int p1])).length) Slot.unset).toArray = ls at hl ⊢
  have hl : lv_has ls 2 [(0, .ref (ad 0)), (1, .int p1)] := hl
  refine lv_iload_n hx hb dX7_count_0 rfl (lv_at hl 1 rfl) ?_
  by_cases e0 : p1 = 0
  · have h := h.1 e0
    refine lv_tableIn (off := 71) (tgt := 72) hx hb dX7_count_1 (by rw [e0]; decide) (by rw [e0]; decide) (by rw [e0]; rfl) (by decide) ?_
    refine lv_aload_n hx hb dX7_count_72 rfl (lv_at hl 0 rfl) ?_
    refine va_get (D := (dC, dI)) (ci := 7) (v := .ref (ad 3)) (C := RX7) (T := TX7) (N := 5) hx hb hts hinX7 hown hK hP 0 cG_0 rfl 1 (by decide) (hts (.fieldLink RX7 21 "OutboxHouse" "source" "LOutboxHouse$Source;") (by decide +kernel)) (fun _ h9 => h9) rfl dX7_count_73 ?_
    refine va_calli (va_runV (As := []) (rest := []) ⟨hx, hb, hml, hown, hts⟩ (m_X4_openTransactions l dC dI cy ad A I J LP P  hD h) (cwV 0 hts gX7_count_X4_openTransactions rfl rfl rfl (by decide +kernel) ⟨Nat.le_of_ble_eq_true rfl, Nat.le_of_ble_eq_true rfl⟩) ⟨wPre.blind, va_recv hK hP (ci := 4) (q0 := 3) rfl cG_3, wPre.at hP hK hN hS hA⟩ rfl rfl hl.1 rfl (lv_room (Nat.le_of_ble_eq_true rfl)) dX7_count_76 ⟨by first | exact Nat.le_of_ble_eq_true rfl | (show _ ≤ 0; omega), by first | exact Nat.le_of_ble_eq_true rfl | (show _ ≤ 0; omega)⟩) hS (fun q _ h => h) (fun q h => h) (fun r1 u t H locs ht hvm hw hB hz1 hk1 hS => ?_)
    obtain ⟨I2, J3, LP4, P5⟩ := u
    obtain ⟨hP, hD⟩ := hB; rw [ht] at hP; replace h := hw; try dsimp only at h hP hD
    exact W.iret (v := r1) hx hb hr (fun t ht hW => hQ _ _ t r1 I2 J3 LP4 P5 h ⟨by rw [ht]; exact hP, hD⟩ (hS.F ht)) hS.2.2 dX7_count_79
  replace h := h.2
  by_cases e1 : p1 = 1
  · have h := h.1 e1
    refine lv_tableIn (off := 79) (tgt := 80) hx hb dX7_count_1 (by rw [e1]; decide) (by rw [e1]; decide) (by rw [e1]; rfl) (by decide) ?_
    refine lv_aload_n hx hb dX7_count_80 rfl (lv_at hl 0 rfl) ?_
    refine va_get (D := (dC, dI)) (ci := 7) (v := .ref (ad 1)) (C := RX7) (T := TX7) (N := 5) hx hb hts hinX7 hown hK hP 0 cG_0 rfl 0 (by decide) (hts (.fieldLink RX7 10 "OutboxHouse" "changes" "LOutboxHouse$ChangeLog;") (by decide +kernel)) (fun _ h9 => h9) rfl dX7_count_81 ?_
    refine va_getN (D := (dC, dI)) (ci := 1) (v := .int (I 1 2)) (C := RX1) (T := TX1) (N := 4) hx hb hts hinX1 hown hK hP 1 cG_1 rfl 3 (by decide) (va_Nw.use rfl (hN.1 (RX7, 188, "OutboxHouse$ChangeLog", "end", "I", "OutboxHouse") (by decide +kernel))) (fun _ h9 => h9) rfl dX7_count_84 ?_
    exact W.iret (v := I 1 2) hx hb hr (fun t ht hW => hQ _ _ t (I 1 2) I J LP P h ⟨by rw [ht]; exact hP, hD⟩ (hS.F ht)) hS.2.2 dX7_count_87
  replace h := h.2
  by_cases e2 : p1 = 2
  · have h := h.1 e2
    refine lv_tableIn (off := 87) (tgt := 88) hx hb dX7_count_1 (by rw [e2]; decide) (by rw [e2]; decide) (by rw [e2]; rfl) (by decide) ?_
    refine lv_aload_n hx hb dX7_count_88 rfl (lv_at hl 0 rfl) ?_
    refine va_get (D := (dC, dI)) (ci := 7) (v := .ref (ad 1)) (C := RX7) (T := TX7) (N := 5) hx hb hts hinX7 hown hK hP 0 cG_0 rfl 0 (by decide) (hts (.fieldLink RX7 10 "OutboxHouse" "changes" "LOutboxHouse$ChangeLog;") (by decide +kernel)) (fun _ h9 => h9) rfl dX7_count_89 ?_
    refine va_getN (D := (dC, dI)) (ci := 1) (v := .int (I 1 1)) (C := RX1) (T := TX1) (N := 4) hx hb hts hinX1 hown hK hP 1 cG_1 rfl 2 (by decide) (va_Nw.use rfl (hN.1 (RX7, 191, "OutboxHouse$ChangeLog", "flushed", "I", "OutboxHouse") (by decide +kernel))) (fun _ h9 => h9) rfl dX7_count_92 ?_
    exact W.iret (v := I 1 1) hx hb hr (fun t ht hW => hQ _ _ t (I 1 1) I J LP P h ⟨by rw [ht]; exact hP, hD⟩ (hS.F ht)) hS.2.2 dX7_count_95
  replace h := h.2
  by_cases e3 : p1 = 3
  · have h := h.1 e3
    refine lv_tableIn (off := 95) (tgt := 96) hx hb dX7_count_1 (by rw [e3]; decide) (by rw [e3]; decide) (by rw [e3]; rfl) (by decide) ?_
    refine lv_aload_n hx hb dX7_count_96 rfl (lv_at hl 0 rfl) ?_
    refine va_get (D := (dC, dI)) (ci := 7) (v := .ref (ad 9)) (C := RX7) (T := TX7) (N := 5) hx hb hts hinX7 hown hK hP 0 cG_0 rfl 2 (by decide) (hts (.fieldLink RX7 28 "OutboxHouse" "reader" "LOutboxHouse$Relay;") (by decide +kernel)) (fun _ h9 => h9) rfl dX7_count_97 ?_
    refine va_getN (D := (dC, dI)) (ci := 2) (v := .int (I 9 0)) (C := RX2) (T := TX2) (N := 6) hx hb hts hinX2 hown hK hP 9 cG_9 rfl 2 (by decide) (va_Nw.use rfl (hN.1 (RX7, 194, "OutboxHouse$Relay", "position", "I", "OutboxHouse") (by decide +kernel))) (fun _ h9 => h9) rfl dX7_count_100 ?_
    exact W.iret (v := I 9 0) hx hb hr (fun t ht hW => hQ _ _ t (I 9 0) I J LP P h ⟨by rw [ht]; exact hP, hD⟩ (hS.F ht)) hS.2.2 dX7_count_103
  replace h := h.2
  by_cases e4 : p1 = 4
  · have h := h.1 e4
    refine lv_tableIn (off := 103) (tgt := 104) hx hb dX7_count_1 (by rw [e4]; decide) (by rw [e4]; decide) (by rw [e4]; rfl) (by decide) ?_
    refine lv_aload_n hx hb dX7_count_104 rfl (lv_at hl 0 rfl) ?_
    refine va_get (D := (dC, dI)) (ci := 7) (v := .ref (ad 9)) (C := RX7) (T := TX7) (N := 5) hx hb hts hinX7 hown hK hP 0 cG_0 rfl 2 (by decide) (hts (.fieldLink RX7 28 "OutboxHouse" "reader" "LOutboxHouse$Relay;") (by decide +kernel)) (fun _ h9 => h9) rfl dX7_count_105 ?_
    refine va_getN (D := (dC, dI)) (ci := 2) (v := .int (I 9 1)) (C := RX2) (T := TX2) (N := 6) hx hb hts hinX2 hown hK hP 9 cG_9 rfl 3 (by decide) (va_Nw.use rfl (hN.1 (RX7, 136, "OutboxHouse$Relay", "mark", "I", "OutboxHouse") (by decide +kernel))) (fun _ h9 => h9) rfl dX7_count_108 ?_
    exact W.iret (v := I 9 1) hx hb hr (fun t ht hW => hQ _ _ t (I 9 1) I J LP P h ⟨by rw [ht]; exact hP, hD⟩ (hS.F ht)) hS.2.2 dX7_count_111
  replace h := h.2
  by_cases e5 : p1 = 5
  · have h := h.1 e5
    refine lv_tableIn (off := 111) (tgt := 112) hx hb dX7_count_1 (by rw [e5]; decide) (by rw [e5]; decide) (by rw [e5]; rfl) (by decide) ?_
    refine lv_aload_n hx hb dX7_count_112 rfl (lv_at hl 0 rfl) ?_
    refine va_get (D := (dC, dI)) (ci := 7) (v := .ref (ad 1)) (C := RX7) (T := TX7) (N := 5) hx hb hts hinX7 hown hK hP 0 cG_0 rfl 0 (by decide) (hts (.fieldLink RX7 10 "OutboxHouse" "changes" "LOutboxHouse$ChangeLog;") (by decide +kernel)) (fun _ h9 => h9) rfl dX7_count_113 ?_
    refine va_getN (D := (dC, dI)) (ci := 1) (v := .int (I 1 0)) (C := RX1) (T := TX1) (N := 4) hx hb hts hinX1 hown hK hP 1 cG_1 rfl 1 (by decide) (va_Nw.use rfl (hN.1 (RX7, 197, "OutboxHouse$ChangeLog", "first", "I", "OutboxHouse") (by decide +kernel))) (fun _ h9 => h9) rfl dX7_count_116 ?_
    exact W.iret (v := I 1 0) hx hb hr (fun t ht hW => hQ _ _ t (I 1 0) I J LP P h ⟨by rw [ht]; exact hP, hD⟩ (hS.F ht)) hS.2.2 dX7_count_119
  replace h := h.2
  by_cases e6 : p1 = 6
  · have h := h.1 e6
    refine lv_tableIn (off := 119) (tgt := 120) hx hb dX7_count_1 (by rw [e6]; decide) (by rw [e6]; decide) (by rw [e6]; rfl) (by decide) ?_
    refine lv_aload_n hx hb dX7_count_120 rfl (lv_at hl 0 rfl) ?_
    refine va_get (D := (dC, dI)) (ci := 7) (v := .ref (ad 9)) (C := RX7) (T := TX7) (N := 5) hx hb hts hinX7 hown hK hP 0 cG_0 rfl 2 (by decide) (hts (.fieldLink RX7 28 "OutboxHouse" "reader" "LOutboxHouse$Relay;") (by decide +kernel)) (fun _ h9 => h9) rfl dX7_count_121 ?_
    refine va_calli (va_runV (As := []) (rest := []) ⟨hx, hb, hml, hown, hts⟩ (m_X2_lettersUnderWay l dC dI cy ad A I J LP P  hD h) (cwV 0 hts gX7_count_X2_lettersUnderWay rfl rfl rfl (by decide +kernel) ⟨Nat.le_of_ble_eq_true rfl, Nat.le_of_ble_eq_true rfl⟩) ⟨wPre.blind, va_recv hK hP (ci := 2) (q0 := 9) rfl cG_9, wPre.at hP hK hN hS hA⟩ rfl rfl hl.1 rfl (lv_room (Nat.le_of_ble_eq_true rfl)) dX7_count_124 ⟨by first | exact Nat.le_of_ble_eq_true rfl | (show _ ≤ 0; omega), by first | exact Nat.le_of_ble_eq_true rfl | (show _ ≤ 0; omega)⟩) hS (fun q _ h => h) (fun q h => h) (fun r6 u t H locs ht hvm hw hB hz1 hk1 hS => ?_)
    obtain ⟨I7, J8, LP9, P10⟩ := u
    obtain ⟨hP, hD⟩ := hB; rw [ht] at hP; replace h := hw; try dsimp only at h hP hD
    exact W.iret (v := r6) hx hb hr (fun t ht hW => hQ _ _ t r6 I7 J8 LP9 P10 h ⟨by rw [ht]; exact hP, hD⟩ (hS.F ht)) hS.2.2 dX7_count_127
  replace h := h.2
  by_cases e7 : p1 = 7
  · have h := h.1 e7
    refine lv_tableIn (off := 127) (tgt := 128) hx hb dX7_count_1 (by rw [e7]; decide) (by rw [e7]; decide) (by rw [e7]; rfl) (by decide) ?_
    refine lv_aload_n hx hb dX7_count_128 rfl (lv_at hl 0 rfl) ?_
    refine va_get (D := (dC, dI)) (ci := 7) (v := .ref (ad 9)) (C := RX7) (T := TX7) (N := 5) hx hb hts hinX7 hown hK hP 0 cG_0 rfl 2 (by decide) (hts (.fieldLink RX7 28 "OutboxHouse" "reader" "LOutboxHouse$Relay;") (by decide +kernel)) (fun _ h9 => h9) rfl dX7_count_129 ?_
    refine va_getN (D := (dC, dI)) (ci := 2) (v := .int (I 9 2)) (C := RX2) (T := TX2) (N := 6) hx hb hts hinX2 hown hK hP 9 cG_9 rfl 4 (by decide) (va_Nw.use rfl (hN.1 (RX7, 203, "OutboxHouse$Relay", "sentEver", "I", "OutboxHouse") (by decide +kernel))) (fun _ h9 => h9) rfl dX7_count_132 ?_
    exact W.iret (v := I 9 2) hx hb hr (fun t ht hW => hQ _ _ t (I 9 2) I J LP P h ⟨by rw [ht]; exact hP, hD⟩ (hS.F ht)) hS.2.2 dX7_count_135
  replace h := h.2
  by_cases e8 : p1 = 8
  · have h := h.1 e8
    refine lv_tableIn (off := 135) (tgt := 136) hx hb dX7_count_1 (by rw [e8]; decide) (by rw [e8]; decide) (by rw [e8]; rfl) (by decide) ?_
    refine lv_aload_n hx hb dX7_count_136 rfl (lv_at hl 0 rfl) ?_
    refine va_get (D := (dC, dI)) (ci := 7) (v := .ref (ad 19)) (C := RX7) (T := TX7) (N := 5) hx hb hts hinX7 hown hK hP 0 cG_0 rfl 3 (by decide) (hts (.fieldLink RX7 35 "OutboxHouse" "target" "LOutboxHouse$Target;") (by decide +kernel)) (fun _ h9 => h9) rfl dX7_count_137 ?_
    refine va_getN (D := (dC, dI)) (ci := 5) (v := .int (I 19 0)) (C := RX5) (T := TX5) (N := 7) hx hb hts hinX5 hown hK hP 19 cG_19 rfl 4 (by decide) (va_Nw.use rfl (hN.1 (RX7, 171, "OutboxHouse$Target", "doneEver", "I", "OutboxHouse") (by decide +kernel))) (fun _ h9 => h9) rfl dX7_count_140 ?_
    exact W.iret (v := I 19 0) hx hb hr (fun t ht hW => hQ _ _ t (I 19 0) I J LP P h ⟨by rw [ht]; exact hP, hD⟩ (hS.F ht)) hS.2.2 dX7_count_143
  replace h := h.2
  by_cases e9 : p1 = 9
  · have h := h.1 e9
    refine lv_tableIn (off := 143) (tgt := 144) hx hb dX7_count_1 (by rw [e9]; decide) (by rw [e9]; decide) (by rw [e9]; rfl) (by decide) ?_
    refine lv_aload_n hx hb dX7_count_144 rfl (lv_at hl 0 rfl) ?_
    refine va_get (D := (dC, dI)) (ci := 7) (v := .ref (ad 19)) (C := RX7) (T := TX7) (N := 5) hx hb hts hinX7 hown hK hP 0 cG_0 rfl 3 (by decide) (hts (.fieldLink RX7 35 "OutboxHouse" "target" "LOutboxHouse$Target;") (by decide +kernel)) (fun _ h9 => h9) rfl dX7_count_145 ?_
    refine va_getN (D := (dC, dI)) (ci := 5) (v := .int (I 19 1)) (C := RX5) (T := TX5) (N := 7) hx hb hts hinX5 hown hK hP 19 cG_19 rfl 5 (by decide) (va_Nw.use rfl (hN.1 (RX7, 206, "OutboxHouse$Target", "twiceEver", "I", "OutboxHouse") (by decide +kernel))) (fun _ h9 => h9) rfl dX7_count_148 ?_
    exact W.iret (v := I 19 1) hx hb hr (fun t ht hW => hQ _ _ t (I 19 1) I J LP P h ⟨by rw [ht]; exact hP, hD⟩ (hS.F ht)) hS.2.2 dX7_count_151
  replace h := h.2
  by_cases e10 : p1 = 10
  · have h := h.1 e10
    refine lv_tableIn (off := 151) (tgt := 152) hx hb dX7_count_1 (by rw [e10]; decide) (by rw [e10]; decide) (by rw [e10]; rfl) (by decide) ?_
    refine lv_aload_n hx hb dX7_count_152 rfl (lv_at hl 0 rfl) ?_
    refine va_get (D := (dC, dI)) (ci := 7) (v := .ref (ad 19)) (C := RX7) (T := TX7) (N := 5) hx hb hts hinX7 hown hK hP 0 cG_0 rfl 3 (by decide) (hts (.fieldLink RX7 35 "OutboxHouse" "target" "LOutboxHouse$Target;") (by decide +kernel)) (fun _ h9 => h9) rfl dX7_count_153 ?_
    refine va_getN (D := (dC, dI)) (ci := 5) (v := .ref (ad 14)) (C := RX5) (T := TX5) (N := 7) hx hb hts hinX5 hown hK hP 19 cG_19 rfl 3 (by decide) (va_Nw.use rfl (hN.1 (RX7, 209, "OutboxHouse$Target", "held", "LOutboxHouse$Row;", "OutboxHouse") (by decide +kernel))) (fun _ h9 => h9) rfl dX7_count_156 ?_
    refine va_getN (D := (dC, dI)) (ci := 3) (v := .int (I 14 0)) (C := RX3) (T := TX3) (N := 2) hx hb hts hinX3 hown hK hP 14 (cG_row (j := 14) (by decide)) rfl 1 (by decide) (va_Nw.use rfl (hN.1 (RX7, 213, "OutboxHouse$Row", "size", "I", "OutboxHouse") (by decide +kernel))) (fun _ h9 => h9) rfl dX7_count_159 ?_
    exact W.iret (v := I 14 0) hx hb hr (fun t ht hW => hQ _ _ t (I 14 0) I J LP P h ⟨by rw [ht]; exact hP, hD⟩ (hS.F ht)) hS.2.2 dX7_count_162
  replace h := h.2
  by_cases e11 : p1 = 11
  · have h := h.1 e11
    refine lv_tableIn (off := 162) (tgt := 163) hx hb dX7_count_1 (by rw [e11]; decide) (by rw [e11]; decide) (by rw [e11]; rfl) (by decide) ?_
    refine lv_aload_n hx hb dX7_count_163 rfl (lv_at hl 0 rfl) ?_
    refine va_get (D := (dC, dI)) (ci := 7) (v := .ref (ad 9)) (C := RX7) (T := TX7) (N := 5) hx hb hts hinX7 hown hK hP 0 cG_0 rfl 2 (by decide) (hts (.fieldLink RX7 28 "OutboxHouse" "reader" "LOutboxHouse$Relay;") (by decide +kernel)) (fun _ h9 => h9) rfl dX7_count_164 ?_
    refine va_getN (D := (dC, dI)) (ci := 2) (v := .int (I 9 3)) (C := RX2) (T := TX2) (N := 6) hx hb hts hinX2 hown hK hP 9 cG_9 rfl 5 (by decide) (va_Nw.use rfl (hN.1 (RX7, 153, "OutboxHouse$Relay", "lostUnderWay", "I", "OutboxHouse") (by decide +kernel))) (fun _ h9 => h9) rfl dX7_count_167 ?_
    refine lv_aload_n hx hb dX7_count_170 rfl (lv_at hl 0 rfl) ?_
    refine va_get (D := (dC, dI)) (ci := 7) (v := .ref (ad 19)) (C := RX7) (T := TX7) (N := 5) hx hb hts hinX7 hown hK hP 0 cG_0 rfl 3 (by decide) (hts (.fieldLink RX7 35 "OutboxHouse" "target" "LOutboxHouse$Target;") (by decide +kernel)) (fun _ h9 => h9) rfl dX7_count_171 ?_
    refine va_getN (D := (dC, dI)) (ci := 5) (v := .int (I 19 2)) (C := RX5) (T := TX5) (N := 7) hx hb hts hinX5 hown hK hP 19 cG_19 rfl 6 (by decide) (va_Nw.use rfl (hN.1 (RX7, 218, "OutboxHouse$Target", "lostForRoom", "I", "OutboxHouse") (by decide +kernel))) (fun _ h9 => h9) rfl dX7_count_174 ?_
    refine lv_iadd hx hb dX7_count_177 ?_
    exact W.iret (v := (I 9 3) + (I 19 2)) hx hb hr (fun t ht hW => hQ _ _ t ((I 9 3) + (I 19 2)) I J LP P h ⟨by rw [ht]; exact hP, hD⟩ (hS.F ht)) hS.2.2 dX7_count_178
  replace h := h.2
  by_cases e12 : p1 = 12
  · have h := h.1 e12
    refine lv_tableIn (off := 178) (tgt := 179) hx hb dX7_count_1 (by rw [e12]; decide) (by rw [e12]; decide) (by rw [e12]; rfl) (by decide) ?_
    refine lv_aload_n hx hb dX7_count_179 rfl (lv_at hl 0 rfl) ?_
    refine va_get (D := (dC, dI)) (ci := 7) (v := .int (I 0 0)) (C := RX7) (T := TX7) (N := 5) hx hb hts hinX7 hown hK hP 0 cG_0 rfl 4 (by decide) (hts (.fieldLink RX7 76 "OutboxHouse" "crashes" "I") (by decide +kernel)) (fun _ h9 => h9) rfl dX7_count_180 ?_
    exact W.iret (v := I 0 0) hx hb hr (fun t ht hW => hQ _ _ t (I 0 0) I J LP P h ⟨by rw [ht]; exact hP, hD⟩ (hS.F ht)) hS.2.2 dX7_count_183
  replace h := h.2
  by_cases e13 : p1 = 13
  · have h := h.1 e13
    refine lv_tableIn (off := 183) (tgt := 184) hx hb dX7_count_1 (by rw [e13]; decide) (by rw [e13]; decide) (by rw [e13]; rfl) (by decide) ?_
    refine lv_aload_n hx hb dX7_count_184 rfl (lv_at hl 0 rfl) ?_
    refine va_get (D := (dC, dI)) (ci := 7) (v := .ref (ad 19)) (C := RX7) (T := TX7) (N := 5) hx hb hts hinX7 hown hK hP 0 cG_0 rfl 3 (by decide) (hts (.fieldLink RX7 35 "OutboxHouse" "target" "LOutboxHouse$Target;") (by decide +kernel)) (fun _ h9 => h9) rfl dX7_count_185 ?_
    refine va_getN (D := (dC, dI)) (ci := 5) (v := .ref (ad 21)) (C := RX5) (T := TX5) (N := 7) hx hb hts hinX5 hown hK hP 19 cG_19 rfl 2 (by decide) (va_Nw.use rfl (hN.1 (RX7, 105, "OutboxHouse$Target", "disk", "LOutboxHouse$TargetState;", "OutboxHouse") (by decide +kernel))) (fun _ h9 => h9) rfl dX7_count_188 ?_
    refine va_getN (D := (dC, dI)) (ci := 6) (v := .int (I 21 0)) (C := RX6) (T := TX6) (N := 3) hx hb hts hinX6 hown hK hP 21 (cG_ts (j := 21) (by decide)) rfl 2 (by decide) (va_Nw.use rfl (hN.1 (RX7, 165, "OutboxHouse$TargetState", "upTo", "I", "OutboxHouse") (by decide +kernel))) (fun _ h9 => h9) rfl dX7_count_191 ?_
    exact W.iret (v := I 21 0) hx hb hr (fun t ht hW => hQ _ _ t (I 21 0) I J LP P h ⟨by rw [ht]; exact hP, hD⟩ (hS.F ht)) hS.2.2 dX7_count_194
  replace h := h.2
  have h := h ⟨e0, e1, e2, e3, e4, e5, e6, e7, e8, e9, e10, e11, e12, e13⟩
  refine lv_tableOut (tgt := 195) hx hb dX7_count_1 (by have z0 := lv_neT e0 (a := 0) (by decide); have z1 := lv_neT e1 (a := 1) (by decide); have z2 := lv_neT e2 (a := 2) (by decide); have z3 := lv_neT e3 (a := 3) (by decide); have z4 := lv_neT e4 (a := 4) (by decide); have z5 := lv_neT e5 (a := 5) (by decide); have z6 := lv_neT e6 (a := 6) (by decide); have z7 := lv_neT e7 (a := 7) (by decide); have z8 := lv_neT e8 (a := 8) (by decide); have z9 := lv_neT e9 (a := 9) (by decide); have z10 := lv_neT e10 (a := 10) (by decide); have z11 := lv_neT e11 (a := 11) (by decide); have z12 := lv_neT e12 (a := 12) (by decide); have z13 := lv_neT e13 (a := 13) (by decide); omega) (by decide) ?_
  refine lv_iconst (v := (-1)) hx hb dX7_count_195 (by decide) ?_
  exact W.iret (v := (-1)) hx hb hr (fun t ht hW => hQ _ _ t (-1) I J LP P h ⟨by rw [ht]; exact hP, hD⟩ (hS.F ht)) hS.2.2 dX7_count_196
theorem m_X7_count (l : Launch) (dC : Nat → ClassId) (dI : Nat → Nat → Nat) (cy : Nat → ClassId) (ad : Nat → Nat) (A : Nat → Prop) (I : St) (J : Rf) (LP : List Nat) (P : St) (p1 : Int32) {post : Int32 → St → Rf → List Nat → St → Prop} (hD : va_D A (cW ad cy I J LP P)) (h : wp_X7_count I J LP P p1 post) : Met l yX7_count wsX7_count rmX7_count (va_Pc [.ref (ad 0), .int p1] (wPre (dC, dI) cy A (cW ad cy I J LP P))) (va_Qi (fun r (u : CS) => post r u.1 u.2.1 u.2.2.1 u.2.2.2) (fun (u : CS) t => wPost (dC, dI) A (cW ad cy u.1 u.2.1 u.2.2.1 u.2.2.2) t) A) 0 0 A := g_X7_count l dC dI cy ad A I J LP P p1 hD h (fun a s0 t r I' J' LP' P' h1 h2 h3 => ⟨⟨r, (I', J', LP', P'), rfl, h1, h2⟩, h3⟩)
