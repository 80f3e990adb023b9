abbrev rmX8_in : Room := { frames := 0, cells := 0, slots := 0, locals := 0 }
set_option maxHeartbeats 4000000 in
set_option maxRecDepth 100000 in
theorem g_X8_in (l : Launch) (dC : Nat → ClassId) (dI : Nat → Nat → Nat) (cy : Nat → ClassId) (ad : Nat → Nat) (A : Nat → Prop) (I : St) (p1 : Int32) (p2 : Int32) (p3 : Int32) {post : Int32 → St → Prop} (hD : va_D A (rW ad cy I)) (h : wp_X8_in I p1 p2 p3 post) {Qc : Array Value → State → Outcome → State → Prop} (hQ : ∀ (a : Array Value) (s0 t : State) (r : Int32) (I' : St), post r I' → wPost (dC, dI) A (rW ad cy I') t → va_F A s0 t → Qc a s0 (.returned (some (.int r))) t) : Met l yX8_in wsX8_in rmX8_in (va_Pc [.int p1, .int p2, .int p3] (wPre (dC, dI) cy A (rW ad cy I))) Qc 0 0 A := by
  refine Met.ofW (cc := cX8_in) (maxL := 3) (ret := (some .boolean)) (by decide) rfl ?_
  intro p e s m args below meth c s₁ B hml hv
  obtain ⟨rfl, hP, hK, hN, hA⟩ := hv
  have hx := B.exec
  have hb := B.bytes
  have hr := B.returns
  have hts := atoms_spec (ws := wsX8_in) B.pre
  have hown : s.vm.findClass RX8 = some m.cls := findClass_of_methodNamed B.named
  have hlocks := B.notSynchronized
  have hS : va_S A s.heap s.heap [] := va_S.rf
  unfold wp_X8_in at h
  have hl := lv_entry ([.int p1, .int p2, .int p3]) (n := 3) (Nat.le_of_ble_eq_true rfl)
  rw [lg_entry_eq]
  generalize (lg_sl ([.int p1, .int p2, .int p3]) ++ List.replicate (3 - (lg_sl ([.int p1, .int p2, .int p3])).length) Slot.unset).toArray = ls at hl ⊢
  have hl : lv_has ls 3 [(0, .int p1), (1, .int p2), (2, .int p3)] := hl
  refine lv_iload_n hx hb dX8_in_0 rfl (lv_at hl 0 rfl) ?_
  refine lv_iload_n hx hb dX8_in_1 rfl (lv_at hl 1 rfl) ?_
  refine lv_icmp_lt (tgt := 14) hx hb dX8_in_2 (by decide) (fun hc => ?_) (fun hc => ?_)
  · have h := h.1 hc
    refine lv_iconst (v := 0) hx hb dX8_in_14 (by decide) ?_
    exact W.zret (v := 0) (ty := .boolean) hx hb hr rfl (fun t ht hW => hQ _ _ t 0 I h ⟨by rw [ht]; exact hP, hD⟩ (hS.F ht)) hS.2.2 dX8_in_15
  · have h := h.2 hc
    refine lv_iload_n hx hb dX8_in_5 rfl (lv_at hl 0 rfl) ?_
    refine lv_iload_n hx hb dX8_in_6 rfl (lv_at hl 2 rfl) ?_
    refine lv_icmp_gt (tgt := 14) hx hb dX8_in_7 (by decide) (fun hc => ?_) (fun hc => ?_)
    · have h := h.1 hc
      refine lv_iconst (v := 0) hx hb dX8_in_14 (by decide) ?_
      exact W.zret (v := 0) (ty := .boolean) hx hb hr rfl (fun t ht hW => hQ _ _ t 0 I h ⟨by rw [ht]; exact hP, hD⟩ (hS.F ht)) hS.2.2 dX8_in_15
    · have h := h.2 hc
      refine lv_iconst (v := 1) hx hb dX8_in_10 (by decide) ?_
      refine lv_goto (tgt := 15) hx hb dX8_in_11 (by decide) ?_
      exact W.zret (v := 1) (ty := .boolean) hx hb hr rfl (fun t ht hW => hQ _ _ t 1 I h ⟨by rw [ht]; exact hP, hD⟩ (hS.F ht)) hS.2.2 dX8_in_15
theorem m_X8_in (l : Launch) (dC : Nat → ClassId) (dI : Nat → Nat → Nat) (cy : Nat → ClassId) (ad : Nat → Nat) (A : Nat → Prop) (I : St) (p1 : Int32) (p2 : Int32) (p3 : Int32) {post : Int32 → St → Prop} (hD : va_D A (rW ad cy I)) (h : wp_X8_in I p1 p2 p3 post) : Met l yX8_in wsX8_in rmX8_in (va_Pc [.int p1, .int p2, .int p3] (wPre (dC, dI) cy A (rW ad cy I))) (va_Qi (fun r (u : St) => post r u) (fun (u : St) t => wPost (dC, dI) A (rW ad cy u) t) A) 0 0 A := g_X8_in l dC dI cy ad A I p1 p2 p3 hD h (fun a s0 t r I' h1 h2 h3 => ⟨⟨r, I', rfl, h1, h2⟩, h3⟩)
abbrev rmX8_isTransaction : Room := { frames := 1, cells := 0, slots := 0, locals := 22 }
set_option maxHeartbeats 4000000 in
set_option maxRecDepth 100000 in
theorem g_X8_isTransaction (l : Launch) (dC : Nat → ClassId) (dI : Nat → Nat → Nat) (cy : Nat → ClassId) (ad : Nat → Nat) (A : Nat → Prop) (I : St) (p1 : Int32) {post : Int32 → St → Prop} (hD : va_D A (rW ad cy I)) (h : wp_X8_isTransaction I p1 post) {Qc : Array Value → State → Outcome → State → Prop} (hQ : ∀ (a : Array Value) (s0 t : State) (r : Int32) (I' : St), post r I' → wPost (dC, dI) A (rW ad cy I') t → va_F A s0 t → Qc a s0 (.returned (some (.int r))) t) : Met l yX8_isTransaction wsX8_isTransaction rmX8_isTransaction (va_Pc [.ref (ad 40), .int p1] (wPre (dC, dI) cy A (rW ad cy I))) Qc 0 0 A := by
  refine Met.ofW (cc := cX8_isTransaction) (maxL := 2) (ret := (some .boolean)) (by decide) rfl ?_
  intro p e s m args below meth c s₁ B hml hv
  obtain ⟨rfl, hP, hK, hN, hA⟩ := hv
  have hx := B.exec
  have hb := B.bytes
  have hr := B.returns
  have hts := atoms_spec (ws := wsX8_isTransaction) B.pre
  have hown : s.vm.findClass RX8 = some m.cls := findClass_of_methodNamed B.named
  have hlocks := B.notSynchronized
  have hinX8 : ∀ w ∈ wsX80, w ∈ wsX8_isTransaction := fun _ h9 => List.mem_cons_of_mem _ (List.mem_append_right _ h9)
  have hS : va_S A s.heap s.heap [] := va_S.rf
  unfold wp_X8_isTransaction at h
  have hl := lv_entry ([.ref (ad 40), .int p1]) (n := 2) (Nat.le_of_ble_eq_true rfl)
  rw [lg_entry_eq]
  generalize (lg_sl ([.ref (ad 40), .int p1]) ++ List.replicate (2 - (lg_sl ([.ref (ad 40), .int p1])).length) Slot.unset).toArray = ls at hl ⊢
  have hl : lv_has ls 2 [(0, .ref (ad 40)), (1, .int p1)] := hl
  refine lv_iload_n hx hb dX8_isTransaction_0 rfl (lv_at hl 1 rfl) ?_
  refine lv_iconst (v := 0) hx hb dX8_isTransaction_1 (by decide) ?_
  refine lv_iconst (v := 3) hx hb dX8_isTransaction_2 (by decide) ?_
  refine va_calli (va_runS (As := [.int p1, .int 0, .int 3]) (rest := []) ⟨hx, hb, hml, hown, hts⟩ (m_X8_in l dC dI cy ad A I p1 0 3 hD h) (va_cwS 3 hts gX8_isTransaction_X8_in rfl rfl rfl (by decide +kernel) ⟨Nat.le_of_ble_eq_true rfl, Nat.le_of_ble_eq_true rfl⟩) ⟨wPre.blind, wPre.at hP hK hN hS hA⟩ rfl rfl hl.1 rfl (lv_room (Nat.le_of_ble_eq_true rfl)) dX8_isTransaction_3 ⟨by first | exact Nat.le_of_ble_eq_true rfl | (show _ ≤ 0; omega), by first | exact Nat.le_of_ble_eq_true rfl | (show _ ≤ 0; omega)⟩) hS (fun q _ h => h) (fun q h => h) (fun r1 u t H locs ht hvm hw hB hz1 hk1 hS => ?_)
  obtain ⟨I2, rfl⟩ : ∃ z : St, z = u := ⟨_, rfl⟩
  obtain ⟨hP, hD⟩ := hB; rw [ht] at hP; replace h := hw; try dsimp only at h hP hD
  refine lv_if_eq (tgt := 22) hx hb dX8_isTransaction_6 (by decide) (fun hc => ?_) (fun hc => ?_)
  · have h := h.1 hc
    refine lv_iconst (v := 0) hx hb dX8_isTransaction_22 (by decide) ?_
    exact W.zret (v := 0) (ty := .boolean) hx hb hr rfl (fun t ht hW => hQ _ _ t 0 I2 h ⟨by rw [ht]; exact hP, hD⟩ (hS.F ht)) hS.2.2 dX8_isTransaction_23
  · have h := h.2 hc
    refine lv_aload_n hx hb dX8_isTransaction_9 rfl (lv_at hl 0 rfl) ?_
    refine va_get (D := (dC, dI)) (ci := 8) (v := .ref (ad 0)) (C := RX8) (T := TX8) (N := 35) hx hb hts hinX8 hown hK hP 0 rG_o rfl 0 (by decide) (hts (.fieldLink RX8 7 "OutboxHouseModel" "isOpen" "[Z") (by decide +kernel)) (fun _ h9 => h9) rfl dX8_isTransaction_10 ?_
    refine lv_iload_n hx hb dX8_isTransaction_13 rfl (lv_at hl 1 rfl) ?_
    have hv := h.1; replace h := h.2
    refine va_zald hx hb hK hP 1 1 rG_0 rfl hv dX8_isTransaction_14 ?_
    refine lv_if_eq (tgt := 22) hx hb dX8_isTransaction_15 (by decide) (fun hc => ?_) (fun hc => ?_)
    · have h := h.1 hc
      refine lv_iconst (v := 0) hx hb dX8_isTransaction_22 (by decide) ?_
      exact W.zret (v := 0) (ty := .boolean) hx hb hr rfl (fun t ht hW => hQ _ _ t 0 I2 h ⟨by rw [ht]; exact hP, hD⟩ (hS.F ht)) hS.2.2 dX8_isTransaction_23
    · have h := h.2 hc
      refine lv_iconst (v := 1) hx hb dX8_isTransaction_18 (by decide) ?_
      refine lv_goto (tgt := 23) hx hb dX8_isTransaction_19 (by decide) ?_
      exact W.zret (v := 1) (ty := .boolean) hx hb hr rfl (fun t ht hW => hQ _ _ t 1 I2 h ⟨by rw [ht]; exact hP, hD⟩ (hS.F ht)) hS.2.2 dX8_isTransaction_23
theorem m_X8_isTransaction (l : Launch) (dC : Nat → ClassId) (dI : Nat → Nat → Nat) (cy : Nat → ClassId) (ad : Nat → Nat) (A : Nat → Prop) (I : St) (p1 : Int32) {post : Int32 → St → Prop} (hD : va_D A (rW ad cy I)) (h : wp_X8_isTransaction I p1 post) : Met l yX8_isTransaction wsX8_isTransaction rmX8_isTransaction (va_Pc [.ref (ad 40), .int p1] (wPre (dC, dI) cy A (rW ad cy I))) (va_Qi (fun r (u : St) => post r u) (fun (u : St) t => wPost (dC, dI) A (rW ad cy u) t) A) 0 0 A := g_X8_isTransaction l dC dI cy ad A I p1 hD h (fun a s0 t r I' h1 h2 h3 => ⟨⟨r, I', rfl, h1, h2⟩, h3⟩)
abbrev rmX8_isKey : Room := { frames := 1, cells := 0, slots := 0, locals := 22 }
set_option maxHeartbeats 4000000 in
set_option maxRecDepth 100000 in
theorem g_X8_isKey (l : Launch) (dC : Nat → ClassId) (dI : Nat → Nat → Nat) (cy : Nat → ClassId) (ad : Nat → Nat) (A : Nat → Prop) (I : St) (p1 : Int32) {post : Int32 → St → Prop} (hD : va_D A (rW ad cy I)) (h : wp_X8_isKey I p1 post) {Qc : Array Value → State → Outcome → State → Prop} (hQ : ∀ (a : Array Value) (s0 t : State) (r : Int32) (I' : St), post r I' → wPost (dC, dI) A (rW ad cy I') t → va_F A s0 t → Qc a s0 (.returned (some (.int r))) t) : Met l yX8_isKey wsX8_isKey rmX8_isKey (va_Pc [.int p1] (wPre (dC, dI) cy A (rW ad cy I))) Qc 0 0 A := by
  refine Met.ofW (cc := cX8_isKey) (maxL := 1) (ret := (some .boolean)) (by decide) rfl ?_
  intro p e s m args below meth c s₁ B hml hv
  obtain ⟨rfl, hP, hK, hN, hA⟩ := hv
  have hx := B.exec
  have hb := B.bytes
  have hr := B.returns
  have hts := atoms_spec (ws := wsX8_isKey) B.pre
  have hown : s.vm.findClass RX8 = some m.cls := findClass_of_methodNamed B.named
  have hlocks := B.notSynchronized
  have hS : va_S A s.heap s.heap [] := va_S.rf
  unfold wp_X8_isKey at h
  have hl := lv_entry ([.int p1]) (n := 1) (Nat.le_of_ble_eq_true rfl)
  rw [lg_entry_eq]
  generalize (lg_sl ([.int p1]) ++ List.replicate (1 - (lg_sl ([.int p1])).length) Slot.unset).toArray = ls at hl ⊢
  have hl : lv_has ls 1 [(0, .int p1)] := hl
  refine lv_iload_n hx hb dX8_isKey_0 rfl (lv_at hl 0 rfl) ?_
  refine lv_iconst (v := 0) hx hb dX8_isKey_1 (by decide) ?_
  refine lv_iconst (v := 5) hx hb dX8_isKey_2 (by decide) ?_
  refine va_calli (va_runS (As := [.int p1, .int 0, .int 5]) (rest := []) ⟨hx, hb, hml, hown, hts⟩ (m_X8_in l dC dI cy ad A I p1 0 5 hD h) (va_cwS 3 hts gX8_isKey_X8_in rfl rfl rfl (by decide +kernel) ⟨Nat.le_of_ble_eq_true rfl, Nat.le_of_ble_eq_true rfl⟩) ⟨wPre.blind, wPre.at hP hK hN hS hA⟩ rfl rfl hl.1 rfl (lv_room (Nat.le_of_ble_eq_true rfl)) dX8_isKey_3 ⟨by first | exact Nat.le_of_ble_eq_true rfl | (show _ ≤ 0; omega), by first | exact Nat.le_of_ble_eq_true rfl | (show _ ≤ 0; omega)⟩) hS (fun q _ h => h) (fun q h => h) (fun r1 u t H locs ht hvm hw hB hz1 hk1 hS => ?_)
  obtain ⟨I2, rfl⟩ : ∃ z : St, z = u := ⟨_, rfl⟩
  obtain ⟨hP, hD⟩ := hB; rw [ht] at hP; replace h := hw; try dsimp only at h hP hD
  exact W.zret (v := r1) (ty := .boolean) hx hb hr h.1 (fun t ht hW => hQ _ _ t r1 I2 h.2 ⟨by rw [ht]; exact hP, hD⟩ (hS.F ht)) hS.2.2 dX8_isKey_6
theorem m_X8_isKey (l : Launch) (dC : Nat → ClassId) (dI : Nat → Nat → Nat) (cy : Nat → ClassId) (ad : Nat → Nat) (A : Nat → Prop) (I : St) (p1 : Int32) {post : Int32 → St → Prop} (hD : va_D A (rW ad cy I)) (h : wp_X8_isKey I p1 post) : Met l yX8_isKey wsX8_isKey rmX8_isKey (va_Pc [.int p1] (wPre (dC, dI) cy A (rW ad cy I))) (va_Qi (fun r (u : St) => post r u) (fun (u : St) t => wPost (dC, dI) A (rW ad cy u) t) A) 0 0 A := g_X8_isKey l dC dI cy ad A I p1 hD h (fun a s0 t r I' h1 h2 h3 => ⟨⟨r, I', rfl, h1, h2⟩, h3⟩)
abbrev rmX8_clears : Room := { frames := 0, cells := 0, slots := 0, locals := 0 }
set_option maxHeartbeats 4000000 in
set_option maxRecDepth 100000 in
theorem g_X8_clears (l : Launch) (dC : Nat → ClassId) (dI : Nat → Nat → Nat) (cy : Nat → ClassId) (ad : Nat → Nat) (A : Nat → Prop) (I : St) (p1 : Int32) {post : St → Prop} (hD : va_D A (rW ad cy I)) (h : wp_X8_clears I p1 post) {Qc : Array Value → State → Outcome → State → Prop} (hQ : ∀ (a : Array Value) (s0 t : State) (I' : St), post I' → wPost (dC, dI) A (rW ad cy I') t → va_F A s0 t → Qc a s0 (.returned (none)) t) : Met l yX8_clears wsX8_clears rmX8_clears (va_Pc [.ref (ad 40), .int p1] (wPre (dC, dI) cy A (rW ad cy I))) Qc 0 0 A := by
  refine Met.ofW (cc := cX8_clears) (maxL := 3) (ret := none) (by decide) rfl ?_
  intro p e s m args below meth c s₁ B hml hv
  obtain ⟨rfl, hP, hK, hN, hA⟩ := hv
  have hx := B.exec
  have hb := B.bytes
  have hr := B.returns
  have hts := atoms_spec (ws := wsX8_clears) B.pre
  have hown : s.vm.findClass RX8 = some m.cls := findClass_of_methodNamed B.named
  have hlocks := B.notSynchronized
  have hinX8 : ∀ w ∈ wsX80, w ∈ wsX8_clears := fun _ h9 => List.mem_cons_of_mem _ (List.mem_append_right _ h9)
  have hS : va_S A s.heap s.heap [] := va_S.rf
  unfold wp_X8_clears at h
  have hl := lv_entry ([.ref (ad 40), .int p1]) (n := 3) (Nat.le_of_ble_eq_true rfl)
  rw [lg_entry_eq]
  generalize (lg_sl ([.ref (ad 40), .int p1]) ++ List.replicate (3 - (lg_sl ([.ref (ad 40), .int p1])).length) Slot.unset).toArray = ls at hl ⊢
  have hl : lv_has ls 3 [(0, .ref (ad 40)), (1, .int p1)] := hl
  refine lv_iconst (v := 0) hx hb dX8_clears_0 (by decide) ?_
  refine lv_istore_n (lv' := [(2, .int 0), (0, .ref (ad 40)), (1, .int p1)]) hx hb dX8_clears_1 rfl hl (by decide) rfl (fun ls hl => ?_)
  obtain ⟨V1, ⟨n20, hV0⟩, hstepn2⟩ := h
  have hlpn2 : ∀ (n2 : Nat) (x3 : Int32) (I4 : St) (H : Heap) (locs : List Loc), va_P (dC, dI) vwCl (rW ad cy I4) H → va_D A (rW ad cy I4) → va_S A s.heap H locs → ∀ ls : Array Slot, lv_has ls 3 [(0, .ref (ad 40)), (1, .int p1), (2, .int x3)] → V1 n2 x3 I4 → W p l e (headSpec wsX8_clears rmX8_clears).room s m ([.ref (ad 40), .int p1] : List Value).toArray below meth c H locs 0 0 (MQ below Qc ([.ref (ad 40), .int p1] : List Value).toArray s 0 0 A) (F0 m 2 ls []) := by
    intro n2
    induction n2 using Nat.strongRecOn with
    | _ n2 ihn2 =>
      intro x3 I4 H locs hP hD hS ls hl hV
      have h := hstepn2 n2 x3 I4 hV
      refine lv_iload_n hx hb dX8_clears_2 rfl (lv_at hl 2 rfl) ?_
      refine lv_bipush (v := 6) hx hb dX8_clears_3 (by decide) ?_
      refine lv_icmp_ge (tgt := 26) hx hb dX8_clears_5 (by decide) (fun hc => ?_) (fun hc => ?_)
      · have h := h.1 hc
        exact W.vret hx hb hr (fun t ht hW => hQ _ _ t I4 h ⟨by rw [ht]; exact hP, hD⟩ (hS.F ht)) hS.2.2 dX8_clears_26
      · have h := h.2 hc
        refine lv_aload_n hx hb dX8_clears_8 rfl (lv_at hl 0 rfl) ?_
        refine va_get (D := (dC, dI)) (ci := 8) (v := .ref (ad 1)) (C := RX8) (T := TX8) (N := 35) hx hb hts hinX8 hown hK hP 0 rG_o rfl 1 (by decide) (hts (.fieldLink RX8 13 "OutboxHouseModel" "wrote" "[Z") (by decide +kernel)) (fun _ h9 => h9) rfl dX8_clears_9 ?_
        refine lv_bipush (v := 6) hx hb dX8_clears_12 (by decide) ?_
        refine lv_iload_n hx hb dX8_clears_14 rfl (lv_at hl 1 rfl) ?_
        refine lv_imul hx hb dX8_clears_15 ?_
        refine lv_iload_n hx hb dX8_clears_16 rfl (lv_at hl 2 rfl) ?_
        refine lv_iadd hx hb dX8_clears_17 ?_
        refine lv_iconst (v := 0) hx hb dX8_clears_18 (by decide) ?_
        have hv := h.1; replace h := h.2
        refine va_zast hx hb hK hP hD hS 2 1 rG_1 rfl hv dX8_clears_19 (fun H locs hP hD hS => ?_)
        obtain ⟨I5, hI5⟩ : ∃ z : St, z = st I4 1 ((6 * p1) + x3).toNatClampNeg (vp_nar .boolean 0) := ⟨_, rfl⟩
        replace hP := wP (rE_1 hI5) hP; replace hD := wD (rE_1 hI5) hD; replace h := h _ hI5
        refine lv_iinc (v := x3 + 1) (lv' := [(2, .int (x3 + 1)), (0, .ref (ad 40)), (1, .int p1)]) hx hb dX8_clears_20 hl (k := 2) rfl rfl (by decide) rfl (fun ls hl => ?_)
        refine lv_goto (tgt := 2) hx hb dX8_clears_23 (by decide) ?_
        obtain ⟨n6, hlt, hV⟩ := h
        exact ihn2 n6 hlt _ _ _ _ hP hD hS ls (lv_sub hl [1, 2, 0] rfl) hV
  exact hlpn2 n20 _ _ _ _ hP hD hS ls (lv_sub hl [1, 2, 0] rfl) hV0
theorem m_X8_clears (l : Launch) (dC : Nat → ClassId) (dI : Nat → Nat → Nat) (cy : Nat → ClassId) (ad : Nat → Nat) (A : Nat → Prop) (I : St) (p1 : Int32) {post : St → Prop} (hD : va_D A (rW ad cy I)) (h : wp_X8_clears I p1 post) : Met l yX8_clears wsX8_clears rmX8_clears (va_Pc [.ref (ad 40), .int p1] (wPre (dC, dI) cy A (rW ad cy I))) (va_Qv (fun (u : St) => post u) (fun (u : St) t => wPost (dC, dI) A (rW ad cy u) t) A) 0 0 A := g_X8_clears l dC dI cy ad A I p1 hD h (fun a s0 t I' h1 h2 h3 => ⟨⟨I', rfl, h1, h2⟩, h3⟩)
abbrev rmX8_begin : Room := { frames := 1, cells := 0, slots := 0, locals := 22 }
set_option maxHeartbeats 4000000 in
set_option maxRecDepth 100000 in
theorem g_X8_begin (l : Launch) (dC : Nat → ClassId) (dI : Nat → Nat → Nat) (cy : Nat → ClassId) (ad : Nat → Nat) (A : Nat → Prop) (I : St)  {post : Int32 → St → Prop} (hD : va_D A (rW ad cy I)) (h : wp_X8_begin I  post) {Qc : Array Value → State → Outcome → State → Prop} (hQ : ∀ (a : Array Value) (s0 t : State) (r : Int32) (I' : St), post r I' → wPost (dC, dI) A (rW ad cy I') t → va_F A s0 t → Qc a s0 (.returned (some (.int r))) t) : Met l yX8_begin wsX8_begin rmX8_begin (va_Pc [.ref (ad 40)] (wPre (dC, dI) cy A (rW ad cy I))) Qc 0 0 A := by
  refine Met.ofW (cc := cX8_begin) (maxL := 2) (ret := (some .int)) (by decide) rfl ?_
  intro p e s m args below meth c s₁ B hml hv
  obtain ⟨rfl, hP, hK, hN, hA⟩ := hv
  have hx := B.exec
  have hb := B.bytes
  have hr := B.returns
  have hts := atoms_spec (ws := wsX8_begin) B.pre
  have hown : s.vm.findClass RX8 = some m.cls := findClass_of_methodNamed B.named
  have hlocks := B.notSynchronized
  have hinX8 : ∀ w ∈ wsX80, w ∈ wsX8_begin := fun _ h9 => List.mem_cons_of_mem _ (List.mem_append_right _ h9)
  have hS : va_S A s.heap s.heap [] := va_S.rf
  unfold wp_X8_begin at h
  have hl := lv_entry ([.ref (ad 40)]) (n := 2) (Nat.le_of_ble_eq_true rfl)
  rw [lg_entry_eq]
  generalize (lg_sl ([.ref (ad 40)]) ++ List.replicate (2 - (lg_sl ([.ref (ad 40)])).length) Slot.unset).toArray = ls at hl ⊢
  have hl : lv_has ls 2 [(0, .ref (ad 40))] := hl
  refine lv_iconst (v := 0) hx hb dX8_begin_0 (by decide) ?_
  refine lv_istore_n (lv' := [(1, .int 0), (0, .ref (ad 40))]) hx hb dX8_begin_1 rfl hl (by decide) rfl (fun ls hl => ?_)
  obtain ⟨V1, ⟨n20, hV0⟩, hstepn2⟩ := h
  have hlpn2 : ∀ (n2 : Nat) (x3 : Int32) (I4 : St) (H : Heap) (locs : List Loc), va_P (dC, dI) vwCl (rW ad cy I4) H → va_D A (rW ad cy I4) → va_S A s.heap H locs → ∀ ls : Array Slot, lv_has ls 2 [(0, .ref (ad 40)), (1, .int x3)] → V1 n2 x3 I4 → W p l e (headSpec wsX8_begin rmX8_begin).room s m ([.ref (ad 40)] : List Value).toArray below meth c H locs 0 0 (MQ below Qc ([.ref (ad 40)] : List Value).toArray s 0 0 A) (F0 m 2 ls []) := by
    intro n2
    induction n2 using Nat.strongRecOn with
    | _ n2 ihn2 =>
      intro x3 I4 H locs hP hD hS ls hl hV
      have h := hstepn2 n2 x3 I4 hV
      refine lv_iload_n hx hb dX8_begin_2 rfl (lv_at hl 1 rfl) ?_
      refine lv_iconst (v := 4) hx hb dX8_begin_3 (by decide) ?_
      refine lv_icmp_ge (tgt := 36) hx hb dX8_begin_4 (by decide) (fun hc => ?_) (fun hc => ?_)
      · have h := h.1 hc
        refine lv_bipush (v := (-3)) hx hb dX8_begin_36 (by decide) ?_
        exact W.iret (v := (-3)) hx hb hr (fun t ht hW => hQ _ _ t (-3) I4 h ⟨by rw [ht]; exact hP, hD⟩ (hS.F ht)) hS.2.2 dX8_begin_38
      · have h := h.2 hc
        refine lv_aload_n hx hb dX8_begin_7 rfl (lv_at hl 0 rfl) ?_
        refine va_get (D := (dC, dI)) (ci := 8) (v := .ref (ad 0)) (C := RX8) (T := TX8) (N := 35) hx hb hts hinX8 hown hK hP 0 rG_o rfl 0 (by decide) (hts (.fieldLink RX8 7 "OutboxHouseModel" "isOpen" "[Z") (by decide +kernel)) (fun _ h9 => h9) rfl dX8_begin_8 ?_
        refine lv_iload_n hx hb dX8_begin_11 rfl (lv_at hl 1 rfl) ?_
        have hv := h.1; replace h := h.2
        refine va_zald hx hb hK hP 1 1 rG_0 rfl hv dX8_begin_12 ?_
        refine lv_if_ne (tgt := 30) hx hb dX8_begin_13 (by decide) (fun hc => ?_) (fun hc => ?_)
        · have h := h.1 hc
          refine lv_iinc (v := x3 + 1) (lv' := [(1, .int (x3 + 1)), (0, .ref (ad 40))]) hx hb dX8_begin_30 hl (k := 1) rfl rfl (by decide) rfl (fun ls hl => ?_)
          refine lv_goto (tgt := 2) hx hb dX8_begin_33 (by decide) ?_
          obtain ⟨n5, hlt, hV⟩ := h
          exact ihn2 n5 hlt _ _ _ _ hP hD hS ls (lv_sub hl [1, 0] rfl) hV
        · have h := h.2 hc
          refine lv_aload_n hx hb dX8_begin_16 rfl (lv_at hl 0 rfl) ?_
          refine va_get (D := (dC, dI)) (ci := 8) (v := .ref (ad 0)) (C := RX8) (T := TX8) (N := 35) hx hb hts hinX8 hown hK hP 0 rG_o rfl 0 (by decide) (hts (.fieldLink RX8 7 "OutboxHouseModel" "isOpen" "[Z") (by decide +kernel)) (fun _ h9 => h9) rfl dX8_begin_17 ?_
          refine lv_iload_n hx hb dX8_begin_20 rfl (lv_at hl 1 rfl) ?_
          refine lv_iconst (v := 1) hx hb dX8_begin_21 (by decide) ?_
          have hv := h.1; replace h := h.2
          refine va_zast hx hb hK hP hD hS 1 1 rG_0 rfl hv dX8_begin_22 (fun H locs hP hD hS => ?_)
          obtain ⟨I6, hI6⟩ : ∃ z : St, z = st I4 0 x3.toNatClampNeg (vp_nar .boolean 1) := ⟨_, rfl⟩
          replace hP := wP (rE_0 hI6) hP; replace hD := wD (rE_0 hI6) hD; replace h := h _ hI6
          refine lv_aload_n hx hb dX8_begin_23 rfl (lv_at hl 0 rfl) ?_
          refine lv_iload_n hx hb dX8_begin_24 rfl (lv_at hl 1 rfl) ?_
          refine va_callv (va_runV (As := [.int x3]) (rest := []) ⟨hx, hb, hml, hown, hts⟩ (m_X8_clears l dC dI cy ad A I6 x3 hD h) (cwV 1 hts gX8_begin_X8_clears rfl rfl rfl (by decide +kernel) ⟨Nat.le_of_ble_eq_true rfl, Nat.le_of_ble_eq_true rfl⟩) ⟨wPre.blind, va_recv hK hP (ci := 8) (q0 := 0) rfl rG_o, wPre.at hP hK hN hS hA⟩ rfl rfl hl.1 rfl (lv_room (Nat.le_of_ble_eq_true rfl)) dX8_begin_25 ⟨by first | exact Nat.le_of_ble_eq_true rfl | (show _ ≤ 0; omega), by first | exact Nat.le_of_ble_eq_true rfl | (show _ ≤ 0; omega)⟩) hS (fun q _ h => h) (fun q h => h) (fun u t H locs ht hvm hw hB hz1 hk1 hS => ?_)
          obtain ⟨I8, rfl⟩ : ∃ z : St, z = u := ⟨_, rfl⟩
          obtain ⟨hP, hD⟩ := hB; rw [ht] at hP; replace h := hw; try dsimp only at h hP hD
          refine lv_iload_n hx hb dX8_begin_28 rfl (lv_at hl 1 rfl) ?_
          exact W.iret (v := x3) hx hb hr (fun t ht hW => hQ _ _ t x3 I8 h ⟨by rw [ht]; exact hP, hD⟩ (hS.F ht)) hS.2.2 dX8_begin_29
  exact hlpn2 n20 _ _ _ _ hP hD hS ls (lv_sub hl [1, 0] rfl) hV0
theorem m_X8_begin (l : Launch) (dC : Nat → ClassId) (dI : Nat → Nat → Nat) (cy : Nat → ClassId) (ad : Nat → Nat) (A : Nat → Prop) (I : St)  {post : Int32 → St → Prop} (hD : va_D A (rW ad cy I)) (h : wp_X8_begin I  post) : Met l yX8_begin wsX8_begin rmX8_begin (va_Pc [.ref (ad 40)] (wPre (dC, dI) cy A (rW ad cy I))) (va_Qi (fun r (u : St) => post r u) (fun (u : St) t => wPost (dC, dI) A (rW ad cy u) t) A) 0 0 A := g_X8_begin l dC dI cy ad A I  hD h (fun a s0 t r I' h1 h2 h3 => ⟨⟨r, I', rfl, h1, h2⟩, h3⟩)
abbrev rmX8_isUnderWay : Room := { frames := 0, cells := 0, slots := 0, locals := 0 }
set_option maxHeartbeats 4000000 in
set_option maxRecDepth 100000 in
theorem g_X8_isUnderWay (l : Launch) (dC : Nat → ClassId) (dI : Nat → Nat → Nat) (cy : Nat → ClassId) (ad : Nat → Nat) (A : Nat → Prop) (I : St) (p1 : Int32) {post : Int32 → St → Prop} (hD : va_D A (rW ad cy I)) (h : wp_X8_isUnderWay I p1 post) {Qc : Array Value → State → Outcome → State → Prop} (hQ : ∀ (a : Array Value) (s0 t : State) (r : Int32) (I' : St), post r I' → wPost (dC, dI) A (rW ad cy I') t → va_F A s0 t → Qc a s0 (.returned (some (.int r))) t) : Met l yX8_isUnderWay wsX8_isUnderWay rmX8_isUnderWay (va_Pc [.ref (ad 40), .int p1] (wPre (dC, dI) cy A (rW ad cy I))) Qc 0 0 A := by
  refine Met.ofW (cc := cX8_isUnderWay) (maxL := 4) (ret := (some .boolean)) (by decide) rfl ?_
  intro p e s m args below meth c s₁ B hml hv
  obtain ⟨rfl, hP, hK, hN, hA⟩ := hv
  have hx := B.exec
  have hb := B.bytes
  have hr := B.returns
  have hts := atoms_spec (ws := wsX8_isUnderWay) B.pre
  have hown : s.vm.findClass RX8 = some m.cls := findClass_of_methodNamed B.named
  have hlocks := B.notSynchronized
  have hinX8 : ∀ w ∈ wsX80, w ∈ wsX8_isUnderWay := fun _ h9 => List.mem_cons_of_mem _ (List.mem_append_right _ h9)
  have hS : va_S A s.heap s.heap [] := va_S.rf
  unfold wp_X8_isUnderWay at h
  have hl := lv_entry ([.ref (ad 40), .int p1]) (n := 4) (Nat.le_of_ble_eq_true rfl)
  rw [lg_entry_eq]
  generalize (lg_sl ([.ref (ad 40), .int p1]) ++ List.replicate (4 - (lg_sl ([.ref (ad 40), .int p1])).length) Slot.unset).toArray = ls at hl ⊢
  have hl : lv_has ls 4 [(0, .ref (ad 40)), (1, .int p1)] := hl
  refine lv_iconst (v := 0) hx hb dX8_isUnderWay_0 (by decide) ?_
  refine lv_istore_n (lv' := [(2, .int 0), (0, .ref (ad 40)), (1, .int p1)]) hx hb dX8_isUnderWay_1 rfl hl (by decide) rfl (fun ls hl => ?_)
  refine lv_aload_n hx hb dX8_isUnderWay_2 rfl (lv_at hl 1 rfl) ?_
  refine va_get (D := (dC, dI)) (ci := 8) (v := .int (I 6 0)) (C := RX8) (T := TX8) (N := 35) hx hb hts hinX8 hown hK hP 0 rG_o rfl 6 (by decide) (hts (.fieldLink RX8 95 "OutboxHouseModel" "flushed" "I") (by decide +kernel)) (fun _ h9 => h9) rfl dX8_isUnderWay_3 ?_
  refine lv_istore_n (lv' := [(3, .int (I 6 0)), (2, .int 0), (0, .ref (ad 40)), (1, .int p1)]) hx hb dX8_isUnderWay_6 rfl hl (by decide) rfl (fun ls hl => ?_)
  obtain ⟨V1, ⟨n20, hV0⟩, hstepn2⟩ := h
  have hlpn2 : ∀ (n2 : Nat) (x3 : Int32) (x4 : Int32) (I5 : St) (H : Heap) (locs : List Loc), va_P (dC, dI) vwCl (rW ad cy I5) H → va_D A (rW ad cy I5) → va_S A s.heap H locs → ∀ ls : Array Slot, lv_has ls 4 [(0, .ref (ad 40)), (1, .int p1), (2, .int x3), (3, .int x4)] → V1 n2 x3 x4 I5 → W p l e (headSpec wsX8_isUnderWay rmX8_isUnderWay).room s m ([.ref (ad 40), .int p1] : List Value).toArray below meth c H locs 0 0 (MQ below Qc ([.ref (ad 40), .int p1] : List Value).toArray s 0 0 A) (F0 m 7 ls []) := by
    intro n2
    induction n2 using Nat.strongRecOn with
    | _ n2 ihn2 =>
      intro x3 x4 I5 H locs hP hD hS ls hl hV
      have h := hstepn2 n2 x3 x4 I5 hV
      refine lv_iload_n hx hb dX8_isUnderWay_7 rfl (lv_at hl 3 rfl) ?_
      refine lv_aload_n hx hb dX8_isUnderWay_8 rfl (lv_at hl 0 rfl) ?_
      refine va_get (D := (dC, dI)) (ci := 8) (v := .int (I5 5 0)) (C := RX8) (T := TX8) (N := 35) hx hb hts hinX8 hown hK hP 0 rG_o rfl 5 (by decide) (hts (.fieldLink RX8 83 "OutboxHouseModel" "end" "I") (by decide +kernel)) (fun _ h9 => h9) rfl dX8_isUnderWay_9 ?_
      refine lv_icmp_ge (tgt := 41) hx hb dX8_isUnderWay_12 (by decide) (fun hc => ?_) (fun hc => ?_)
      · have h := h.1 hc
        refine lv_iload_n hx hb dX8_isUnderWay_41 rfl (lv_at hl 2 rfl) ?_
        exact W.zret (v := x3) (ty := .boolean) hx hb hr h.1 (fun t ht hW => hQ _ _ t x3 I5 h.2 ⟨by rw [ht]; exact hP, hD⟩ (hS.F ht)) hS.2.2 dX8_isUnderWay_42
      · have h := h.2 hc
        refine lv_iload_n hx hb dX8_isUnderWay_15 rfl (lv_at hl 2 rfl) ?_
        refine lv_if_ne (tgt := 29) hx hb dX8_isUnderWay_16 (by decide) (fun hc => ?_) (fun hc => ?_)
        · have h := h.1 hc
          refine lv_iconst (v := 1) hx hb dX8_isUnderWay_29 (by decide) ?_
          refine lv_goto (tgt := 34) hx hb dX8_isUnderWay_30 (by decide) ?_
          refine lv_istore_n (lv' := [(2, .int 1), (0, .ref (ad 40)), (1, .int p1), (3, .int x4)]) hx hb dX8_isUnderWay_34 rfl hl (by decide) rfl (fun ls hl => ?_)
          refine lv_iinc (v := x4 + 1) (lv' := [(3, .int (x4 + 1)), (2, .int 1), (0, .ref (ad 40)), (1, .int p1)]) hx hb dX8_isUnderWay_35 hl (k := 3) rfl rfl (by decide) rfl (fun ls hl => ?_)
          refine lv_goto (tgt := 7) hx hb dX8_isUnderWay_38 (by decide) ?_
          obtain ⟨n6, hlt, hV⟩ := h
          exact ihn2 n6 hlt _ _ _ _ _ hP hD hS ls (lv_sub hl [2, 3, 1, 0] rfl) hV
        · have h := h.2 hc
          refine lv_aload_n hx hb dX8_isUnderWay_19 rfl (lv_at hl 0 rfl) ?_
          refine va_get (D := (dC, dI)) (ci := 8) (v := .ref (ad 8)) (C := RX8) (T := TX8) (N := 35) hx hb hts hinX8 hown hK hP 0 rG_o rfl 8 (by decide) (hts (.fieldLink RX8 26 "OutboxHouseModel" "logKey" "[I") (by decide +kernel)) (fun _ h9 => h9) rfl dX8_isUnderWay_20 ?_
          refine lv_iload_n hx hb dX8_isUnderWay_23 rfl (lv_at hl 3 rfl) ?_
          have hv := h.1; replace h := h.2
          refine va_iald hx hb hK hP 6 0 rG_8 rfl hv dX8_isUnderWay_24 ?_
          refine lv_iload_n hx hb dX8_isUnderWay_25 rfl (lv_at hl 1 rfl) ?_
          refine lv_icmp_ne (tgt := 33) hx hb dX8_isUnderWay_26 (by decide) (fun hc => ?_) (fun hc => ?_)
          · have h := h.1 hc
            refine lv_iconst (v := 0) hx hb dX8_isUnderWay_33 (by decide) ?_
            refine lv_istore_n (lv' := [(2, .int 0), (0, .ref (ad 40)), (1, .int p1), (3, .int x4)]) hx hb dX8_isUnderWay_34 rfl hl (by decide) rfl (fun ls hl => ?_)
            refine lv_iinc (v := x4 + 1) (lv' := [(3, .int (x4 + 1)), (2, .int 0), (0, .ref (ad 40)), (1, .int p1)]) hx hb dX8_isUnderWay_35 hl (k := 3) rfl rfl (by decide) rfl (fun ls hl => ?_)
            refine lv_goto (tgt := 7) hx hb dX8_isUnderWay_38 (by decide) ?_
            obtain ⟨n7, hlt, hV⟩ := h
            exact ihn2 n7 hlt _ _ _ _ _ hP hD hS ls (lv_sub hl [2, 3, 1, 0] rfl) hV
          · have h := h.2 hc
            refine lv_iconst (v := 1) hx hb dX8_isUnderWay_29 (by decide) ?_
            refine lv_goto (tgt := 34) hx hb dX8_isUnderWay_30 (by decide) ?_
            refine lv_istore_n (lv' := [(2, .int 1), (0, .ref (ad 40)), (1, .int p1), (3, .int x4)]) hx hb dX8_isUnderWay_34 rfl hl (by decide) rfl (fun ls hl => ?_)
            refine lv_iinc (v := x4 + 1) (lv' := [(3, .int (x4 + 1)), (2, .int 1), (0, .ref (ad 40)), (1, .int p1)]) hx hb dX8_isUnderWay_35 hl (k := 3) rfl rfl (by decide) rfl (fun ls hl => ?_)
            refine lv_goto (tgt := 7) hx hb dX8_isUnderWay_38 (by decide) ?_
            obtain ⟨n8, hlt, hV⟩ := h
            exact ihn2 n8 hlt _ _ _ _ _ hP hD hS ls (lv_sub hl [2, 3, 1, 0] rfl) hV
  exact hlpn2 n20 _ _ _ _ _ hP hD hS ls (lv_sub hl [2, 3, 1, 0] rfl) hV0
theorem m_X8_isUnderWay (l : Launch) (dC : Nat → ClassId) (dI : Nat → Nat → Nat) (cy : Nat → ClassId) (ad : Nat → Nat) (A : Nat → Prop) (I : St) (p1 : Int32) {post : Int32 → St → Prop} (hD : va_D A (rW ad cy I)) (h : wp_X8_isUnderWay I p1 post) : Met l yX8_isUnderWay wsX8_isUnderWay rmX8_isUnderWay (va_Pc [.ref (ad 40), .int p1] (wPre (dC, dI) cy A (rW ad cy I))) (va_Qi (fun r (u : St) => post r u) (fun (u : St) t => wPost (dC, dI) A (rW ad cy u) t) A) 0 0 A := g_X8_isUnderWay l dC dI cy ad A I p1 hD h (fun a s0 t r I' h1 h2 h3 => ⟨⟨r, I', rfl, h1, h2⟩, h3⟩)
abbrev rmX8_writer : Room := { frames := 0, cells := 0, slots := 0, locals := 0 }
set_option maxHeartbeats 4000000 in
set_option maxRecDepth 100000 in
theorem g_X8_writer (l : Launch) (dC : Nat → ClassId) (dI : Nat → Nat → Nat) (cy : Nat → ClassId) (ad : Nat → Nat) (A : Nat → Prop) (I : St) (p1 : Int32) {post : Int32 → St → Prop} (hD : va_D A (rW ad cy I)) (h : wp_X8_writer I p1 post) {Qc : Array Value → State → Outcome → State → Prop} (hQ : ∀ (a : Array Value) (s0 t : State) (r : Int32) (I' : St), post r I' → wPost (dC, dI) A (rW ad cy I') t → va_F A s0 t → Qc a s0 (.returned (some (.int r))) t) : Met l yX8_writer wsX8_writer rmX8_writer (va_Pc [.ref (ad 40), .int p1] (wPre (dC, dI) cy A (rW ad cy I))) Qc 0 0 A := by
  refine Met.ofW (cc := cX8_writer) (maxL := 3) (ret := (some .int)) (by decide) rfl ?_
  intro p e s m args below meth c s₁ B hml hv
  obtain ⟨rfl, hP, hK, hN, hA⟩ := hv
  have hx := B.exec
  have hb := B.bytes
  have hr := B.returns
  have hts := atoms_spec (ws := wsX8_writer) B.pre
  have hown : s.vm.findClass RX8 = some m.cls := findClass_of_methodNamed B.named
  have hlocks := B.notSynchronized
  have hinX8 : ∀ w ∈ wsX80, w ∈ wsX8_writer := fun _ h9 => List.mem_cons_of_mem _ (List.mem_append_right _ h9)
  have hS : va_S A s.heap s.heap [] := va_S.rf
  unfold wp_X8_writer at h
  have hl := lv_entry ([.ref (ad 40), .int p1]) (n := 3) (Nat.le_of_ble_eq_true rfl)
  rw [lg_entry_eq]
  generalize (lg_sl ([.ref (ad 40), .int p1]) ++ List.replicate (3 - (lg_sl ([.ref (ad 40), .int p1])).length) Slot.unset).toArray = ls at hl ⊢
  have hl : lv_has ls 3 [(0, .ref (ad 40)), (1, .int p1)] := hl
  refine lv_iconst (v := 0) hx hb dX8_writer_0 (by decide) ?_
  refine lv_istore_n (lv' := [(2, .int 0), (0, .ref (ad 40)), (1, .int p1)]) hx hb dX8_writer_1 rfl hl (by decide) rfl (fun ls hl => ?_)
  obtain ⟨V1, ⟨n20, hV0⟩, hstepn2⟩ := h
  have hlpn2 : ∀ (n2 : Nat) (x3 : Int32) (I4 : St) (H : Heap) (locs : List Loc), va_P (dC, dI) vwCl (rW ad cy I4) H → va_D A (rW ad cy I4) → va_S A s.heap H locs → ∀ ls : Array Slot, lv_has ls 3 [(0, .ref (ad 40)), (1, .int p1), (2, .int x3)] → V1 n2 x3 I4 → W p l e (headSpec wsX8_writer rmX8_writer).room s m ([.ref (ad 40), .int p1] : List Value).toArray below meth c H locs 0 0 (MQ below Qc ([.ref (ad 40), .int p1] : List Value).toArray s 0 0 A) (F0 m 2 ls []) := by
    intro n2
    induction n2 using Nat.strongRecOn with
    | _ n2 ihn2 =>
      intro x3 I4 H locs hP hD hS ls hl hV
      have h := hstepn2 n2 x3 I4 hV
      refine lv_iload_n hx hb dX8_writer_2 rfl (lv_at hl 2 rfl) ?_
      refine lv_iconst (v := 4) hx hb dX8_writer_3 (by decide) ?_
      refine lv_icmp_ge (tgt := 38) hx hb dX8_writer_4 (by decide) (fun hc => ?_) (fun hc => ?_)
      · have h := h.1 hc
        refine lv_iconst (v := (-1)) hx hb dX8_writer_38 (by decide) ?_
        exact W.iret (v := (-1)) hx hb hr (fun t ht hW => hQ _ _ t (-1) I4 h ⟨by rw [ht]; exact hP, hD⟩ (hS.F ht)) hS.2.2 dX8_writer_39
      · have h := h.2 hc
        refine lv_aload_n hx hb dX8_writer_7 rfl (lv_at hl 0 rfl) ?_
        refine va_get (D := (dC, dI)) (ci := 8) (v := .ref (ad 0)) (C := RX8) (T := TX8) (N := 35) hx hb hts hinX8 hown hK hP 0 rG_o rfl 0 (by decide) (hts (.fieldLink RX8 7 "OutboxHouseModel" "isOpen" "[Z") (by decide +kernel)) (fun _ h9 => h9) rfl dX8_writer_8 ?_
        refine lv_iload_n hx hb dX8_writer_11 rfl (lv_at hl 2 rfl) ?_
        have hv := h.1; replace h := h.2
        refine va_zald hx hb hK hP 1 1 rG_0 rfl hv dX8_writer_12 ?_
        refine lv_if_eq (tgt := 32) hx hb dX8_writer_13 (by decide) (fun hc => ?_) (fun hc => ?_)
        · have h := h.1 hc
          refine lv_iinc (v := x3 + 1) (lv' := [(2, .int (x3 + 1)), (0, .ref (ad 40)), (1, .int p1)]) hx hb dX8_writer_32 hl (k := 2) rfl rfl (by decide) rfl (fun ls hl => ?_)
          refine lv_goto (tgt := 2) hx hb dX8_writer_35 (by decide) ?_
          obtain ⟨n5, hlt, hV⟩ := h
          exact ihn2 n5 hlt _ _ _ _ hP hD hS ls (lv_sub hl [1, 2, 0] rfl) hV
        · have h := h.2 hc
          refine lv_aload_n hx hb dX8_writer_16 rfl (lv_at hl 0 rfl) ?_
          refine va_get (D := (dC, dI)) (ci := 8) (v := .ref (ad 1)) (C := RX8) (T := TX8) (N := 35) hx hb hts hinX8 hown hK hP 0 rG_o rfl 1 (by decide) (hts (.fieldLink RX8 13 "OutboxHouseModel" "wrote" "[Z") (by decide +kernel)) (fun _ h9 => h9) rfl dX8_writer_17 ?_
          refine lv_bipush (v := 6) hx hb dX8_writer_20 (by decide) ?_
          refine lv_iload_n hx hb dX8_writer_22 rfl (lv_at hl 2 rfl) ?_
          refine lv_imul hx hb dX8_writer_23 ?_
          refine lv_iload_n hx hb dX8_writer_24 rfl (lv_at hl 1 rfl) ?_
          refine lv_iadd hx hb dX8_writer_25 ?_
          have hv := h.1; replace h := h.2
          refine va_zald hx hb hK hP 2 1 rG_1 rfl hv dX8_writer_26 ?_
          refine lv_if_eq (tgt := 32) hx hb dX8_writer_27 (by decide) (fun hc => ?_) (fun hc => ?_)
          · have h := h.1 hc
            refine lv_iinc (v := x3 + 1) (lv' := [(2, .int (x3 + 1)), (0, .ref (ad 40)), (1, .int p1)]) hx hb dX8_writer_32 hl (k := 2) rfl rfl (by decide) rfl (fun ls hl => ?_)
            refine lv_goto (tgt := 2) hx hb dX8_writer_35 (by decide) ?_
            obtain ⟨n6, hlt, hV⟩ := h
            exact ihn2 n6 hlt _ _ _ _ hP hD hS ls (lv_sub hl [1, 2, 0] rfl) hV
          · have h := h.2 hc
            refine lv_iload_n hx hb dX8_writer_30 rfl (lv_at hl 2 rfl) ?_
            exact W.iret (v := x3) hx hb hr (fun t ht hW => hQ _ _ t x3 I4 h ⟨by rw [ht]; exact hP, hD⟩ (hS.F ht)) hS.2.2 dX8_writer_31
  exact hlpn2 n20 _ _ _ _ hP hD hS ls (lv_sub hl [1, 2, 0] rfl) hV0
theorem m_X8_writer (l : Launch) (dC : Nat → ClassId) (dI : Nat → Nat → Nat) (cy : Nat → ClassId) (ad : Nat → Nat) (A : Nat → Prop) (I : St) (p1 : Int32) {post : Int32 → St → Prop} (hD : va_D A (rW ad cy I)) (h : wp_X8_writer I p1 post) : Met l yX8_writer wsX8_writer rmX8_writer (va_Pc [.ref (ad 40), .int p1] (wPre (dC, dI) cy A (rW ad cy I))) (va_Qi (fun r (u : St) => post r u) (fun (u : St) t => wPost (dC, dI) A (rW ad cy u) t) A) 0 0 A := g_X8_writer l dC dI cy ad A I p1 hD h (fun a s0 t r I' h1 h2 h3 => ⟨⟨r, I', rfl, h1, h2⟩, h3⟩)
abbrev rmX8_write : Room := { frames := 2, cells := 0, slots := 0, locals := 43 }
set_option maxHeartbeats 4000000 in
set_option maxRecDepth 100000 in
theorem g_X8_write (l : Launch) (dC : Nat → ClassId) (dI : Nat → Nat → Nat) (cy : Nat → ClassId) (ad : Nat → Nat) (A : Nat → Prop) (I : St) (p1 : Int32) (p2 : Int32) (p3 : Int32) {post : Int32 → St → Prop} (hD : va_D A (rW ad cy I)) (h : wp_X8_write I p1 p2 p3 post) {Qc : Array Value → State → Outcome → State → Prop} (hQ : ∀ (a : Array Value) (s0 t : State) (r : Int32) (I' : St), post r I' → wPost (dC, dI) A (rW ad cy I') t → va_F A s0 t → Qc a s0 (.returned (some (.int r))) t) : Met l yX8_write wsX8_write rmX8_write (va_Pc [.ref (ad 40), .int p1, .int p2, .int p3] (wPre (dC, dI) cy A (rW ad cy I))) Qc 0 0 A := by
  refine Met.ofW (cc := cX8_write) (maxL := 5) (ret := (some .int)) (by decide) rfl ?_
  intro p e s m args below meth c s₁ B hml hv
  obtain ⟨rfl, hP, hK, hN, hA⟩ := hv
  have hx := B.exec
  have hb := B.bytes
  have hr := B.returns
  have hts := atoms_spec (ws := wsX8_write) B.pre
  have hown : s.vm.findClass RX8 = some m.cls := findClass_of_methodNamed B.named
  have hlocks := B.notSynchronized
  have hinX8 : ∀ w ∈ wsX80, w ∈ wsX8_write := fun _ h9 => List.mem_cons_of_mem _ (List.mem_append_right _ h9)
  have hS : va_S A s.heap s.heap [] := va_S.rf
  unfold wp_X8_write at h
  have hl := lv_entry ([.ref (ad 40), .int p1, .int p2, .int p3]) (n := 5) (Nat.le_of_ble_eq_true rfl)
  rw [lg_entry_eq]
  generalize (lg_sl ([.ref (ad 40), .int p1, .int p2, .int p3]) ++ List.replicate (5 - (lg_sl ([.ref (ad 40), .int p1, .int p2, .int p3])).length) Slot.unset).toArray = ls at hl ⊢
  have hl : lv_has ls 5 [(0, .ref (ad 40)), (1, .int p1), (2, .int p2), (3, .int p3)] := hl
  refine lv_aload_n hx hb dX8_write_0 rfl (lv_at hl 0 rfl) ?_
  refine lv_iload_n hx hb dX8_write_1 rfl (lv_at hl 1 rfl) ?_
  refine va_calli (va_runV (As := [.int p1]) (rest := []) ⟨hx, hb, hml, hown, hts⟩ (m_X8_isTransaction l dC dI cy ad A I p1 hD h) (cwV 1 hts gX8_write_X8_isTransaction rfl rfl rfl (by decide +kernel) ⟨Nat.le_of_ble_eq_true rfl, Nat.le_of_ble_eq_true rfl⟩) ⟨wPre.blind, va_recv hK hP (ci := 8) (q0 := 0) rfl rG_o, wPre.at hP hK hN hS hA⟩ rfl rfl hl.1 rfl (lv_room (Nat.le_of_ble_eq_true rfl)) dX8_write_2 ⟨by first | exact Nat.le_of_ble_eq_true rfl | (show _ ≤ 0; omega), by first | exact Nat.le_of_ble_eq_true rfl | (show _ ≤ 0; omega)⟩) hS (fun q _ h => h) (fun q h => h) (fun r1 u t H locs ht hvm hw hB hz1 hk1 hS => ?_)
  obtain ⟨I2, rfl⟩ : ∃ z : St, z = u := ⟨_, rfl⟩
  obtain ⟨hP, hD⟩ := hB; rw [ht] at hP; replace h := hw; try dsimp only at h hP hD
  refine lv_if_eq (tgt := 15) hx hb dX8_write_5 (by decide) (fun hc => ?_) (fun hc => ?_)
  · have h := h.1 hc
    refine lv_iconst (v := (-1)) hx hb dX8_write_15 (by decide) ?_
    exact W.iret (v := (-1)) hx hb hr (fun t ht hW => hQ _ _ t (-1) I2 h ⟨by rw [ht]; exact hP, hD⟩ (hS.F ht)) hS.2.2 dX8_write_16
  · have h := h.2 hc
    refine lv_iload_n hx hb dX8_write_8 rfl (lv_at hl 2 rfl) ?_
    refine va_calli (va_runS (As := [.int p2]) (rest := []) ⟨hx, hb, hml, hown, hts⟩ (m_X8_isKey l dC dI cy ad A I2 p2 hD h) (va_cwS 1 hts gX8_write_X8_isKey rfl rfl rfl (by decide +kernel) ⟨Nat.le_of_ble_eq_true rfl, Nat.le_of_ble_eq_true rfl⟩) ⟨wPre.blind, wPre.at hP hK hN hS hA⟩ rfl rfl hl.1 rfl (lv_room (Nat.le_of_ble_eq_true rfl)) dX8_write_9 ⟨by first | exact Nat.le_of_ble_eq_true rfl | (show _ ≤ 0; omega), by first | exact Nat.le_of_ble_eq_true rfl | (show _ ≤ 0; omega)⟩) hS (fun q _ h => h) (fun q h => h) (fun r3 u t H locs ht hvm hw hB hz1 hk1 hS => ?_)
    obtain ⟨I4, rfl⟩ : ∃ z : St, z = u := ⟨_, rfl⟩
    obtain ⟨hP, hD⟩ := hB; rw [ht] at hP; replace h := hw; try dsimp only at h hP hD
    refine lv_if_ne (tgt := 17) hx hb dX8_write_12 (by decide) (fun hc => ?_) (fun hc => ?_)
    · have h := h.1 hc
      refine lv_aload_n hx hb dX8_write_17 rfl (lv_at hl 0 rfl) ?_
      refine lv_iload_n hx hb dX8_write_18 rfl (lv_at hl 2 rfl) ?_
      refine va_calli (va_runV (As := [.int p2]) (rest := []) ⟨hx, hb, hml, hown, hts⟩ (m_X8_writer l dC dI cy ad A I4 p2 hD h) (cwV 1 hts gX8_write_X8_writer rfl rfl rfl (by decide +kernel) ⟨Nat.le_of_ble_eq_true rfl, Nat.le_of_ble_eq_true rfl⟩) ⟨wPre.blind, va_recv hK hP (ci := 8) (q0 := 0) rfl rG_o, wPre.at hP hK hN hS hA⟩ rfl rfl hl.1 rfl (lv_room (Nat.le_of_ble_eq_true rfl)) dX8_write_19 ⟨by first | exact Nat.le_of_ble_eq_true rfl | (show _ ≤ 0; omega), by first | exact Nat.le_of_ble_eq_true rfl | (show _ ≤ 0; omega)⟩) hS (fun q _ h => h) (fun q h => h) (fun r5 u t H locs ht hvm hw hB hz1 hk1 hS => ?_)
      obtain ⟨I6, rfl⟩ : ∃ z : St, z = u := ⟨_, rfl⟩
      obtain ⟨hP, hD⟩ := hB; rw [ht] at hP; replace h := hw; try dsimp only at h hP hD
      refine lv_istore (lv' := [(4, .int r5), (0, .ref (ad 40)), (1, .int p1), (2, .int p2), (3, .int p3)]) hx hb dX8_write_22 hl (by decide) rfl (fun ls hl => ?_)
      refine lv_aload_n hx hb dX8_write_24 rfl (lv_at hl 1 rfl) ?_
      refine lv_iload_n hx hb dX8_write_25 rfl (lv_at hl 3 rfl) ?_
      refine va_calli (va_runV (As := [.int p2]) (rest := []) ⟨hx, hb, hml, hown, hts⟩ (m_X8_isUnderWay l dC dI cy ad A I6 p2 hD h) (cwV 1 hts gX8_write_X8_isUnderWay rfl rfl rfl (by decide +kernel) ⟨Nat.le_of_ble_eq_true rfl, Nat.le_of_ble_eq_true rfl⟩) ⟨wPre.blind, va_recv hK hP (ci := 8) (q0 := 0) rfl rG_o, wPre.at hP hK hN hS hA⟩ rfl rfl hl.1 rfl (lv_room (Nat.le_of_ble_eq_true rfl)) dX8_write_26 ⟨by first | exact Nat.le_of_ble_eq_true rfl | (show _ ≤ 0; omega), by first | exact Nat.le_of_ble_eq_true rfl | (show _ ≤ 0; omega)⟩) hS (fun q _ h => h) (fun q h => h) (fun r7 u t H locs ht hvm hw hB hz1 hk1 hS => ?_)
      obtain ⟨I8, rfl⟩ : ∃ z : St, z = u := ⟨_, rfl⟩
      obtain ⟨hP, hD⟩ := hB; rw [ht] at hP; replace h := hw; try dsimp only at h hP hD
      refine lv_if_ne (tgt := 43) hx hb dX8_write_29 (by decide) (fun hc => ?_) (fun hc => ?_)
      · have h := h.1 hc
        refine lv_bipush (v := (-2)) hx hb dX8_write_43 (by decide) ?_
        exact W.iret (v := (-2)) hx hb hr (fun t ht hW => hQ _ _ t (-2) I8 h ⟨by rw [ht]; exact hP, hD⟩ (hS.F ht)) hS.2.2 dX8_write_45
      · have h := h.2 hc
        refine lv_iload hx hb dX8_write_32 (lv_at hl 0 rfl) ?_
        refine lv_if_lt (tgt := 46) hx hb dX8_write_34 (by decide) (fun hc => ?_) (fun hc => ?_)
        · have h := h.1 hc
          refine lv_aload_n hx hb dX8_write_46 rfl (lv_at hl 1 rfl) ?_
          refine va_get (D := (dC, dI)) (ci := 8) (v := .ref (ad 1)) (C := RX8) (T := TX8) (N := 35) hx hb hts hinX8 hown hK hP 0 rG_o rfl 1 (by decide) (hts (.fieldLink RX8 13 "OutboxHouseModel" "wrote" "[Z") (by decide +kernel)) (fun _ h9 => h9) rfl dX8_write_47 ?_
          refine lv_bipush (v := 6) hx hb dX8_write_50 (by decide) ?_
          refine lv_iload_n hx hb dX8_write_52 rfl (lv_at hl 2 rfl) ?_
          refine lv_imul hx hb dX8_write_53 ?_
          refine lv_iload_n hx hb dX8_write_54 rfl (lv_at hl 3 rfl) ?_
          refine lv_iadd hx hb dX8_write_55 ?_
          refine lv_iconst (v := 1) hx hb dX8_write_56 (by decide) ?_
          have hv := h.1; replace h := h.2
          refine va_zast hx hb hK hP hD hS 2 1 rG_1 rfl hv dX8_write_57 (fun H locs hP hD hS => ?_)
          obtain ⟨I9, hI9⟩ : ∃ z : St, z = st I8 1 ((6 * p1) + p2).toNatClampNeg (vp_nar .boolean 1) := ⟨_, rfl⟩
          replace hP := wP (rE_1 hI9) hP; replace hD := wD (rE_1 hI9) hD; replace h := h _ hI9
          refine lv_aload_n hx hb dX8_write_58 rfl (lv_at hl 1 rfl) ?_
          refine va_get (D := (dC, dI)) (ci := 8) (v := .ref (ad 2)) (C := RX8) (T := TX8) (N := 35) hx hb hts hinX8 hown hK hP 0 rG_o rfl 2 (by decide) (hts (.fieldLink RX8 16 "OutboxHouseModel" "written" "[I") (by decide +kernel)) (fun _ h9 => h9) rfl dX8_write_59 ?_
          refine lv_bipush (v := 6) hx hb dX8_write_62 (by decide) ?_
          refine lv_iload_n hx hb dX8_write_64 rfl (lv_at hl 2 rfl) ?_
          refine lv_imul hx hb dX8_write_65 ?_
          refine lv_iload_n hx hb dX8_write_66 rfl (lv_at hl 3 rfl) ?_
          refine lv_iadd hx hb dX8_write_67 ?_
          refine lv_iload_n hx hb dX8_write_68 rfl (lv_at hl 4 rfl) ?_
          have hv := h.1; replace h := h.2
          refine va_iast hx hb hK hP hD hS 3 0 rG_2 rfl hv dX8_write_69 (fun H locs hP hD hS => ?_)
          obtain ⟨I10, hI10⟩ : ∃ z : St, z = st I9 2 ((6 * p1) + p2).toNatClampNeg p3 := ⟨_, rfl⟩
          replace hP := wP (rE_2 hI10) hP; replace hD := wD (rE_2 hI10) hD; replace h := h _ hI10
          refine lv_iconst (v := 1) hx hb dX8_write_70 (by decide) ?_
          exact W.iret (v := 1) hx hb hr (fun t ht hW => hQ _ _ t 1 I10 h ⟨by rw [ht]; exact hP, hD⟩ (hS.F ht)) hS.2.2 dX8_write_71
        · have h := h.2 hc
          refine lv_iload hx hb dX8_write_37 (lv_at hl 0 rfl) ?_
          refine lv_iload_n hx hb dX8_write_39 rfl (lv_at hl 2 rfl) ?_
          refine lv_icmp_eq (tgt := 46) hx hb dX8_write_40 (by decide) (fun hc => ?_) (fun hc => ?_)
          · have h := h.1 hc
            refine lv_aload_n hx hb dX8_write_46 rfl (lv_at hl 1 rfl) ?_
            refine va_get (D := (dC, dI)) (ci := 8) (v := .ref (ad 1)) (C := RX8) (T := TX8) (N := 35) hx hb hts hinX8 hown hK hP 0 rG_o rfl 1 (by decide) (hts (.fieldLink RX8 13 "OutboxHouseModel" "wrote" "[Z") (by decide +kernel)) (fun _ h9 => h9) rfl dX8_write_47 ?_
            refine lv_bipush (v := 6) hx hb dX8_write_50 (by decide) ?_
            refine lv_iload_n hx hb dX8_write_52 rfl (lv_at hl 2 rfl) ?_
            refine lv_imul hx hb dX8_write_53 ?_
            refine lv_iload_n hx hb dX8_write_54 rfl (lv_at hl 3 rfl) ?_
            refine lv_iadd hx hb dX8_write_55 ?_
            refine lv_iconst (v := 1) hx hb dX8_write_56 (by decide) ?_
            have hv := h.1; replace h := h.2
            refine va_zast hx hb hK hP hD hS 2 1 rG_1 rfl hv dX8_write_57 (fun H locs hP hD hS => ?_)
            obtain ⟨I11, hI11⟩ : ∃ z : St, z = st I8 1 ((6 * p1) + p2).toNatClampNeg (vp_nar .boolean 1) := ⟨_, rfl⟩
            replace hP := wP (rE_1 hI11) hP; replace hD := wD (rE_1 hI11) hD; replace h := h _ hI11
            refine lv_aload_n hx hb dX8_write_58 rfl (lv_at hl 1 rfl) ?_
            refine va_get (D := (dC, dI)) (ci := 8) (v := .ref (ad 2)) (C := RX8) (T := TX8) (N := 35) hx hb hts hinX8 hown hK hP 0 rG_o rfl 2 (by decide) (hts (.fieldLink RX8 16 "OutboxHouseModel" "written" "[I") (by decide +kernel)) (fun _ h9 => h9) rfl dX8_write_59 ?_
            refine lv_bipush (v := 6) hx hb dX8_write_62 (by decide) ?_
            refine lv_iload_n hx hb dX8_write_64 rfl (lv_at hl 2 rfl) ?_
            refine lv_imul hx hb dX8_write_65 ?_
            refine lv_iload_n hx hb dX8_write_66 rfl (lv_at hl 3 rfl) ?_
            refine lv_iadd hx hb dX8_write_67 ?_
            refine lv_iload_n hx hb dX8_write_68 rfl (lv_at hl 4 rfl) ?_
            have hv := h.1; replace h := h.2
            refine va_iast hx hb hK hP hD hS 3 0 rG_2 rfl hv dX8_write_69 (fun H locs hP hD hS => ?_)
            obtain ⟨I12, hI12⟩ : ∃ z : St, z = st I11 2 ((6 * p1) + p2).toNatClampNeg p3 := ⟨_, rfl⟩
            replace hP := wP (rE_2 hI12) hP; replace hD := wD (rE_2 hI12) hD; replace h := h _ hI12
            refine lv_iconst (v := 1) hx hb dX8_write_70 (by decide) ?_
            exact W.iret (v := 1) hx hb hr (fun t ht hW => hQ _ _ t 1 I12 h ⟨by rw [ht]; exact hP, hD⟩ (hS.F ht)) hS.2.2 dX8_write_71
          · have h := h.2 hc
            refine lv_bipush (v := (-2)) hx hb dX8_write_43 (by decide) ?_
            exact W.iret (v := (-2)) hx hb hr (fun t ht hW => hQ _ _ t (-2) I8 h ⟨by rw [ht]; exact hP, hD⟩ (hS.F ht)) hS.2.2 dX8_write_45
    · have h := h.2 hc
      refine lv_iconst (v := (-1)) hx hb dX8_write_15 (by decide) ?_
      exact W.iret (v := (-1)) hx hb hr (fun t ht hW => hQ _ _ t (-1) I4 h ⟨by rw [ht]; exact hP, hD⟩ (hS.F ht)) hS.2.2 dX8_write_16
theorem m_X8_write (l : Launch) (dC : Nat → ClassId) (dI : Nat → Nat → Nat) (cy : Nat → ClassId) (ad : Nat → Nat) (A : Nat → Prop) (I : St) (p1 : Int32) (p2 : Int32) (p3 : Int32) {post : Int32 → St → Prop} (hD : va_D A (rW ad cy I)) (h : wp_X8_write I p1 p2 p3 post) : Met l yX8_write wsX8_write rmX8_write (va_Pc [.ref (ad 40), .int p1, .int p2, .int p3] (wPre (dC, dI) cy A (rW ad cy I))) (va_Qi (fun r (u : St) => post r u) (fun (u : St) t => wPost (dC, dI) A (rW ad cy u) t) A) 0 0 A := g_X8_write l dC dI cy ad A I p1 p2 p3 hD h (fun a s0 t r I' h1 h2 h3 => ⟨⟨r, I', rfl, h1, h2⟩, h3⟩)
