abbrev rmX4_isOpen : Room := { frames := 0, cells := 0, slots := 0, locals := 0 }
set_option maxHeartbeats 4000000 in
set_option maxRecDepth 100000 in
theorem g_X4_isOpen (l : Launch) (dC : Nat → ClassId) (dI : Nat → Nat → Nat) (cy : Nat → ClassId) (ad : Nat → Nat) (A : Nat → Prop) (I : St) (J : Rf) (LP : List Nat) (P : St) (p1 : Int32) {post : Int32 → St → Rf → List Nat → St → Prop} (hD : va_D A (cW ad cy I J LP P)) (h : wp_X4_isOpen I J LP P p1 post) {Qc : Array Value → State → Outcome → State → Prop} (hQ : ∀ (a : Array Value) (s0 t : State) (r : Int32) (I' : St) (J' : Rf) (LP' : List Nat) (P' : St), post r I' J' LP' P' → wPost (dC, dI) A (cW ad cy I' J' LP' P') t → va_F A s0 t → Qc a s0 (.returned (some (.int r))) t) : Met l yX4_isOpen wsX4_isOpen rmX4_isOpen (va_Pc [.ref (ad 3), .int p1] (wPre (dC, dI) cy A (cW ad cy I J LP P))) Qc 0 0 A := by
  refine Met.ofW (cc := cX4_isOpen) (maxL := 2) (ret := (some .boolean)) (by decide) rfl ?_
  intro p e s m args below meth c s₁ B hml hv
  obtain ⟨rfl, hP, hK, hN, hA⟩ := hv
  have hx := B.exec
  have hb := B.bytes
  have hr := B.returns
  have hts := atoms_spec (ws := wsX4_isOpen) B.pre
  have hown : s.vm.findClass RX4 = some m.cls := findClass_of_methodNamed B.named
  have hlocks := B.notSynchronized
  have hinX4 : ∀ w ∈ wsX40, w ∈ wsX4_isOpen := fun _ h9 => List.mem_cons_of_mem _ (List.mem_append_right _ h9)
  have hS : va_S A s.heap s.heap [] := va_S.rf
  unfold wp_X4_isOpen at h
  have hl := lv_entry ([.ref (ad 3), .int p1]) (n := 2) (Nat.le_of_ble_eq_true rfl)
  rw [lg_entry_eq]
  generalize (lg_sl ([.ref (ad 3), .int p1]) ++ List.replicate (2 - (lg_sl ([.ref (ad 3), .int p1])).length) Slot.unset).toArray = ls at hl ⊢
  have hl : lv_has ls 2 [(0, .ref (ad 3)), (1, .int p1)] := hl
  refine lv_iload_n hx hb dX4_isOpen_0 rfl (lv_at hl 1 rfl) ?_
  refine lv_if_lt (tgt := 22) hx hb dX4_isOpen_1 (by decide) (fun hc => ?_) (fun hc => ?_)
  · have h := h.1 hc
    refine lv_iconst (v := 0) hx hb dX4_isOpen_22 (by decide) ?_
    exact W.zret (v := 0) (ty := .boolean) hx hb hr rfl (fun t ht hW => hQ _ _ t 0 I J LP P h ⟨by rw [ht]; exact hP, hD⟩ (hS.F ht)) hS.2.2 dX4_isOpen_23
  · have h := h.2 hc
    refine lv_iload_n hx hb dX4_isOpen_4 rfl (lv_at hl 1 rfl) ?_
    refine lv_iconst (v := 4) hx hb dX4_isOpen_5 (by decide) ?_
    refine lv_icmp_ge (tgt := 22) hx hb dX4_isOpen_6 (by decide) (fun hc => ?_) (fun hc => ?_)
    · have h := h.1 hc
      refine lv_iconst (v := 0) hx hb dX4_isOpen_22 (by decide) ?_
      exact W.zret (v := 0) (ty := .boolean) hx hb hr rfl (fun t ht hW => hQ _ _ t 0 I J LP P h ⟨by rw [ht]; exact hP, hD⟩ (hS.F ht)) hS.2.2 dX4_isOpen_23
    · have h := h.2 hc
      refine lv_aload_n hx hb dX4_isOpen_9 rfl (lv_at hl 0 rfl) ?_
      refine va_get (D := (dC, dI)) (ci := 4) (v := .ref (ad 8)) (C := RX4) (T := TX4) (N := 6) hx hb hts hinX4 hown hK hP 3 cG_3 rfl 5 (by decide) (hts (.fieldLink RX4 24 "OutboxHouse$Source" "open" "[Z") (by decide +kernel)) (fun _ h9 => h9) rfl dX4_isOpen_10 ?_
      refine lv_iload_n hx hb dX4_isOpen_13 rfl (lv_at hl 1 rfl) ?_
      have hv := h.1; replace h := h.2
      refine va_zald hx hb hK hP 8 1 cG_8 rfl hv dX4_isOpen_14 ?_
      refine lv_if_eq (tgt := 22) hx hb dX4_isOpen_15 (by decide) (fun hc => ?_) (fun hc => ?_)
      · have h := h.1 hc
        refine lv_iconst (v := 0) hx hb dX4_isOpen_22 (by decide) ?_
        exact W.zret (v := 0) (ty := .boolean) hx hb hr rfl (fun t ht hW => hQ _ _ t 0 I J LP P h ⟨by rw [ht]; exact hP, hD⟩ (hS.F ht)) hS.2.2 dX4_isOpen_23
      · have h := h.2 hc
        refine lv_iconst (v := 1) hx hb dX4_isOpen_18 (by decide) ?_
        refine lv_goto (tgt := 23) hx hb dX4_isOpen_19 (by decide) ?_
        exact W.zret (v := 1) (ty := .boolean) hx hb hr rfl (fun t ht hW => hQ _ _ t 1 I J LP P h ⟨by rw [ht]; exact hP, hD⟩ (hS.F ht)) hS.2.2 dX4_isOpen_23
theorem m_X4_isOpen (l : Launch) (dC : Nat → ClassId) (dI : Nat → Nat → Nat) (cy : Nat → ClassId) (ad : Nat → Nat) (A : Nat → Prop) (I : St) (J : Rf) (LP : List Nat) (P : St) (p1 : Int32) {post : Int32 → St → Rf → List Nat → St → Prop} (hD : va_D A (cW ad cy I J LP P)) (h : wp_X4_isOpen I J LP P p1 post) : Met l yX4_isOpen wsX4_isOpen rmX4_isOpen (va_Pc [.ref (ad 3), .int p1] (wPre (dC, dI) cy A (cW ad cy I J LP P))) (va_Qi (fun r (u : CS) => post r u.1 u.2.1 u.2.2.1 u.2.2.2) (fun (u : CS) t => wPost (dC, dI) A (cW ad cy u.1 u.2.1 u.2.2.1 u.2.2.2) t) A) 0 0 A := g_X4_isOpen l dC dI cy ad A I J LP P p1 hD h (fun a s0 t r I' J' LP' P' h1 h2 h3 => ⟨⟨r, (I', J', LP', P'), rfl, h1, h2⟩, h3⟩)
abbrev rmX4_openFirstFree : Room := { frames := 0, cells := 0, slots := 0, locals := 0 }
set_option maxHeartbeats 4000000 in
set_option maxRecDepth 100000 in
theorem g_X4_openFirstFree (l : Launch) (dC : Nat → ClassId) (dI : Nat → Nat → Nat) (cy : Nat → ClassId) (ad : Nat → Nat) (A : Nat → Prop) (I : St) (J : Rf) (LP : List Nat) (P : St)  {post : Int32 → St → Rf → List Nat → St → Prop} (hD : va_D A (cW ad cy I J LP P)) (h : wp_X4_openFirstFree I J LP P  post) {Qc : Array Value → State → Outcome → State → Prop} (hQ : ∀ (a : Array Value) (s0 t : State) (r : Int32) (I' : St) (J' : Rf) (LP' : List Nat) (P' : St), post r I' J' LP' P' → wPost (dC, dI) A (cW ad cy I' J' LP' P') t → va_F A s0 t → Qc a s0 (.returned (some (.int r))) t) : Met l yX4_openFirstFree wsX4_openFirstFree rmX4_openFirstFree (va_Pc [.ref (ad 3)] (wPre (dC, dI) cy A (cW ad cy I J LP P))) Qc 0 0 A := by
  refine Met.ofW (cc := cX4_openFirstFree) (maxL := 2) (ret := (some .int)) (by decide) rfl ?_
  intro p e s m args below meth c s₁ B hml hv
  obtain ⟨rfl, hP, hK, hN, hA⟩ := hv
  have hx := B.exec
  have hb := B.bytes
  have hr := B.returns
  have hts := atoms_spec (ws := wsX4_openFirstFree) B.pre
  have hown : s.vm.findClass RX4 = some m.cls := findClass_of_methodNamed B.named
  have hlocks := B.notSynchronized
  have hinX4 : ∀ w ∈ wsX40, w ∈ wsX4_openFirstFree := fun _ h9 => List.mem_cons_of_mem _ (List.mem_append_right _ h9)
  have hS : va_S A s.heap s.heap [] := va_S.rf
  unfold wp_X4_openFirstFree at h
  have hl := lv_entry ([.ref (ad 3)]) (n := 2) (Nat.le_of_ble_eq_true rfl)
  rw [lg_entry_eq]
  generalize (lg_sl ([.ref (ad 3)]) ++ List.replicate (2 - (lg_sl ([.ref (ad 3)])).length) Slot.unset).toArray = ls at hl ⊢
  have hl : lv_has ls 2 [(0, .ref (ad 3))] := hl
  refine lv_iconst (v := 0) hx hb dX4_openFirstFree_0 (by decide) ?_
  refine lv_istore_n (lv' := [(1, .int 0), (0, .ref (ad 3))]) hx hb dX4_openFirstFree_1 rfl hl (by decide) rfl (fun ls hl => ?_)
  obtain ⟨V1, ⟨n20, hV0⟩, hstepn2⟩ := h
  have hlpn2 : ∀ (n2 : Nat) (x3 : Int32) (I4 : St) (J5 : Rf) (LP6 : List Nat) (P7 : St) (H : Heap) (locs : List Loc), va_P (dC, dI) vwCl (cW ad cy I4 J5 LP6 P7) H → va_D A (cW ad cy I4 J5 LP6 P7) → va_S A s.heap H locs → ∀ ls : Array Slot, lv_has ls 2 [(0, .ref (ad 3)), (1, .int x3)] → V1 n2 x3 I4 J5 LP6 P7 → W p l e (headSpec wsX4_openFirstFree rmX4_openFirstFree).room s m ([.ref (ad 3)] : List Value).toArray below meth c H locs 0 0 (MQ below Qc ([.ref (ad 3)] : List Value).toArray s 0 0 A) (F0 m 2 ls []) := by
    intro n2
    induction n2 using Nat.strongRecOn with
    | _ n2 ihn2 =>
      intro x3 I4 J5 LP6 P7 H locs hP hD hS ls hl hV
      have h := hstepn2 n2 x3 I4 J5 LP6 P7 hV
      refine lv_iload_n hx hb dX4_openFirstFree_2 rfl (lv_at hl 1 rfl) ?_
      refine lv_iconst (v := 4) hx hb dX4_openFirstFree_3 (by decide) ?_
      refine lv_icmp_ge (tgt := 31) hx hb dX4_openFirstFree_4 (by decide) (fun hc => ?_) (fun hc => ?_)
      · have h := h.1 hc
        refine lv_bipush (v := (-3)) hx hb dX4_openFirstFree_31 (by decide) ?_
        exact W.iret (v := (-3)) hx hb hr (fun t ht hW => hQ _ _ t (-3) I4 J5 LP6 P7 h ⟨by rw [ht]; exact hP, hD⟩ (hS.F ht)) hS.2.2 dX4_openFirstFree_33
      · have h := h.2 hc
        refine lv_aload_n hx hb dX4_openFirstFree_7 rfl (lv_at hl 0 rfl) ?_
        refine va_get (D := (dC, dI)) (ci := 4) (v := .ref (ad 8)) (C := RX4) (T := TX4) (N := 6) hx hb hts hinX4 hown hK hP 3 cG_3 rfl 5 (by decide) (hts (.fieldLink RX4 24 "OutboxHouse$Source" "open" "[Z") (by decide +kernel)) (fun _ h9 => h9) rfl dX4_openFirstFree_8 ?_
        refine lv_iload_n hx hb dX4_openFirstFree_11 rfl (lv_at hl 1 rfl) ?_
        have hv := h.1; replace h := h.2
        refine va_zald hx hb hK hP 8 1 cG_8 rfl hv dX4_openFirstFree_12 ?_
        refine lv_if_ne (tgt := 25) hx hb dX4_openFirstFree_13 (by decide) (fun hc => ?_) (fun hc => ?_)
        · have h := h.1 hc
          refine lv_iinc (v := x3 + 1) (lv' := [(1, .int (x3 + 1)), (0, .ref (ad 3))]) hx hb dX4_openFirstFree_25 hl (k := 1) rfl rfl (by decide) rfl (fun ls hl => ?_)
          refine lv_goto (tgt := 2) hx hb dX4_openFirstFree_28 (by decide) ?_
          obtain ⟨n8, hlt, hV⟩ := h
          exact ihn2 n8 hlt _ _ _ _ _ _ _ hP hD hS ls (lv_sub hl [1, 0] rfl) hV
        · have h := h.2 hc
          refine lv_aload_n hx hb dX4_openFirstFree_16 rfl (lv_at hl 0 rfl) ?_
          refine va_get (D := (dC, dI)) (ci := 4) (v := .ref (ad 8)) (C := RX4) (T := TX4) (N := 6) hx hb hts hinX4 hown hK hP 3 cG_3 rfl 5 (by decide) (hts (.fieldLink RX4 24 "OutboxHouse$Source" "open" "[Z") (by decide +kernel)) (fun _ h9 => h9) rfl dX4_openFirstFree_17 ?_
          refine lv_iload_n hx hb dX4_openFirstFree_20 rfl (lv_at hl 1 rfl) ?_
          refine lv_iconst (v := 1) hx hb dX4_openFirstFree_21 (by decide) ?_
          have hv := h.1; replace h := h.2
          refine va_zast hx hb hK hP hD hS 8 1 cG_8 rfl hv dX4_openFirstFree_22 (fun H locs hP hD hS => ?_)
          obtain ⟨I9, hI9⟩ : ∃ z : St, z = st I4 8 x3.toNatClampNeg (vp_nar .boolean 1) := ⟨_, rfl⟩
          replace hP := wP (cE_8 hI9) hP; replace hD := wD (cE_8 hI9) hD; replace h := h _ hI9
          refine lv_iload_n hx hb dX4_openFirstFree_23 rfl (lv_at hl 1 rfl) ?_
          exact W.iret (v := x3) hx hb hr (fun t ht hW => hQ _ _ t x3 I9 J5 LP6 P7 h ⟨by rw [ht]; exact hP, hD⟩ (hS.F ht)) hS.2.2 dX4_openFirstFree_24
  exact hlpn2 n20 _ _ _ _ _ _ _ hP hD hS ls (lv_sub hl [1, 0] rfl) hV0
theorem m_X4_openFirstFree (l : Launch) (dC : Nat → ClassId) (dI : Nat → Nat → Nat) (cy : Nat → ClassId) (ad : Nat → Nat) (A : Nat → Prop) (I : St) (J : Rf) (LP : List Nat) (P : St)  {post : Int32 → St → Rf → List Nat → St → Prop} (hD : va_D A (cW ad cy I J LP P)) (h : wp_X4_openFirstFree I J LP P  post) : Met l yX4_openFirstFree wsX4_openFirstFree rmX4_openFirstFree (va_Pc [.ref (ad 3)] (wPre (dC, dI) cy A (cW ad cy I J LP P))) (va_Qi (fun r (u : CS) => post r u.1 u.2.1 u.2.2.1 u.2.2.2) (fun (u : CS) t => wPost (dC, dI) A (cW ad cy u.1 u.2.1 u.2.2.1 u.2.2.2) t) A) 0 0 A := g_X4_openFirstFree l dC dI cy ad A I J LP P  hD h (fun a s0 t r I' J' LP' P' h1 h2 h3 => ⟨⟨r, (I', J', LP', P'), rfl, h1, h2⟩, h3⟩)
abbrev rmX4_openTransactions : Room := { frames := 0, cells := 0, slots := 0, locals := 0 }
set_option maxHeartbeats 4000000 in
set_option maxRecDepth 100000 in
theorem g_X4_openTransactions (l : Launch) (dC : Nat → ClassId) (dI : Nat → Nat → Nat) (cy : Nat → ClassId) (ad : Nat → Nat) (A : Nat → Prop) (I : St) (J : Rf) (LP : List Nat) (P : St)  {post : Int32 → St → Rf → List Nat → St → Prop} (hD : va_D A (cW ad cy I J LP P)) (h : wp_X4_openTransactions I J LP P  post) {Qc : Array Value → State → Outcome → State → Prop} (hQ : ∀ (a : Array Value) (s0 t : State) (r : Int32) (I' : St) (J' : Rf) (LP' : List Nat) (P' : St), post r I' J' LP' P' → wPost (dC, dI) A (cW ad cy I' J' LP' P') t → va_F A s0 t → Qc a s0 (.returned (some (.int r))) t) : Met l yX4_openTransactions wsX4_openTransactions rmX4_openTransactions (va_Pc [.ref (ad 3)] (wPre (dC, dI) cy A (cW ad cy I J LP P))) Qc 0 0 A := by
  refine Met.ofW (cc := cX4_openTransactions) (maxL := 3) (ret := (some .int)) (by decide) rfl ?_
  intro p e s m args below meth c s₁ B hml hv
  obtain ⟨rfl, hP, hK, hN, hA⟩ := hv
  have hx := B.exec
  have hb := B.bytes
  have hr := B.returns
  have hts := atoms_spec (ws := wsX4_openTransactions) B.pre
  have hown : s.vm.findClass RX4 = some m.cls := findClass_of_methodNamed B.named
  have hlocks := B.notSynchronized
  have hinX4 : ∀ w ∈ wsX40, w ∈ wsX4_openTransactions := fun _ h9 => List.mem_cons_of_mem _ (List.mem_append_right _ h9)
  have hS : va_S A s.heap s.heap [] := va_S.rf
  unfold wp_X4_openTransactions at h
  have hl := lv_entry ([.ref (ad 3)]) (n := 3) (Nat.le_of_ble_eq_true rfl)
  rw [lg_entry_eq]
  generalize (lg_sl ([.ref (ad 3)]) ++ List.replicate (3 - (lg_sl ([.ref (ad 3)])).length) Slot.unset).toArray = ls at hl ⊢
  have hl : lv_has ls 3 [(0, .ref (ad 3))] := hl
  refine lv_iconst (v := 0) hx hb dX4_openTransactions_0 (by decide) ?_
  refine lv_istore_n (lv' := [(1, .int 0), (0, .ref (ad 3))]) hx hb dX4_openTransactions_1 rfl hl (by decide) rfl (fun ls hl => ?_)
  refine lv_iconst (v := 0) hx hb dX4_openTransactions_2 (by decide) ?_
  refine lv_istore_n (lv' := [(2, .int 0), (1, .int 0), (0, .ref (ad 3))]) hx hb dX4_openTransactions_3 rfl hl (by decide) rfl (fun ls hl => ?_)
  obtain ⟨V1, ⟨n20, hV0⟩, hstepn2⟩ := h
  have hlpn2 : ∀ (n2 : Nat) (x3 : Int32) (x4 : Int32) (I5 : St) (J6 : Rf) (LP7 : List Nat) (P8 : St) (H : Heap) (locs : List Loc), va_P (dC, dI) vwCl (cW ad cy I5 J6 LP7 P8) H → va_D A (cW ad cy I5 J6 LP7 P8) → va_S A s.heap H locs → ∀ ls : Array Slot, lv_has ls 3 [(0, .ref (ad 3)), (1, .int x3), (2, .int x4)] → V1 n2 x3 x4 I5 J6 LP7 P8 → W p l e (headSpec wsX4_openTransactions rmX4_openTransactions).room s m ([.ref (ad 3)] : List Value).toArray below meth c H locs 0 0 (MQ below Qc ([.ref (ad 3)] : List Value).toArray s 0 0 A) (F0 m 4 ls []) := by
    intro n2
    induction n2 using Nat.strongRecOn with
    | _ n2 ihn2 =>
      intro x3 x4 I5 J6 LP7 P8 H locs hP hD hS ls hl hV
      have h := hstepn2 n2 x3 x4 I5 J6 LP7 P8 hV
      refine lv_iload_n hx hb dX4_openTransactions_4 rfl (lv_at hl 2 rfl) ?_
      refine lv_iconst (v := 4) hx hb dX4_openTransactions_5 (by decide) ?_
      refine lv_icmp_ge (tgt := 27) hx hb dX4_openTransactions_6 (by decide) (fun hc => ?_) (fun hc => ?_)
      · have h := h.1 hc
        refine lv_iload_n hx hb dX4_openTransactions_27 rfl (lv_at hl 1 rfl) ?_
        exact W.iret (v := x3) hx hb hr (fun t ht hW => hQ _ _ t x3 I5 J6 LP7 P8 h ⟨by rw [ht]; exact hP, hD⟩ (hS.F ht)) hS.2.2 dX4_openTransactions_28
      · have h := h.2 hc
        refine lv_aload_n hx hb dX4_openTransactions_9 rfl (lv_at hl 0 rfl) ?_
        refine va_get (D := (dC, dI)) (ci := 4) (v := .ref (ad 8)) (C := RX4) (T := TX4) (N := 6) hx hb hts hinX4 hown hK hP 3 cG_3 rfl 5 (by decide) (hts (.fieldLink RX4 24 "OutboxHouse$Source" "open" "[Z") (by decide +kernel)) (fun _ h9 => h9) rfl dX4_openTransactions_10 ?_
        refine lv_iload_n hx hb dX4_openTransactions_13 rfl (lv_at hl 2 rfl) ?_
        have hv := h.1; replace h := h.2
        refine va_zald hx hb hK hP 8 1 cG_8 rfl hv dX4_openTransactions_14 ?_
        refine lv_if_eq (tgt := 21) hx hb dX4_openTransactions_15 (by decide) (fun hc => ?_) (fun hc => ?_)
        · have h := h.1 hc
          refine lv_iinc (v := x4 + 1) (lv' := [(2, .int (x4 + 1)), (0, .ref (ad 3)), (1, .int x3)]) hx hb dX4_openTransactions_21 hl (k := 2) rfl rfl (by decide) rfl (fun ls hl => ?_)
          refine lv_goto (tgt := 4) hx hb dX4_openTransactions_24 (by decide) ?_
          obtain ⟨n9, hlt, hV⟩ := h
          exact ihn2 n9 hlt _ _ _ _ _ _ _ _ hP hD hS ls (lv_sub hl [1, 2, 0] rfl) hV
        · have h := h.2 hc
          refine lv_iinc (v := x3 + 1) (lv' := [(1, .int (x3 + 1)), (0, .ref (ad 3)), (2, .int x4)]) hx hb dX4_openTransactions_18 hl (k := 1) rfl rfl (by decide) rfl (fun ls hl => ?_)
          refine lv_iinc (v := x4 + 1) (lv' := [(2, .int (x4 + 1)), (1, .int (x3 + 1)), (0, .ref (ad 3))]) hx hb dX4_openTransactions_21 hl (k := 2) rfl rfl (by decide) rfl (fun ls hl => ?_)
          refine lv_goto (tgt := 4) hx hb dX4_openTransactions_24 (by decide) ?_
          obtain ⟨n10, hlt, hV⟩ := h
          exact ihn2 n10 hlt _ _ _ _ _ _ _ _ hP hD hS ls (lv_sub hl [2, 1, 0] rfl) hV
  exact hlpn2 n20 _ _ _ _ _ _ _ _ hP hD hS ls (lv_sub hl [2, 1, 0] rfl) hV0
theorem m_X4_openTransactions (l : Launch) (dC : Nat → ClassId) (dI : Nat → Nat → Nat) (cy : Nat → ClassId) (ad : Nat → Nat) (A : Nat → Prop) (I : St) (J : Rf) (LP : List Nat) (P : St)  {post : Int32 → St → Rf → List Nat → St → Prop} (hD : va_D A (cW ad cy I J LP P)) (h : wp_X4_openTransactions I J LP P  post) : Met l yX4_openTransactions wsX4_openTransactions rmX4_openTransactions (va_Pc [.ref (ad 3)] (wPre (dC, dI) cy A (cW ad cy I J LP P))) (va_Qi (fun r (u : CS) => post r u.1 u.2.1 u.2.2.1 u.2.2.2) (fun (u : CS) t => wPost (dC, dI) A (cW ad cy u.1 u.2.1 u.2.2.1 u.2.2.2) t) A) 0 0 A := g_X4_openTransactions l dC dI cy ad A I J LP P  hD h (fun a s0 t r I' J' LP' P' h1 h2 h3 => ⟨⟨r, (I', J', LP', P'), rfl, h1, h2⟩, h3⟩)
abbrev rmX4_draft : Room := { frames := 0, cells := 0, slots := 0, locals := 0 }
set_option maxHeartbeats 4000000 in
set_option maxRecDepth 100000 in
theorem g_X4_draft (l : Launch) (dC : Nat → ClassId) (dI : Nat → Nat → Nat) (cy : Nat → ClassId) (ad : Nat → Nat) (A : Nat → Prop) (I : St) (J : Rf) (LP : List Nat) (P : St) (p1 : Int32) (p2 : Int32) (p3 : Int32) {post : Int32 → St → Rf → List Nat → St → Prop} (hD : va_D A (cW ad cy I J LP P)) (h : wp_X4_draft I J LP P p1 p2 p3 post) {Qc : Array Value → State → Outcome → State → Prop} (hQ : ∀ (a : Array Value) (s0 t : State) (r : Int32) (I' : St) (J' : Rf) (LP' : List Nat) (P' : St), post r I' J' LP' P' → wPost (dC, dI) A (cW ad cy I' J' LP' P') t → va_F A s0 t → Qc a s0 (.returned (some (.int r))) t) : Met l yX4_draft wsX4_draft rmX4_draft (va_Pc [.ref (ad 3), .int p1, .int p2, .int p3] (wPre (dC, dI) cy A (cW ad cy I J LP P))) Qc 0 0 A := by
  refine Met.ofW (cc := cX4_draft) (maxL := 4) (ret := (some .boolean)) (by decide) rfl ?_
  intro p e s m args below meth c s₁ B hml hv
  obtain ⟨rfl, hP, hK, hN, hA⟩ := hv
  have hx := B.exec
  have hb := B.bytes
  have hr := B.returns
  have hts := atoms_spec (ws := wsX4_draft) B.pre
  have hown : s.vm.findClass RX4 = some m.cls := findClass_of_methodNamed B.named
  have hlocks := B.notSynchronized
  have hinX4 : ∀ w ∈ wsX40, w ∈ wsX4_draft := fun _ h9 => List.mem_cons_of_mem _ (List.mem_append_right _ h9)
  have hS : va_S A s.heap s.heap [] := va_S.rf
  unfold wp_X4_draft at h
  have hl := lv_entry ([.ref (ad 3), .int p1, .int p2, .int p3]) (n := 4) (Nat.le_of_ble_eq_true rfl)
  rw [lg_entry_eq]
  generalize (lg_sl ([.ref (ad 3), .int p1, .int p2, .int p3]) ++ List.replicate (4 - (lg_sl ([.ref (ad 3), .int p1, .int p2, .int p3])).length) Slot.unset).toArray = ls at hl ⊢
  have hl : lv_has ls 4 [(0, .ref (ad 3)), (1, .int p1), (2, .int p2), (3, .int p3)] := hl
  refine lv_aload_n hx hb dX4_draft_0 rfl (lv_at hl 0 rfl) ?_
  refine va_get (D := (dC, dI)) (ci := 4) (v := .ref (ad 6)) (C := RX4) (T := TX4) (N := 6) hx hb hts hinX4 hown hK hP 3 cG_3 rfl 3 (by decide) (hts (.fieldLink RX4 18 "OutboxHouse$Source" "owners" "[I") (by decide +kernel)) (fun _ h9 => h9) rfl dX4_draft_1 ?_
  refine lv_iload_n hx hb dX4_draft_4 rfl (lv_at hl 2 rfl) ?_
  have hv := h.1; replace h := h.2
  refine va_iald hx hb hK hP 6 0 cG_6 rfl hv dX4_draft_5 ?_
  refine lv_iconst (v := (-1)) hx hb dX4_draft_6 (by decide) ?_
  refine lv_icmp_eq (tgt := 22) hx hb dX4_draft_7 (by decide) (fun hc => ?_) (fun hc => ?_)
  · have h := h.1 hc
    refine lv_aload_n hx hb dX4_draft_22 rfl (lv_at hl 0 rfl) ?_
    refine va_get (D := (dC, dI)) (ci := 4) (v := .ref (ad 6)) (C := RX4) (T := TX4) (N := 6) hx hb hts hinX4 hown hK hP 3 cG_3 rfl 3 (by decide) (hts (.fieldLink RX4 18 "OutboxHouse$Source" "owners" "[I") (by decide +kernel)) (fun _ h9 => h9) rfl dX4_draft_23 ?_
    refine lv_iload_n hx hb dX4_draft_26 rfl (lv_at hl 2 rfl) ?_
    refine lv_iload_n hx hb dX4_draft_27 rfl (lv_at hl 1 rfl) ?_
    have hv := h.1; replace h := h.2
    refine va_iast hx hb hK hP hD hS 6 0 cG_6 rfl hv dX4_draft_28 (fun H locs hP hD hS => ?_)
    obtain ⟨I1, hI1⟩ : ∃ z : St, z = st I 6 p2.toNatClampNeg p1 := ⟨_, rfl⟩
    replace hP := wP (cE_6 hI1) hP; replace hD := wD (cE_6 hI1) hD; replace h := h _ hI1
    refine lv_aload_n hx hb dX4_draft_29 rfl (lv_at hl 0 rfl) ?_
    refine va_get (D := (dC, dI)) (ci := 4) (v := .ref (ad 7)) (C := RX4) (T := TX4) (N := 6) hx hb hts hinX4 hown hK hP 3 cG_3 rfl 4 (by decide) (hts (.fieldLink RX4 21 "OutboxHouse$Source" "drafts" "[I") (by decide +kernel)) (fun _ h9 => h9) rfl dX4_draft_30 ?_
    refine lv_iload_n hx hb dX4_draft_33 rfl (lv_at hl 2 rfl) ?_
    refine lv_iload_n hx hb dX4_draft_34 rfl (lv_at hl 3 rfl) ?_
    have hv := h.1; replace h := h.2
    refine va_iast hx hb hK hP hD hS 7 0 cG_7 rfl hv dX4_draft_35 (fun H locs hP hD hS => ?_)
    obtain ⟨I2, hI2⟩ : ∃ z : St, z = st I1 7 p2.toNatClampNeg p3 := ⟨_, rfl⟩
    replace hP := wP (cE_7 hI2) hP; replace hD := wD (cE_7 hI2) hD; replace h := h _ hI2
    refine lv_iconst (v := 1) hx hb dX4_draft_36 (by decide) ?_
    exact W.zret (v := 1) (ty := .boolean) hx hb hr rfl (fun t ht hW => hQ _ _ t 1 I2 J LP P h ⟨by rw [ht]; exact hP, hD⟩ (hS.F ht)) hS.2.2 dX4_draft_37
  · have h := h.2 hc
    refine lv_aload_n hx hb dX4_draft_10 rfl (lv_at hl 0 rfl) ?_
    refine va_get (D := (dC, dI)) (ci := 4) (v := .ref (ad 6)) (C := RX4) (T := TX4) (N := 6) hx hb hts hinX4 hown hK hP 3 cG_3 rfl 3 (by decide) (hts (.fieldLink RX4 18 "OutboxHouse$Source" "owners" "[I") (by decide +kernel)) (fun _ h9 => h9) rfl dX4_draft_11 ?_
    refine lv_iload_n hx hb dX4_draft_14 rfl (lv_at hl 2 rfl) ?_
    have hv := h.1; replace h := h.2
    refine va_iald hx hb hK hP 6 0 cG_6 rfl hv dX4_draft_15 ?_
    refine lv_iload_n hx hb dX4_draft_16 rfl (lv_at hl 1 rfl) ?_
    refine lv_icmp_eq (tgt := 22) hx hb dX4_draft_17 (by decide) (fun hc => ?_) (fun hc => ?_)
    · have h := h.1 hc
      refine lv_aload_n hx hb dX4_draft_22 rfl (lv_at hl 0 rfl) ?_
      refine va_get (D := (dC, dI)) (ci := 4) (v := .ref (ad 6)) (C := RX4) (T := TX4) (N := 6) hx hb hts hinX4 hown hK hP 3 cG_3 rfl 3 (by decide) (hts (.fieldLink RX4 18 "OutboxHouse$Source" "owners" "[I") (by decide +kernel)) (fun _ h9 => h9) rfl dX4_draft_23 ?_
      refine lv_iload_n hx hb dX4_draft_26 rfl (lv_at hl 2 rfl) ?_
      refine lv_iload_n hx hb dX4_draft_27 rfl (lv_at hl 1 rfl) ?_
      have hv := h.1; replace h := h.2
      refine va_iast hx hb hK hP hD hS 6 0 cG_6 rfl hv dX4_draft_28 (fun H locs hP hD hS => ?_)
      obtain ⟨I3, hI3⟩ : ∃ z : St, z = st I 6 p2.toNatClampNeg p1 := ⟨_, rfl⟩
      replace hP := wP (cE_6 hI3) hP; replace hD := wD (cE_6 hI3) hD; replace h := h _ hI3
      refine lv_aload_n hx hb dX4_draft_29 rfl (lv_at hl 0 rfl) ?_
      refine va_get (D := (dC, dI)) (ci := 4) (v := .ref (ad 7)) (C := RX4) (T := TX4) (N := 6) hx hb hts hinX4 hown hK hP 3 cG_3 rfl 4 (by decide) (hts (.fieldLink RX4 21 "OutboxHouse$Source" "drafts" "[I") (by decide +kernel)) (fun _ h9 => h9) rfl dX4_draft_30 ?_
      refine lv_iload_n hx hb dX4_draft_33 rfl (lv_at hl 2 rfl) ?_
      refine lv_iload_n hx hb dX4_draft_34 rfl (lv_at hl 3 rfl) ?_
      have hv := h.1; replace h := h.2
      refine va_iast hx hb hK hP hD hS 7 0 cG_7 rfl hv dX4_draft_35 (fun H locs hP hD hS => ?_)
      obtain ⟨I4, hI4⟩ : ∃ z : St, z = st I3 7 p2.toNatClampNeg p3 := ⟨_, rfl⟩
      replace hP := wP (cE_7 hI4) hP; replace hD := wD (cE_7 hI4) hD; replace h := h _ hI4
      refine lv_iconst (v := 1) hx hb dX4_draft_36 (by decide) ?_
      exact W.zret (v := 1) (ty := .boolean) hx hb hr rfl (fun t ht hW => hQ _ _ t 1 I4 J LP P h ⟨by rw [ht]; exact hP, hD⟩ (hS.F ht)) hS.2.2 dX4_draft_37
    · have h := h.2 hc
      refine lv_iconst (v := 0) hx hb dX4_draft_20 (by decide) ?_
      exact W.zret (v := 0) (ty := .boolean) hx hb hr rfl (fun t ht hW => hQ _ _ t 0 I J LP P h ⟨by rw [ht]; exact hP, hD⟩ (hS.F ht)) hS.2.2 dX4_draft_21
theorem m_X4_draft (l : Launch) (dC : Nat → ClassId) (dI : Nat → Nat → Nat) (cy : Nat → ClassId) (ad : Nat → Nat) (A : Nat → Prop) (I : St) (J : Rf) (LP : List Nat) (P : St) (p1 : Int32) (p2 : Int32) (p3 : Int32) {post : Int32 → St → Rf → List Nat → St → Prop} (hD : va_D A (cW ad cy I J LP P)) (h : wp_X4_draft I J LP P p1 p2 p3 post) : Met l yX4_draft wsX4_draft rmX4_draft (va_Pc [.ref (ad 3), .int p1, .int p2, .int p3] (wPre (dC, dI) cy A (cW ad cy I J LP P))) (va_Qi (fun r (u : CS) => post r u.1 u.2.1 u.2.2.1 u.2.2.2) (fun (u : CS) t => wPost (dC, dI) A (cW ad cy u.1 u.2.1 u.2.2.1 u.2.2.2) t) A) 0 0 A := g_X4_draft l dC dI cy ad A I J LP P p1 p2 p3 hD h (fun a s0 t r I' J' LP' P' h1 h2 h3 => ⟨⟨r, (I', J', LP', P'), rfl, h1, h2⟩, h3⟩)
abbrev rmX4_seenBy : Room := { frames := 0, cells := 0, slots := 0, locals := 0 }
set_option maxHeartbeats 4000000 in
set_option maxRecDepth 100000 in
theorem g_X4_seenBy (l : Launch) (dC : Nat → ClassId) (dI : Nat → Nat → Nat) (cy : Nat → ClassId) (ad : Nat → Nat) (A : Nat → Prop) (I : St) (J : Rf) (LP : List Nat) (P : St) (p1 : Int32) (p2 : Int32) {post : Int32 → St → Rf → List Nat → St → Prop} (hD : va_D A (cW ad cy I J LP P)) (h : wp_X4_seenBy I J LP P p1 p2 post) {Qc : Array Value → State → Outcome → State → Prop} (hQ : ∀ (a : Array Value) (s0 t : State) (r : Int32) (I' : St) (J' : Rf) (LP' : List Nat) (P' : St), post r I' J' LP' P' → wPost (dC, dI) A (cW ad cy I' J' LP' P') t → va_F A s0 t → Qc a s0 (.returned (some (.int r))) t) : Met l yX4_seenBy wsX4_seenBy rmX4_seenBy (va_Pc [.ref (ad 3), .int p1, .int p2] (wPre (dC, dI) cy A (cW ad cy I J LP P))) Qc 0 0 A := by
  refine Met.ofW (cc := cX4_seenBy) (maxL := 3) (ret := (some .int)) (by decide) rfl ?_
  intro p e s m args below meth c s₁ B hml hv
  obtain ⟨rfl, hP, hK, hN, hA⟩ := hv
  have hx := B.exec
  have hb := B.bytes
  have hr := B.returns
  have hts := atoms_spec (ws := wsX4_seenBy) B.pre
  have hown : s.vm.findClass RX4 = some m.cls := findClass_of_methodNamed B.named
  have hlocks := B.notSynchronized
  have hinX4 : ∀ w ∈ wsX40, w ∈ wsX4_seenBy := fun _ h9 => List.mem_cons_of_mem _ (List.mem_append_right _ h9)
  have hS : va_S A s.heap s.heap [] := va_S.rf
  unfold wp_X4_seenBy at h
  have hl := lv_entry ([.ref (ad 3), .int p1, .int p2]) (n := 3) (Nat.le_of_ble_eq_true rfl)
  rw [lg_entry_eq]
  generalize (lg_sl ([.ref (ad 3), .int p1, .int p2]) ++ List.replicate (3 - (lg_sl ([.ref (ad 3), .int p1, .int p2])).length) Slot.unset).toArray = ls at hl ⊢
  have hl : lv_has ls 3 [(0, .ref (ad 3)), (1, .int p1), (2, .int p2)] := hl
  refine lv_aload_n hx hb dX4_seenBy_0 rfl (lv_at hl 0 rfl) ?_
  refine va_get (D := (dC, dI)) (ci := 4) (v := .ref (ad 6)) (C := RX4) (T := TX4) (N := 6) hx hb hts hinX4 hown hK hP 3 cG_3 rfl 3 (by decide) (hts (.fieldLink RX4 18 "OutboxHouse$Source" "owners" "[I") (by decide +kernel)) (fun _ h9 => h9) rfl dX4_seenBy_1 ?_
  refine lv_iload_n hx hb dX4_seenBy_4 rfl (lv_at hl 2 rfl) ?_
  have hv := h.1; replace h := h.2
  refine va_iald hx hb hK hP 6 0 cG_6 rfl hv dX4_seenBy_5 ?_
  refine lv_iload_n hx hb dX4_seenBy_6 rfl (lv_at hl 1 rfl) ?_
  refine lv_icmp_ne (tgt := 19) hx hb dX4_seenBy_7 (by decide) (fun hc => ?_) (fun hc => ?_)
  · have h := h.1 hc
    refine lv_aload_n hx hb dX4_seenBy_19 rfl (lv_at hl 0 rfl) ?_
    refine va_get (D := (dC, dI)) (ci := 4) (v := .ref (ad 4)) (C := RX4) (T := TX4) (N := 6) hx hb hts hinX4 hown hK hP 3 cG_3 rfl 1 (by decide) (hts (.fieldLink RX4 9 "OutboxHouse$Source" "values" "[I") (by decide +kernel)) (fun _ h9 => h9) rfl dX4_seenBy_20 ?_
    refine lv_iload_n hx hb dX4_seenBy_23 rfl (lv_at hl 2 rfl) ?_
    have hv := h.1; replace h := h.2
    refine va_iald hx hb hK hP 4 0 cG_4 rfl hv dX4_seenBy_24 ?_
    exact W.iret (v := I 4 p2.toNatClampNeg) hx hb hr (fun t ht hW => hQ _ _ t (I 4 p2.toNatClampNeg) I J LP P h ⟨by rw [ht]; exact hP, hD⟩ (hS.F ht)) hS.2.2 dX4_seenBy_25
  · have h := h.2 hc
    refine lv_aload_n hx hb dX4_seenBy_10 rfl (lv_at hl 0 rfl) ?_
    refine va_get (D := (dC, dI)) (ci := 4) (v := .ref (ad 7)) (C := RX4) (T := TX4) (N := 6) hx hb hts hinX4 hown hK hP 3 cG_3 rfl 4 (by decide) (hts (.fieldLink RX4 21 "OutboxHouse$Source" "drafts" "[I") (by decide +kernel)) (fun _ h9 => h9) rfl dX4_seenBy_11 ?_
    refine lv_iload_n hx hb dX4_seenBy_14 rfl (lv_at hl 2 rfl) ?_
    have hv := h.1; replace h := h.2
    refine va_iald hx hb hK hP 7 0 cG_7 rfl hv dX4_seenBy_15 ?_
    refine lv_goto (tgt := 25) hx hb dX4_seenBy_16 (by decide) ?_
    exact W.iret (v := I 7 p2.toNatClampNeg) hx hb hr (fun t ht hW => hQ _ _ t (I 7 p2.toNatClampNeg) I J LP P h ⟨by rw [ht]; exact hP, hD⟩ (hS.F ht)) hS.2.2 dX4_seenBy_25
theorem m_X4_seenBy (l : Launch) (dC : Nat → ClassId) (dI : Nat → Nat → Nat) (cy : Nat → ClassId) (ad : Nat → Nat) (A : Nat → Prop) (I : St) (J : Rf) (LP : List Nat) (P : St) (p1 : Int32) (p2 : Int32) {post : Int32 → St → Rf → List Nat → St → Prop} (hD : va_D A (cW ad cy I J LP P)) (h : wp_X4_seenBy I J LP P p1 p2 post) : Met l yX4_seenBy wsX4_seenBy rmX4_seenBy (va_Pc [.ref (ad 3), .int p1, .int p2] (wPre (dC, dI) cy A (cW ad cy I J LP P))) (va_Qi (fun r (u : CS) => post r u.1 u.2.1 u.2.2.1 u.2.2.2) (fun (u : CS) t => wPost (dC, dI) A (cW ad cy u.1 u.2.1 u.2.2.1 u.2.2.2) t) A) 0 0 A := g_X4_seenBy l dC dI cy ad A I J LP P p1 p2 hD h (fun a s0 t r I' J' LP' P' h1 h2 h3 => ⟨⟨r, (I', J', LP', P'), rfl, h1, h2⟩, h3⟩)
abbrev rmX4_lockedKeys : Room := { frames := 0, cells := 0, slots := 0, locals := 0 }
set_option maxHeartbeats 4000000 in
set_option maxRecDepth 100000 in
theorem g_X4_lockedKeys (l : Launch) (dC : Nat → ClassId) (dI : Nat → Nat → Nat) (cy : Nat → ClassId) (ad : Nat → Nat) (A : Nat → Prop) (I : St) (J : Rf) (LP : List Nat) (P : St) (p1 : Int32) {post : Int32 → St → Rf → List Nat → St → Prop} (hD : va_D A (cW ad cy I J LP P)) (h : wp_X4_lockedKeys I J LP P p1 post) {Qc : Array Value → State → Outcome → State → Prop} (hQ : ∀ (a : Array Value) (s0 t : State) (r : Int32) (I' : St) (J' : Rf) (LP' : List Nat) (P' : St), post r I' J' LP' P' → wPost (dC, dI) A (cW ad cy I' J' LP' P') t → va_F A s0 t → Qc a s0 (.returned (some (.int r))) t) : Met l yX4_lockedKeys wsX4_lockedKeys rmX4_lockedKeys (va_Pc [.ref (ad 3), .int p1] (wPre (dC, dI) cy A (cW ad cy I J LP P))) Qc 0 0 A := by
  refine Met.ofW (cc := cX4_lockedKeys) (maxL := 4) (ret := (some .int)) (by decide) rfl ?_
  intro p e s m args below meth c s₁ B hml hv
  obtain ⟨rfl, hP, hK, hN, hA⟩ := hv
  have hx := B.exec
  have hb := B.bytes
  have hr := B.returns
  have hts := atoms_spec (ws := wsX4_lockedKeys) B.pre
  have hown : s.vm.findClass RX4 = some m.cls := findClass_of_methodNamed B.named
  have hlocks := B.notSynchronized
  have hinX4 : ∀ w ∈ wsX40, w ∈ wsX4_lockedKeys := fun _ h9 => List.mem_cons_of_mem _ (List.mem_append_right _ h9)
  have hS : va_S A s.heap s.heap [] := va_S.rf
  unfold wp_X4_lockedKeys at h
  have hl := lv_entry ([.ref (ad 3), .int p1]) (n := 4) (Nat.le_of_ble_eq_true rfl)
  rw [lg_entry_eq]
  generalize (lg_sl ([.ref (ad 3), .int p1]) ++ List.replicate (4 - (lg_sl ([.ref (ad 3), .int p1])).length) Slot.unset).toArray = ls at hl ⊢
  have hl : lv_has ls 4 [(0, .ref (ad 3)), (1, .int p1)] := hl
  refine lv_iconst (v := 0) hx hb dX4_lockedKeys_0 (by decide) ?_
  refine lv_istore_n (lv' := [(2, .int 0), (0, .ref (ad 3)), (1, .int p1)]) hx hb dX4_lockedKeys_1 rfl hl (by decide) rfl (fun ls hl => ?_)
  refine lv_iconst (v := 0) hx hb dX4_lockedKeys_2 (by decide) ?_
  refine lv_istore_n (lv' := [(3, .int 0), (2, .int 0), (0, .ref (ad 3)), (1, .int p1)]) hx hb dX4_lockedKeys_3 rfl hl (by decide) rfl (fun ls hl => ?_)
  obtain ⟨V1, ⟨n20, hV0⟩, hstepn2⟩ := h
  have hlpn2 : ∀ (n2 : Nat) (x3 : Int32) (x4 : Int32) (I5 : St) (J6 : Rf) (LP7 : List Nat) (P8 : St) (H : Heap) (locs : List Loc), va_P (dC, dI) vwCl (cW ad cy I5 J6 LP7 P8) H → va_D A (cW ad cy I5 J6 LP7 P8) → va_S A s.heap H locs → ∀ ls : Array Slot, lv_has ls 4 [(0, .ref (ad 3)), (1, .int p1), (2, .int x3), (3, .int x4)] → V1 n2 x3 x4 I5 J6 LP7 P8 → W p l e (headSpec wsX4_lockedKeys rmX4_lockedKeys).room s m ([.ref (ad 3), .int p1] : List Value).toArray below meth c H locs 0 0 (MQ below Qc ([.ref (ad 3), .int p1] : List Value).toArray s 0 0 A) (F0 m 4 ls []) := by
    intro n2
    induction n2 using Nat.strongRecOn with
    | _ n2 ihn2 =>
      intro x3 x4 I5 J6 LP7 P8 H locs hP hD hS ls hl hV
      have h := hstepn2 n2 x3 x4 I5 J6 LP7 P8 hV
      refine lv_iload_n hx hb dX4_lockedKeys_4 rfl (lv_at hl 3 rfl) ?_
      refine lv_bipush (v := 6) hx hb dX4_lockedKeys_5 (by decide) ?_
      refine lv_icmp_ge (tgt := 29) hx hb dX4_lockedKeys_7 (by decide) (fun hc => ?_) (fun hc => ?_)
      · have h := h.1 hc
        refine lv_iload_n hx hb dX4_lockedKeys_29 rfl (lv_at hl 2 rfl) ?_
        exact W.iret (v := x3) hx hb hr (fun t ht hW => hQ _ _ t x3 I5 J6 LP7 P8 h ⟨by rw [ht]; exact hP, hD⟩ (hS.F ht)) hS.2.2 dX4_lockedKeys_30
      · have h := h.2 hc
        refine lv_aload_n hx hb dX4_lockedKeys_10 rfl (lv_at hl 0 rfl) ?_
        refine va_get (D := (dC, dI)) (ci := 4) (v := .ref (ad 6)) (C := RX4) (T := TX4) (N := 6) hx hb hts hinX4 hown hK hP 3 cG_3 rfl 3 (by decide) (hts (.fieldLink RX4 18 "OutboxHouse$Source" "owners" "[I") (by decide +kernel)) (fun _ h9 => h9) rfl dX4_lockedKeys_11 ?_
        refine lv_iload_n hx hb dX4_lockedKeys_14 rfl (lv_at hl 3 rfl) ?_
        have hv := h.1; replace h := h.2
        refine va_iald hx hb hK hP 6 0 cG_6 rfl hv dX4_lockedKeys_15 ?_
        refine lv_iload_n hx hb dX4_lockedKeys_16 rfl (lv_at hl 1 rfl) ?_
        refine lv_icmp_ne (tgt := 23) hx hb dX4_lockedKeys_17 (by decide) (fun hc => ?_) (fun hc => ?_)
        · have h := h.1 hc
          refine lv_iinc (v := x4 + 1) (lv' := [(3, .int (x4 + 1)), (0, .ref (ad 3)), (1, .int p1), (2, .int x3)]) hx hb dX4_lockedKeys_23 hl (k := 3) rfl rfl (by decide) rfl (fun ls hl => ?_)
          refine lv_goto (tgt := 4) hx hb dX4_lockedKeys_26 (by decide) ?_
          obtain ⟨n9, hlt, hV⟩ := h
          exact ihn2 n9 hlt _ _ _ _ _ _ _ _ hP hD hS ls (lv_sub hl [1, 2, 3, 0] rfl) hV
        · have h := h.2 hc
          refine lv_iinc (v := x3 + 1) (lv' := [(2, .int (x3 + 1)), (0, .ref (ad 3)), (1, .int p1), (3, .int x4)]) hx hb dX4_lockedKeys_20 hl (k := 2) rfl rfl (by decide) rfl (fun ls hl => ?_)
          refine lv_iinc (v := x4 + 1) (lv' := [(3, .int (x4 + 1)), (2, .int (x3 + 1)), (0, .ref (ad 3)), (1, .int p1)]) hx hb dX4_lockedKeys_23 hl (k := 3) rfl rfl (by decide) rfl (fun ls hl => ?_)
          refine lv_goto (tgt := 4) hx hb dX4_lockedKeys_26 (by decide) ?_
          obtain ⟨n10, hlt, hV⟩ := h
          exact ihn2 n10 hlt _ _ _ _ _ _ _ _ hP hD hS ls (lv_sub hl [2, 3, 1, 0] rfl) hV
  exact hlpn2 n20 _ _ _ _ _ _ _ _ hP hD hS ls (lv_sub hl [2, 3, 1, 0] rfl) hV0
theorem m_X4_lockedKeys (l : Launch) (dC : Nat → ClassId) (dI : Nat → Nat → Nat) (cy : Nat → ClassId) (ad : Nat → Nat) (A : Nat → Prop) (I : St) (J : Rf) (LP : List Nat) (P : St) (p1 : Int32) {post : Int32 → St → Rf → List Nat → St → Prop} (hD : va_D A (cW ad cy I J LP P)) (h : wp_X4_lockedKeys I J LP P p1 post) : Met l yX4_lockedKeys wsX4_lockedKeys rmX4_lockedKeys (va_Pc [.ref (ad 3), .int p1] (wPre (dC, dI) cy A (cW ad cy I J LP P))) (va_Qi (fun r (u : CS) => post r u.1 u.2.1 u.2.2.1 u.2.2.2) (fun (u : CS) t => wPost (dC, dI) A (cW ad cy u.1 u.2.1 u.2.2.1 u.2.2.2) t) A) 0 0 A := g_X4_lockedKeys l dC dI cy ad A I J LP P p1 hD h (fun a s0 t r I' J' LP' P' h1 h2 h3 => ⟨⟨r, (I', J', LP', P'), rfl, h1, h2⟩, h3⟩)
abbrev rmX4_lockOf : Room := { frames := 0, cells := 0, slots := 0, locals := 0 }
set_option maxHeartbeats 4000000 in
set_option maxRecDepth 100000 in
theorem g_X4_lockOf (l : Launch) (dC : Nat → ClassId) (dI : Nat → Nat → Nat) (cy : Nat → ClassId) (ad : Nat → Nat) (A : Nat → Prop) (I : St) (J : Rf) (LP : List Nat) (P : St) (p1 : Int32) {post : Int32 → St → Rf → List Nat → St → Prop} (hD : va_D A (cW ad cy I J LP P)) (h : wp_X4_lockOf I J LP P p1 post) {Qc : Array Value → State → Outcome → State → Prop} (hQ : ∀ (a : Array Value) (s0 t : State) (r : Int32) (I' : St) (J' : Rf) (LP' : List Nat) (P' : St), post r I' J' LP' P' → wPost (dC, dI) A (cW ad cy I' J' LP' P') t → va_F A s0 t → Qc a s0 (.returned (some (.int r))) t) : Met l yX4_lockOf wsX4_lockOf rmX4_lockOf (va_Pc [.ref (ad 3), .int p1] (wPre (dC, dI) cy A (cW ad cy I J LP P))) Qc 0 0 A := by
  refine Met.ofW (cc := cX4_lockOf) (maxL := 2) (ret := (some .int)) (by decide) rfl ?_
  intro p e s m args below meth c s₁ B hml hv
  obtain ⟨rfl, hP, hK, hN, hA⟩ := hv
  have hx := B.exec
  have hb := B.bytes
  have hr := B.returns
  have hts := atoms_spec (ws := wsX4_lockOf) B.pre
  have hown : s.vm.findClass RX4 = some m.cls := findClass_of_methodNamed B.named
  have hlocks := B.notSynchronized
  have hinX4 : ∀ w ∈ wsX40, w ∈ wsX4_lockOf := fun _ h9 => List.mem_cons_of_mem _ (List.mem_append_right _ h9)
  have hS : va_S A s.heap s.heap [] := va_S.rf
  unfold wp_X4_lockOf at h
  have hl := lv_entry ([.ref (ad 3), .int p1]) (n := 2) (Nat.le_of_ble_eq_true rfl)
  rw [lg_entry_eq]
  generalize (lg_sl ([.ref (ad 3), .int p1]) ++ List.replicate (2 - (lg_sl ([.ref (ad 3), .int p1])).length) Slot.unset).toArray = ls at hl ⊢
  have hl : lv_has ls 2 [(0, .ref (ad 3)), (1, .int p1)] := hl
  refine lv_aload_n hx hb dX4_lockOf_0 rfl (lv_at hl 0 rfl) ?_
  refine va_get (D := (dC, dI)) (ci := 4) (v := .ref (ad 6)) (C := RX4) (T := TX4) (N := 6) hx hb hts hinX4 hown hK hP 3 cG_3 rfl 3 (by decide) (hts (.fieldLink RX4 18 "OutboxHouse$Source" "owners" "[I") (by decide +kernel)) (fun _ h9 => h9) rfl dX4_lockOf_1 ?_
  refine lv_iload_n hx hb dX4_lockOf_4 rfl (lv_at hl 1 rfl) ?_
  have hv := h.1; replace h := h.2
  refine va_iald hx hb hK hP 6 0 cG_6 rfl hv dX4_lockOf_5 ?_
  refine lv_iconst (v := (-1)) hx hb dX4_lockOf_6 (by decide) ?_
  refine lv_icmp_ne (tgt := 12) hx hb dX4_lockOf_7 (by decide) (fun hc => ?_) (fun hc => ?_)
  · have h := h.1 hc
    refine lv_aload_n hx hb dX4_lockOf_12 rfl (lv_at hl 0 rfl) ?_
    refine va_get (D := (dC, dI)) (ci := 4) (v := .ref (ad 6)) (C := RX4) (T := TX4) (N := 6) hx hb hts hinX4 hown hK hP 3 cG_3 rfl 3 (by decide) (hts (.fieldLink RX4 18 "OutboxHouse$Source" "owners" "[I") (by decide +kernel)) (fun _ h9 => h9) rfl dX4_lockOf_13 ?_
    refine lv_iload_n hx hb dX4_lockOf_16 rfl (lv_at hl 1 rfl) ?_
    have hv := h.1; replace h := h.2
    refine va_iald hx hb hK hP 6 0 cG_6 rfl hv dX4_lockOf_17 ?_
    refine lv_iconst (v := 4) hx hb dX4_lockOf_18 (by decide) ?_
    refine lv_icmp_ne (tgt := 26) hx hb dX4_lockOf_19 (by decide) (fun hc => ?_) (fun hc => ?_)
    · have h := h.1 hc
      refine lv_iconst (v := 1) hx hb dX4_lockOf_26 (by decide) ?_
      exact W.iret (v := 1) hx hb hr (fun t ht hW => hQ _ _ t 1 I J LP P h ⟨by rw [ht]; exact hP, hD⟩ (hS.F ht)) hS.2.2 dX4_lockOf_27
    · have h := h.2 hc
      refine lv_iconst (v := 2) hx hb dX4_lockOf_22 (by decide) ?_
      refine lv_goto (tgt := 27) hx hb dX4_lockOf_23 (by decide) ?_
      exact W.iret (v := 2) hx hb hr (fun t ht hW => hQ _ _ t 2 I J LP P h ⟨by rw [ht]; exact hP, hD⟩ (hS.F ht)) hS.2.2 dX4_lockOf_27
  · have h := h.2 hc
    refine lv_iconst (v := 0) hx hb dX4_lockOf_10 (by decide) ?_
    exact W.iret (v := 0) hx hb hr (fun t ht hW => hQ _ _ t 0 I J LP P h ⟨by rw [ht]; exact hP, hD⟩ (hS.F ht)) hS.2.2 dX4_lockOf_11
theorem m_X4_lockOf (l : Launch) (dC : Nat → ClassId) (dI : Nat → Nat → Nat) (cy : Nat → ClassId) (ad : Nat → Nat) (A : Nat → Prop) (I : St) (J : Rf) (LP : List Nat) (P : St) (p1 : Int32) {post : Int32 → St → Rf → List Nat → St → Prop} (hD : va_D A (cW ad cy I J LP P)) (h : wp_X4_lockOf I J LP P p1 post) : Met l yX4_lockOf wsX4_lockOf rmX4_lockOf (va_Pc [.ref (ad 3), .int p1] (wPre (dC, dI) cy A (cW ad cy I J LP P))) (va_Qi (fun r (u : CS) => post r u.1 u.2.1 u.2.2.1 u.2.2.2) (fun (u : CS) t => wPost (dC, dI) A (cW ad cy u.1 u.2.1 u.2.2.1 u.2.2.2) t) A) 0 0 A := g_X4_lockOf l dC dI cy ad A I J LP P p1 hD h (fun a s0 t r I' J' LP' P' h1 h2 h3 => ⟨⟨r, (I', J', LP', P'), rfl, h1, h2⟩, h3⟩)
abbrev rmX4_finish : Room := { frames := 0, cells := 0, slots := 0, locals := 0 }
set_option maxHeartbeats 4000000 in
set_option maxRecDepth 100000 in
theorem g_X4_finish (l : Launch) (dC : Nat → ClassId) (dI : Nat → Nat → Nat) (cy : Nat → ClassId) (ad : Nat → Nat) (A : Nat → Prop) (I : St) (J : Rf) (LP : List Nat) (P : St) (p1 : Int32) (p2 : Int32) {post : St → Rf → List Nat → St → Prop} (hD : va_D A (cW ad cy I J LP P)) (h : wp_X4_finish I J LP P p1 p2 post) {Qc : Array Value → State → Outcome → State → Prop} (hQ : ∀ (a : Array Value) (s0 t : State) (I' : St) (J' : Rf) (LP' : List Nat) (P' : St), post I' J' LP' P' → wPost (dC, dI) A (cW ad cy I' J' LP' P') t → va_F A s0 t → Qc a s0 (.returned (none)) t) : Met l yX4_finish wsX4_finish rmX4_finish (va_Pc [.ref (ad 3), .int p1, .int p2] (wPre (dC, dI) cy A (cW ad cy I J LP P))) Qc 0 0 A := by
  refine Met.ofW (cc := cX4_finish) (maxL := 4) (ret := none) (by decide) rfl ?_
  intro p e s m args below meth c s₁ B hml hv
  obtain ⟨rfl, hP, hK, hN, hA⟩ := hv
  have hx := B.exec
  have hb := B.bytes
  have hr := B.returns
  have hts := atoms_spec (ws := wsX4_finish) B.pre
  have hown : s.vm.findClass RX4 = some m.cls := findClass_of_methodNamed B.named
  have hlocks := B.notSynchronized
  have hinX4 : ∀ w ∈ wsX40, w ∈ wsX4_finish := fun _ h9 => List.mem_cons_of_mem _ (List.mem_append_right _ h9)
  have hS : va_S A s.heap s.heap [] := va_S.rf
  unfold wp_X4_finish at h
  have hl := lv_entry ([.ref (ad 3), .int p1, .int p2]) (n := 4) (Nat.le_of_ble_eq_true rfl)
  rw [lg_entry_eq]
  generalize (lg_sl ([.ref (ad 3), .int p1, .int p2]) ++ List.replicate (4 - (lg_sl ([.ref (ad 3), .int p1, .int p2])).length) Slot.unset).toArray = ls at hl ⊢
  have hl : lv_has ls 4 [(0, .ref (ad 3)), (1, .int p1), (2, .int p2)] := hl
  refine lv_iconst (v := 0) hx hb dX4_finish_0 (by decide) ?_
  refine lv_istore_n (lv' := [(3, .int 0), (0, .ref (ad 3)), (1, .int p1), (2, .int p2)]) hx hb dX4_finish_1 rfl hl (by decide) rfl (fun ls hl => ?_)
  obtain ⟨V1, ⟨n20, hV0⟩, hstepn2⟩ := h
  have hlpn2 : ∀ (n2 : Nat) (x3 : Int32) (I4 : St) (J5 : Rf) (LP6 : List Nat) (P7 : St) (H : Heap) (locs : List Loc), va_P (dC, dI) vwCl (cW ad cy I4 J5 LP6 P7) H → va_D A (cW ad cy I4 J5 LP6 P7) → va_S A s.heap H locs → ∀ ls : Array Slot, lv_has ls 4 [(0, .ref (ad 3)), (1, .int p1), (2, .int p2), (3, .int x3)] → V1 n2 x3 I4 J5 LP6 P7 → W p l e (headSpec wsX4_finish rmX4_finish).room s m ([.ref (ad 3), .int p1, .int p2] : List Value).toArray below meth c H locs 0 0 (MQ below Qc ([.ref (ad 3), .int p1, .int p2] : List Value).toArray s 0 0 A) (F0 m 2 ls []) := by
    intro n2
    induction n2 using Nat.strongRecOn with
    | _ n2 ihn2 =>
      intro x3 I4 J5 LP6 P7 H locs hP hD hS ls hl hV
      have h := hstepn2 n2 x3 I4 J5 LP6 P7 hV
      refine lv_iload_n hx hb dX4_finish_2 rfl (lv_at hl 3 rfl) ?_
      refine lv_bipush (v := 6) hx hb dX4_finish_3 (by decide) ?_
      refine lv_icmp_ge (tgt := 31) hx hb dX4_finish_5 (by decide) (fun hc => ?_) (fun hc => ?_)
      · have h := h.1 hc
        refine lv_aload_n hx hb dX4_finish_31 rfl (lv_at hl 0 rfl) ?_
        refine va_get (D := (dC, dI)) (ci := 4) (v := .ref (ad 8)) (C := RX4) (T := TX4) (N := 6) hx hb hts hinX4 hown hK hP 3 cG_3 rfl 5 (by decide) (hts (.fieldLink RX4 24 "OutboxHouse$Source" "open" "[Z") (by decide +kernel)) (fun _ h9 => h9) rfl dX4_finish_32 ?_
        refine lv_iload_n hx hb dX4_finish_35 rfl (lv_at hl 1 rfl) ?_
        refine lv_iconst (v := 0) hx hb dX4_finish_36 (by decide) ?_
        have hv := h.1; replace h := h.2
        refine va_zast hx hb hK hP hD hS 8 1 cG_8 rfl hv dX4_finish_37 (fun H locs hP hD hS => ?_)
        obtain ⟨I8, hI8⟩ : ∃ z : St, z = st I4 8 p1.toNatClampNeg (vp_nar .boolean 0) := ⟨_, rfl⟩
        replace hP := wP (cE_8 hI8) hP; replace hD := wD (cE_8 hI8) hD; replace h := h _ hI8
        exact W.vret hx hb hr (fun t ht hW => hQ _ _ t I8 J5 LP6 P7 h ⟨by rw [ht]; exact hP, hD⟩ (hS.F ht)) hS.2.2 dX4_finish_38
      · have h := h.2 hc
        refine lv_aload_n hx hb dX4_finish_8 rfl (lv_at hl 0 rfl) ?_
        refine va_get (D := (dC, dI)) (ci := 4) (v := .ref (ad 6)) (C := RX4) (T := TX4) (N := 6) hx hb hts hinX4 hown hK hP 3 cG_3 rfl 3 (by decide) (hts (.fieldLink RX4 18 "OutboxHouse$Source" "owners" "[I") (by decide +kernel)) (fun _ h9 => h9) rfl dX4_finish_9 ?_
        refine lv_iload_n hx hb dX4_finish_12 rfl (lv_at hl 3 rfl) ?_
        have hv := h.1; replace h := h.2
        refine va_iald hx hb hK hP 6 0 cG_6 rfl hv dX4_finish_13 ?_
        refine lv_iload_n hx hb dX4_finish_14 rfl (lv_at hl 1 rfl) ?_
        refine lv_icmp_ne (tgt := 25) hx hb dX4_finish_15 (by decide) (fun hc => ?_) (fun hc => ?_)
        · have h := h.1 hc
          refine lv_iinc (v := x3 + 1) (lv' := [(3, .int (x3 + 1)), (0, .ref (ad 3)), (1, .int p1), (2, .int p2)]) hx hb dX4_finish_25 hl (k := 3) rfl rfl (by decide) rfl (fun ls hl => ?_)
          refine lv_goto (tgt := 2) hx hb dX4_finish_28 (by decide) ?_
          obtain ⟨n9, hlt, hV⟩ := h
          exact ihn2 n9 hlt _ _ _ _ _ _ _ hP hD hS ls (lv_sub hl [1, 2, 3, 0] rfl) hV
        · have h := h.2 hc
          refine lv_aload_n hx hb dX4_finish_18 rfl (lv_at hl 0 rfl) ?_
          refine va_get (D := (dC, dI)) (ci := 4) (v := .ref (ad 6)) (C := RX4) (T := TX4) (N := 6) hx hb hts hinX4 hown hK hP 3 cG_3 rfl 3 (by decide) (hts (.fieldLink RX4 18 "OutboxHouse$Source" "owners" "[I") (by decide +kernel)) (fun _ h9 => h9) rfl dX4_finish_19 ?_
          refine lv_iload_n hx hb dX4_finish_22 rfl (lv_at hl 3 rfl) ?_
          refine lv_iload_n hx hb dX4_finish_23 rfl (lv_at hl 2 rfl) ?_
          have hv := h.1; replace h := h.2
          refine va_iast hx hb hK hP hD hS 6 0 cG_6 rfl hv dX4_finish_24 (fun H locs hP hD hS => ?_)
          obtain ⟨I10, hI10⟩ : ∃ z : St, z = st I4 6 x3.toNatClampNeg p2 := ⟨_, rfl⟩
          replace hP := wP (cE_6 hI10) hP; replace hD := wD (cE_6 hI10) hD; replace h := h _ hI10
          refine lv_iinc (v := x3 + 1) (lv' := [(3, .int (x3 + 1)), (0, .ref (ad 3)), (1, .int p1), (2, .int p2)]) hx hb dX4_finish_25 hl (k := 3) rfl rfl (by decide) rfl (fun ls hl => ?_)
          refine lv_goto (tgt := 2) hx hb dX4_finish_28 (by decide) ?_
          obtain ⟨n11, hlt, hV⟩ := h
          exact ihn2 n11 hlt _ _ _ _ _ _ _ hP hD hS ls (lv_sub hl [1, 2, 3, 0] rfl) hV
  exact hlpn2 n20 _ _ _ _ _ _ _ hP hD hS ls (lv_sub hl [1, 2, 3, 0] rfl) hV0
theorem m_X4_finish (l : Launch) (dC : Nat → ClassId) (dI : Nat → Nat → Nat) (cy : Nat → ClassId) (ad : Nat → Nat) (A : Nat → Prop) (I : St) (J : Rf) (LP : List Nat) (P : St) (p1 : Int32) (p2 : Int32) {post : St → Rf → List Nat → St → Prop} (hD : va_D A (cW ad cy I J LP P)) (h : wp_X4_finish I J LP P p1 p2 post) : Met l yX4_finish wsX4_finish rmX4_finish (va_Pc [.ref (ad 3), .int p1, .int p2] (wPre (dC, dI) cy A (cW ad cy I J LP P))) (va_Qv (fun (u : CS) => post u.1 u.2.1 u.2.2.1 u.2.2.2) (fun (u : CS) t => wPost (dC, dI) A (cW ad cy u.1 u.2.1 u.2.2.1 u.2.2.2) t) A) 0 0 A := g_X4_finish l dC dI cy ad A I J LP P p1 p2 hD h (fun a s0 t I' J' LP' P' h1 h2 h3 => ⟨⟨(I', J', LP', P'), rfl, h1, h2⟩, h3⟩)
abbrev rmX4_giveUp : Room := { frames := 1, cells := 0, slots := 0, locals := 23 }
set_option maxHeartbeats 4000000 in
set_option maxRecDepth 100000 in
theorem g_X4_giveUp (l : Launch) (dC : Nat → ClassId) (dI : Nat → Nat → Nat) (cy : Nat → ClassId) (ad : Nat → Nat) (A : Nat → Prop) (I : St) (J : Rf) (LP : List Nat) (P : St) (p1 : Int32) {post : St → Rf → List Nat → St → Prop} (hD : va_D A (cW ad cy I J LP P)) (h : wp_X4_giveUp I J LP P p1 post) {Qc : Array Value → State → Outcome → State → Prop} (hQ : ∀ (a : Array Value) (s0 t : State) (I' : St) (J' : Rf) (LP' : List Nat) (P' : St), post I' J' LP' P' → wPost (dC, dI) A (cW ad cy I' J' LP' P') t → va_F A s0 t → Qc a s0 (.returned (none)) t) : Met l yX4_giveUp wsX4_giveUp rmX4_giveUp (va_Pc [.ref (ad 3), .int p1] (wPre (dC, dI) cy A (cW ad cy I J LP P))) Qc 0 0 A := by
  refine Met.ofW (cc := cX4_giveUp) (maxL := 2) (ret := none) (by decide) rfl ?_
  intro p e s m args below meth c s₁ B hml hv
  obtain ⟨rfl, hP, hK, hN, hA⟩ := hv
  have hx := B.exec
  have hb := B.bytes
  have hr := B.returns
  have hts := atoms_spec (ws := wsX4_giveUp) B.pre
  have hown : s.vm.findClass RX4 = some m.cls := findClass_of_methodNamed B.named
  have hlocks := B.notSynchronized
  have hS : va_S A s.heap s.heap [] := va_S.rf
  unfold wp_X4_giveUp at h
  have hl := lv_entry ([.ref (ad 3), .int p1]) (n := 2) (Nat.le_of_ble_eq_true rfl)
  rw [lg_entry_eq]
  generalize (lg_sl ([.ref (ad 3), .int p1]) ++ List.replicate (2 - (lg_sl ([.ref (ad 3), .int p1])).length) Slot.unset).toArray = ls at hl ⊢
  have hl : lv_has ls 2 [(0, .ref (ad 3)), (1, .int p1)] := hl
  refine lv_aload_n hx hb dX4_giveUp_0 rfl (lv_at hl 0 rfl) ?_
  refine lv_iload_n hx hb dX4_giveUp_1 rfl (lv_at hl 1 rfl) ?_
  refine lv_iconst (v := (-1)) hx hb dX4_giveUp_2 (by decide) ?_
  refine va_callv (va_runV (As := [.int p1, .int (-1)]) (rest := []) ⟨hx, hb, hml, hown, hts⟩ (m_X4_finish l dC dI cy ad A I J LP P p1 (-1) hD h) (cwV 2 hts gX4_giveUp_X4_finish rfl rfl rfl (by decide +kernel) ⟨Nat.le_of_ble_eq_true rfl, Nat.le_of_ble_eq_true rfl⟩) ⟨wPre.blind, va_recv hK hP (ci := 4) (q0 := 3) rfl cG_3, wPre.at hP hK hN hS hA⟩ rfl rfl hl.1 rfl (lv_room (Nat.le_of_ble_eq_true rfl)) dX4_giveUp_3 ⟨by first | exact Nat.le_of_ble_eq_true rfl | (show _ ≤ 0; omega), by first | exact Nat.le_of_ble_eq_true rfl | (show _ ≤ 0; omega)⟩) hS (fun q _ h => h) (fun q h => h) (fun u t H locs ht hvm hw hB hz1 hk1 hS => ?_)
  obtain ⟨I2, J3, LP4, P5⟩ := u
  obtain ⟨hP, hD⟩ := hB; rw [ht] at hP; replace h := hw; try dsimp only at h hP hD
  exact W.vret hx hb hr (fun t ht hW => hQ _ _ t I2 J3 LP4 P5 h ⟨by rw [ht]; exact hP, hD⟩ (hS.F ht)) hS.2.2 dX4_giveUp_6
theorem m_X4_giveUp (l : Launch) (dC : Nat → ClassId) (dI : Nat → Nat → Nat) (cy : Nat → ClassId) (ad : Nat → Nat) (A : Nat → Prop) (I : St) (J : Rf) (LP : List Nat) (P : St) (p1 : Int32) {post : St → Rf → List Nat → St → Prop} (hD : va_D A (cW ad cy I J LP P)) (h : wp_X4_giveUp I J LP P p1 post) : Met l yX4_giveUp wsX4_giveUp rmX4_giveUp (va_Pc [.ref (ad 3), .int p1] (wPre (dC, dI) cy A (cW ad cy I J LP P))) (va_Qv (fun (u : CS) => post u.1 u.2.1 u.2.2.1 u.2.2.2) (fun (u : CS) t => wPost (dC, dI) A (cW ad cy u.1 u.2.1 u.2.2.1 u.2.2.2) t) A) 0 0 A := g_X4_giveUp l dC dI cy ad A I J LP P p1 hD h (fun a s0 t I' J' LP' P' h1 h2 h3 => ⟨⟨(I', J', LP', P'), rfl, h1, h2⟩, h3⟩)
abbrev rmX4_flushChanges : Room := { frames := 1, cells := 0, slots := 0, locals := 21 }
set_option maxHeartbeats 4000000 in
set_option maxRecDepth 100000 in
theorem g_X4_flushChanges (l : Launch) (dC : Nat → ClassId) (dI : Nat → Nat → Nat) (cy : Nat → ClassId) (ad : Nat → Nat) (A : Nat → Prop) (I : St) (J : Rf) (LP : List Nat) (P : St)  {post : Int32 → St → Rf → List Nat → St → Prop} (hD : va_D A (cW ad cy I J LP P)) (h : wp_X4_flushChanges I J LP P  post) {Qc : Array Value → State → Outcome → State → Prop} (hQ : ∀ (a : Array Value) (s0 t : State) (r : Int32) (I' : St) (J' : Rf) (LP' : List Nat) (P' : St), post r I' J' LP' P' → wPost (dC, dI) A (cW ad cy I' J' LP' P') t → va_F A s0 t → Qc a s0 (.returned (some (.int r))) t) : Met l yX4_flushChanges wsX4_flushChanges rmX4_flushChanges (va_Pc [.ref (ad 3)] (wPre (dC, dI) cy A (cW ad cy I J LP P))) Qc 0 0 A := by
  refine Met.ofW (cc := cX4_flushChanges) (maxL := 4) (ret := (some .int)) (by decide) rfl ?_
  intro p e s m args below meth c s₁ B hml hv
  obtain ⟨rfl, hP, hK, hN, hA⟩ := hv
  have hx := B.exec
  have hb := B.bytes
  have hr := B.returns
  have hts := atoms_spec (ws := wsX4_flushChanges) B.pre
  have hown : s.vm.findClass RX4 = some m.cls := findClass_of_methodNamed B.named
  have hlocks := B.notSynchronized
  have hinX4 : ∀ w ∈ wsX40, w ∈ wsX4_flushChanges := fun _ h9 => List.mem_cons_of_mem _ (List.mem_append_left _ (List.mem_append_left _ (List.mem_append_right _ h9)))
  have hinX1 : ∀ w ∈ wsX10, w ∈ wsX4_flushChanges := fun _ h9 => List.mem_cons_of_mem _ (List.mem_append_left _ (List.mem_append_right _ h9))
  have hinX0 : ∀ w ∈ wsX00, w ∈ wsX4_flushChanges := fun _ h9 => List.mem_cons_of_mem _ (List.mem_append_right _ h9)
  have hS : va_S A s.heap s.heap [] := va_S.rf
  unfold wp_X4_flushChanges at h
  have hl := lv_entry ([.ref (ad 3)]) (n := 4) (Nat.le_of_ble_eq_true rfl)
  rw [lg_entry_eq]
  generalize (lg_sl ([.ref (ad 3)]) ++ List.replicate (4 - (lg_sl ([.ref (ad 3)])).length) Slot.unset).toArray = ls at hl ⊢
  have hl : lv_has ls 4 [(0, .ref (ad 3))] := hl
  refine lv_aload_n hx hb dX4_flushChanges_0 rfl (lv_at hl 0 rfl) ?_
  refine va_get (D := (dC, dI)) (ci := 4) (v := .ref (ad 1)) (C := RX4) (T := TX4) (N := 6) hx hb hts hinX4 hown hK hP 3 cG_3 rfl 0 (by decide) (hts (.fieldLink RX4 28 "OutboxHouse$Source" "changes" "LOutboxHouse$ChangeLog;") (by decide +kernel)) (fun _ h9 => h9) rfl dX4_flushChanges_1 ?_
  refine va_getN (D := (dC, dI)) (ci := 1) (v := .int (I 1 1)) (C := RX1) (T := TX1) (N := 4) hx hb hts hinX1 hown hK hP 1 cG_1 rfl 2 (by decide) (va_Nw.use rfl (hN.1 (RX4, 48, "OutboxHouse$ChangeLog", "flushed", "I", "OutboxHouse") (by decide +kernel))) (fun _ h9 => h9) rfl dX4_flushChanges_4 ?_
  refine lv_istore_n (lv' := [(1, .int (I 1 1)), (0, .ref (ad 3))]) hx hb dX4_flushChanges_7 rfl hl (by decide) rfl (fun ls hl => ?_)
  refine lv_iload_n hx hb dX4_flushChanges_8 rfl (lv_at hl 0 rfl) ?_
  refine lv_istore_n (lv' := [(2, .int (I 1 1)), (1, .int (I 1 1)), (0, .ref (ad 3))]) hx hb dX4_flushChanges_9 rfl hl (by decide) rfl (fun ls hl => ?_)
  obtain ⟨V1, ⟨n20, hV0⟩, hstepn2⟩ := h
  have hlpn2 : ∀ (n2 : Nat) (x3 : Int32) (I4 : St) (J5 : Rf) (LP6 : List Nat) (P7 : St) (H : Heap) (locs : List Loc), va_P (dC, dI) vwCl (cW ad cy I4 J5 LP6 P7) H → va_D A (cW ad cy I4 J5 LP6 P7) → va_S A s.heap H locs → ∀ ls : Array Slot, lv_has ls 4 [(0, .ref (ad 3)), (1, .int (I 1 1)), (2, .int x3)] → V1 n2 x3 I4 J5 LP6 P7 → W p l e (headSpec wsX4_flushChanges rmX4_flushChanges).room s m ([.ref (ad 3)] : List Value).toArray below meth c H locs 0 0 (MQ below Qc ([.ref (ad 3)] : List Value).toArray s 0 0 A) (F0 m 10 ls []) := by
    intro n2
    induction n2 using Nat.strongRecOn with
    | _ n2 ihn2 =>
      intro x3 I4 J5 LP6 P7 H locs hP hD hS ls hl hV
      have h := hstepn2 n2 x3 I4 J5 LP6 P7 hV
      refine lv_iload_n hx hb dX4_flushChanges_10 rfl (lv_at hl 2 rfl) ?_
      refine lv_sipush (v := 400) hx hb dX4_flushChanges_11 (by decide) ?_
      refine lv_icmp_ge (tgt := 75) hx hb dX4_flushChanges_14 (by decide) (fun hc => ?_) (fun hc => ?_)
      · have h := h.1 hc
        refine lv_aload_n hx hb dX4_flushChanges_75 rfl (lv_at hl 0 rfl) ?_
        refine va_get (D := (dC, dI)) (ci := 4) (v := .ref (ad 1)) (C := RX4) (T := TX4) (N := 6) hx hb hts hinX4 hown hK hP 3 cG_3 rfl 0 (by decide) (hts (.fieldLink RX4 28 "OutboxHouse$Source" "changes" "LOutboxHouse$ChangeLog;") (by decide +kernel)) (fun _ h9 => h9) rfl dX4_flushChanges_76 ?_
        refine lv_aload_n hx hb dX4_flushChanges_79 rfl (lv_at hl 0 rfl) ?_
        refine va_get (D := (dC, dI)) (ci := 4) (v := .ref (ad 1)) (C := RX4) (T := TX4) (N := 6) hx hb hts hinX4 hown hK hP 3 cG_3 rfl 0 (by decide) (hts (.fieldLink RX4 28 "OutboxHouse$Source" "changes" "LOutboxHouse$ChangeLog;") (by decide +kernel)) (fun _ h9 => h9) rfl dX4_flushChanges_80 ?_
        refine va_getN (D := (dC, dI)) (ci := 1) (v := .int (I4 1 2)) (C := RX1) (T := TX1) (N := 4) hx hb hts hinX1 hown hK hP 1 cG_1 rfl 3 (by decide) (va_Nw.use rfl (hN.1 (RX4, 67, "OutboxHouse$ChangeLog", "end", "I", "OutboxHouse") (by decide +kernel))) (fun _ h9 => h9) rfl dX4_flushChanges_83 ?_
        refine va_putN (D := (dC, dI)) (ci := 1) (v := .int (I4 1 2)) (ty := .int) (C := RX1) (T := TX1) (N := 4) hx hb hts hinX1 tyX1 tyX1_ok nmX1 hown hK hP hD hS 1 cG_1 rfl 2 (by decide) (va_Nw.use rfl (hN.1 (RX4, 48, "OutboxHouse$ChangeLog", "flushed", "I", "OutboxHouse") (by decide +kernel))) (fun _ h9 => h9) rfl (by decide +kernel) rfl rfl (Nat.le_of_ble_eq_true rfl) dX4_flushChanges_86 (fun H locs hP hD hS => ?_)
        obtain ⟨I8, hI8⟩ : ∃ z : St, z = st I4 1 1 (I4 1 2) := ⟨_, rfl⟩
        replace hP := wP (cE_1_1 hI8) hP; replace hD := wD (cE_1_1 hI8) hD; replace h := h _ hI8
        refine lv_aload_n hx hb dX4_flushChanges_89 rfl (lv_at hl 0 rfl) ?_
        refine va_get (D := (dC, dI)) (ci := 4) (v := .ref (ad 1)) (C := RX4) (T := TX4) (N := 6) hx hb hts hinX4 hown hK hP 3 cG_3 rfl 0 (by decide) (hts (.fieldLink RX4 28 "OutboxHouse$Source" "changes" "LOutboxHouse$ChangeLog;") (by decide +kernel)) (fun _ h9 => h9) rfl dX4_flushChanges_90 ?_
        refine va_getN (D := (dC, dI)) (ci := 1) (v := .int (I8 1 1)) (C := RX1) (T := TX1) (N := 4) hx hb hts hinX1 hown hK hP 1 cG_1 rfl 2 (by decide) (va_Nw.use rfl (hN.1 (RX4, 48, "OutboxHouse$ChangeLog", "flushed", "I", "OutboxHouse") (by decide +kernel))) (fun _ h9 => h9) rfl dX4_flushChanges_93 ?_
        refine lv_iload_n hx hb dX4_flushChanges_96 rfl (lv_at hl 1 rfl) ?_
        refine lv_isub hx hb dX4_flushChanges_97 ?_
        exact W.iret (v := (I8 1 1) - (I 1 1)) hx hb hr (fun t ht hW => hQ _ _ t ((I8 1 1) - (I 1 1)) I8 J5 LP6 P7 h ⟨by rw [ht]; exact hP, hD⟩ (hS.F ht)) hS.2.2 dX4_flushChanges_98
      · have h := h.2 hc
        refine lv_aload_n hx hb dX4_flushChanges_17 rfl (lv_at hl 0 rfl) ?_
        refine va_get (D := (dC, dI)) (ci := 4) (v := .ref (ad 1)) (C := RX4) (T := TX4) (N := 6) hx hb hts hinX4 hown hK hP 3 cG_3 rfl 0 (by decide) (hts (.fieldLink RX4 28 "OutboxHouse$Source" "changes" "LOutboxHouse$ChangeLog;") (by decide +kernel)) (fun _ h9 => h9) rfl dX4_flushChanges_18 ?_
        refine lv_iload_n hx hb dX4_flushChanges_21 rfl (lv_at hl 2 rfl) ?_
        refine va_callq (va_runV (As := [.int x3]) (rest := []) ⟨hx, hb, hml, hown, hts⟩ (m_X1_at l dC dI cy ad A I4 J5 LP6 P7 x3 hD h) (cwV 1 hts gX4_flushChanges_X1_at rfl rfl rfl (by decide +kernel) ⟨Nat.le_of_ble_eq_true rfl, Nat.le_of_ble_eq_true rfl⟩) ⟨wPre.blind, va_recv hK hP (ci := 1) (q0 := 1) rfl cG_1, wPre.at hP hK hN hS hA⟩ rfl rfl hl.1 rfl (lv_room (Nat.le_of_ble_eq_true rfl)) dX4_flushChanges_22 ⟨by first | exact Nat.le_of_ble_eq_true rfl | (show _ ≤ 0; omega), by first | exact Nat.le_of_ble_eq_true rfl | (show _ ≤ 0; omega)⟩) hS (fun q _ h => h) (fun q h => h) (fun r9 u t H locs ht hvm hw hB hz1 hk1 hS => ?_)
        obtain ⟨I10, J11, LP12, P13⟩ := u
        obtain ⟨hP, hD⟩ := hB; rw [ht] at hP; replace h := hw; try dsimp only at h hP hD
        rcases r9 with _ | a14
        · replace h := h.1 rfl
          refine W.eq (g2 := F0 m 25 ls [.null]) rfl ?_
          refine lv_astore_nN (lv' := [(3, .null), (0, .ref (ad 3)), (1, .int (I 1 1)), (2, .int x3)]) hx hb dX4_flushChanges_25 rfl hl (by decide) rfl (fun ls hl => ?_)
          refine lv_aload_nN hx hb dX4_flushChanges_26 rfl (lv_at hl 0 rfl) ?_
          refine lv_ifnonnullN hx hb dX4_flushChanges_27 ?_
          refine lv_goto (tgt := 75) hx hb dX4_flushChanges_30 (by decide) ?_
          refine lv_aload_n hx hb dX4_flushChanges_75 rfl (lv_at hl 1 rfl) ?_
          refine va_get (D := (dC, dI)) (ci := 4) (v := .ref (ad 1)) (C := RX4) (T := TX4) (N := 6) hx hb hts hinX4 hown hK hP 3 cG_3 rfl 0 (by decide) (hts (.fieldLink RX4 28 "OutboxHouse$Source" "changes" "LOutboxHouse$ChangeLog;") (by decide +kernel)) (fun _ h9 => h9) rfl dX4_flushChanges_76 ?_
          refine lv_aload_n hx hb dX4_flushChanges_79 rfl (lv_at hl 1 rfl) ?_
          refine va_get (D := (dC, dI)) (ci := 4) (v := .ref (ad 1)) (C := RX4) (T := TX4) (N := 6) hx hb hts hinX4 hown hK hP 3 cG_3 rfl 0 (by decide) (hts (.fieldLink RX4 28 "OutboxHouse$Source" "changes" "LOutboxHouse$ChangeLog;") (by decide +kernel)) (fun _ h9 => h9) rfl dX4_flushChanges_80 ?_
          refine va_getN (D := (dC, dI)) (ci := 1) (v := .int (I10 1 2)) (C := RX1) (T := TX1) (N := 4) hx hb hts hinX1 hown hK hP 1 cG_1 rfl 3 (by decide) (va_Nw.use rfl (hN.1 (RX4, 67, "OutboxHouse$ChangeLog", "end", "I", "OutboxHouse") (by decide +kernel))) (fun _ h9 => h9) rfl dX4_flushChanges_83 ?_
          refine va_putN (D := (dC, dI)) (ci := 1) (v := .int (I10 1 2)) (ty := .int) (C := RX1) (T := TX1) (N := 4) hx hb hts hinX1 tyX1 tyX1_ok nmX1 hown hK hP hD hS 1 cG_1 rfl 2 (by decide) (va_Nw.use rfl (hN.1 (RX4, 48, "OutboxHouse$ChangeLog", "flushed", "I", "OutboxHouse") (by decide +kernel))) (fun _ h9 => h9) rfl (by decide +kernel) rfl rfl (Nat.le_of_ble_eq_true rfl) dX4_flushChanges_86 (fun H locs hP hD hS => ?_)
          obtain ⟨I15, hI15⟩ : ∃ z : St, z = st I10 1 1 (I10 1 2) := ⟨_, rfl⟩
          replace hP := wP (cE_1_1 hI15) hP; replace hD := wD (cE_1_1 hI15) hD; replace h := h _ hI15
          refine lv_aload_n hx hb dX4_flushChanges_89 rfl (lv_at hl 1 rfl) ?_
          refine va_get (D := (dC, dI)) (ci := 4) (v := .ref (ad 1)) (C := RX4) (T := TX4) (N := 6) hx hb hts hinX4 hown hK hP 3 cG_3 rfl 0 (by decide) (hts (.fieldLink RX4 28 "OutboxHouse$Source" "changes" "LOutboxHouse$ChangeLog;") (by decide +kernel)) (fun _ h9 => h9) rfl dX4_flushChanges_90 ?_
          refine va_getN (D := (dC, dI)) (ci := 1) (v := .int (I15 1 1)) (C := RX1) (T := TX1) (N := 4) hx hb hts hinX1 hown hK hP 1 cG_1 rfl 2 (by decide) (va_Nw.use rfl (hN.1 (RX4, 48, "OutboxHouse$ChangeLog", "flushed", "I", "OutboxHouse") (by decide +kernel))) (fun _ h9 => h9) rfl dX4_flushChanges_93 ?_
          refine lv_iload_n hx hb dX4_flushChanges_96 rfl (lv_at hl 2 rfl) ?_
          refine lv_isub hx hb dX4_flushChanges_97 ?_
          exact W.iret (v := (I15 1 1) - (I 1 1)) hx hb hr (fun t ht hW => hQ _ _ t ((I15 1 1) - (I 1 1)) I15 J11 LP12 P13 h ⟨by rw [ht]; exact hP, hD⟩ (hS.F ht)) hS.2.2 dX4_flushChanges_98
        · replace h := h.2 _ rfl
          refine W.eq (g2 := F0 m 25 ls [.ref a14]) rfl ?_
          refine lv_astore_n (lv' := [(3, .ref a14), (0, .ref (ad 3)), (1, .int (I 1 1)), (2, .int x3)]) hx hb dX4_flushChanges_25 rfl hl (by decide) rfl (fun ls hl => ?_)
          refine lv_aload_n hx hb dX4_flushChanges_26 rfl (lv_at hl 0 rfl) ?_
          refine lv_ifnonnull (tgt := 33) hx hb dX4_flushChanges_27 (by decide) ?_
          refine lv_aload_n hx hb dX4_flushChanges_33 rfl (lv_at hl 1 rfl) ?_
          refine va_get (D := (dC, dI)) (ci := 4) (v := .ref (ad 4)) (C := RX4) (T := TX4) (N := 6) hx hb hts hinX4 hown hK hP 3 cG_3 rfl 1 (by decide) (hts (.fieldLink RX4 9 "OutboxHouse$Source" "values" "[I") (by decide +kernel)) (fun _ h9 => h9) rfl dX4_flushChanges_34 ?_
          refine lv_aload_n hx hb dX4_flushChanges_37 rfl (lv_at hl 0 rfl) ?_
          have hm := h.1; replace h := h.2
          obtain ⟨q16, hq16⟩ := cG_p (ad := ad) (cy := cy) (I := I10) (J := J11) (P := P13) hm
          refine va_get (D := (dC, dI)) (ci := 0) (v := .int (P13 a14 1)) (C := RX0) (T := TX0) (N := 5) hx hb hts hinX0 hown hK hP q16 hq16 rfl 1 (by decide) (hts (.fieldLink RX4 56 "OutboxHouse$Change" "key" "I") (by decide +kernel)) (fun _ h9 => h9) rfl dX4_flushChanges_38 ?_
          refine lv_aload_n hx hb dX4_flushChanges_41 rfl (lv_at hl 0 rfl) ?_
          have hm := h.1; replace h := h.2
          obtain ⟨q17, hq17⟩ := cG_p (ad := ad) (cy := cy) (I := I10) (J := J11) (P := P13) hm
          refine va_get (D := (dC, dI)) (ci := 0) (v := .int (P13 a14 2)) (C := RX0) (T := TX0) (N := 5) hx hb hts hinX0 hown hK hP q17 hq17 rfl 2 (by decide) (hts (.fieldLink RX4 61 "OutboxHouse$Change" "value" "I") (by decide +kernel)) (fun _ h9 => h9) rfl dX4_flushChanges_42 ?_
          have hv := h.1; replace h := h.2
          refine va_iast hx hb hK hP hD hS 4 0 cG_4 rfl hv dX4_flushChanges_45 (fun H locs hP hD hS => ?_)
          obtain ⟨I18, hI18⟩ : ∃ z : St, z = st I10 4 (P13 a14 1).toNatClampNeg (P13 a14 2) := ⟨_, rfl⟩
          replace hP := wP (cE_4 hI18) hP; replace hD := wD (cE_4 hI18) hD; replace h := h _ hI18
          refine lv_aload_n hx hb dX4_flushChanges_46 rfl (lv_at hl 1 rfl) ?_
          refine va_get (D := (dC, dI)) (ci := 4) (v := .ref (ad 5)) (C := RX4) (T := TX4) (N := 6) hx hb hts hinX4 hown hK hP 3 cG_3 rfl 2 (by decide) (hts (.fieldLink RX4 15 "OutboxHouse$Source" "counts" "[I") (by decide +kernel)) (fun _ h9 => h9) rfl dX4_flushChanges_47 ?_
          refine lv_aload_n hx hb dX4_flushChanges_50 rfl (lv_at hl 0 rfl) ?_
          have hm := h.1; replace h := h.2
          obtain ⟨q19, hq19⟩ := cG_p (ad := ad) (cy := cy) (I := I18) (J := J11) (P := P13) hm
          refine va_get (D := (dC, dI)) (ci := 0) (v := .int (P13 a14 1)) (C := RX0) (T := TX0) (N := 5) hx hb hts hinX0 hown hK hP q19 hq19 rfl 1 (by decide) (hts (.fieldLink RX4 56 "OutboxHouse$Change" "key" "I") (by decide +kernel)) (fun _ h9 => h9) rfl dX4_flushChanges_51 ?_
          refine lv_aload_n hx hb dX4_flushChanges_54 rfl (lv_at hl 0 rfl) ?_
          have hm := h.1; replace h := h.2
          obtain ⟨q20, hq20⟩ := cG_p (ad := ad) (cy := cy) (I := I18) (J := J11) (P := P13) hm
          refine va_get (D := (dC, dI)) (ci := 0) (v := .int (P13 a14 3)) (C := RX0) (T := TX0) (N := 5) hx hb hts hinX0 hown hK hP q20 hq20 rfl 3 (by decide) (hts (.fieldLink RX4 64 "OutboxHouse$Change" "order" "I") (by decide +kernel)) (fun _ h9 => h9) rfl dX4_flushChanges_55 ?_
          have hv := h.1; replace h := h.2
          refine va_iast hx hb hK hP hD hS 5 0 cG_5 rfl hv dX4_flushChanges_58 (fun H locs hP hD hS => ?_)
          obtain ⟨I21, hI21⟩ : ∃ z : St, z = st I18 5 (P13 a14 1).toNatClampNeg (P13 a14 3) := ⟨_, rfl⟩
          replace hP := wP (cE_5 hI21) hP; replace hD := wD (cE_5 hI21) hD; replace h := h _ hI21
          refine lv_aload_n hx hb dX4_flushChanges_59 rfl (lv_at hl 1 rfl) ?_
          refine va_get (D := (dC, dI)) (ci := 4) (v := .ref (ad 6)) (C := RX4) (T := TX4) (N := 6) hx hb hts hinX4 hown hK hP 3 cG_3 rfl 3 (by decide) (hts (.fieldLink RX4 18 "OutboxHouse$Source" "owners" "[I") (by decide +kernel)) (fun _ h9 => h9) rfl dX4_flushChanges_60 ?_
          refine lv_aload_n hx hb dX4_flushChanges_63 rfl (lv_at hl 0 rfl) ?_
          have hm := h.1; replace h := h.2
          obtain ⟨q22, hq22⟩ := cG_p (ad := ad) (cy := cy) (I := I21) (J := J11) (P := P13) hm
          refine va_get (D := (dC, dI)) (ci := 0) (v := .int (P13 a14 1)) (C := RX0) (T := TX0) (N := 5) hx hb hts hinX0 hown hK hP q22 hq22 rfl 1 (by decide) (hts (.fieldLink RX4 56 "OutboxHouse$Change" "key" "I") (by decide +kernel)) (fun _ h9 => h9) rfl dX4_flushChanges_64 ?_
          refine lv_iconst (v := (-1)) hx hb dX4_flushChanges_67 (by decide) ?_
          have hv := h.1; replace h := h.2
          refine va_iast hx hb hK hP hD hS 6 0 cG_6 rfl hv dX4_flushChanges_68 (fun H locs hP hD hS => ?_)
          obtain ⟨I23, hI23⟩ : ∃ z : St, z = st I21 6 (P13 a14 1).toNatClampNeg (-1) := ⟨_, rfl⟩
          replace hP := wP (cE_6 hI23) hP; replace hD := wD (cE_6 hI23) hD; replace h := h _ hI23
          refine lv_iinc (v := x3 + 1) (lv' := [(2, .int (x3 + 1)), (3, .ref a14), (0, .ref (ad 3)), (1, .int (I 1 1))]) hx hb dX4_flushChanges_69 hl (k := 3) rfl rfl (by decide) rfl (fun ls hl => ?_)
          refine lv_goto (tgt := 10) hx hb dX4_flushChanges_72 (by decide) ?_
          obtain ⟨n24, hlt, hV⟩ := h
          exact ihn2 n24 hlt _ _ _ _ _ _ _ hP hD hS ls (lv_sub hl [2, 3, 0] rfl) hV
  exact hlpn2 n20 _ _ _ _ _ _ _ hP hD hS ls (lv_sub hl [2, 1, 0] rfl) hV0
theorem m_X4_flushChanges (l : Launch) (dC : Nat → ClassId) (dI : Nat → Nat → Nat) (cy : Nat → ClassId) (ad : Nat → Nat) (A : Nat → Prop) (I : St) (J : Rf) (LP : List Nat) (P : St)  {post : Int32 → St → Rf → List Nat → St → Prop} (hD : va_D A (cW ad cy I J LP P)) (h : wp_X4_flushChanges I J LP P  post) : Met l yX4_flushChanges wsX4_flushChanges rmX4_flushChanges (va_Pc [.ref (ad 3)] (wPre (dC, dI) cy A (cW ad cy I J LP P))) (va_Qi (fun r (u : CS) => post r u.1 u.2.1 u.2.2.1 u.2.2.2) (fun (u : CS) t => wPost (dC, dI) A (cW ad cy u.1 u.2.1 u.2.2.1 u.2.2.2) t) A) 0 0 A := g_X4_flushChanges l dC dI cy ad A I J LP P  hD h (fun a s0 t r I' J' LP' P' h1 h2 h3 => ⟨⟨r, (I', J', LP', P'), rfl, h1, h2⟩, h3⟩)
