abbrev rmJ7_fill_53178 : Room := { frames := 0, cells := 0, slots := 0, locals := 0 }
set_option maxHeartbeats 4000000 in
set_option maxRecDepth 100000 in
theorem g_J7_fill_53178 (l : Launch) (dC : Nat → ClassId) (dI : Nat → Nat → Nat) (cy : Nat → ClassId) (ad : Nat → Nat) (A : Nat → Prop) (I : St) (J : Rf) (LP : List Nat) (P : St) (p2 : Int32) {post : St → Rf → List Nat → St → Prop} (hD : va_D A (cW ad cy I J LP P)) (h : wp_J7_fill_53178 I J LP P p2 post) {Qc : Array Value → State → Outcome → State → Prop} (hQ : ∀ (a : Array Value) (s0 t : State) (I' : St) (J' : Rf) (LP' : List Nat) (P' : St), post I' J' LP' P' → wPost (dC, dI) A (cW ad cy I' J' LP' P') t → va_F A s0 t → Qc a s0 (.returned (none)) t) : Met l yJ7_fill_53178 wsJ7_fill_53178 rmJ7_fill_53178 (va_Pc [.ref (ad 6), .int p2] (wPre (dC, dI) cy A (cW ad cy I J LP P))) Qc 0 0 A := by
  refine Met.ofW (cc := cJ7_fill_53178) (maxL := 4) (ret := none) (by decide) rfl ?_
  intro p e s m args below meth c s₁ B hml hv
  obtain ⟨rfl, hP, hK, hN, hA⟩ := hv
  have hx := B.exec
  have hb := B.bytes
  have hr := B.returns
  have hts := atoms_spec (ws := wsJ7_fill_53178) B.pre
  have hown : s.vm.findClass RJ7 = some m.cls := findClass_of_methodNamed B.named
  have hlocks := B.notSynchronized
  have hS : va_S A s.heap s.heap [] := va_S.rf
  unfold wp_J7_fill_53178 at h
  have hl := lv_entry ([.ref (ad 6), .int p2]) (n := 4) (Nat.le_of_ble_eq_true rfl)
  rw [lg_entry_eq]
  generalize (lg_sl ([.ref (ad 6), .int p2]) ++ List.replicate (4 - (lg_sl ([.ref (ad 6), .int p2])).length) Slot.unset).toArray = ls at hl ⊢
  have hl : lv_has ls 4 [(0, .ref (ad 6)), (1, .int p2)] := hl
  refine lv_iconst (v := 0) hx hb dJ7_fill_53178_0 (by decide) ?_
  refine lv_istore_n (lv' := [(2, .int 0), (0, .ref (ad 6)), (1, .int p2)]) hx hb dJ7_fill_53178_1 rfl hl (by decide) rfl (fun ls hl => ?_)
  refine lv_aload_n hx hb dJ7_fill_53178_2 rfl (lv_at hl 1 rfl) ?_
  refine va_alen hx hb hK hP 6 0 cG_6 rfl (v := 6) (by first | rfl | decide) dJ7_fill_53178_3 ?_
  refine lv_istore_n (lv' := [(3, .int 6), (2, .int 0), (0, .ref (ad 6)), (1, .int p2)]) hx hb dJ7_fill_53178_4 rfl hl (by decide) rfl (fun ls hl => ?_)
  obtain ⟨V1, ⟨n20, hV0⟩, hstepn2⟩ := h
  have hlpn2 : ∀ (n2 : Nat) (x3 : Int32) (I4 : St) (J5 : Rf) (LP6 : List Nat) (P7 : St) (H : Heap) (locs : List Loc), va_P (dC, dI) vwCl (cW ad cy I4 J5 LP6 P7) H → va_D A (cW ad cy I4 J5 LP6 P7) → va_S A s.heap H locs → ∀ ls : Array Slot, lv_has ls 4 [(0, .ref (ad 6)), (1, .int p2), (2, .int x3), (3, .int 6)] → V1 n2 x3 I4 J5 LP6 P7 → W p l e (headSpec wsJ7_fill_53178 rmJ7_fill_53178).room s m ([.ref (ad 6), .int p2] : List Value).toArray below meth c H locs 0 0 (MQ below Qc ([.ref (ad 6), .int p2] : List Value).toArray s 0 0 A) (F0 m 5 ls []) := by
    intro n2
    induction n2 using Nat.strongRecOn with
    | _ n2 ihn2 =>
      intro x3 I4 J5 LP6 P7 H locs hP hD hS ls hl hV
      have h := hstepn2 n2 x3 I4 J5 LP6 P7 hV
      refine lv_iload_n hx hb dJ7_fill_53178_5 rfl (lv_at hl 2 rfl) ?_
      refine lv_iload_n hx hb dJ7_fill_53178_6 rfl (lv_at hl 3 rfl) ?_
      refine lv_icmp_ge (tgt := 20) hx hb dJ7_fill_53178_7 (by decide) (fun hc => ?_) (fun hc => ?_)
      · have h := h.1 hc
        exact W.vret hx hb hr (fun t ht hW => hQ _ _ t I4 J5 LP6 P7 h ⟨by rw [ht]; exact hP, hD⟩ (hS.F ht)) hS.2.2 dJ7_fill_53178_20
      · have h := h.2 hc
        refine lv_aload_n hx hb dJ7_fill_53178_10 rfl (lv_at hl 0 rfl) ?_
        refine lv_iload_n hx hb dJ7_fill_53178_11 rfl (lv_at hl 2 rfl) ?_
        refine lv_iload_n hx hb dJ7_fill_53178_12 rfl (lv_at hl 1 rfl) ?_
        have hv := h.1; replace h := h.2
        refine va_iast hx hb hK hP hD hS 6 0 cG_6 rfl hv dJ7_fill_53178_13 (fun H locs hP hD hS => ?_)
        obtain ⟨I8, hI8⟩ : ∃ z : St, z = st I4 6 x3.toNatClampNeg p2 := ⟨_, rfl⟩
        replace hP := wP (cE_6 hI8) hP; replace hD := wD (cE_6 hI8) hD; replace h := h _ hI8
        refine lv_iinc (v := x3 + 1) (lv' := [(2, .int (x3 + 1)), (0, .ref (ad 6)), (1, .int p2), (3, .int 6)]) hx hb dJ7_fill_53178_14 hl (k := 2) rfl rfl (by decide) rfl (fun ls hl => ?_)
        refine lv_goto (tgt := 5) hx hb dJ7_fill_53178_17 (by decide) ?_
        obtain ⟨n9, hlt, hV⟩ := h
        exact ihn2 n9 hlt _ _ _ _ _ _ _ hP hD hS ls (lv_sub hl [1, 2, 0, 3] rfl) hV
  exact hlpn2 n20 _ _ _ _ _ _ _ hP hD hS ls (lv_sub hl [2, 3, 1, 0] rfl) hV0
theorem m_J7_fill_53178 (l : Launch) (dC : Nat → ClassId) (dI : Nat → Nat → Nat) (cy : Nat → ClassId) (ad : Nat → Nat) (A : Nat → Prop) (I : St) (J : Rf) (LP : List Nat) (P : St) (p2 : Int32) {post : St → Rf → List Nat → St → Prop} (hD : va_D A (cW ad cy I J LP P)) (h : wp_J7_fill_53178 I J LP P p2 post) : Met l yJ7_fill_53178 wsJ7_fill_53178 rmJ7_fill_53178 (va_Pc [.ref (ad 6), .int p2] (wPre (dC, dI) cy A (cW ad cy I J LP P))) (va_Qv (fun (u : CS) => post u.1 u.2.1 u.2.2.1 u.2.2.2) (fun (u : CS) t => wPost (dC, dI) A (cW ad cy u.1 u.2.1 u.2.2.1 u.2.2.2) t) A) 0 0 A := g_J7_fill_53178 l dC dI cy ad A I J LP P p2 hD h (fun a s0 t I' J' LP' P' h1 h2 h3 => ⟨⟨(I', J', LP', P'), rfl, h1, h2⟩, h3⟩)
abbrev rmX4_restart : Room := { frames := 1, cells := 0, slots := 0, locals := 23 }
set_option maxHeartbeats 4000000 in
set_option maxRecDepth 100000 in
theorem g_X4_restart (l : Launch) (dC : Nat → ClassId) (dI : Nat → Nat → Nat) (cy : Nat → ClassId) (ad : Nat → Nat) (A : Nat → Prop) (I : St) (J : Rf) (LP : List Nat) (P : St)  {post : Int32 → St → Rf → List Nat → St → Prop} (hD : va_D A (cW ad cy I J LP P)) (h : wp_X4_restart I J LP P  post) {Qc : Array Value → State → Outcome → State → Prop} (hQ : ∀ (a : Array Value) (s0 t : State) (r : Int32) (I' : St) (J' : Rf) (LP' : List Nat) (P' : St), post r I' J' LP' P' → wPost (dC, dI) A (cW ad cy I' J' LP' P') t → va_F A s0 t → Qc a s0 (.returned (some (.int r))) t) : Met l yX4_restart wsX4_restart rmX4_restart (va_Pc [.ref (ad 3)] (wPre (dC, dI) cy A (cW ad cy I J LP P))) Qc 0 0 A := by
  refine Met.ofW (cc := cX4_restart) (maxL := 2) (ret := (some .int)) (by decide) rfl ?_
  intro p e s m args below meth c s₁ B hml hv
  obtain ⟨rfl, hP, hK, hN, hA⟩ := hv
  have hx := B.exec
  have hb := B.bytes
  have hr := B.returns
  have hts := atoms_spec (ws := wsX4_restart) B.pre
  have hown : s.vm.findClass RX4 = some m.cls := findClass_of_methodNamed B.named
  have hlocks := B.notSynchronized
  have hinX4 : ∀ w ∈ wsX40, w ∈ wsX4_restart := fun _ h9 => List.mem_cons_of_mem _ (List.mem_append_left _ (List.mem_append_right _ h9))
  have hS : va_S A s.heap s.heap [] := va_S.rf
  unfold wp_X4_restart at h
  have hl := lv_entry ([.ref (ad 3)]) (n := 2) (Nat.le_of_ble_eq_true rfl)
  rw [lg_entry_eq]
  generalize (lg_sl ([.ref (ad 3)]) ++ List.replicate (2 - (lg_sl ([.ref (ad 3)])).length) Slot.unset).toArray = ls at hl ⊢
  have hl : lv_has ls 2 [(0, .ref (ad 3))] := hl
  refine lv_iconst (v := 0) hx hb dX4_restart_0 (by decide) ?_
  refine lv_istore_n (lv' := [(1, .int 0), (0, .ref (ad 3))]) hx hb dX4_restart_1 rfl hl (by decide) rfl (fun ls hl => ?_)
  obtain ⟨V1, ⟨n20, hV0⟩, hstepn2⟩ := h
  have hlpn2 : ∀ (n2 : Nat) (x3 : Int32) (I4 : St) (J5 : Rf) (LP6 : List Nat) (P7 : St) (H : Heap) (locs : List Loc), va_P (dC, dI) vwCl (cW ad cy I4 J5 LP6 P7) H → va_D A (cW ad cy I4 J5 LP6 P7) → va_S A s.heap H locs → ∀ ls : Array Slot, lv_has ls 2 [(0, .ref (ad 3)), (1, .int x3)] → V1 n2 x3 I4 J5 LP6 P7 → W p l e (headSpec wsX4_restart rmX4_restart).room s m ([.ref (ad 3)] : List Value).toArray below meth c H locs 0 0 (MQ below Qc ([.ref (ad 3)] : List Value).toArray s 0 0 A) (F0 m 2 ls []) := by
    intro n2
    induction n2 using Nat.strongRecOn with
    | _ n2 ihn2 =>
      intro x3 I4 J5 LP6 P7 H locs hP hD hS ls hl hV
      have h := hstepn2 n2 x3 I4 J5 LP6 P7 hV
      refine lv_iload_n hx hb dX4_restart_2 rfl (lv_at hl 1 rfl) ?_
      refine lv_iconst (v := 4) hx hb dX4_restart_3 (by decide) ?_
      refine lv_icmp_ge (tgt := 20) hx hb dX4_restart_4 (by decide) (fun hc => ?_) (fun hc => ?_)
      · have h := h.1 hc
        refine lv_aload_n hx hb dX4_restart_20 rfl (lv_at hl 0 rfl) ?_
        refine va_get (D := (dC, dI)) (ci := 4) (v := .ref (ad 6)) (C := RX4) (T := TX4) (N := 6) hx hb hts hinX4 hown hK hP 3 cG_3 rfl 3 (by decide) (hts (.fieldLink RX4 18 "OutboxHouse$Source" "owners" "[I") (by decide +kernel)) (fun _ h9 => h9) rfl dX4_restart_21 ?_
        refine lv_iconst (v := (-1)) hx hb dX4_restart_24 (by decide) ?_
        refine va_callv (va_runS (As := [.ref (ad 6), .int (-1)]) (rest := []) ⟨hx, hb, hml, hown, hts⟩ (m_J7_fill_53178 l dC dI cy ad A I4 J5 LP6 P7 (-1) hD h) (va_cwS 2 hts gX4_restart_J7_fill_53178 rfl rfl rfl (by decide +kernel) ⟨Nat.le_of_ble_eq_true rfl, Nat.le_of_ble_eq_true rfl⟩) ⟨wPre.blind, wPre.at hP hK hN hS hA⟩ rfl rfl hl.1 rfl (lv_room (Nat.le_of_ble_eq_true rfl)) dX4_restart_25 ⟨by first | exact Nat.le_of_ble_eq_true rfl | (show _ ≤ 0; omega), by first | exact Nat.le_of_ble_eq_true rfl | (show _ ≤ 0; omega)⟩) hS (fun q _ h => h) (fun q h => h) (fun u t H locs ht hvm hw hB hz1 hk1 hS => ?_)
        obtain ⟨I9, J10, LP11, P12⟩ := u
        obtain ⟨hP, hD⟩ := hB; rw [ht] at hP; replace h := hw; try dsimp only at h hP hD
        refine lv_aload_n hx hb dX4_restart_28 rfl (lv_at hl 0 rfl) ?_
        refine va_get (D := (dC, dI)) (ci := 4) (v := .ref (ad 1)) (C := RX4) (T := TX4) (N := 6) hx hb hts hinX4 hown hK hP 3 cG_3 rfl 0 (by decide) (hts (.fieldLink RX4 28 "OutboxHouse$Source" "changes" "LOutboxHouse$ChangeLog;") (by decide +kernel)) (fun _ h9 => h9) rfl dX4_restart_29 ?_
        refine va_calli (va_runV (As := []) (rest := []) ⟨hx, hb, hml, hown, hts⟩ (m_X1_dropUnflushed l dC dI cy ad A I9 J10 LP11 P12  hD h) (cwV 0 hts gX4_restart_X1_dropUnflushed rfl rfl rfl (by decide +kernel) ⟨Nat.le_of_ble_eq_true rfl, Nat.le_of_ble_eq_true rfl⟩) ⟨wPre.blind, va_recv hK hP (ci := 1) (q0 := 1) rfl cG_1, wPre.at hP hK hN hS hA⟩ rfl rfl hl.1 rfl (lv_room (Nat.le_of_ble_eq_true rfl)) dX4_restart_32 ⟨by first | exact Nat.le_of_ble_eq_true rfl | (show _ ≤ 0; omega), by first | exact Nat.le_of_ble_eq_true rfl | (show _ ≤ 0; omega)⟩) hS (fun q _ h => h) (fun q h => h) (fun r13 u t H locs ht hvm hw hB hz1 hk1 hS => ?_)
        obtain ⟨I14, J15, LP16, P17⟩ := u
        obtain ⟨hP, hD⟩ := hB; rw [ht] at hP; replace h := hw; try dsimp only at h hP hD
        exact W.iret (v := r13) hx hb hr (fun t ht hW => hQ _ _ t r13 I14 J15 LP16 P17 h ⟨by rw [ht]; exact hP, hD⟩ (hS.F ht)) hS.2.2 dX4_restart_35
      · have h := h.2 hc
        refine lv_aload_n hx hb dX4_restart_7 rfl (lv_at hl 0 rfl) ?_
        refine va_get (D := (dC, dI)) (ci := 4) (v := .ref (ad 8)) (C := RX4) (T := TX4) (N := 6) hx hb hts hinX4 hown hK hP 3 cG_3 rfl 5 (by decide) (hts (.fieldLink RX4 24 "OutboxHouse$Source" "open" "[Z") (by decide +kernel)) (fun _ h9 => h9) rfl dX4_restart_8 ?_
        refine lv_iload_n hx hb dX4_restart_11 rfl (lv_at hl 1 rfl) ?_
        refine lv_iconst (v := 0) hx hb dX4_restart_12 (by decide) ?_
        have hv := h.1; replace h := h.2
        refine va_zast hx hb hK hP hD hS 8 1 cG_8 rfl hv dX4_restart_13 (fun H locs hP hD hS => ?_)
        obtain ⟨I18, hI18⟩ : ∃ z : St, z = st I4 8 x3.toNatClampNeg (vp_nar .boolean 0) := ⟨_, rfl⟩
        replace hP := wP (cE_8 hI18) hP; replace hD := wD (cE_8 hI18) hD; replace h := h _ hI18
        refine lv_iinc (v := x3 + 1) (lv' := [(1, .int (x3 + 1)), (0, .ref (ad 3))]) hx hb dX4_restart_14 hl (k := 1) rfl rfl (by decide) rfl (fun ls hl => ?_)
        refine lv_goto (tgt := 2) hx hb dX4_restart_17 (by decide) ?_
        obtain ⟨n19, hlt, hV⟩ := h
        exact ihn2 n19 hlt _ _ _ _ _ _ _ hP hD hS ls (lv_sub hl [1, 0] rfl) hV
  exact hlpn2 n20 _ _ _ _ _ _ _ hP hD hS ls (lv_sub hl [1, 0] rfl) hV0
theorem m_X4_restart (l : Launch) (dC : Nat → ClassId) (dI : Nat → Nat → Nat) (cy : Nat → ClassId) (ad : Nat → Nat) (A : Nat → Prop) (I : St) (J : Rf) (LP : List Nat) (P : St)  {post : Int32 → St → Rf → List Nat → St → Prop} (hD : va_D A (cW ad cy I J LP P)) (h : wp_X4_restart I J LP P  post) : Met l yX4_restart wsX4_restart rmX4_restart (va_Pc [.ref (ad 3)] (wPre (dC, dI) cy A (cW ad cy I J LP P))) (va_Qi (fun r (u : CS) => post r u.1 u.2.1 u.2.2.1 u.2.2.2) (fun (u : CS) t => wPost (dC, dI) A (cW ad cy u.1 u.2.1 u.2.2.1 u.2.2.2) t) A) 0 0 A := g_X4_restart l dC dI cy ad A I J LP P  hD h (fun a s0 t r I' J' LP' P' h1 h2 h3 => ⟨⟨r, (I', J', LP', P'), rfl, h1, h2⟩, h3⟩)
abbrev rmX6_has : Room := { frames := 0, cells := 0, slots := 0, locals := 0 }
set_option maxHeartbeats 4000000 in
set_option maxRecDepth 100000 in
theorem g_X6_has (l : Launch) (dC : Nat → ClassId) (dI : Nat → Nat → Nat) (cy : Nat → ClassId) (ad : Nat → Nat) (A : Nat → Prop) (I : St) (J : Rf) (LP : List Nat) (P : St) (j : Nat) (h_j : 20 ≤ j ∧ j ≤ 21) (r0 : Option Nat) {post : Int32 → St → Rf → List Nat → St → Prop} (hD : va_D A (cW ad cy I J LP P)) (h : wp_X6_has I J LP P j r0 post) {Qc : Array Value → State → Outcome → State → Prop} (hQ : ∀ (a : Array Value) (s0 t : State) (r : Int32) (I' : St) (J' : Rf) (LP' : List Nat) (P' : St), post r I' J' LP' P' → wPost (dC, dI) A (cW ad cy I' J' LP' P') t → va_F A s0 t → Qc a s0 (.returned (some (.int r))) t) : Met l yX6_has wsX6_has rmX6_has (va_Pc [.ref (ad j), va_rf r0] (wPre (dC, dI) cy A (cW ad cy I J LP P))) Qc 0 0 A := by
  refine Met.ofW (cc := cX6_has) (maxL := 2) (ret := (some .boolean)) (by decide) rfl ?_
  intro p e s m args below meth c s₁ B hml hv
  obtain ⟨rfl, hP, hK, hN, hA⟩ := hv
  have hx := B.exec
  have hb := B.bytes
  have hr := B.returns
  have hts := atoms_spec (ws := wsX6_has) B.pre
  have hown : s.vm.findClass RX6 = some m.cls := findClass_of_methodNamed B.named
  have hlocks := B.notSynchronized
  have hinX0 : ∀ w ∈ wsX00, w ∈ wsX6_has := fun _ h9 => List.mem_cons_of_mem _ (List.mem_append_left _ (List.mem_append_right _ h9))
  have hinX6 : ∀ w ∈ wsX60, w ∈ wsX6_has := fun _ h9 => List.mem_cons_of_mem _ (List.mem_append_right _ h9)
  have hS : va_S A s.heap s.heap [] := va_S.rf
  unfold wp_X6_has at h
  rcases r0 with _ | a0
  · replace h := h.1 rfl
    have hl := lv_entry ([.ref (ad j), va_rf none]) (n := 2) (Nat.le_of_ble_eq_true rfl)
    rw [lg_entry_eq]
    generalize (lg_sl ([.ref (ad j), va_rf none]) ++ List.replicate (2 - (lg_sl ([.ref (ad j), va_rf none])).length) Slot.unset).toArray = ls at hl ⊢
    have hl : lv_has ls 2 [(0, .ref (ad j)), (1, .null)] := hl
    refine lv_aload_nN hx hb dX6_has_0 rfl (lv_at hl 1 rfl) ?_
    refine lv_ifnullN (tgt := 24) hx hb dX6_has_1 (by decide) ?_
    refine lv_iconst (v := 0) hx hb dX6_has_24 (by decide) ?_
    exact W.zret (v := 0) (ty := .boolean) hx hb hr rfl (fun t ht hW => hQ _ _ t 0 I J LP P h ⟨by rw [ht]; exact hP, hD⟩ (hS.F ht)) hS.2.2 dX6_has_25
  · replace h := h.2 _ rfl
    have hl := lv_entry ([.ref (ad j), va_rf (some a0)]) (n := 2) (Nat.le_of_ble_eq_true rfl)
    rw [lg_entry_eq]
    generalize (lg_sl ([.ref (ad j), va_rf (some a0)]) ++ List.replicate (2 - (lg_sl ([.ref (ad j), va_rf (some a0)])).length) Slot.unset).toArray = ls at hl ⊢
    have hl : lv_has ls 2 [(0, .ref (ad j)), (1, .ref a0)] := hl
    refine lv_aload_n hx hb dX6_has_0 rfl (lv_at hl 1 rfl) ?_
    refine lv_ifnull hx hb dX6_has_1 ?_
    refine lv_aload_n hx hb dX6_has_4 rfl (lv_at hl 1 rfl) ?_
    have hm := h.1; replace h := h.2
    obtain ⟨q1, hq1⟩ := cG_p (ad := ad) (cy := cy) (I := I) (J := J) (P := P) hm
    refine va_get (D := (dC, dI)) (ci := 0) (v := .int (P a0 3)) (C := RX0) (T := TX0) (N := 5) hx hb hts hinX0 hown hK hP q1 hq1 rfl 3 (by decide) (hts (.fieldLink RX6 18 "OutboxHouse$Change" "order" "I") (by decide +kernel)) (fun _ h9 => h9) rfl dX6_has_5 ?_
    refine lv_aload_n hx hb dX6_has_8 rfl (lv_at hl 0 rfl) ?_
    refine va_get (D := (dC, dI)) (ci := 6) (v := .ref (ad (j + 4))) (C := RX6) (T := TX6) (N := 3) hx hb hts hinX6 hown hK hP j (cG_ts (j := j) h_j) rfl 1 (by decide) (hts (.fieldLink RX6 15 "OutboxHouse$TargetState" "done" "[I") (by decide +kernel)) (fun _ h9 => h9) rfl dX6_has_9 ?_
    refine lv_aload_n hx hb dX6_has_12 rfl (lv_at hl 1 rfl) ?_
    have hm := h.1; replace h := h.2
    obtain ⟨q2, hq2⟩ := cG_p (ad := ad) (cy := cy) (I := I) (J := J) (P := P) hm
    refine va_get (D := (dC, dI)) (ci := 0) (v := .int (P a0 1)) (C := RX0) (T := TX0) (N := 5) hx hb hts hinX0 hown hK hP q2 hq2 rfl 1 (by decide) (hts (.fieldLink RX6 24 "OutboxHouse$Change" "key" "I") (by decide +kernel)) (fun _ h9 => h9) rfl dX6_has_13 ?_
    have hv := h.1; replace h := h.2
    refine va_iald hx hb hK hP (j + 4) 0 (cG_tsd (j := j) h_j) rfl hv dX6_has_16 ?_
    refine lv_icmp_gt (tgt := 24) hx hb dX6_has_17 (by decide) (fun hc => ?_) (fun hc => ?_)
    · have h := h.1 hc
      refine lv_iconst (v := 0) hx hb dX6_has_24 (by decide) ?_
      exact W.zret (v := 0) (ty := .boolean) hx hb hr rfl (fun t ht hW => hQ _ _ t 0 I J LP P h ⟨by rw [ht]; exact hP, hD⟩ (hS.F ht)) hS.2.2 dX6_has_25
    · have h := h.2 hc
      refine lv_iconst (v := 1) hx hb dX6_has_20 (by decide) ?_
      refine lv_goto (tgt := 25) hx hb dX6_has_21 (by decide) ?_
      exact W.zret (v := 1) (ty := .boolean) hx hb hr rfl (fun t ht hW => hQ _ _ t 1 I J LP P h ⟨by rw [ht]; exact hP, hD⟩ (hS.F ht)) hS.2.2 dX6_has_25
theorem m_X6_has (l : Launch) (dC : Nat → ClassId) (dI : Nat → Nat → Nat) (cy : Nat → ClassId) (ad : Nat → Nat) (A : Nat → Prop) (I : St) (J : Rf) (LP : List Nat) (P : St) (j : Nat) (h_j : 20 ≤ j ∧ j ≤ 21) (r0 : Option Nat) {post : Int32 → St → Rf → List Nat → St → Prop} (hD : va_D A (cW ad cy I J LP P)) (h : wp_X6_has I J LP P j r0 post) : Met l yX6_has wsX6_has rmX6_has (va_Pc [.ref (ad j), va_rf r0] (wPre (dC, dI) cy A (cW ad cy I J LP P))) (va_Qi (fun r (u : CS) => post r u.1 u.2.1 u.2.2.1 u.2.2.2) (fun (u : CS) t => wPost (dC, dI) A (cW ad cy u.1 u.2.1 u.2.2.1 u.2.2.2) t) A) 0 0 A := g_X6_has l dC dI cy ad A I J LP P j h_j r0 hD h (fun a s0 t r I' J' LP' P' h1 h2 h3 => ⟨⟨r, (I', J', LP', P'), rfl, h1, h2⟩, h3⟩)
abbrev rmX6_apply : Room := { frames := 1, cells := 0, slots := 0, locals := 21 }
set_option maxHeartbeats 4000000 in
set_option maxRecDepth 100000 in
theorem g_X6_apply (l : Launch) (dC : Nat → ClassId) (dI : Nat → Nat → Nat) (cy : Nat → ClassId) (ad : Nat → Nat) (A : Nat → Prop) (I : St) (J : Rf) (LP : List Nat) (P : St) (j : Nat) (h_j : 20 ≤ j ∧ j ≤ 21) (a0 : Nat) {post : St → Rf → List Nat → St → Prop} (hD : va_D A (cW ad cy I J LP P)) (h : wp_X6_apply I J LP P j a0 post) {Qc : Array Value → State → Outcome → State → Prop} (hQ : ∀ (a : Array Value) (s0 t : State) (I' : St) (J' : Rf) (LP' : List Nat) (P' : St), post I' J' LP' P' → wPost (dC, dI) A (cW ad cy I' J' LP' P') t → va_F A s0 t → Qc a s0 (.returned (none)) t) : Met l yX6_apply wsX6_apply rmX6_apply (va_Pc [.ref (ad j), .ref a0, .ref (ad 1)] (wPre (dC, dI) cy A (cW ad cy I J LP P))) Qc 0 0 A := by
  refine Met.ofW (cc := cX6_apply) (maxL := 4) (ret := none) (by decide) rfl ?_
  intro p e s m args below meth c s₁ B hml hv
  obtain ⟨rfl, hP, hK, hN, hA⟩ := hv
  have hx := B.exec
  have hb := B.bytes
  have hr := B.returns
  have hts := atoms_spec (ws := wsX6_apply) B.pre
  have hown : s.vm.findClass RX6 = some m.cls := findClass_of_methodNamed B.named
  have hlocks := B.notSynchronized
  have hinX6 : ∀ w ∈ wsX60, w ∈ wsX6_apply := fun _ h9 => List.mem_cons_of_mem _ (List.mem_append_left _ (List.mem_append_left _ (List.mem_append_right _ h9)))
  have hinX0 : ∀ w ∈ wsX00, w ∈ wsX6_apply := fun _ h9 => List.mem_cons_of_mem _ (List.mem_append_left _ (List.mem_append_right _ h9))
  have hS : va_S A s.heap s.heap [] := va_S.rf
  unfold wp_X6_apply at h
  have hl := lv_entry ([.ref (ad j), .ref a0, .ref (ad 1)]) (n := 4) (Nat.le_of_ble_eq_true rfl)
  rw [lg_entry_eq]
  generalize (lg_sl ([.ref (ad j), .ref a0, .ref (ad 1)]) ++ List.replicate (4 - (lg_sl ([.ref (ad j), .ref a0, .ref (ad 1)])).length) Slot.unset).toArray = ls at hl ⊢
  have hl : lv_has ls 4 [(0, .ref (ad j)), (1, .ref a0), (2, .ref (ad 1))] := hl
  refine lv_aload_n hx hb dX6_apply_0 rfl (lv_at hl 0 rfl) ?_
  refine va_get (D := (dC, dI)) (ci := 6) (v := .ref (ad (j + 2))) (C := RX6) (T := TX6) (N := 3) hx hb hts hinX6 hown hK hP j (cG_ts (j := j) h_j) rfl 0 (by decide) (hts (.fieldLink RX6 9 "OutboxHouse$TargetState" "values" "[I") (by decide +kernel)) (fun _ h9 => h9) rfl dX6_apply_1 ?_
  refine lv_aload_n hx hb dX6_apply_4 rfl (lv_at hl 1 rfl) ?_
  have hm := h.1; replace h := h.2
  obtain ⟨q1, hq1⟩ := cG_p (ad := ad) (cy := cy) (I := I) (J := J) (P := P) hm
  refine va_get (D := (dC, dI)) (ci := 0) (v := .int (P a0 1)) (C := RX0) (T := TX0) (N := 5) hx hb hts hinX0 hown hK hP q1 hq1 rfl 1 (by decide) (hts (.fieldLink RX6 24 "OutboxHouse$Change" "key" "I") (by decide +kernel)) (fun _ h9 => h9) rfl dX6_apply_5 ?_
  refine lv_aload_n hx hb dX6_apply_8 rfl (lv_at hl 1 rfl) ?_
  have hm := h.1; replace h := h.2
  obtain ⟨q2, hq2⟩ := cG_p (ad := ad) (cy := cy) (I := I) (J := J) (P := P) hm
  refine va_get (D := (dC, dI)) (ci := 0) (v := .int (P a0 2)) (C := RX0) (T := TX0) (N := 5) hx hb hts hinX0 hown hK hP q2 hq2 rfl 2 (by decide) (hts (.fieldLink RX6 27 "OutboxHouse$Change" "value" "I") (by decide +kernel)) (fun _ h9 => h9) rfl dX6_apply_9 ?_
  have hv := h.1; replace h := h.2
  refine va_iast hx hb hK hP hD hS (j + 2) 0 (cG_tsv (j := j) h_j) rfl hv dX6_apply_12 (fun H locs hP hD hS => ?_)
  obtain ⟨I3, hI3⟩ : ∃ z : St, z = st I (j + 2) (P a0 1).toNatClampNeg (P a0 2) := ⟨_, rfl⟩
  replace hP := wP (cE_tsv h_j hI3) hP; replace hD := wD (cE_tsv h_j hI3) hD; replace h := h _ hI3
  refine lv_aload_n hx hb dX6_apply_13 rfl (lv_at hl 0 rfl) ?_
  refine va_get (D := (dC, dI)) (ci := 6) (v := .ref (ad (j + 4))) (C := RX6) (T := TX6) (N := 3) hx hb hts hinX6 hown hK hP j (cG_ts (j := j) h_j) rfl 1 (by decide) (hts (.fieldLink RX6 15 "OutboxHouse$TargetState" "done" "[I") (by decide +kernel)) (fun _ h9 => h9) rfl dX6_apply_14 ?_
  refine lv_aload_n hx hb dX6_apply_17 rfl (lv_at hl 1 rfl) ?_
  have hm := h.1; replace h := h.2
  obtain ⟨q4, hq4⟩ := cG_p (ad := ad) (cy := cy) (I := I3) (J := J) (P := P) hm
  refine va_get (D := (dC, dI)) (ci := 0) (v := .int (P a0 1)) (C := RX0) (T := TX0) (N := 5) hx hb hts hinX0 hown hK hP q4 hq4 rfl 1 (by decide) (hts (.fieldLink RX6 24 "OutboxHouse$Change" "key" "I") (by decide +kernel)) (fun _ h9 => h9) rfl dX6_apply_18 ?_
  refine lv_aload_n hx hb dX6_apply_21 rfl (lv_at hl 1 rfl) ?_
  have hm := h.1; replace h := h.2
  obtain ⟨q5, hq5⟩ := cG_p (ad := ad) (cy := cy) (I := I3) (J := J) (P := P) hm
  refine va_get (D := (dC, dI)) (ci := 0) (v := .int (P a0 3)) (C := RX0) (T := TX0) (N := 5) hx hb hts hinX0 hown hK hP q5 hq5 rfl 3 (by decide) (hts (.fieldLink RX6 18 "OutboxHouse$Change" "order" "I") (by decide +kernel)) (fun _ h9 => h9) rfl dX6_apply_22 ?_
  have hv := h.1; replace h := h.2
  refine va_iast hx hb hK hP hD hS (j + 4) 0 (cG_tsd (j := j) h_j) rfl hv dX6_apply_25 (fun H locs hP hD hS => ?_)
  obtain ⟨I6, hI6⟩ : ∃ z : St, z = st I3 (j + 4) (P a0 1).toNatClampNeg (P a0 3) := ⟨_, rfl⟩
  replace hP := wP (cE_tsd h_j hI6) hP; replace hD := wD (cE_tsd h_j hI6) hD; replace h := h _ hI6
  refine lv_iconst (v := 0) hx hb dX6_apply_26 (by decide) ?_
  refine lv_istore_n (lv' := [(3, .int 0), (0, .ref (ad j)), (1, .ref a0), (2, .ref (ad 1))]) hx hb dX6_apply_27 rfl hl (by decide) rfl (fun ls hl => ?_)
  obtain ⟨V7, ⟨n80, hV0⟩, hstepn8⟩ := h
  have hlpn8 : ∀ (n8 : Nat) (x9 : Int32) (I10 : St) (J11 : Rf) (LP12 : List Nat) (P13 : St) (H : Heap) (locs : List Loc), va_P (dC, dI) vwCl (cW ad cy I10 J11 LP12 P13) H → va_D A (cW ad cy I10 J11 LP12 P13) → va_S A s.heap H locs → ∀ ls : Array Slot, lv_has ls 4 [(0, .ref (ad j)), (1, .ref a0), (2, .ref (ad 1)), (3, .int x9)] → V7 n8 x9 I10 J11 LP12 P13 → W p l e (headSpec wsX6_apply rmX6_apply).room s m ([.ref (ad j), .ref a0, .ref (ad 1)] : List Value).toArray below meth c H locs 0 0 (MQ below Qc ([.ref (ad j), .ref a0, .ref (ad 1)] : List Value).toArray s 0 0 A) (F0 m 28 ls []) := by
    intro n8
    induction n8 using Nat.strongRecOn with
    | _ n8 ihn8 =>
      intro x9 I10 J11 LP12 P13 H locs hP hD hS ls hl hV
      have h := hstepn8 n8 x9 I10 J11 LP12 P13 hV
      refine lv_iload_n hx hb dX6_apply_28 rfl (lv_at hl 3 rfl) ?_
      refine lv_sipush (v := 400) hx hb dX6_apply_29 (by decide) ?_
      refine lv_icmp_ge (tgt := 66) hx hb dX6_apply_32 (by decide) (fun hc => ?_) (fun hc => ?_)
      · have h := h.1 hc
        exact W.vret hx hb hr (fun t ht hW => hQ _ _ t I10 J11 LP12 P13 h ⟨by rw [ht]; exact hP, hD⟩ (hS.F ht)) hS.2.2 dX6_apply_66
      · have h := h.2 hc
        refine lv_aload_n hx hb dX6_apply_35 rfl (lv_at hl 0 rfl) ?_
        refine lv_aload_n hx hb dX6_apply_36 rfl (lv_at hl 2 rfl) ?_
        refine lv_aload_n hx hb dX6_apply_37 rfl (lv_at hl 0 rfl) ?_
        refine va_get (D := (dC, dI)) (ci := 6) (v := .int (I10 j 0)) (C := RX6) (T := TX6) (N := 3) hx hb hts hinX6 hown hK hP j (cG_ts (j := j) h_j) rfl 2 (by decide) (hts (.fieldLink RX6 30 "OutboxHouse$TargetState" "upTo" "I") (by decide +kernel)) (fun _ h9 => h9) rfl dX6_apply_38 ?_
        refine va_callq (va_runV (As := [.int (I10 j 0)]) (rest := [.ref (ad j)]) ⟨hx, hb, hml, hown, hts⟩ (m_X1_flushedAt l dC dI cy ad A I10 J11 LP12 P13 (I10 j 0) hD h) (cwV 1 hts gX6_apply_X1_flushedAt rfl rfl rfl (by decide +kernel) ⟨Nat.le_of_ble_eq_true rfl, Nat.le_of_ble_eq_true rfl⟩) ⟨wPre.blind, va_recv hK hP (ci := 1) (q0 := 1) rfl cG_1, wPre.at hP hK hN hS hA⟩ rfl rfl hl.1 rfl (lv_room (Nat.le_of_ble_eq_true rfl)) dX6_apply_41 ⟨by first | exact Nat.le_of_ble_eq_true rfl | (show _ ≤ 0; omega), by first | exact Nat.le_of_ble_eq_true rfl | (show _ ≤ 0; omega)⟩) hS (fun q _ h => h) (fun q h => h) (fun r14 u t H locs ht hvm hw hB hz1 hk1 hS => ?_)
        obtain ⟨I15, J16, LP17, P18⟩ := u
        obtain ⟨hP, hD⟩ := hB; rw [ht] at hP; replace h := hw; try dsimp only at h hP hD
        rcases r14 with _ | a19
        · replace h := h.1 rfl
          refine W.eq (g2 := F0 m 44 ls [.null, .ref (ad j)]) rfl ?_
          refine va_calli (va_runV (As := [.null]) (rest := []) ⟨hx, hb, hml, hown, hts⟩ (m_X6_has l dC dI cy ad A I15 J16 LP17 P18 j h_j none hD h) (cwV 1 hts gX6_apply_X6_has rfl rfl rfl (by decide +kernel) ⟨Nat.le_of_ble_eq_true rfl, Nat.le_of_ble_eq_true rfl⟩) ⟨wPre.blind, va_recv hK hP (ci := 6) (q0 := j) rfl (cG_ts (j := j) h_j), wPre.at hP hK hN hS hA⟩ rfl rfl hl.1 rfl (lv_room (Nat.le_of_ble_eq_true rfl)) dX6_apply_44 ⟨by first | exact Nat.le_of_ble_eq_true rfl | (show _ ≤ 0; omega), by first | exact Nat.le_of_ble_eq_true rfl | (show _ ≤ 0; omega)⟩) hS (fun q _ h => h) (fun q h => h) (fun r20 u t H locs ht hvm hw hB hz1 hk1 hS => ?_)
          obtain ⟨I21, J22, LP23, P24⟩ := u
          obtain ⟨hP, hD⟩ := hB; rw [ht] at hP; replace h := hw; try dsimp only at h hP hD
          refine lv_if_eq (tgt := 66) hx hb dX6_apply_47 (by decide) (fun hc => ?_) (fun hc => ?_)
          · have h := h.1 hc
            exact W.vret hx hb hr (fun t ht hW => hQ _ _ t I21 J22 LP23 P24 h ⟨by rw [ht]; exact hP, hD⟩ (hS.F ht)) hS.2.2 dX6_apply_66
          · have h := h.2 hc
            refine lv_aload_n hx hb dX6_apply_50 rfl (lv_at hl 0 rfl) ?_
            refine lv_dup hx hb dX6_apply_51 rfl ?_
            refine va_get (D := (dC, dI)) (ci := 6) (v := .int (I21 j 0)) (C := RX6) (T := TX6) (N := 3) hx hb hts hinX6 hown hK hP j (cG_ts (j := j) h_j) rfl 2 (by decide) (hts (.fieldLink RX6 30 "OutboxHouse$TargetState" "upTo" "I") (by decide +kernel)) (fun _ h9 => h9) rfl dX6_apply_52 ?_
            refine lv_iconst (v := 1) hx hb dX6_apply_55 (by decide) ?_
            refine lv_iadd hx hb dX6_apply_56 ?_
            refine va_put (D := (dC, dI)) (ci := 6) (v := .int ((I21 j 0) + 1)) (ty := .int) (C := RX6) (T := TX6) (N := 3) hx hb hts hinX6 tyX6 tyX6_ok nmX6 hown hK hP hD hS j (cG_ts (j := j) h_j) rfl 2 (by decide) (hts (.fieldLink RX6 30 "OutboxHouse$TargetState" "upTo" "I") (by decide +kernel)) (fun _ h9 => h9) rfl (by decide +kernel) rfl rfl (Nat.le_of_ble_eq_true rfl) dX6_apply_57 (fun H locs hP hD hS => ?_)
            obtain ⟨I25, hI25⟩ : ∃ z : St, z = st I21 j 0 ((I21 j 0) + 1) := ⟨_, rfl⟩
            replace hP := wP (cE_ts h_j hI25) hP; replace hD := wD (cE_ts h_j hI25) hD; replace h := h _ hI25
            refine lv_iinc (v := x9 + 1) (lv' := [(3, .int (x9 + 1)), (0, .ref (ad j)), (1, .ref a0), (2, .ref (ad 1))]) hx hb dX6_apply_60 hl (k := 3) rfl rfl (by decide) rfl (fun ls hl => ?_)
            refine lv_goto (tgt := 28) hx hb dX6_apply_63 (by decide) ?_
            obtain ⟨n26, hlt, hV⟩ := h
            exact ihn8 n26 hlt _ _ _ _ _ _ _ hP hD hS ls (lv_sub hl [1, 2, 3, 0] rfl) hV
        · replace h := h.2 _ rfl
          refine W.eq (g2 := F0 m 44 ls [.ref a19, .ref (ad j)]) rfl ?_
          refine va_calli (va_runV (As := [.ref a19]) (rest := []) ⟨hx, hb, hml, hown, hts⟩ (m_X6_has l dC dI cy ad A I15 J16 LP17 P18 j h_j (some a19) hD h) (cwV 1 hts gX6_apply_X6_has rfl rfl rfl (by decide +kernel) ⟨Nat.le_of_ble_eq_true rfl, Nat.le_of_ble_eq_true rfl⟩) ⟨wPre.blind, va_recv hK hP (ci := 6) (q0 := j) rfl (cG_ts (j := j) h_j), wPre.at hP hK hN hS hA⟩ rfl rfl hl.1 rfl (lv_room (Nat.le_of_ble_eq_true rfl)) dX6_apply_44 ⟨by first | exact Nat.le_of_ble_eq_true rfl | (show _ ≤ 0; omega), by first | exact Nat.le_of_ble_eq_true rfl | (show _ ≤ 0; omega)⟩) hS (fun q _ h => h) (fun q h => h) (fun r27 u t H locs ht hvm hw hB hz1 hk1 hS => ?_)
          obtain ⟨I28, J29, LP30, P31⟩ := u
          obtain ⟨hP, hD⟩ := hB; rw [ht] at hP; replace h := hw; try dsimp only at h hP hD
          refine lv_if_eq (tgt := 66) hx hb dX6_apply_47 (by decide) (fun hc => ?_) (fun hc => ?_)
          · have h := h.1 hc
            exact W.vret hx hb hr (fun t ht hW => hQ _ _ t I28 J29 LP30 P31 h ⟨by rw [ht]; exact hP, hD⟩ (hS.F ht)) hS.2.2 dX6_apply_66
          · have h := h.2 hc
            refine lv_aload_n hx hb dX6_apply_50 rfl (lv_at hl 0 rfl) ?_
            refine lv_dup hx hb dX6_apply_51 rfl ?_
            refine va_get (D := (dC, dI)) (ci := 6) (v := .int (I28 j 0)) (C := RX6) (T := TX6) (N := 3) hx hb hts hinX6 hown hK hP j (cG_ts (j := j) h_j) rfl 2 (by decide) (hts (.fieldLink RX6 30 "OutboxHouse$TargetState" "upTo" "I") (by decide +kernel)) (fun _ h9 => h9) rfl dX6_apply_52 ?_
            refine lv_iconst (v := 1) hx hb dX6_apply_55 (by decide) ?_
            refine lv_iadd hx hb dX6_apply_56 ?_
            refine va_put (D := (dC, dI)) (ci := 6) (v := .int ((I28 j 0) + 1)) (ty := .int) (C := RX6) (T := TX6) (N := 3) hx hb hts hinX6 tyX6 tyX6_ok nmX6 hown hK hP hD hS j (cG_ts (j := j) h_j) rfl 2 (by decide) (hts (.fieldLink RX6 30 "OutboxHouse$TargetState" "upTo" "I") (by decide +kernel)) (fun _ h9 => h9) rfl (by decide +kernel) rfl rfl (Nat.le_of_ble_eq_true rfl) dX6_apply_57 (fun H locs hP hD hS => ?_)
            obtain ⟨I32, hI32⟩ : ∃ z : St, z = st I28 j 0 ((I28 j 0) + 1) := ⟨_, rfl⟩
            replace hP := wP (cE_ts h_j hI32) hP; replace hD := wD (cE_ts h_j hI32) hD; replace h := h _ hI32
            refine lv_iinc (v := x9 + 1) (lv' := [(3, .int (x9 + 1)), (0, .ref (ad j)), (1, .ref a0), (2, .ref (ad 1))]) hx hb dX6_apply_60 hl (k := 3) rfl rfl (by decide) rfl (fun ls hl => ?_)
            refine lv_goto (tgt := 28) hx hb dX6_apply_63 (by decide) ?_
            obtain ⟨n33, hlt, hV⟩ := h
            exact ihn8 n33 hlt _ _ _ _ _ _ _ hP hD hS ls (lv_sub hl [1, 2, 3, 0] rfl) hV
  exact hlpn8 n80 _ _ _ _ _ _ _ hP hD hS ls (lv_sub hl [1, 2, 3, 0] rfl) hV0
theorem m_X6_apply (l : Launch) (dC : Nat → ClassId) (dI : Nat → Nat → Nat) (cy : Nat → ClassId) (ad : Nat → Nat) (A : Nat → Prop) (I : St) (J : Rf) (LP : List Nat) (P : St) (j : Nat) (h_j : 20 ≤ j ∧ j ≤ 21) (a0 : Nat) {post : St → Rf → List Nat → St → Prop} (hD : va_D A (cW ad cy I J LP P)) (h : wp_X6_apply I J LP P j a0 post) : Met l yX6_apply wsX6_apply rmX6_apply (va_Pc [.ref (ad j), .ref a0, .ref (ad 1)] (wPre (dC, dI) cy A (cW ad cy I J LP P))) (va_Qv (fun (u : CS) => post u.1 u.2.1 u.2.2.1 u.2.2.2) (fun (u : CS) t => wPost (dC, dI) A (cW ad cy u.1 u.2.1 u.2.2.1 u.2.2.2) t) A) 0 0 A := g_X6_apply l dC dI cy ad A I J LP P j h_j a0 hD h (fun a s0 t I' J' LP' P' h1 h2 h3 => ⟨⟨(I', J', LP', P'), rfl, h1, h2⟩, h3⟩)
abbrev rmX5_doNow : Room := { frames := 2, cells := 0, slots := 0, locals := 44 }
set_option maxHeartbeats 4000000 in
set_option maxRecDepth 100000 in
theorem g_X5_doNow (l : Launch) (dC : Nat → ClassId) (dI : Nat → Nat → Nat) (cy : Nat → ClassId) (ad : Nat → Nat) (A : Nat → Prop) (I : St) (J : Rf) (LP : List Nat) (P : St) (a0 : Nat) {post : St → Rf → List Nat → St → Prop} (hD : va_D A (cW ad cy I J LP P)) (h : wp_X5_doNow I J LP P a0 post) {Qc : Array Value → State → Outcome → State → Prop} (hQ : ∀ (a : Array Value) (s0 t : State) (I' : St) (J' : Rf) (LP' : List Nat) (P' : St), post I' J' LP' P' → wPost (dC, dI) A (cW ad cy I' J' LP' P') t → va_F A s0 t → Qc a s0 (.returned (none)) t) : Met l yX5_doNow wsX5_doNow rmX5_doNow (va_Pc [.ref (ad 19), .ref a0] (wPre (dC, dI) cy A (cW ad cy I J LP P))) Qc 0 0 A := by
  refine Met.ofW (cc := cX5_doNow) (maxL := 2) (ret := none) (by decide) rfl ?_
  intro p e s m args below meth c s₁ B hml hv
  obtain ⟨rfl, hP, hK, hN, hA⟩ := hv
  have hx := B.exec
  have hb := B.bytes
  have hr := B.returns
  have hts := atoms_spec (ws := wsX5_doNow) B.pre
  have hown : s.vm.findClass RX5 = some m.cls := findClass_of_methodNamed B.named
  have hlocks := B.notSynchronized
  have hinX5 : ∀ w ∈ wsX50, w ∈ wsX5_doNow := fun _ h9 => List.mem_cons_of_mem _ (List.mem_append_left _ (List.mem_append_left _ (List.mem_append_left _ (List.mem_append_right _ h9))))
  have hS : va_S A s.heap s.heap [] := va_S.rf
  unfold wp_X5_doNow at h
  have hl := lv_entry ([.ref (ad 19), .ref a0]) (n := 2) (Nat.le_of_ble_eq_true rfl)
  rw [lg_entry_eq]
  generalize (lg_sl ([.ref (ad 19), .ref a0]) ++ List.replicate (2 - (lg_sl ([.ref (ad 19), .ref a0])).length) Slot.unset).toArray = ls at hl ⊢
  have hl : lv_has ls 2 [(0, .ref (ad 19)), (1, .ref a0)] := hl
  refine lv_aload_n hx hb dX5_doNow_0 rfl (lv_at hl 0 rfl) ?_
  refine va_get (D := (dC, dI)) (ci := 5) (v := .ref (ad 20)) (C := RX5) (T := TX5) (N := 7) hx hb hts hinX5 hown hK hP 19 cG_19 rfl 1 (by decide) (hts (.fieldLink RX5 12 "OutboxHouse$Target" "memory" "LOutboxHouse$TargetState;") (by decide +kernel)) (fun _ h9 => h9) rfl dX5_doNow_1 ?_
  refine lv_aload_n hx hb dX5_doNow_4 rfl (lv_at hl 1 rfl) ?_
  refine lv_aload_n hx hb dX5_doNow_5 rfl (lv_at hl 0 rfl) ?_
  refine va_get (D := (dC, dI)) (ci := 5) (v := .ref (ad 1)) (C := RX5) (T := TX5) (N := 7) hx hb hts hinX5 hown hK hP 19 cG_19 rfl 0 (by decide) (hts (.fieldLink RX5 30 "OutboxHouse$Target" "changes" "LOutboxHouse$ChangeLog;") (by decide +kernel)) (fun _ h9 => h9) rfl dX5_doNow_6 ?_
  refine va_callv (va_runV (As := [.ref a0, .ref (ad 1)]) (rest := []) ⟨hx, hb, hml, hown, hts⟩ (m_X6_apply l dC dI cy ad A I J LP P 20 (by decide) a0 hD h) (cwV 2 hts gX5_doNow_X6_apply rfl rfl rfl (by decide +kernel) ⟨Nat.le_of_ble_eq_true rfl, Nat.le_of_ble_eq_true rfl⟩) ⟨wPre.blind, va_recv hK hP (ci := 6) (q0 := 20) rfl (cG_ts (j := 20) (by decide)), wPre.at hP hK hN hS hA⟩ rfl rfl hl.1 rfl (lv_room (Nat.le_of_ble_eq_true rfl)) dX5_doNow_9 ⟨by first | exact Nat.le_of_ble_eq_true rfl | (show _ ≤ 0; omega), by first | exact Nat.le_of_ble_eq_true rfl | (show _ ≤ 0; omega)⟩) hS (fun q _ h => h) (fun q h => h) (fun u t H locs ht hvm hw hB hz1 hk1 hS => ?_)
  obtain ⟨I2, J3, LP4, P5⟩ := u
  obtain ⟨hP, hD⟩ := hB; rw [ht] at hP; replace h := hw; try dsimp only at h hP hD
  refine lv_aload_n hx hb dX5_doNow_12 rfl (lv_at hl 0 rfl) ?_
  refine lv_dup hx hb dX5_doNow_13 rfl ?_
  refine va_get (D := (dC, dI)) (ci := 5) (v := .int (I2 19 0)) (C := RX5) (T := TX5) (N := 7) hx hb hts hinX5 hown hK hP 19 cG_19 rfl 4 (by decide) (hts (.fieldLink RX5 79 "OutboxHouse$Target" "doneEver" "I") (by decide +kernel)) (fun _ h9 => h9) rfl dX5_doNow_14 ?_
  refine lv_iconst (v := 1) hx hb dX5_doNow_17 (by decide) ?_
  refine lv_iadd hx hb dX5_doNow_18 ?_
  refine va_put (D := (dC, dI)) (ci := 5) (v := .int ((I2 19 0) + 1)) (ty := .int) (C := RX5) (T := TX5) (N := 7) hx hb hts hinX5 tyX5 tyX5_ok nmX5 hown hK hP hD hS 19 cG_19 rfl 4 (by decide) (hts (.fieldLink RX5 79 "OutboxHouse$Target" "doneEver" "I") (by decide +kernel)) (fun _ h9 => h9) rfl (by decide +kernel) rfl rfl (Nat.le_of_ble_eq_true rfl) dX5_doNow_19 (fun H locs hP hD hS => ?_)
  obtain ⟨I6, hI6⟩ : ∃ z : St, z = st I2 19 0 ((I2 19 0) + 1) := ⟨_, rfl⟩
  replace hP := wP (cE_19_0 hI6) hP; replace hD := wD (cE_19_0 hI6) hD; replace h := h _ hI6
  exact W.vret hx hb hr (fun t ht hW => hQ _ _ t I6 J3 LP4 P5 h ⟨by rw [ht]; exact hP, hD⟩ (hS.F ht)) hS.2.2 dX5_doNow_22
theorem m_X5_doNow (l : Launch) (dC : Nat → ClassId) (dI : Nat → Nat → Nat) (cy : Nat → ClassId) (ad : Nat → Nat) (A : Nat → Prop) (I : St) (J : Rf) (LP : List Nat) (P : St) (a0 : Nat) {post : St → Rf → List Nat → St → Prop} (hD : va_D A (cW ad cy I J LP P)) (h : wp_X5_doNow I J LP P a0 post) : Met l yX5_doNow wsX5_doNow rmX5_doNow (va_Pc [.ref (ad 19), .ref a0] (wPre (dC, dI) cy A (cW ad cy I J LP P))) (va_Qv (fun (u : CS) => post u.1 u.2.1 u.2.2.1 u.2.2.2) (fun (u : CS) t => wPost (dC, dI) A (cW ad cy u.1 u.2.1 u.2.2.1 u.2.2.2) t) A) 0 0 A := g_X5_doNow l dC dI cy ad A I J LP P a0 hD h (fun a s0 t I' J' LP' P' h1 h2 h3 => ⟨⟨(I', J', LP', P'), rfl, h1, h2⟩, h3⟩)
abbrev rmX5_doHeldThatFollow : Room := { frames := 3, cells := 0, slots := 0, locals := 65 }
set_option maxHeartbeats 4000000 in
set_option maxRecDepth 100000 in
theorem g_X5_doHeldThatFollow (l : Launch) (dC : Nat → ClassId) (dI : Nat → Nat → Nat) (cy : Nat → ClassId) (ad : Nat → Nat) (A : Nat → Prop) (I : St) (J : Rf) (LP : List Nat) (P : St) (p1 : Int32) {post : St → Rf → List Nat → St → Prop} (hD : va_D A (cW ad cy I J LP P)) (h : wp_X5_doHeldThatFollow I J LP P p1 post) {Qc : Array Value → State → Outcome → State → Prop} (hQ : ∀ (a : Array Value) (s0 t : State) (I' : St) (J' : Rf) (LP' : List Nat) (P' : St), post I' J' LP' P' → wPost (dC, dI) A (cW ad cy I' J' LP' P') t → va_F A s0 t → Qc a s0 (.returned (none)) t) : Met l yX5_doHeldThatFollow wsX5_doHeldThatFollow rmX5_doHeldThatFollow (va_Pc [.ref (ad 19), .int p1] (wPre (dC, dI) cy A (cW ad cy I J LP P))) Qc 0 0 A := by
  refine Met.ofW (cc := cX5_doHeldThatFollow) (maxL := 5) (ret := none) (by decide) rfl ?_
  intro p e s m args below meth c s₁ B hml hv
  obtain ⟨rfl, hP, hK, hN, hA⟩ := hv
  have hx := B.exec
  have hb := B.bytes
  have hr := B.returns
  have hts := atoms_spec (ws := wsX5_doHeldThatFollow) B.pre
  have hown : s.vm.findClass RX5 = some m.cls := findClass_of_methodNamed B.named
  have hlocks := B.notSynchronized
  have hinX5 : ∀ w ∈ wsX50, w ∈ wsX5_doHeldThatFollow := fun _ h9 => List.mem_cons_of_mem _ (List.mem_append_left _ (List.mem_append_left _ (List.mem_append_left _ (List.mem_append_left _ (List.mem_append_right _ h9)))))
  have hinX6 : ∀ w ∈ wsX60, w ∈ wsX5_doHeldThatFollow := fun _ h9 => List.mem_cons_of_mem _ (List.mem_append_left _ (List.mem_append_left _ (List.mem_append_left _ (List.mem_append_right _ h9))))
  have hS : va_S A s.heap s.heap [] := va_S.rf
  unfold wp_X5_doHeldThatFollow at h
  have hl := lv_entry ([.ref (ad 19), .int p1]) (n := 5) (Nat.le_of_ble_eq_true rfl)
  rw [lg_entry_eq]
  generalize (lg_sl ([.ref (ad 19), .int p1]) ++ List.replicate (5 - (lg_sl ([.ref (ad 19), .int p1])).length) Slot.unset).toArray = ls at hl ⊢
  have hl : lv_has ls 5 [(0, .ref (ad 19)), (1, .int p1)] := hl
  refine lv_iconst (v := 0) hx hb dX5_doHeldThatFollow_0 (by decide) ?_
  refine lv_istore_n (lv' := [(2, .int 0), (0, .ref (ad 19)), (1, .int p1)]) hx hb dX5_doHeldThatFollow_1 rfl hl (by decide) rfl (fun ls hl => ?_)
  obtain ⟨V1, ⟨n20, hV0⟩, hstepn2⟩ := h
  have hlpn2 : ∀ (n2 : Nat) (x3 : Int32) (I4 : St) (J5 : Rf) (LP6 : List Nat) (P7 : St) (H : Heap) (locs : List Loc), va_P (dC, dI) vwCl (cW ad cy I4 J5 LP6 P7) H → va_D A (cW ad cy I4 J5 LP6 P7) → va_S A s.heap H locs → ∀ ls : Array Slot, lv_has ls 5 [(0, .ref (ad 19)), (1, .int p1), (2, .int x3)] → V1 n2 x3 I4 J5 LP6 P7 → W p l e (headSpec wsX5_doHeldThatFollow rmX5_doHeldThatFollow).room s m ([.ref (ad 19), .int p1] : List Value).toArray below meth c H locs 0 0 (MQ below Qc ([.ref (ad 19), .int p1] : List Value).toArray s 0 0 A) (F0 m 2 ls []) := by
    intro n2
    induction n2 using Nat.strongRecOn with
    | _ n2 ihn2 =>
      intro x3 I4 J5 LP6 P7 H locs hP hD hS ls hl hV
      have h := hstepn2 n2 x3 I4 J5 LP6 P7 hV
      refine lv_iload_n hx hb dX5_doHeldThatFollow_2 rfl (lv_at hl 2 rfl) ?_
      refine lv_bipush (v := 8) hx hb dX5_doHeldThatFollow_3 (by decide) ?_
      refine lv_icmp_ge (tgt := 64) hx hb dX5_doHeldThatFollow_5 (by decide) (fun hc => ?_) (fun hc => ?_)
      · have h := h.1 hc
        exact W.vret hx hb hr (fun t ht hW => hQ _ _ t I4 J5 LP6 P7 h ⟨by rw [ht]; exact hP, hD⟩ (hS.F ht)) hS.2.2 dX5_doHeldThatFollow_64
      · have h := h.2 hc
        refine lv_aload_n hx hb dX5_doHeldThatFollow_8 rfl (lv_at hl 0 rfl) ?_
        refine va_get (D := (dC, dI)) (ci := 5) (v := .ref (ad 14)) (C := RX5) (T := TX5) (N := 7) hx hb hts hinX5 hown hK hP 19 cG_19 rfl 3 (by decide) (hts (.fieldLink RX5 26 "OutboxHouse$Target" "held" "LOutboxHouse$Row;") (by decide +kernel)) (fun _ h9 => h9) rfl dX5_doHeldThatFollow_9 ?_
        refine lv_iload_n hx hb dX5_doHeldThatFollow_12 rfl (lv_at hl 1 rfl) ?_
        refine lv_aload_n hx hb dX5_doHeldThatFollow_13 rfl (lv_at hl 0 rfl) ?_
        refine va_get (D := (dC, dI)) (ci := 5) (v := .ref (ad 20)) (C := RX5) (T := TX5) (N := 7) hx hb hts hinX5 hown hK hP 19 cG_19 rfl 1 (by decide) (hts (.fieldLink RX5 12 "OutboxHouse$Target" "memory" "LOutboxHouse$TargetState;") (by decide +kernel)) (fun _ h9 => h9) rfl dX5_doHeldThatFollow_14 ?_
        refine va_getN (D := (dC, dI)) (ci := 6) (v := .ref (ad 24)) (C := RX6) (T := TX6) (N := 3) hx hb hts hinX6 hown hK hP 20 (cG_ts (j := 20) (by decide)) rfl 1 (by decide) (va_Nw.use rfl (hN.1 (RX5, 54, "OutboxHouse$TargetState", "done", "[I", "OutboxHouse") (by decide +kernel))) (fun _ h9 => h9) rfl dX5_doHeldThatFollow_17 ?_
        refine lv_iload_n hx hb dX5_doHeldThatFollow_20 rfl (lv_at hl 1 rfl) ?_
        have hv := h.1; replace h := h.2
        refine va_iald hx hb hK hP (20 + 4) 0 (cG_tsd (j := 20) (by decide)) rfl hv dX5_doHeldThatFollow_21 ?_
        refine lv_iconst (v := 1) hx hb dX5_doHeldThatFollow_22 (by decide) ?_
        refine lv_iadd hx hb dX5_doHeldThatFollow_23 ?_
        refine va_calli (va_runV (As := [.int p1, .int ((I4 24 p1.toNatClampNeg) + 1)]) (rest := []) ⟨hx, hb, hml, hown, hts⟩ (m_X3_find l dC dI cy ad A I4 J5 LP6 P7 14 (by decide) p1 ((I4 24 p1.toNatClampNeg) + 1) hD h) (cwV 2 hts gX5_doHeldThatFollow_X3_find rfl rfl rfl (by decide +kernel) ⟨Nat.le_of_ble_eq_true rfl, Nat.le_of_ble_eq_true rfl⟩) ⟨wPre.blind, va_recv hK hP (ci := 3) (q0 := 14) rfl (cG_row (j := 14) (by decide)), wPre.at hP hK hN hS hA⟩ rfl rfl hl.1 rfl (lv_room (Nat.le_of_ble_eq_true rfl)) dX5_doHeldThatFollow_24 ⟨by first | exact Nat.le_of_ble_eq_true rfl | (show _ ≤ 0; omega), by first | exact Nat.le_of_ble_eq_true rfl | (show _ ≤ 0; omega)⟩) hS (fun q _ h => h) (fun q h => h) (fun r8 u t H locs ht hvm hw hB hz1 hk1 hS => ?_)
        obtain ⟨I9, J10, LP11, P12⟩ := u
        obtain ⟨hP, hD⟩ := hB; rw [ht] at hP; replace h := hw; try dsimp only at h hP hD
        refine lv_istore_n (lv' := [(3, .int r8), (0, .ref (ad 19)), (1, .int p1), (2, .int x3)]) hx hb dX5_doHeldThatFollow_27 rfl hl (by decide) rfl (fun ls hl => ?_)
        refine lv_aload_n hx hb dX5_doHeldThatFollow_28 rfl (lv_at hl 1 rfl) ?_
        refine va_get (D := (dC, dI)) (ci := 5) (v := .ref (ad 14)) (C := RX5) (T := TX5) (N := 7) hx hb hts hinX5 hown hK hP 19 cG_19 rfl 3 (by decide) (hts (.fieldLink RX5 26 "OutboxHouse$Target" "held" "LOutboxHouse$Row;") (by decide +kernel)) (fun _ h9 => h9) rfl dX5_doHeldThatFollow_29 ?_
        refine lv_iload_n hx hb dX5_doHeldThatFollow_32 rfl (lv_at hl 0 rfl) ?_
        refine va_callq (va_runV (As := [.int r8]) (rest := []) ⟨hx, hb, hml, hown, hts⟩ (m_X3_at l dC dI cy ad A I9 J10 LP11 P12 14 (by decide) r8 hD h) (cwV 1 hts gX5_doHeldThatFollow_X3_at rfl rfl rfl (by decide +kernel) ⟨Nat.le_of_ble_eq_true rfl, Nat.le_of_ble_eq_true rfl⟩) ⟨wPre.blind, va_recv hK hP (ci := 3) (q0 := 14) rfl (cG_row (j := 14) (by decide)), wPre.at hP hK hN hS hA⟩ rfl rfl hl.1 rfl (lv_room (Nat.le_of_ble_eq_true rfl)) dX5_doHeldThatFollow_33 ⟨by first | exact Nat.le_of_ble_eq_true rfl | (show _ ≤ 0; omega), by first | exact Nat.le_of_ble_eq_true rfl | (show _ ≤ 0; omega)⟩) hS (fun q _ h => h) (fun q h => h) (fun r13 u t H locs ht hvm hw hB hz1 hk1 hS => ?_)
        obtain ⟨I14, J15, LP16, P17⟩ := u
        obtain ⟨hP, hD⟩ := hB; rw [ht] at hP; replace h := hw; try dsimp only at h hP hD
        rcases r13 with _ | a18
        · replace h := h.1 rfl
          refine W.eq (g2 := F0 m 36 ls [.null]) rfl ?_
          refine lv_astoreN (lv' := [(4, .null), (3, .int r8), (0, .ref (ad 19)), (1, .int p1), (2, .int x3)]) hx hb dX5_doHeldThatFollow_36 hl (by decide) rfl (fun ls hl => ?_)
          refine lv_aloadN hx hb dX5_doHeldThatFollow_38 (lv_at hl 0 rfl) ?_
          refine lv_ifnonnullN hx hb dX5_doHeldThatFollow_40 ?_
          exact W.vret hx hb hr (fun t ht hW => hQ _ _ t I14 J15 LP16 P17 h ⟨by rw [ht]; exact hP, hD⟩ (hS.F ht)) hS.2.2 dX5_doHeldThatFollow_43
        · replace h := h.2 _ rfl
          refine W.eq (g2 := F0 m 36 ls [.ref a18]) rfl ?_
          refine lv_astore (lv' := [(4, .ref a18), (3, .int r8), (0, .ref (ad 19)), (1, .int p1), (2, .int x3)]) hx hb dX5_doHeldThatFollow_36 hl (by decide) rfl (fun ls hl => ?_)
          refine lv_aload hx hb dX5_doHeldThatFollow_38 (lv_at hl 0 rfl) ?_
          refine lv_ifnonnull (tgt := 44) hx hb dX5_doHeldThatFollow_40 (by decide) ?_
          refine lv_aload_n hx hb dX5_doHeldThatFollow_44 rfl (lv_at hl 2 rfl) ?_
          refine va_get (D := (dC, dI)) (ci := 5) (v := .ref (ad 14)) (C := RX5) (T := TX5) (N := 7) hx hb hts hinX5 hown hK hP 19 cG_19 rfl 3 (by decide) (hts (.fieldLink RX5 26 "OutboxHouse$Target" "held" "LOutboxHouse$Row;") (by decide +kernel)) (fun _ h9 => h9) rfl dX5_doHeldThatFollow_45 ?_
          refine lv_iload_n hx hb dX5_doHeldThatFollow_48 rfl (lv_at hl 1 rfl) ?_
          refine va_callv (va_runV (As := [.int r8]) (rest := []) ⟨hx, hb, hml, hown, hts⟩ (m_X3_remove l dC dI cy ad A I14 J15 LP16 P17 14 (by decide) r8 hD h) (cwV 1 hts gX5_doHeldThatFollow_X3_remove rfl rfl rfl (by decide +kernel) ⟨Nat.le_of_ble_eq_true rfl, Nat.le_of_ble_eq_true rfl⟩) ⟨wPre.blind, va_recv hK hP (ci := 3) (q0 := 14) rfl (cG_row (j := 14) (by decide)), wPre.at hP hK hN hS hA⟩ rfl rfl hl.1 rfl (lv_room (Nat.le_of_ble_eq_true rfl)) dX5_doHeldThatFollow_49 ⟨by first | exact Nat.le_of_ble_eq_true rfl | (show _ ≤ 0; omega), by first | exact Nat.le_of_ble_eq_true rfl | (show _ ≤ 0; omega)⟩) hS (fun q _ h => h) (fun q h => h) (fun u t H locs ht hvm hw hB hz1 hk1 hS => ?_)
          obtain ⟨I20, J21, LP22, P23⟩ := u
          obtain ⟨hP, hD⟩ := hB; rw [ht] at hP; replace h := hw; try dsimp only at h hP hD
          refine lv_aload_n hx hb dX5_doHeldThatFollow_52 rfl (lv_at hl 2 rfl) ?_
          refine lv_aload hx hb dX5_doHeldThatFollow_53 (lv_at hl 0 rfl) ?_
          refine va_callv (va_runV (As := [.ref a18]) (rest := []) ⟨hx, hb, hml, hown, hts⟩ (m_X5_doNow l dC dI cy ad A I20 J21 LP22 P23 a18 hD h) (cwV 1 hts gX5_doHeldThatFollow_X5_doNow rfl rfl rfl (by decide +kernel) ⟨Nat.le_of_ble_eq_true rfl, Nat.le_of_ble_eq_true rfl⟩) ⟨wPre.blind, va_recv hK hP (ci := 5) (q0 := 19) rfl cG_19, wPre.at hP hK hN hS hA⟩ rfl rfl hl.1 rfl (lv_room (Nat.le_of_ble_eq_true rfl)) dX5_doHeldThatFollow_55 ⟨by first | exact Nat.le_of_ble_eq_true rfl | (show _ ≤ 0; omega), by first | exact Nat.le_of_ble_eq_true rfl | (show _ ≤ 0; omega)⟩) hS (fun q _ h => h) (fun q h => h) (fun u t H locs ht hvm hw hB hz1 hk1 hS => ?_)
          obtain ⟨I25, J26, LP27, P28⟩ := u
          obtain ⟨hP, hD⟩ := hB; rw [ht] at hP; replace h := hw; try dsimp only at h hP hD
          refine lv_iinc (v := x3 + 1) (lv' := [(2, .int (x3 + 1)), (4, .ref a18), (3, .int r8), (0, .ref (ad 19)), (1, .int p1)]) hx hb dX5_doHeldThatFollow_58 hl (k := 4) rfl rfl (by decide) rfl (fun ls hl => ?_)
          refine lv_goto (tgt := 2) hx hb dX5_doHeldThatFollow_61 (by decide) ?_
          obtain ⟨n29, hlt, hV⟩ := h
          exact ihn2 n29 hlt _ _ _ _ _ _ _ hP hD hS ls (lv_sub hl [3, 4, 0] rfl) hV
  exact hlpn2 n20 _ _ _ _ _ _ _ hP hD hS ls (lv_sub hl [1, 2, 0] rfl) hV0
theorem m_X5_doHeldThatFollow (l : Launch) (dC : Nat → ClassId) (dI : Nat → Nat → Nat) (cy : Nat → ClassId) (ad : Nat → Nat) (A : Nat → Prop) (I : St) (J : Rf) (LP : List Nat) (P : St) (p1 : Int32) {post : St → Rf → List Nat → St → Prop} (hD : va_D A (cW ad cy I J LP P)) (h : wp_X5_doHeldThatFollow I J LP P p1 post) : Met l yX5_doHeldThatFollow wsX5_doHeldThatFollow rmX5_doHeldThatFollow (va_Pc [.ref (ad 19), .int p1] (wPre (dC, dI) cy A (cW ad cy I J LP P))) (va_Qv (fun (u : CS) => post u.1 u.2.1 u.2.2.1 u.2.2.2) (fun (u : CS) t => wPost (dC, dI) A (cW ad cy u.1 u.2.1 u.2.2.1 u.2.2.2) t) A) 0 0 A := g_X5_doHeldThatFollow l dC dI cy ad A I J LP P p1 hD h (fun a s0 t I' J' LP' P' h1 h2 h3 => ⟨⟨(I', J', LP', P'), rfl, h1, h2⟩, h3⟩)
abbrev rmX5_take : Room := { frames := 4, cells := 0, slots := 0, locals := 89 }
set_option maxHeartbeats 4000000 in
set_option maxRecDepth 100000 in
theorem g_X5_take (l : Launch) (dC : Nat → ClassId) (dI : Nat → Nat → Nat) (cy : Nat → ClassId) (ad : Nat → Nat) (A : Nat → Prop) (I : St) (J : Rf) (LP : List Nat) (P : St) (a0 : Nat) {post : Int32 → St → Rf → List Nat → St → Prop} (hD : va_D A (cW ad cy I J LP P)) (h : wp_X5_take I J LP P a0 post) {Qc : Array Value → State → Outcome → State → Prop} (hQ : ∀ (a : Array Value) (s0 t : State) (r : Int32) (I' : St) (J' : Rf) (LP' : List Nat) (P' : St), post r I' J' LP' P' → wPost (dC, dI) A (cW ad cy I' J' LP' P') t → va_F A s0 t → Qc a s0 (.returned (some (.int r))) t) : Met l yX5_take wsX5_take rmX5_take (va_Pc [.ref (ad 19), .ref a0] (wPre (dC, dI) cy A (cW ad cy I J LP P))) Qc 0 0 A := by
  refine Met.ofW (cc := cX5_take) (maxL := 2) (ret := (some .int)) (by decide) rfl ?_
  intro p e s m args below meth c s₁ B hml hv
  obtain ⟨rfl, hP, hK, hN, hA⟩ := hv
  have hx := B.exec
  have hb := B.bytes
  have hr := B.returns
  have hts := atoms_spec (ws := wsX5_take) B.pre
  have hown : s.vm.findClass RX5 = some m.cls := findClass_of_methodNamed B.named
  have hlocks := B.notSynchronized
  have hinX5 : ∀ w ∈ wsX50, w ∈ wsX5_take := fun _ h9 => List.mem_cons_of_mem _ (List.mem_append_left _ (List.mem_append_left _ (List.mem_append_left _ (List.mem_append_left _ (List.mem_append_right _ h9)))))
  have hinX0 : ∀ w ∈ wsX00, w ∈ wsX5_take := fun _ h9 => List.mem_cons_of_mem _ (List.mem_append_left _ (List.mem_append_left _ (List.mem_append_left _ (List.mem_append_right _ h9))))
  have hinX6 : ∀ w ∈ wsX60, w ∈ wsX5_take := fun _ h9 => List.mem_cons_of_mem _ (List.mem_append_left _ (List.mem_append_left _ (List.mem_append_right _ h9)))
  have hS : va_S A s.heap s.heap [] := va_S.rf
  unfold wp_X5_take at h
  have hl := lv_entry ([.ref (ad 19), .ref a0]) (n := 2) (Nat.le_of_ble_eq_true rfl)
  rw [lg_entry_eq]
  generalize (lg_sl ([.ref (ad 19), .ref a0]) ++ List.replicate (2 - (lg_sl ([.ref (ad 19), .ref a0])).length) Slot.unset).toArray = ls at hl ⊢
  have hl : lv_has ls 2 [(0, .ref (ad 19)), (1, .ref a0)] := hl
  refine lv_aload_n hx hb dX5_take_0 rfl (lv_at hl 0 rfl) ?_
  refine va_get (D := (dC, dI)) (ci := 5) (v := .ref (ad 20)) (C := RX5) (T := TX5) (N := 7) hx hb hts hinX5 hown hK hP 19 cG_19 rfl 1 (by decide) (hts (.fieldLink RX5 12 "OutboxHouse$Target" "memory" "LOutboxHouse$TargetState;") (by decide +kernel)) (fun _ h9 => h9) rfl dX5_take_1 ?_
  refine lv_aload_n hx hb dX5_take_4 rfl (lv_at hl 1 rfl) ?_
  refine va_calli (va_runV (As := [.ref a0]) (rest := []) ⟨hx, hb, hml, hown, hts⟩ (m_X6_has l dC dI cy ad A I J LP P 20 (by decide) (some a0) hD h) (cwV 1 hts gX5_take_X6_has rfl rfl rfl (by decide +kernel) ⟨Nat.le_of_ble_eq_true rfl, Nat.le_of_ble_eq_true rfl⟩) ⟨wPre.blind, va_recv hK hP (ci := 6) (q0 := 20) rfl (cG_ts (j := 20) (by decide)), wPre.at hP hK hN hS hA⟩ rfl rfl hl.1 rfl (lv_room (Nat.le_of_ble_eq_true rfl)) dX5_take_5 ⟨by first | exact Nat.le_of_ble_eq_true rfl | (show _ ≤ 0; omega), by first | exact Nat.le_of_ble_eq_true rfl | (show _ ≤ 0; omega)⟩) hS (fun q _ h => h) (fun q h => h) (fun r1 u t H locs ht hvm hw hB hz1 hk1 hS => ?_)
  obtain ⟨I2, J3, LP4, P5⟩ := u
  obtain ⟨hP, hD⟩ := hB; rw [ht] at hP; replace h := hw; try dsimp only at h hP hD
  refine lv_if_ne (tgt := 31) hx hb dX5_take_8 (by decide) (fun hc => ?_) (fun hc => ?_)
  · have h := h.1 hc
    refine lv_aload_n hx hb dX5_take_31 rfl (lv_at hl 0 rfl) ?_
    refine lv_dup hx hb dX5_take_32 rfl ?_
    refine va_get (D := (dC, dI)) (ci := 5) (v := .int (I2 19 1)) (C := RX5) (T := TX5) (N := 7) hx hb hts hinX5 hown hK hP 19 cG_19 rfl 5 (by decide) (hts (.fieldLink RX5 51 "OutboxHouse$Target" "twiceEver" "I") (by decide +kernel)) (fun _ h9 => h9) rfl dX5_take_33 ?_
    refine lv_iconst (v := 1) hx hb dX5_take_36 (by decide) ?_
    refine lv_iadd hx hb dX5_take_37 ?_
    refine va_put (D := (dC, dI)) (ci := 5) (v := .int ((I2 19 1) + 1)) (ty := .int) (C := RX5) (T := TX5) (N := 7) hx hb hts hinX5 tyX5 tyX5_ok nmX5 hown hK hP hD hS 19 cG_19 rfl 5 (by decide) (hts (.fieldLink RX5 51 "OutboxHouse$Target" "twiceEver" "I") (by decide +kernel)) (fun _ h9 => h9) rfl (by decide +kernel) rfl rfl (Nat.le_of_ble_eq_true rfl) dX5_take_38 (fun H locs hP hD hS => ?_)
    obtain ⟨I6, hI6⟩ : ∃ z : St, z = st I2 19 1 ((I2 19 1) + 1) := ⟨_, rfl⟩
    replace hP := wP (cE_19_1 hI6) hP; replace hD := wD (cE_19_1 hI6) hD; replace h := h _ hI6
    refine lv_iconst (v := 2) hx hb dX5_take_41 (by decide) ?_
    exact W.iret (v := 2) hx hb hr (fun t ht hW => hQ _ _ t 2 I6 J3 LP4 P5 h ⟨by rw [ht]; exact hP, hD⟩ (hS.F ht)) hS.2.2 dX5_take_42
  · have h := h.2 hc
    refine lv_aload_n hx hb dX5_take_11 rfl (lv_at hl 0 rfl) ?_
    refine va_get (D := (dC, dI)) (ci := 5) (v := .ref (ad 14)) (C := RX5) (T := TX5) (N := 7) hx hb hts hinX5 hown hK hP 19 cG_19 rfl 3 (by decide) (hts (.fieldLink RX5 26 "OutboxHouse$Target" "held" "LOutboxHouse$Row;") (by decide +kernel)) (fun _ h9 => h9) rfl dX5_take_12 ?_
    refine lv_aload_n hx hb dX5_take_15 rfl (lv_at hl 1 rfl) ?_
    have hm := h.1; replace h := h.2
    obtain ⟨q7, hq7⟩ := cG_p (ad := ad) (cy := cy) (I := I2) (J := J3) (P := P5) hm
    refine va_get (D := (dC, dI)) (ci := 0) (v := .int (P5 a0 1)) (C := RX0) (T := TX0) (N := 5) hx hb hts hinX0 hown hK hP q7 hq7 rfl 1 (by decide) (hts (.fieldLink RX5 38 "OutboxHouse$Change" "key" "I") (by decide +kernel)) (fun _ h9 => h9) rfl dX5_take_16 ?_
    refine lv_aload_n hx hb dX5_take_19 rfl (lv_at hl 1 rfl) ?_
    have hm := h.1; replace h := h.2
    obtain ⟨q8, hq8⟩ := cG_p (ad := ad) (cy := cy) (I := I2) (J := J3) (P := P5) hm
    refine va_get (D := (dC, dI)) (ci := 0) (v := .int (P5 a0 3)) (C := RX0) (T := TX0) (N := 5) hx hb hts hinX0 hown hK hP q8 hq8 rfl 3 (by decide) (hts (.fieldLink RX5 44 "OutboxHouse$Change" "order" "I") (by decide +kernel)) (fun _ h9 => h9) rfl dX5_take_20 ?_
    refine va_calli (va_runV (As := [.int (P5 a0 1), .int (P5 a0 3)]) (rest := []) ⟨hx, hb, hml, hown, hts⟩ (m_X3_find l dC dI cy ad A I2 J3 LP4 P5 14 (by decide) (P5 a0 1) (P5 a0 3) hD h) (cwV 2 hts gX5_take_X3_find rfl rfl rfl (by decide +kernel) ⟨Nat.le_of_ble_eq_true rfl, Nat.le_of_ble_eq_true rfl⟩) ⟨wPre.blind, va_recv hK hP (ci := 3) (q0 := 14) rfl (cG_row (j := 14) (by decide)), wPre.at hP hK hN hS hA⟩ rfl rfl hl.1 rfl (lv_room (Nat.le_of_ble_eq_true rfl)) dX5_take_23 ⟨by first | exact Nat.le_of_ble_eq_true rfl | (show _ ≤ 0; omega), by first | exact Nat.le_of_ble_eq_true rfl | (show _ ≤ 0; omega)⟩) hS (fun q _ h => h) (fun q h => h) (fun r9 u t H locs ht hvm hw hB hz1 hk1 hS => ?_)
    obtain ⟨I10, J11, LP12, P13⟩ := u
    obtain ⟨hP, hD⟩ := hB; rw [ht] at hP; replace h := hw; try dsimp only at h hP hD
    refine lv_bipush (v := (-9)) hx hb dX5_take_26 (by decide) ?_
    refine lv_icmp_eq (tgt := 43) hx hb dX5_take_28 (by decide) (fun hc => ?_) (fun hc => ?_)
    · have h := h.1 hc
      refine lv_aload_n hx hb dX5_take_43 rfl (lv_at hl 1 rfl) ?_
      have hm := h.1; replace h := h.2
      obtain ⟨q14, hq14⟩ := cG_p (ad := ad) (cy := cy) (I := I10) (J := J11) (P := P13) hm
      refine va_get (D := (dC, dI)) (ci := 0) (v := .int (P13 a0 3)) (C := RX0) (T := TX0) (N := 5) hx hb hts hinX0 hown hK hP q14 hq14 rfl 3 (by decide) (hts (.fieldLink RX5 44 "OutboxHouse$Change" "order" "I") (by decide +kernel)) (fun _ h9 => h9) rfl dX5_take_44 ?_
      refine lv_aload_n hx hb dX5_take_47 rfl (lv_at hl 0 rfl) ?_
      refine va_get (D := (dC, dI)) (ci := 5) (v := .ref (ad 20)) (C := RX5) (T := TX5) (N := 7) hx hb hts hinX5 hown hK hP 19 cG_19 rfl 1 (by decide) (hts (.fieldLink RX5 12 "OutboxHouse$Target" "memory" "LOutboxHouse$TargetState;") (by decide +kernel)) (fun _ h9 => h9) rfl dX5_take_48 ?_
      refine va_getN (D := (dC, dI)) (ci := 6) (v := .ref (ad 24)) (C := RX6) (T := TX6) (N := 3) hx hb hts hinX6 hown hK hP 20 (cG_ts (j := 20) (by decide)) rfl 1 (by decide) (va_Nw.use rfl (hN.1 (RX5, 54, "OutboxHouse$TargetState", "done", "[I", "OutboxHouse") (by decide +kernel))) (fun _ h9 => h9) rfl dX5_take_51 ?_
      refine lv_aload_n hx hb dX5_take_54 rfl (lv_at hl 1 rfl) ?_
      have hm := h.1; replace h := h.2
      obtain ⟨q15, hq15⟩ := cG_p (ad := ad) (cy := cy) (I := I10) (J := J11) (P := P13) hm
      refine va_get (D := (dC, dI)) (ci := 0) (v := .int (P13 a0 1)) (C := RX0) (T := TX0) (N := 5) hx hb hts hinX0 hown hK hP q15 hq15 rfl 1 (by decide) (hts (.fieldLink RX5 38 "OutboxHouse$Change" "key" "I") (by decide +kernel)) (fun _ h9 => h9) rfl dX5_take_55 ?_
      have hv := h.1; replace h := h.2
      refine va_iald hx hb hK hP (20 + 4) 0 (cG_tsd (j := 20) (by decide)) rfl hv dX5_take_58 ?_
      refine lv_iconst (v := 1) hx hb dX5_take_59 (by decide) ?_
      refine lv_iadd hx hb dX5_take_60 ?_
      refine lv_icmp_ne (tgt := 79) hx hb dX5_take_61 (by decide) (fun hc => ?_) (fun hc => ?_)
      · have h := h.1 hc
        refine lv_aload_n hx hb dX5_take_79 rfl (lv_at hl 0 rfl) ?_
        refine va_get (D := (dC, dI)) (ci := 5) (v := .ref (ad 14)) (C := RX5) (T := TX5) (N := 7) hx hb hts hinX5 hown hK hP 19 cG_19 rfl 3 (by decide) (hts (.fieldLink RX5 26 "OutboxHouse$Target" "held" "LOutboxHouse$Row;") (by decide +kernel)) (fun _ h9 => h9) rfl dX5_take_80 ?_
        refine va_calli (va_runV (As := []) (rest := []) ⟨hx, hb, hml, hown, hts⟩ (m_X3_isFull l dC dI cy ad A I10 J11 LP12 P13 14 (by decide) hD h) (cwV 0 hts gX5_take_X3_isFull rfl rfl rfl (by decide +kernel) ⟨Nat.le_of_ble_eq_true rfl, Nat.le_of_ble_eq_true rfl⟩) ⟨wPre.blind, va_recv hK hP (ci := 3) (q0 := 14) rfl (cG_row (j := 14) (by decide)), wPre.at hP hK hN hS hA⟩ rfl rfl hl.1 rfl (lv_room (Nat.le_of_ble_eq_true rfl)) dX5_take_83 ⟨by first | exact Nat.le_of_ble_eq_true rfl | (show _ ≤ 0; omega), by first | exact Nat.le_of_ble_eq_true rfl | (show _ ≤ 0; omega)⟩) hS (fun q _ h => h) (fun q h => h) (fun r16 u t H locs ht hvm hw hB hz1 hk1 hS => ?_)
        obtain ⟨I17, J18, LP19, P20⟩ := u
        obtain ⟨hP, hD⟩ := hB; rw [ht] at hP; replace h := hw; try dsimp only at h hP hD
        refine lv_if_eq (tgt := 101) hx hb dX5_take_86 (by decide) (fun hc => ?_) (fun hc => ?_)
        · have h := h.1 hc
          refine lv_aload_n hx hb dX5_take_101 rfl (lv_at hl 0 rfl) ?_
          refine va_get (D := (dC, dI)) (ci := 5) (v := .ref (ad 14)) (C := RX5) (T := TX5) (N := 7) hx hb hts hinX5 hown hK hP 19 cG_19 rfl 3 (by decide) (hts (.fieldLink RX5 26 "OutboxHouse$Target" "held" "LOutboxHouse$Row;") (by decide +kernel)) (fun _ h9 => h9) rfl dX5_take_102 ?_
          refine lv_aload_n hx hb dX5_take_105 rfl (lv_at hl 1 rfl) ?_
          refine va_callv (va_runV (As := [.ref a0]) (rest := []) ⟨hx, hb, hml, hown, hts⟩ (m_X3_add l dC dI cy ad A I17 J18 LP19 P20 14 (by decide) a0 hD h) (cwV 1 hts gX5_take_X3_add rfl rfl rfl (by decide +kernel) ⟨Nat.le_of_ble_eq_true rfl, Nat.le_of_ble_eq_true rfl⟩) ⟨wPre.blind, va_recv hK hP (ci := 3) (q0 := 14) rfl (cG_row (j := 14) (by decide)), wPre.at hP hK hN hS hA⟩ rfl rfl hl.1 rfl (lv_room (Nat.le_of_ble_eq_true rfl)) dX5_take_106 ⟨by first | exact Nat.le_of_ble_eq_true rfl | (show _ ≤ 0; omega), by first | exact Nat.le_of_ble_eq_true rfl | (show _ ≤ 0; omega)⟩) hS (fun q _ h => h) (fun q h => h) (fun u t H locs ht hvm hw hB hz1 hk1 hS => ?_)
          obtain ⟨I22, J23, LP24, P25⟩ := u
          obtain ⟨hP, hD⟩ := hB; rw [ht] at hP; replace h := hw; try dsimp only at h hP hD
          refine lv_iconst (v := 3) hx hb dX5_take_109 (by decide) ?_
          exact W.iret (v := 3) hx hb hr (fun t ht hW => hQ _ _ t 3 I22 J23 LP24 P25 h ⟨by rw [ht]; exact hP, hD⟩ (hS.F ht)) hS.2.2 dX5_take_110
        · have h := h.2 hc
          refine lv_aload_n hx hb dX5_take_89 rfl (lv_at hl 0 rfl) ?_
          refine lv_dup hx hb dX5_take_90 rfl ?_
          refine va_get (D := (dC, dI)) (ci := 5) (v := .int (I17 19 2)) (C := RX5) (T := TX5) (N := 7) hx hb hts hinX5 hown hK hP 19 cG_19 rfl 6 (by decide) (hts (.fieldLink RX5 69 "OutboxHouse$Target" "lostForRoom" "I") (by decide +kernel)) (fun _ h9 => h9) rfl dX5_take_91 ?_
          refine lv_iconst (v := 1) hx hb dX5_take_94 (by decide) ?_
          refine lv_iadd hx hb dX5_take_95 ?_
          refine va_put (D := (dC, dI)) (ci := 5) (v := .int ((I17 19 2) + 1)) (ty := .int) (C := RX5) (T := TX5) (N := 7) hx hb hts hinX5 tyX5 tyX5_ok nmX5 hown hK hP hD hS 19 cG_19 rfl 6 (by decide) (hts (.fieldLink RX5 69 "OutboxHouse$Target" "lostForRoom" "I") (by decide +kernel)) (fun _ h9 => h9) rfl (by decide +kernel) rfl rfl (Nat.le_of_ble_eq_true rfl) dX5_take_96 (fun H locs hP hD hS => ?_)
          obtain ⟨I26, hI26⟩ : ∃ z : St, z = st I17 19 2 ((I17 19 2) + 1) := ⟨_, rfl⟩
          replace hP := wP (cE_19_2 hI26) hP; replace hD := wD (cE_19_2 hI26) hD; replace h := h _ hI26
          refine lv_iconst (v := 4) hx hb dX5_take_99 (by decide) ?_
          exact W.iret (v := 4) hx hb hr (fun t ht hW => hQ _ _ t 4 I26 J18 LP19 P20 h ⟨by rw [ht]; exact hP, hD⟩ (hS.F ht)) hS.2.2 dX5_take_100
      · have h := h.2 hc
        refine lv_aload_n hx hb dX5_take_64 rfl (lv_at hl 0 rfl) ?_
        refine lv_aload_n hx hb dX5_take_65 rfl (lv_at hl 1 rfl) ?_
        refine va_callv (va_runV (As := [.ref a0]) (rest := []) ⟨hx, hb, hml, hown, hts⟩ (m_X5_doNow l dC dI cy ad A I10 J11 LP12 P13 a0 hD h) (cwV 1 hts gX5_take_X5_doNow rfl rfl rfl (by decide +kernel) ⟨Nat.le_of_ble_eq_true rfl, Nat.le_of_ble_eq_true rfl⟩) ⟨wPre.blind, va_recv hK hP (ci := 5) (q0 := 19) rfl cG_19, wPre.at hP hK hN hS hA⟩ rfl rfl hl.1 rfl (lv_room (Nat.le_of_ble_eq_true rfl)) dX5_take_66 ⟨by first | exact Nat.le_of_ble_eq_true rfl | (show _ ≤ 0; omega), by first | exact Nat.le_of_ble_eq_true rfl | (show _ ≤ 0; omega)⟩) hS (fun q _ h => h) (fun q h => h) (fun u t H locs ht hvm hw hB hz1 hk1 hS => ?_)
        obtain ⟨I28, J29, LP30, P31⟩ := u
        obtain ⟨hP, hD⟩ := hB; rw [ht] at hP; replace h := hw; try dsimp only at h hP hD
        refine lv_aload_n hx hb dX5_take_69 rfl (lv_at hl 0 rfl) ?_
        refine lv_aload_n hx hb dX5_take_70 rfl (lv_at hl 1 rfl) ?_
        have hm := h.1; replace h := h.2
        obtain ⟨q32, hq32⟩ := cG_p (ad := ad) (cy := cy) (I := I28) (J := J29) (P := P31) hm
        refine va_get (D := (dC, dI)) (ci := 0) (v := .int (P31 a0 1)) (C := RX0) (T := TX0) (N := 5) hx hb hts hinX0 hown hK hP q32 hq32 rfl 1 (by decide) (hts (.fieldLink RX5 38 "OutboxHouse$Change" "key" "I") (by decide +kernel)) (fun _ h9 => h9) rfl dX5_take_71 ?_
        refine va_callv (va_runV (As := [.int (P31 a0 1)]) (rest := []) ⟨hx, hb, hml, hown, hts⟩ (m_X5_doHeldThatFollow l dC dI cy ad A I28 J29 LP30 P31 (P31 a0 1) hD h) (cwV 1 hts gX5_take_X5_doHeldThatFollow rfl rfl rfl (by decide +kernel) ⟨Nat.le_of_ble_eq_true rfl, Nat.le_of_ble_eq_true rfl⟩) ⟨wPre.blind, va_recv hK hP (ci := 5) (q0 := 19) rfl cG_19, wPre.at hP hK hN hS hA⟩ rfl rfl hl.1 rfl (lv_room (Nat.le_of_ble_eq_true rfl)) dX5_take_74 ⟨by first | exact Nat.le_of_ble_eq_true rfl | (show _ ≤ 0; omega), by first | exact Nat.le_of_ble_eq_true rfl | (show _ ≤ 0; omega)⟩) hS (fun q _ h => h) (fun q h => h) (fun u t H locs ht hvm hw hB hz1 hk1 hS => ?_)
        obtain ⟨I34, J35, LP36, P37⟩ := u
        obtain ⟨hP, hD⟩ := hB; rw [ht] at hP; replace h := hw; try dsimp only at h hP hD
        refine lv_iconst (v := 1) hx hb dX5_take_77 (by decide) ?_
        exact W.iret (v := 1) hx hb hr (fun t ht hW => hQ _ _ t 1 I34 J35 LP36 P37 h ⟨by rw [ht]; exact hP, hD⟩ (hS.F ht)) hS.2.2 dX5_take_78
    · have h := h.2 hc
      refine lv_aload_n hx hb dX5_take_31 rfl (lv_at hl 0 rfl) ?_
      refine lv_dup hx hb dX5_take_32 rfl ?_
      refine va_get (D := (dC, dI)) (ci := 5) (v := .int (I10 19 1)) (C := RX5) (T := TX5) (N := 7) hx hb hts hinX5 hown hK hP 19 cG_19 rfl 5 (by decide) (hts (.fieldLink RX5 51 "OutboxHouse$Target" "twiceEver" "I") (by decide +kernel)) (fun _ h9 => h9) rfl dX5_take_33 ?_
      refine lv_iconst (v := 1) hx hb dX5_take_36 (by decide) ?_
      refine lv_iadd hx hb dX5_take_37 ?_
      refine va_put (D := (dC, dI)) (ci := 5) (v := .int ((I10 19 1) + 1)) (ty := .int) (C := RX5) (T := TX5) (N := 7) hx hb hts hinX5 tyX5 tyX5_ok nmX5 hown hK hP hD hS 19 cG_19 rfl 5 (by decide) (hts (.fieldLink RX5 51 "OutboxHouse$Target" "twiceEver" "I") (by decide +kernel)) (fun _ h9 => h9) rfl (by decide +kernel) rfl rfl (Nat.le_of_ble_eq_true rfl) dX5_take_38 (fun H locs hP hD hS => ?_)
      obtain ⟨I38, hI38⟩ : ∃ z : St, z = st I10 19 1 ((I10 19 1) + 1) := ⟨_, rfl⟩
      replace hP := wP (cE_19_1 hI38) hP; replace hD := wD (cE_19_1 hI38) hD; replace h := h _ hI38
      refine lv_iconst (v := 2) hx hb dX5_take_41 (by decide) ?_
      exact W.iret (v := 2) hx hb hr (fun t ht hW => hQ _ _ t 2 I38 J11 LP12 P13 h ⟨by rw [ht]; exact hP, hD⟩ (hS.F ht)) hS.2.2 dX5_take_42
theorem m_X5_take (l : Launch) (dC : Nat → ClassId) (dI : Nat → Nat → Nat) (cy : Nat → ClassId) (ad : Nat → Nat) (A : Nat → Prop) (I : St) (J : Rf) (LP : List Nat) (P : St) (a0 : Nat) {post : Int32 → St → Rf → List Nat → St → Prop} (hD : va_D A (cW ad cy I J LP P)) (h : wp_X5_take I J LP P a0 post) : Met l yX5_take wsX5_take rmX5_take (va_Pc [.ref (ad 19), .ref a0] (wPre (dC, dI) cy A (cW ad cy I J LP P))) (va_Qi (fun r (u : CS) => post r u.1 u.2.1 u.2.2.1 u.2.2.2) (fun (u : CS) t => wPost (dC, dI) A (cW ad cy u.1 u.2.1 u.2.2.1 u.2.2.2) t) A) 0 0 A := g_X5_take l dC dI cy ad A I J LP P a0 hD h (fun a s0 t r I' J' LP' P' h1 h2 h3 => ⟨⟨r, (I', J', LP', P'), rfl, h1, h2⟩, h3⟩)
