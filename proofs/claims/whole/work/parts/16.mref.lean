abbrev rmX8_whole : Room := { frames := 0, cells := 0, slots := 0, locals := 0 }
set_option maxHeartbeats 4000000 in
set_option maxRecDepth 100000 in
theorem g_X8_whole (l : Launch) (dC : Nat → ClassId) (dI : Nat → Nat → Nat) (cy : Nat → ClassId) (ad : Nat → Nat) (A : Nat → Prop) (I : St)  {post : Int32 → St → Prop} (hD : va_D A (rW ad cy I)) (h : wp_X8_whole I  post) {Qc : Array Value → State → Outcome → State → Prop} (hQ : ∀ (a : Array Value) (s0 t : State) (r : Int32) (I' : St), post r I' → wPost (dC, dI) A (rW ad cy I') t → va_F A s0 t → Qc a s0 (.returned (some (.int r))) t) : Met l yX8_whole wsX8_whole rmX8_whole (va_Pc [.ref (ad 40)] (wPre (dC, dI) cy A (rW ad cy I))) Qc 0 0 A := by
  refine Met.ofW (cc := cX8_whole) (maxL := 5) (ret := (some .int)) (by decide) rfl ?_
  intro p e s m args below meth c s₁ B hml hv
  obtain ⟨rfl, hP, hK, hN, hA⟩ := hv
  have hx := B.exec
  have hb := B.bytes
  have hr := B.returns
  have hts := atoms_spec (ws := wsX8_whole) B.pre
  have hown : s.vm.findClass RX8 = some m.cls := findClass_of_methodNamed B.named
  have hlocks := B.notSynchronized
  have hinX8 : ∀ w ∈ wsX80, w ∈ wsX8_whole := fun _ h9 => List.mem_cons_of_mem _ (List.mem_append_right _ h9)
  have hS : va_S A s.heap s.heap [] := va_S.rf
  unfold wp_X8_whole at h
  have hl := lv_entry ([.ref (ad 40)]) (n := 5) (Nat.le_of_ble_eq_true rfl)
  rw [lg_entry_eq]
  generalize (lg_sl ([.ref (ad 40)]) ++ List.replicate (5 - (lg_sl ([.ref (ad 40)])).length) Slot.unset).toArray = ls at hl ⊢
  have hl : lv_has ls 5 [(0, .ref (ad 40))] := hl
  refine lv_iconst (v := 1) hx hb dX8_whole_0 (by decide) ?_
  refine lv_istore_n (lv' := [(1, .int 1), (0, .ref (ad 40))]) hx hb dX8_whole_1 rfl hl (by decide) rfl (fun ls hl => ?_)
  refine lv_iconst (v := 0) hx hb dX8_whole_2 (by decide) ?_
  refine lv_istore_n (lv' := [(2, .int 0), (1, .int 1), (0, .ref (ad 40))]) hx hb dX8_whole_3 rfl hl (by decide) rfl (fun ls hl => ?_)
  refine lv_iconst (v := 0) hx hb dX8_whole_4 (by decide) ?_
  refine lv_istore_n (lv' := [(3, .int 0), (2, .int 0), (1, .int 1), (0, .ref (ad 40))]) hx hb dX8_whole_5 rfl hl (by decide) rfl (fun ls hl => ?_)
  obtain ⟨V1, ⟨n20, hV0⟩, hstepn2⟩ := h
  have hlpn2 : ∀ (n2 : Nat) (x3 : Int32) (x4 : Int32) (x5 : Int32) (I6 : St) (H : Heap) (locs : List Loc), va_P (dC, dI) vwCl (rW ad cy I6) H → va_D A (rW ad cy I6) → va_S A s.heap H locs → ∀ ls : Array Slot, lv_has ls 5 [(0, .ref (ad 40)), (1, .int x3), (2, .int x4), (3, .int x5)] → V1 n2 x3 x4 x5 I6 → W p l e (headSpec wsX8_whole rmX8_whole).room s m ([.ref (ad 40)] : List Value).toArray below meth c H locs 0 0 (MQ below Qc ([.ref (ad 40)] : List Value).toArray s 0 0 A) (F0 m 6 ls []) := by
    intro n2
    induction n2 using Nat.strongRecOn with
    | _ n2 ihn2 =>
      intro x3 x4 x5 I6 H locs hP hD hS ls hl hV
      have h := hstepn2 n2 x3 x4 x5 I6 hV
      refine lv_iload_n hx hb dX8_whole_6 rfl (lv_at hl 3 rfl) ?_
      refine lv_aload_n hx hb dX8_whole_7 rfl (lv_at hl 0 rfl) ?_
      refine va_get (D := (dC, dI)) (ci := 8) (v := .int (I6 6 0)) (C := RX8) (T := TX8) (N := 35) hx hb hts hinX8 hown hK hP 0 rG_o rfl 6 (by decide) (hts (.fieldLink RX8 95 "OutboxHouseModel" "flushed" "I") (by decide +kernel)) (fun _ h9 => h9) rfl dX8_whole_8 ?_
      refine lv_icmp_ge (tgt := 74) hx hb dX8_whole_11 (by decide) (fun hc => ?_) (fun hc => ?_)
      · have h := h.1 hc
        refine lv_iload_n hx hb dX8_whole_74 rfl (lv_at hl 1 rfl) ?_
        refine lv_if_eq (tgt := 82) hx hb dX8_whole_75 (by decide) (fun hc => ?_) (fun hc => ?_)
        · have h := h.1 hc
          refine lv_iconst (v := 0) hx hb dX8_whole_82 (by decide) ?_
          exact W.iret (v := 0) hx hb hr (fun t ht hW => hQ _ _ t 0 I6 h ⟨by rw [ht]; exact hP, hD⟩ (hS.F ht)) hS.2.2 dX8_whole_83
        · have h := h.2 hc
          refine lv_iconst (v := 1) hx hb dX8_whole_78 (by decide) ?_
          refine lv_goto (tgt := 83) hx hb dX8_whole_79 (by decide) ?_
          exact W.iret (v := 1) hx hb hr (fun t ht hW => hQ _ _ t 1 I6 h ⟨by rw [ht]; exact hP, hD⟩ (hS.F ht)) hS.2.2 dX8_whole_83
      · have h := h.2 hc
        refine lv_aload_n hx hb dX8_whole_14 rfl (lv_at hl 0 rfl) ?_
        refine va_get (D := (dC, dI)) (ci := 8) (v := .ref (ad 11)) (C := RX8) (T := TX8) (N := 35) hx hb hts hinX8 hown hK hP 0 rG_o rfl 11 (by decide) (hts (.fieldLink RX8 35 "OutboxHouseModel" "isLast" "[Z") (by decide +kernel)) (fun _ h9 => h9) rfl dX8_whole_15 ?_
        refine lv_iload_n hx hb dX8_whole_18 rfl (lv_at hl 3 rfl) ?_
        have hv := h.1; replace h := h.2
        refine va_zald hx hb hK hP 9 1 rG_11 rfl hv dX8_whole_19 ?_
        refine lv_if_eq (tgt := 68) hx hb dX8_whole_20 (by decide) (fun hc => ?_) (fun hc => ?_)
        · have h := h.1 hc
          refine lv_iinc (v := x5 + 1) (lv' := [(3, .int (x5 + 1)), (0, .ref (ad 40)), (1, .int x3), (2, .int x4)]) hx hb dX8_whole_68 hl (k := 3) rfl rfl (by decide) rfl (fun ls hl => ?_)
          refine lv_goto (tgt := 6) hx hb dX8_whole_71 (by decide) ?_
          obtain ⟨n7, hlt, hV⟩ := h
          exact ihn2 n7 hlt _ _ _ _ _ _ hP hD hS ls (lv_sub hl [1, 2, 3, 0] rfl) hV
        · have h := h.2 hc
          refine lv_iload_n hx hb dX8_whole_23 rfl (lv_at hl 2 rfl) ?_
          refine lv_istore (lv' := [(4, .int x4), (0, .ref (ad 40)), (1, .int x3), (2, .int x4), (3, .int x5)]) hx hb dX8_whole_24 hl (by decide) rfl (fun ls hl => ?_)
          obtain ⟨V8, ⟨n90, hV0⟩, hstepn9⟩ := h
          have hlpn9 : ∀ (n9 : Nat) (x10 : Int32) (x11 : Int32) (I12 : St) (H : Heap) (locs : List Loc), va_P (dC, dI) vwCl (rW ad cy I12) H → va_D A (rW ad cy I12) → va_S A s.heap H locs → ∀ ls : Array Slot, lv_has ls 5 [(0, .ref (ad 40)), (1, .int x10), (2, .int x4), (3, .int x5), (4, .int x11)] → V8 n9 x10 x11 I12 → W p l e (headSpec wsX8_whole rmX8_whole).room s m ([.ref (ad 40)] : List Value).toArray below meth c H locs 0 0 (MQ below Qc ([.ref (ad 40)] : List Value).toArray s 0 0 A) (F0 m 26 ls []) := by
            intro n9
            induction n9 using Nat.strongRecOn with
            | _ n9 ihn9 =>
              intro x10 x11 I12 H locs hP hD hS ls hl hV
              have h := hstepn9 n9 x10 x11 I12 hV
              refine lv_iload hx hb dX8_whole_26 (lv_at hl 4 rfl) ?_
              refine lv_iload_n hx hb dX8_whole_28 rfl (lv_at hl 3 rfl) ?_
              refine lv_icmp_gt (tgt := 64) hx hb dX8_whole_29 (by decide) (fun hc => ?_) (fun hc => ?_)
              · have h := h.1 hc
                refine lv_iload_n hx hb dX8_whole_64 rfl (lv_at hl 3 rfl) ?_
                refine lv_iconst (v := 1) hx hb dX8_whole_65 (by decide) ?_
                refine lv_iadd hx hb dX8_whole_66 ?_
                refine lv_istore_n (lv' := [(2, .int (x5 + 1)), (0, .ref (ad 40)), (1, .int x10), (3, .int x5), (4, .int x11)]) hx hb dX8_whole_67 rfl hl (by decide) rfl (fun ls hl => ?_)
                refine lv_iinc (v := x5 + 1) (lv' := [(3, .int (x5 + 1)), (2, .int (x5 + 1)), (0, .ref (ad 40)), (1, .int x10), (4, .int x11)]) hx hb dX8_whole_68 hl (k := 3) rfl rfl (by decide) rfl (fun ls hl => ?_)
                refine lv_goto (tgt := 6) hx hb dX8_whole_71 (by decide) ?_
                obtain ⟨n13, hlt, hV⟩ := h
                exact ihn2 n13 hlt _ _ _ _ _ _ hP hD hS ls (lv_sub hl [2, 3, 1, 0] rfl) hV
              · have h := h.2 hc
                refine lv_iload_n hx hb dX8_whole_32 rfl (lv_at hl 1 rfl) ?_
                refine lv_if_eq (tgt := 56) hx hb dX8_whole_33 (by decide) (fun hc => ?_) (fun hc => ?_)
                · have h := h.1 hc
                  refine lv_iconst (v := 0) hx hb dX8_whole_56 (by decide) ?_
                  refine lv_istore_n (lv' := [(1, .int 0), (0, .ref (ad 40)), (2, .int x4), (3, .int x5), (4, .int x11)]) hx hb dX8_whole_57 rfl hl (by decide) rfl (fun ls hl => ?_)
                  refine lv_iinc (v := x11 + 1) (lv' := [(4, .int (x11 + 1)), (1, .int 0), (0, .ref (ad 40)), (2, .int x4), (3, .int x5)]) hx hb dX8_whole_58 hl (k := 4) rfl rfl (by decide) rfl (fun ls hl => ?_)
                  refine lv_goto (tgt := 26) hx hb dX8_whole_61 (by decide) ?_
                  obtain ⟨n14, hlt, hV⟩ := h
                  exact ihn9 n14 hlt _ _ _ _ _ hP hD hS ls (lv_sub hl [2, 1, 3, 4, 0] rfl) hV
                · have h := h.2 hc
                  refine lv_aload_n hx hb dX8_whole_36 rfl (lv_at hl 0 rfl) ?_
                  refine va_get (D := (dC, dI)) (ci := 8) (v := .ref (ad 24)) (C := RX8) (T := TX8) (N := 35) hx hb hts hinX8 hown hK hP 0 rG_o rfl 24 (by decide) (hts (.fieldLink RX8 68 "OutboxHouseModel" "hasDisk" "[Z") (by decide +kernel)) (fun _ h9 => h9) rfl dX8_whole_37 ?_
                  refine lv_iload hx hb dX8_whole_40 (lv_at hl 4 rfl) ?_
                  have hv := h.1; replace h := h.2
                  refine va_zald hx hb hK hP 20 1 rG_24 rfl hv dX8_whole_42 ?_
                  refine lv_aload_n hx hb dX8_whole_43 rfl (lv_at hl 0 rfl) ?_
                  refine va_get (D := (dC, dI)) (ci := 8) (v := .ref (ad 24)) (C := RX8) (T := TX8) (N := 35) hx hb hts hinX8 hown hK hP 0 rG_o rfl 24 (by decide) (hts (.fieldLink RX8 68 "OutboxHouseModel" "hasDisk" "[Z") (by decide +kernel)) (fun _ h9 => h9) rfl dX8_whole_44 ?_
                  refine lv_iload_n hx hb dX8_whole_47 rfl (lv_at hl 3 rfl) ?_
                  have hv := h.1; replace h := h.2
                  refine va_zald hx hb hK hP 20 1 rG_24 rfl hv dX8_whole_48 ?_
                  refine lv_icmp_ne (tgt := 56) hx hb dX8_whole_49 (by decide) (fun hc => ?_) (fun hc => ?_)
                  · have h := h.1 hc
                    refine lv_iconst (v := 0) hx hb dX8_whole_56 (by decide) ?_
                    refine lv_istore_n (lv' := [(1, .int 0), (0, .ref (ad 40)), (2, .int x4), (3, .int x5), (4, .int x11)]) hx hb dX8_whole_57 rfl hl (by decide) rfl (fun ls hl => ?_)
                    refine lv_iinc (v := x11 + 1) (lv' := [(4, .int (x11 + 1)), (1, .int 0), (0, .ref (ad 40)), (2, .int x4), (3, .int x5)]) hx hb dX8_whole_58 hl (k := 4) rfl rfl (by decide) rfl (fun ls hl => ?_)
                    refine lv_goto (tgt := 26) hx hb dX8_whole_61 (by decide) ?_
                    obtain ⟨n15, hlt, hV⟩ := h
                    exact ihn9 n15 hlt _ _ _ _ _ hP hD hS ls (lv_sub hl [2, 1, 3, 4, 0] rfl) hV
                  · have h := h.2 hc
                    refine lv_iconst (v := 1) hx hb dX8_whole_52 (by decide) ?_
                    refine lv_goto (tgt := 57) hx hb dX8_whole_53 (by decide) ?_
                    refine lv_istore_n (lv' := [(1, .int 1), (0, .ref (ad 40)), (2, .int x4), (3, .int x5), (4, .int x11)]) hx hb dX8_whole_57 rfl hl (by decide) rfl (fun ls hl => ?_)
                    refine lv_iinc (v := x11 + 1) (lv' := [(4, .int (x11 + 1)), (1, .int 1), (0, .ref (ad 40)), (2, .int x4), (3, .int x5)]) hx hb dX8_whole_58 hl (k := 4) rfl rfl (by decide) rfl (fun ls hl => ?_)
                    refine lv_goto (tgt := 26) hx hb dX8_whole_61 (by decide) ?_
                    obtain ⟨n16, hlt, hV⟩ := h
                    exact ihn9 n16 hlt _ _ _ _ _ hP hD hS ls (lv_sub hl [2, 1, 3, 4, 0] rfl) hV
          exact hlpn9 n90 _ _ _ _ _ hP hD hS ls (lv_sub hl [1, 2, 3, 4, 0] rfl) hV0
  exact hlpn2 n20 _ _ _ _ _ _ hP hD hS ls (lv_sub hl [3, 2, 1, 0] rfl) hV0
theorem m_X8_whole (l : Launch) (dC : Nat → ClassId) (dI : Nat → Nat → Nat) (cy : Nat → ClassId) (ad : Nat → Nat) (A : Nat → Prop) (I : St)  {post : Int32 → St → Prop} (hD : va_D A (rW ad cy I)) (h : wp_X8_whole I  post) : Met l yX8_whole wsX8_whole rmX8_whole (va_Pc [.ref (ad 40)] (wPre (dC, dI) cy A (rW ad cy I))) (va_Qi (fun r (u : St) => post r u) (fun (u : St) t => wPost (dC, dI) A (rW ad cy u) t) A) 0 0 A := g_X8_whole l dC dI cy ad A I  hD h (fun a s0 t r I' h1 h2 h3 => ⟨⟨r, I', rfl, h1, h2⟩, h3⟩)
abbrev rmX8_hasPrefix : Room := { frames := 0, cells := 0, slots := 0, locals := 0 }
set_option maxHeartbeats 4000000 in
set_option maxRecDepth 100000 in
theorem g_X8_hasPrefix (l : Launch) (dC : Nat → ClassId) (dI : Nat → Nat → Nat) (cy : Nat → ClassId) (ad : Nat → Nat) (A : Nat → Prop) (I : St) (p1 : Int32) (p2 : Int32) (p3 : Int32) {post : Int32 → St → Prop} (hD : va_D A (rW ad cy I)) (h : wp_X8_hasPrefix I p1 p2 p3 post) {Qc : Array Value → State → Outcome → State → Prop} (hQ : ∀ (a : Array Value) (s0 t : State) (r : Int32) (I' : St), post r I' → wPost (dC, dI) A (rW ad cy I') t → va_F A s0 t → Qc a s0 (.returned (some (.int r))) t) : Met l yX8_hasPrefix wsX8_hasPrefix rmX8_hasPrefix (va_Pc [.ref (ad 40), .int p1, .int p2, .int p3] (wPre (dC, dI) cy A (rW ad cy I))) Qc 0 0 A := by
  refine Met.ofW (cc := cX8_hasPrefix) (maxL := 6) (ret := (some .boolean)) (by decide) rfl ?_
  intro p e s m args below meth c s₁ B hml hv
  obtain ⟨rfl, hP, hK, hN, hA⟩ := hv
  have hx := B.exec
  have hb := B.bytes
  have hr := B.returns
  have hts := atoms_spec (ws := wsX8_hasPrefix) B.pre
  have hown : s.vm.findClass RX8 = some m.cls := findClass_of_methodNamed B.named
  have hlocks := B.notSynchronized
  have hinX8 : ∀ w ∈ wsX80, w ∈ wsX8_hasPrefix := fun _ h9 => List.mem_cons_of_mem _ (List.mem_append_right _ h9)
  have hS : va_S A s.heap s.heap [] := va_S.rf
  unfold wp_X8_hasPrefix at h
  have hl := lv_entry ([.ref (ad 40), .int p1, .int p2, .int p3]) (n := 6) (Nat.le_of_ble_eq_true rfl)
  rw [lg_entry_eq]
  generalize (lg_sl ([.ref (ad 40), .int p1, .int p2, .int p3]) ++ List.replicate (6 - (lg_sl ([.ref (ad 40), .int p1, .int p2, .int p3])).length) Slot.unset).toArray = ls at hl ⊢
  have hl : lv_has ls 6 [(0, .ref (ad 40)), (1, .int p1), (2, .int p2), (3, .int p3)] := hl
  refine lv_iconst (v := 0) hx hb dX8_hasPrefix_0 (by decide) ?_
  refine lv_istore (lv' := [(4, .int 0), (0, .ref (ad 40)), (1, .int p1), (2, .int p2), (3, .int p3)]) hx hb dX8_hasPrefix_1 hl (by decide) rfl (fun ls hl => ?_)
  refine lv_iconst (v := 0) hx hb dX8_hasPrefix_3 (by decide) ?_
  refine lv_istore (lv' := [(5, .int 0), (4, .int 0), (0, .ref (ad 40)), (1, .int p1), (2, .int p2), (3, .int p3)]) hx hb dX8_hasPrefix_4 hl (by decide) rfl (fun ls hl => ?_)
  obtain ⟨V1, ⟨n20, hV0⟩, hstepn2⟩ := h
  have hlpn2 : ∀ (n2 : Nat) (x3 : Int32) (x4 : Int32) (I5 : St) (H : Heap) (locs : List Loc), va_P (dC, dI) vwCl (rW ad cy I5) H → va_D A (rW ad cy I5) → va_S A s.heap H locs → ∀ ls : Array Slot, lv_has ls 6 [(0, .ref (ad 40)), (1, .int p1), (2, .int p2), (3, .int p3), (4, .int x3), (5, .int x4)] → V1 n2 x3 x4 I5 → W p l e (headSpec wsX8_hasPrefix rmX8_hasPrefix).room s m ([.ref (ad 40), .int p1, .int p2, .int p3] : List Value).toArray below meth c H locs 0 0 (MQ below Qc ([.ref (ad 40), .int p1, .int p2, .int p3] : List Value).toArray s 0 0 A) (F0 m 6 ls []) := by
    intro n2
    induction n2 using Nat.strongRecOn with
    | _ n2 ihn2 =>
      intro x3 x4 I5 H locs hP hD hS ls hl hV
      have h := hstepn2 n2 x3 x4 I5 hV
      refine lv_iload hx hb dX8_hasPrefix_6 (lv_at hl 5 rfl) ?_
      refine lv_aload_n hx hb dX8_hasPrefix_8 rfl (lv_at hl 0 rfl) ?_
      refine va_get (D := (dC, dI)) (ci := 8) (v := .int (I5 6 0)) (C := RX8) (T := TX8) (N := 35) hx hb hts hinX8 hown hK hP 0 rG_o rfl 6 (by decide) (hts (.fieldLink RX8 95 "OutboxHouseModel" "flushed" "I") (by decide +kernel)) (fun _ h9 => h9) rfl dX8_hasPrefix_9 ?_
      refine lv_icmp_ge (tgt := 57) hx hb dX8_hasPrefix_12 (by decide) (fun hc => ?_) (fun hc => ?_)
      · have h := h.1 hc
        refine lv_iload hx hb dX8_hasPrefix_57 (lv_at hl 4 rfl) ?_
        refine lv_iload_n hx hb dX8_hasPrefix_59 rfl (lv_at hl 3 rfl) ?_
        refine lv_icmp_ne (tgt := 67) hx hb dX8_hasPrefix_60 (by decide) (fun hc => ?_) (fun hc => ?_)
        · have h := h.1 hc
          refine lv_iconst (v := 0) hx hb dX8_hasPrefix_67 (by decide) ?_
          exact W.zret (v := 0) (ty := .boolean) hx hb hr rfl (fun t ht hW => hQ _ _ t 0 I5 h ⟨by rw [ht]; exact hP, hD⟩ (hS.F ht)) hS.2.2 dX8_hasPrefix_68
        · have h := h.2 hc
          refine lv_iconst (v := 1) hx hb dX8_hasPrefix_63 (by decide) ?_
          refine lv_goto (tgt := 68) hx hb dX8_hasPrefix_64 (by decide) ?_
          exact W.zret (v := 1) (ty := .boolean) hx hb hr rfl (fun t ht hW => hQ _ _ t 1 I5 h ⟨by rw [ht]; exact hP, hD⟩ (hS.F ht)) hS.2.2 dX8_hasPrefix_68
      · have h := h.2 hc
        refine lv_aload_n hx hb dX8_hasPrefix_15 rfl (lv_at hl 0 rfl) ?_
        refine va_get (D := (dC, dI)) (ci := 8) (v := .ref (ad 8)) (C := RX8) (T := TX8) (N := 35) hx hb hts hinX8 hown hK hP 0 rG_o rfl 8 (by decide) (hts (.fieldLink RX8 26 "OutboxHouseModel" "logKey" "[I") (by decide +kernel)) (fun _ h9 => h9) rfl dX8_hasPrefix_16 ?_
        refine lv_iload hx hb dX8_hasPrefix_19 (lv_at hl 5 rfl) ?_
        have hv := h.1; replace h := h.2
        refine va_iald hx hb hK hP 6 0 rG_8 rfl hv dX8_hasPrefix_21 ?_
        refine lv_iload_n hx hb dX8_hasPrefix_22 rfl (lv_at hl 1 rfl) ?_
        refine lv_icmp_ne (tgt := 47) hx hb dX8_hasPrefix_23 (by decide) (fun hc => ?_) (fun hc => ?_)
        · have h := h.1 hc
          refine lv_iload hx hb dX8_hasPrefix_47 (lv_at hl 4 rfl) ?_
          refine lv_istore (lv' := [(4, .int x3), (0, .ref (ad 40)), (1, .int p1), (2, .int p2), (3, .int p3), (5, .int x4)]) hx hb dX8_hasPrefix_49 hl (by decide) rfl (fun ls hl => ?_)
          refine lv_iinc (v := x4 + 1) (lv' := [(5, .int (x4 + 1)), (4, .int x3), (0, .ref (ad 40)), (1, .int p1), (2, .int p2), (3, .int p3)]) hx hb dX8_hasPrefix_51 hl (k := 5) rfl rfl (by decide) rfl (fun ls hl => ?_)
          refine lv_goto (tgt := 6) hx hb dX8_hasPrefix_54 (by decide) ?_
          obtain ⟨n6, hlt, hV⟩ := h
          exact ihn2 n6 hlt _ _ _ _ _ hP hD hS ls (lv_sub hl [2, 3, 4, 5, 1, 0] rfl) hV
        · have h := h.2 hc
          refine lv_aload_n hx hb dX8_hasPrefix_26 rfl (lv_at hl 0 rfl) ?_
          refine va_get (D := (dC, dI)) (ci := 8) (v := .ref (ad 10)) (C := RX8) (T := TX8) (N := 35) hx hb hts hinX8 hown hK hP 0 rG_o rfl 10 (by decide) (hts (.fieldLink RX8 32 "OutboxHouseModel" "logOrder" "[I") (by decide +kernel)) (fun _ h9 => h9) rfl dX8_hasPrefix_27 ?_
          refine lv_iload hx hb dX8_hasPrefix_30 (lv_at hl 5 rfl) ?_
          have hv := h.1; replace h := h.2
          refine va_iald hx hb hK hP 8 0 rG_10 rfl hv dX8_hasPrefix_32 ?_
          refine lv_iload_n hx hb dX8_hasPrefix_33 rfl (lv_at hl 2 rfl) ?_
          refine lv_icmp_ne (tgt := 47) hx hb dX8_hasPrefix_34 (by decide) (fun hc => ?_) (fun hc => ?_)
          · have h := h.1 hc
            refine lv_iload hx hb dX8_hasPrefix_47 (lv_at hl 4 rfl) ?_
            refine lv_istore (lv' := [(4, .int x3), (0, .ref (ad 40)), (1, .int p1), (2, .int p2), (3, .int p3), (5, .int x4)]) hx hb dX8_hasPrefix_49 hl (by decide) rfl (fun ls hl => ?_)
            refine lv_iinc (v := x4 + 1) (lv' := [(5, .int (x4 + 1)), (4, .int x3), (0, .ref (ad 40)), (1, .int p1), (2, .int p2), (3, .int p3)]) hx hb dX8_hasPrefix_51 hl (k := 5) rfl rfl (by decide) rfl (fun ls hl => ?_)
            refine lv_goto (tgt := 6) hx hb dX8_hasPrefix_54 (by decide) ?_
            obtain ⟨n7, hlt, hV⟩ := h
            exact ihn2 n7 hlt _ _ _ _ _ hP hD hS ls (lv_sub hl [2, 3, 4, 5, 1, 0] rfl) hV
          · have h := h.2 hc
            refine lv_aload_n hx hb dX8_hasPrefix_37 rfl (lv_at hl 0 rfl) ?_
            refine va_get (D := (dC, dI)) (ci := 8) (v := .ref (ad 9)) (C := RX8) (T := TX8) (N := 35) hx hb hts hinX8 hown hK hP 0 rG_o rfl 9 (by decide) (hts (.fieldLink RX8 29 "OutboxHouseModel" "logValue" "[I") (by decide +kernel)) (fun _ h9 => h9) rfl dX8_hasPrefix_38 ?_
            refine lv_iload hx hb dX8_hasPrefix_41 (lv_at hl 5 rfl) ?_
            have hv := h.1; replace h := h.2
            refine va_iald hx hb hK hP 7 0 rG_9 rfl hv dX8_hasPrefix_43 ?_
            refine lv_goto (tgt := 49) hx hb dX8_hasPrefix_44 (by decide) ?_
            refine lv_istore (lv' := [(4, .int (I5 9 x4.toNatClampNeg)), (0, .ref (ad 40)), (1, .int p1), (2, .int p2), (3, .int p3), (5, .int x4)]) hx hb dX8_hasPrefix_49 hl (by decide) rfl (fun ls hl => ?_)
            refine lv_iinc (v := x4 + 1) (lv' := [(5, .int (x4 + 1)), (4, .int (I5 9 x4.toNatClampNeg)), (0, .ref (ad 40)), (1, .int p1), (2, .int p2), (3, .int p3)]) hx hb dX8_hasPrefix_51 hl (k := 5) rfl rfl (by decide) rfl (fun ls hl => ?_)
            refine lv_goto (tgt := 6) hx hb dX8_hasPrefix_54 (by decide) ?_
            obtain ⟨n8, hlt, hV⟩ := h
            exact ihn2 n8 hlt _ _ _ _ _ hP hD hS ls (lv_sub hl [2, 3, 4, 5, 1, 0] rfl) hV
  exact hlpn2 n20 _ _ _ _ _ hP hD hS ls (lv_sub hl [2, 3, 4, 5, 1, 0] rfl) hV0
theorem m_X8_hasPrefix (l : Launch) (dC : Nat → ClassId) (dI : Nat → Nat → Nat) (cy : Nat → ClassId) (ad : Nat → Nat) (A : Nat → Prop) (I : St) (p1 : Int32) (p2 : Int32) (p3 : Int32) {post : Int32 → St → Prop} (hD : va_D A (rW ad cy I)) (h : wp_X8_hasPrefix I p1 p2 p3 post) : Met l yX8_hasPrefix wsX8_hasPrefix rmX8_hasPrefix (va_Pc [.ref (ad 40), .int p1, .int p2, .int p3] (wPre (dC, dI) cy A (rW ad cy I))) (va_Qi (fun r (u : St) => post r u) (fun (u : St) t => wPost (dC, dI) A (rW ad cy u) t) A) 0 0 A := g_X8_hasPrefix l dC dI cy ad A I p1 p2 p3 hD h (fun a s0 t r I' h1 h2 h3 => ⟨⟨r, I', rfl, h1, h2⟩, h3⟩)
abbrev rmX8_prefix : Room := { frames := 1, cells := 0, slots := 0, locals := 25 }
set_option maxHeartbeats 4000000 in
set_option maxRecDepth 100000 in
theorem g_X8_prefix (l : Launch) (dC : Nat → ClassId) (dI : Nat → Nat → Nat) (cy : Nat → ClassId) (ad : Nat → Nat) (A : Nat → Prop) (I : St) (p1 : Int32) {post : Int32 → St → Prop} (hD : va_D A (rW ad cy I)) (h : wp_X8_prefix I p1 post) {Qc : Array Value → State → Outcome → State → Prop} (hQ : ∀ (a : Array Value) (s0 t : State) (r : Int32) (I' : St), post r I' → wPost (dC, dI) A (rW ad cy I') t → va_F A s0 t → Qc a s0 (.returned (some (.int r))) t) : Met l yX8_prefix wsX8_prefix rmX8_prefix (va_Pc [.ref (ad 40), .int p1] (wPre (dC, dI) cy A (rW ad cy I))) Qc 0 0 A := by
  refine Met.ofW (cc := cX8_prefix) (maxL := 4) (ret := (some .int)) (by decide) rfl ?_
  intro p e s m args below meth c s₁ B hml hv
  obtain ⟨rfl, hP, hK, hN, hA⟩ := hv
  have hx := B.exec
  have hb := B.bytes
  have hr := B.returns
  have hts := atoms_spec (ws := wsX8_prefix) B.pre
  have hown : s.vm.findClass RX8 = some m.cls := findClass_of_methodNamed B.named
  have hlocks := B.notSynchronized
  have hinX8 : ∀ w ∈ wsX80, w ∈ wsX8_prefix := fun _ h9 => List.mem_cons_of_mem _ (List.mem_append_right _ h9)
  have hS : va_S A s.heap s.heap [] := va_S.rf
  unfold wp_X8_prefix at h
  have hl := lv_entry ([.ref (ad 40), .int p1]) (n := 4) (Nat.le_of_ble_eq_true rfl)
  rw [lg_entry_eq]
  generalize (lg_sl ([.ref (ad 40), .int p1]) ++ List.replicate (4 - (lg_sl ([.ref (ad 40), .int p1])).length) Slot.unset).toArray = ls at hl ⊢
  have hl : lv_has ls 4 [(0, .ref (ad 40)), (1, .int p1)] := hl
  refine lv_iload_n hx hb dX8_prefix_0 rfl (lv_at hl 1 rfl) ?_
  refine lv_iconst (v := 0) hx hb dX8_prefix_1 (by decide) ?_
  refine lv_iconst (v := 1) hx hb dX8_prefix_2 (by decide) ?_
  refine va_calli (va_runS (As := [.int p1, .int 0, .int 1]) (rest := []) ⟨hx, hb, hml, hown, hts⟩ (m_X8_in l dC dI cy ad A I p1 0 1 hD h) (va_cwS 3 hts gX8_prefix_X8_in rfl rfl rfl (by decide +kernel) ⟨Nat.le_of_ble_eq_true rfl, Nat.le_of_ble_eq_true rfl⟩) ⟨wPre.blind, wPre.at hP hK hN hS hA⟩ rfl rfl hl.1 rfl (lv_room (Nat.le_of_ble_eq_true rfl)) dX8_prefix_3 ⟨by first | exact Nat.le_of_ble_eq_true rfl | (show _ ≤ 0; omega), by first | exact Nat.le_of_ble_eq_true rfl | (show _ ≤ 0; omega)⟩) hS (fun q _ h => h) (fun q h => h) (fun r1 u t H locs ht hvm hw hB hz1 hk1 hS => ?_)
  obtain ⟨I2, rfl⟩ : ∃ z : St, z = u := ⟨_, rfl⟩
  obtain ⟨hP, hD⟩ := hB; rw [ht] at hP; replace h := hw; try dsimp only at h hP hD
  refine lv_if_ne (tgt := 11) hx hb dX8_prefix_6 (by decide) (fun hc => ?_) (fun hc => ?_)
  · have h := h.1 hc
    refine lv_iconst (v := 1) hx hb dX8_prefix_11 (by decide) ?_
    refine lv_istore_n (lv' := [(2, .int 1), (0, .ref (ad 40)), (1, .int p1)]) hx hb dX8_prefix_12 rfl hl (by decide) rfl (fun ls hl => ?_)
    refine lv_iconst (v := 0) hx hb dX8_prefix_13 (by decide) ?_
    refine lv_istore_n (lv' := [(3, .int 0), (2, .int 1), (0, .ref (ad 40)), (1, .int p1)]) hx hb dX8_prefix_14 rfl hl (by decide) rfl (fun ls hl => ?_)
    obtain ⟨V3, ⟨n40, hV0⟩, hstepn4⟩ := h
    have hlpn4 : ∀ (n4 : Nat) (x5 : Int32) (x6 : Int32) (I7 : St) (H : Heap) (locs : List Loc), va_P (dC, dI) vwCl (rW ad cy I7) H → va_D A (rW ad cy I7) → va_S A s.heap H locs → ∀ ls : Array Slot, lv_has ls 4 [(0, .ref (ad 40)), (1, .int p1), (2, .int x5), (3, .int x6)] → V3 n4 x5 x6 I7 → W p l e (headSpec wsX8_prefix rmX8_prefix).room s m ([.ref (ad 40), .int p1] : List Value).toArray below meth c H locs 0 0 (MQ below Qc ([.ref (ad 40), .int p1] : List Value).toArray s 0 0 A) (F0 m 15 ls []) := by
      intro n4
      induction n4 using Nat.strongRecOn with
      | _ n4 ihn4 =>
        intro x5 x6 I7 H locs hP hD hS ls hl hV
        have h := hstepn4 n4 x5 x6 I7 hV
        refine lv_iload_n hx hb dX8_prefix_15 rfl (lv_at hl 3 rfl) ?_
        refine lv_bipush (v := 6) hx hb dX8_prefix_16 (by decide) ?_
        refine lv_icmp_ge (tgt := 84) hx hb dX8_prefix_18 (by decide) (fun hc => ?_) (fun hc => ?_)
        · have h := h.1 hc
          refine lv_iload_n hx hb dX8_prefix_84 rfl (lv_at hl 2 rfl) ?_
          refine lv_if_eq (tgt := 92) hx hb dX8_prefix_85 (by decide) (fun hc => ?_) (fun hc => ?_)
          · have h := h.1 hc
            refine lv_iconst (v := 0) hx hb dX8_prefix_92 (by decide) ?_
            exact W.iret (v := 0) hx hb hr (fun t ht hW => hQ _ _ t 0 I7 h ⟨by rw [ht]; exact hP, hD⟩ (hS.F ht)) hS.2.2 dX8_prefix_93
          · have h := h.2 hc
            refine lv_iconst (v := 1) hx hb dX8_prefix_88 (by decide) ?_
            refine lv_goto (tgt := 93) hx hb dX8_prefix_89 (by decide) ?_
            exact W.iret (v := 1) hx hb hr (fun t ht hW => hQ _ _ t 1 I7 h ⟨by rw [ht]; exact hP, hD⟩ (hS.F ht)) hS.2.2 dX8_prefix_93
        · have h := h.2 hc
          refine lv_iload_n hx hb dX8_prefix_21 rfl (lv_at hl 2 rfl) ?_
          refine lv_if_eq (tgt := 76) hx hb dX8_prefix_22 (by decide) (fun hc => ?_) (fun hc => ?_)
          · have h := h.1 hc
            refine lv_iconst (v := 0) hx hb dX8_prefix_76 (by decide) ?_
            refine lv_istore_n (lv' := [(2, .int 0), (0, .ref (ad 40)), (1, .int p1), (3, .int x6)]) hx hb dX8_prefix_77 rfl hl (by decide) rfl (fun ls hl => ?_)
            refine lv_iinc (v := x6 + 1) (lv' := [(3, .int (x6 + 1)), (2, .int 0), (0, .ref (ad 40)), (1, .int p1)]) hx hb dX8_prefix_78 hl (k := 3) rfl rfl (by decide) rfl (fun ls hl => ?_)
            refine lv_goto (tgt := 15) hx hb dX8_prefix_81 (by decide) ?_
            obtain ⟨n8, hlt, hV⟩ := h
            exact ihn4 n8 hlt _ _ _ _ _ hP hD hS ls (lv_sub hl [2, 3, 1, 0] rfl) hV
          · have h := h.2 hc
            refine lv_iload_n hx hb dX8_prefix_25 rfl (lv_at hl 1 rfl) ?_
            refine lv_if_ne (tgt := 52) hx hb dX8_prefix_26 (by decide) (fun hc => ?_) (fun hc => ?_)
            · have h := h.1 hc
              refine lv_aload_n hx hb dX8_prefix_52 rfl (lv_at hl 0 rfl) ?_
              refine lv_iload_n hx hb dX8_prefix_53 rfl (lv_at hl 3 rfl) ?_
              refine lv_aload_n hx hb dX8_prefix_54 rfl (lv_at hl 0 rfl) ?_
              refine va_get (D := (dC, dI)) (ci := 8) (v := .ref (ad 23)) (C := RX8) (T := TX8) (N := 35) hx hb hts hinX8 hown hK hP 0 rG_o rfl 23 (by decide) (hts (.fieldLink RX8 65 "OutboxHouseModel" "doneDisk" "[I") (by decide +kernel)) (fun _ h9 => h9) rfl dX8_prefix_55 ?_
              refine lv_iload_n hx hb dX8_prefix_58 rfl (lv_at hl 3 rfl) ?_
              have hv := h.1; replace h := h.2
              refine va_iald hx hb hK hP 19 0 rG_23 rfl hv dX8_prefix_59 ?_
              refine lv_aload_n hx hb dX8_prefix_60 rfl (lv_at hl 0 rfl) ?_
              refine va_get (D := (dC, dI)) (ci := 8) (v := .ref (ad 22)) (C := RX8) (T := TX8) (N := 35) hx hb hts hinX8 hown hK hP 0 rG_o rfl 22 (by decide) (hts (.fieldLink RX8 62 "OutboxHouseModel" "valueDisk" "[I") (by decide +kernel)) (fun _ h9 => h9) rfl dX8_prefix_61 ?_
              refine lv_iload_n hx hb dX8_prefix_64 rfl (lv_at hl 3 rfl) ?_
              have hv := h.1; replace h := h.2
              refine va_iald hx hb hK hP 18 0 rG_22 rfl hv dX8_prefix_65 ?_
              refine va_calli (va_runV (As := [.int x6, .int (I7 23 x6.toNatClampNeg), .int (I7 22 x6.toNatClampNeg)]) (rest := []) ⟨hx, hb, hml, hown, hts⟩ (m_X8_hasPrefix l dC dI cy ad A I7 x6 (I7 23 x6.toNatClampNeg) (I7 22 x6.toNatClampNeg) hD h) (cwV 3 hts gX8_prefix_X8_hasPrefix rfl rfl rfl (by decide +kernel) ⟨Nat.le_of_ble_eq_true rfl, Nat.le_of_ble_eq_true rfl⟩) ⟨wPre.blind, va_recv hK hP (ci := 8) (q0 := 0) rfl rG_o, wPre.at hP hK hN hS hA⟩ rfl rfl hl.1 rfl (lv_room (Nat.le_of_ble_eq_true rfl)) dX8_prefix_66 ⟨by first | exact Nat.le_of_ble_eq_true rfl | (show _ ≤ 0; omega), by first | exact Nat.le_of_ble_eq_true rfl | (show _ ≤ 0; omega)⟩) hS (fun q _ h => h) (fun q h => h) (fun r9 u t H locs ht hvm hw hB hz1 hk1 hS => ?_)
              obtain ⟨I10, rfl⟩ : ∃ z : St, z = u := ⟨_, rfl⟩
              obtain ⟨hP, hD⟩ := hB; rw [ht] at hP; replace h := hw; try dsimp only at h hP hD
              refine lv_if_eq (tgt := 76) hx hb dX8_prefix_69 (by decide) (fun hc => ?_) (fun hc => ?_)
              · have h := h.1 hc
                refine lv_iconst (v := 0) hx hb dX8_prefix_76 (by decide) ?_
                refine lv_istore_n (lv' := [(2, .int 0), (0, .ref (ad 40)), (1, .int p1), (3, .int x6)]) hx hb dX8_prefix_77 rfl hl (by decide) rfl (fun ls hl => ?_)
                refine lv_iinc (v := x6 + 1) (lv' := [(3, .int (x6 + 1)), (2, .int 0), (0, .ref (ad 40)), (1, .int p1)]) hx hb dX8_prefix_78 hl (k := 3) rfl rfl (by decide) rfl (fun ls hl => ?_)
                refine lv_goto (tgt := 15) hx hb dX8_prefix_81 (by decide) ?_
                obtain ⟨n11, hlt, hV⟩ := h
                exact ihn4 n11 hlt _ _ _ _ _ hP hD hS ls (lv_sub hl [2, 3, 1, 0] rfl) hV
              · have h := h.2 hc
                refine lv_iconst (v := 1) hx hb dX8_prefix_72 (by decide) ?_
                refine lv_goto (tgt := 77) hx hb dX8_prefix_73 (by decide) ?_
                refine lv_istore_n (lv' := [(2, .int 1), (0, .ref (ad 40)), (1, .int p1), (3, .int x6)]) hx hb dX8_prefix_77 rfl hl (by decide) rfl (fun ls hl => ?_)
                refine lv_iinc (v := x6 + 1) (lv' := [(3, .int (x6 + 1)), (2, .int 1), (0, .ref (ad 40)), (1, .int p1)]) hx hb dX8_prefix_78 hl (k := 3) rfl rfl (by decide) rfl (fun ls hl => ?_)
                refine lv_goto (tgt := 15) hx hb dX8_prefix_81 (by decide) ?_
                obtain ⟨n12, hlt, hV⟩ := h
                exact ihn4 n12 hlt _ _ _ _ _ hP hD hS ls (lv_sub hl [2, 3, 1, 0] rfl) hV
            · have h := h.2 hc
              refine lv_aload_n hx hb dX8_prefix_29 rfl (lv_at hl 0 rfl) ?_
              refine lv_iload_n hx hb dX8_prefix_30 rfl (lv_at hl 3 rfl) ?_
              refine lv_aload_n hx hb dX8_prefix_31 rfl (lv_at hl 0 rfl) ?_
              refine va_get (D := (dC, dI)) (ci := 8) (v := .ref (ad 20)) (C := RX8) (T := TX8) (N := 35) hx hb hts hinX8 hown hK hP 0 rG_o rfl 20 (by decide) (hts (.fieldLink RX8 56 "OutboxHouseModel" "doneNow" "[I") (by decide +kernel)) (fun _ h9 => h9) rfl dX8_prefix_32 ?_
              refine lv_iload_n hx hb dX8_prefix_35 rfl (lv_at hl 3 rfl) ?_
              have hv := h.1; replace h := h.2
              refine va_iald hx hb hK hP 16 0 rG_20 rfl hv dX8_prefix_36 ?_
              refine lv_aload_n hx hb dX8_prefix_37 rfl (lv_at hl 0 rfl) ?_
              refine va_get (D := (dC, dI)) (ci := 8) (v := .ref (ad 19)) (C := RX8) (T := TX8) (N := 35) hx hb hts hinX8 hown hK hP 0 rG_o rfl 19 (by decide) (hts (.fieldLink RX8 53 "OutboxHouseModel" "valueNow" "[I") (by decide +kernel)) (fun _ h9 => h9) rfl dX8_prefix_38 ?_
              refine lv_iload_n hx hb dX8_prefix_41 rfl (lv_at hl 3 rfl) ?_
              have hv := h.1; replace h := h.2
              refine va_iald hx hb hK hP 15 0 rG_19 rfl hv dX8_prefix_42 ?_
              refine va_calli (va_runV (As := [.int x6, .int (I7 20 x6.toNatClampNeg), .int (I7 19 x6.toNatClampNeg)]) (rest := []) ⟨hx, hb, hml, hown, hts⟩ (m_X8_hasPrefix l dC dI cy ad A I7 x6 (I7 20 x6.toNatClampNeg) (I7 19 x6.toNatClampNeg) hD h) (cwV 3 hts gX8_prefix_X8_hasPrefix rfl rfl rfl (by decide +kernel) ⟨Nat.le_of_ble_eq_true rfl, Nat.le_of_ble_eq_true rfl⟩) ⟨wPre.blind, va_recv hK hP (ci := 8) (q0 := 0) rfl rG_o, wPre.at hP hK hN hS hA⟩ rfl rfl hl.1 rfl (lv_room (Nat.le_of_ble_eq_true rfl)) dX8_prefix_43 ⟨by first | exact Nat.le_of_ble_eq_true rfl | (show _ ≤ 0; omega), by first | exact Nat.le_of_ble_eq_true rfl | (show _ ≤ 0; omega)⟩) hS (fun q _ h => h) (fun q h => h) (fun r13 u t H locs ht hvm hw hB hz1 hk1 hS => ?_)
              obtain ⟨I14, rfl⟩ : ∃ z : St, z = u := ⟨_, rfl⟩
              obtain ⟨hP, hD⟩ := hB; rw [ht] at hP; replace h := hw; try dsimp only at h hP hD
              refine lv_if_eq (tgt := 76) hx hb dX8_prefix_46 (by decide) (fun hc => ?_) (fun hc => ?_)
              · have h := h.1 hc
                refine lv_iconst (v := 0) hx hb dX8_prefix_76 (by decide) ?_
                refine lv_istore_n (lv' := [(2, .int 0), (0, .ref (ad 40)), (1, .int p1), (3, .int x6)]) hx hb dX8_prefix_77 rfl hl (by decide) rfl (fun ls hl => ?_)
                refine lv_iinc (v := x6 + 1) (lv' := [(3, .int (x6 + 1)), (2, .int 0), (0, .ref (ad 40)), (1, .int p1)]) hx hb dX8_prefix_78 hl (k := 3) rfl rfl (by decide) rfl (fun ls hl => ?_)
                refine lv_goto (tgt := 15) hx hb dX8_prefix_81 (by decide) ?_
                obtain ⟨n15, hlt, hV⟩ := h
                exact ihn4 n15 hlt _ _ _ _ _ hP hD hS ls (lv_sub hl [2, 3, 1, 0] rfl) hV
              · have h := h.2 hc
                refine lv_goto (tgt := 72) hx hb dX8_prefix_49 (by decide) ?_
                refine lv_iconst (v := 1) hx hb dX8_prefix_72 (by decide) ?_
                refine lv_goto (tgt := 77) hx hb dX8_prefix_73 (by decide) ?_
                refine lv_istore_n (lv' := [(2, .int 1), (0, .ref (ad 40)), (1, .int p1), (3, .int x6)]) hx hb dX8_prefix_77 rfl hl (by decide) rfl (fun ls hl => ?_)
                refine lv_iinc (v := x6 + 1) (lv' := [(3, .int (x6 + 1)), (2, .int 1), (0, .ref (ad 40)), (1, .int p1)]) hx hb dX8_prefix_78 hl (k := 3) rfl rfl (by decide) rfl (fun ls hl => ?_)
                refine lv_goto (tgt := 15) hx hb dX8_prefix_81 (by decide) ?_
                obtain ⟨n16, hlt, hV⟩ := h
                exact ihn4 n16 hlt _ _ _ _ _ hP hD hS ls (lv_sub hl [2, 3, 1, 0] rfl) hV
    exact hlpn4 n40 _ _ _ _ _ hP hD hS ls (lv_sub hl [2, 3, 1, 0] rfl) hV0
  · have h := h.2 hc
    refine lv_iconst (v := (-1)) hx hb dX8_prefix_9 (by decide) ?_
    exact W.iret (v := (-1)) hx hb hr (fun t ht hW => hQ _ _ t (-1) I2 h ⟨by rw [ht]; exact hP, hD⟩ (hS.F ht)) hS.2.2 dX8_prefix_10
theorem m_X8_prefix (l : Launch) (dC : Nat → ClassId) (dI : Nat → Nat → Nat) (cy : Nat → ClassId) (ad : Nat → Nat) (A : Nat → Prop) (I : St) (p1 : Int32) {post : Int32 → St → Prop} (hD : va_D A (rW ad cy I)) (h : wp_X8_prefix I p1 post) : Met l yX8_prefix wsX8_prefix rmX8_prefix (va_Pc [.ref (ad 40), .int p1] (wPre (dC, dI) cy A (rW ad cy I))) (va_Qi (fun r (u : St) => post r u) (fun (u : St) t => wPost (dC, dI) A (rW ad cy u) t) A) 0 0 A := g_X8_prefix l dC dI cy ad A I p1 hD h (fun a s0 t r I' h1 h2 h3 => ⟨⟨r, I', rfl, h1, h2⟩, h3⟩)
abbrev rmX8_count : Room := { frames := 1, cells := 0, slots := 0, locals := 21 }
set_option maxHeartbeats 4000000 in
set_option maxRecDepth 100000 in
theorem g_X8_count (l : Launch) (dC : Nat → ClassId) (dI : Nat → Nat → Nat) (cy : Nat → ClassId) (ad : Nat → Nat) (A : Nat → Prop) (I : St) (p1 : Int32) {post : Int32 → St → Prop} (hD : va_D A (rW ad cy I)) (h : wp_X8_count I p1 post) {Qc : Array Value → State → Outcome → State → Prop} (hQ : ∀ (a : Array Value) (s0 t : State) (r : Int32) (I' : St), post r I' → wPost (dC, dI) A (rW ad cy I') t → va_F A s0 t → Qc a s0 (.returned (some (.int r))) t) : Met l yX8_count wsX8_count rmX8_count (va_Pc [.ref (ad 40), .int p1] (wPre (dC, dI) cy A (rW ad cy I))) Qc 0 0 A := by
  refine Met.ofW (cc := cX8_count) (maxL := 4) (ret := (some .int)) (by decide) rfl ?_
  intro p e s m args below meth c s₁ B hml hv
  obtain ⟨rfl, hP, hK, hN, hA⟩ := hv
  have hx := B.exec
  have hb := B.bytes
  have hr := B.returns
  have hts := atoms_spec (ws := wsX8_count) B.pre
  have hown : s.vm.findClass RX8 = some m.cls := findClass_of_methodNamed B.named
  have hlocks := B.notSynchronized
  have hinX8 : ∀ w ∈ wsX80, w ∈ wsX8_count := fun _ h9 => List.mem_cons_of_mem _ (List.mem_append_right _ h9)
  have hS : va_S A s.heap s.heap [] := va_S.rf
  unfold wp_X8_count at h
  have hl := lv_entry ([.ref (ad 40), .int p1]) (n := 4) (Nat.le_of_ble_eq_true rfl)
  rw [lg_entry_eq]
  generalize (lg_sl ([.ref (ad 40), .int p1]) ++ List.replicate (4 - (lg_sl ([.ref (ad 40), .int p1])).length) Slot.unset).toArray = ls at hl ⊢
  have hl : lv_has ls 4 [(0, .ref (ad 40)), (1, .int p1)] := hl
  refine lv_iconst (v := 0) hx hb dX8_count_0 (by decide) ?_
  refine lv_istore_n (lv' := [(2, .int 0), (0, .ref (ad 40)), (1, .int p1)]) hx hb dX8_count_1 rfl hl (by decide) rfl (fun ls hl => ?_)
  refine lv_iload_n hx hb dX8_count_2 rfl (lv_at hl 2 rfl) ?_
  by_cases e0 : p1 = 0
  · have h := h.1 e0
    refine lv_tableIn (off := 69) (tgt := 72) hx hb dX8_count_3 (by rw [e0]; decide) (by rw [e0]; decide) (by rw [e0]; rfl) (by decide) ?_
    refine lv_iconst (v := 0) hx hb dX8_count_72 (by decide) ?_
    refine lv_istore_n (lv' := [(3, .int 0), (2, .int 0), (0, .ref (ad 40)), (1, .int p1)]) hx hb dX8_count_73 rfl hl (by decide) rfl (fun ls hl => ?_)
    obtain ⟨V1, ⟨n20, hV0⟩, hstepn2⟩ := h
    have hlpn2 : ∀ (n2 : Nat) (x3 : Int32) (x4 : Int32) (I5 : St) (H : Heap) (locs : List Loc), va_P (dC, dI) vwCl (rW ad cy I5) H → va_D A (rW ad cy I5) → va_S A s.heap H locs → ∀ ls : Array Slot, lv_has ls 4 [(0, .ref (ad 40)), (1, .int p1), (2, .int x3), (3, .int x4)] → V1 n2 x3 x4 I5 → W p l e (headSpec wsX8_count rmX8_count).room s m ([.ref (ad 40), .int p1] : List Value).toArray below meth c H locs 0 0 (MQ below Qc ([.ref (ad 40), .int p1] : List Value).toArray s 0 0 A) (F0 m 74 ls []) := by
      intro n2
      induction n2 using Nat.strongRecOn with
      | _ n2 ihn2 =>
        intro x3 x4 I5 H locs hP hD hS ls hl hV
        have h := hstepn2 n2 x3 x4 I5 hV
        refine lv_iload_n hx hb dX8_count_74 rfl (lv_at hl 3 rfl) ?_
        refine lv_iconst (v := 4) hx hb dX8_count_75 (by decide) ?_
        refine lv_icmp_ge (tgt := 102) hx hb dX8_count_76 (by decide) (fun hc => ?_) (fun hc => ?_)
        · have h := h.1 hc
          refine lv_iload_n hx hb dX8_count_102 rfl (lv_at hl 2 rfl) ?_
          exact W.iret (v := x3) hx hb hr (fun t ht hW => hQ _ _ t x3 I5 h ⟨by rw [ht]; exact hP, hD⟩ (hS.F ht)) hS.2.2 dX8_count_103
        · have h := h.2 hc
          refine lv_iload_n hx hb dX8_count_79 rfl (lv_at hl 2 rfl) ?_
          refine lv_aload_n hx hb dX8_count_80 rfl (lv_at hl 0 rfl) ?_
          refine va_get (D := (dC, dI)) (ci := 8) (v := .ref (ad 0)) (C := RX8) (T := TX8) (N := 35) hx hb hts hinX8 hown hK hP 0 rG_o rfl 0 (by decide) (hts (.fieldLink RX8 7 "OutboxHouseModel" "isOpen" "[Z") (by decide +kernel)) (fun _ h9 => h9) rfl dX8_count_81 ?_
          refine lv_iload_n hx hb dX8_count_84 rfl (lv_at hl 3 rfl) ?_
          have hv := h.1; replace h := h.2
          refine va_zald hx hb hK hP 1 1 rG_0 rfl hv dX8_count_85 ?_
          refine lv_if_eq (tgt := 93) hx hb dX8_count_86 (by decide) (fun hc => ?_) (fun hc => ?_)
          · have h := h.1 hc
            refine lv_iconst (v := 0) hx hb dX8_count_93 (by decide) ?_
            refine lv_iadd hx hb dX8_count_94 ?_
            refine lv_istore_n (lv' := [(2, .int (x3 + 0)), (0, .ref (ad 40)), (1, .int p1), (3, .int x4)]) hx hb dX8_count_95 rfl hl (by decide) rfl (fun ls hl => ?_)
            refine lv_iinc (v := x4 + 1) (lv' := [(3, .int (x4 + 1)), (2, .int (x3 + 0)), (0, .ref (ad 40)), (1, .int p1)]) hx hb dX8_count_96 hl (k := 3) rfl rfl (by decide) rfl (fun ls hl => ?_)
            refine lv_goto (tgt := 74) hx hb dX8_count_99 (by decide) ?_
            obtain ⟨n6, hlt, hV⟩ := h
            exact ihn2 n6 hlt _ _ _ _ _ hP hD hS ls (lv_sub hl [2, 3, 1, 0] rfl) hV
          · have h := h.2 hc
            refine lv_iconst (v := 1) hx hb dX8_count_89 (by decide) ?_
            refine lv_goto (tgt := 94) hx hb dX8_count_90 (by decide) ?_
            refine lv_iadd hx hb dX8_count_94 ?_
            refine lv_istore_n (lv' := [(2, .int (x3 + 1)), (0, .ref (ad 40)), (1, .int p1), (3, .int x4)]) hx hb dX8_count_95 rfl hl (by decide) rfl (fun ls hl => ?_)
            refine lv_iinc (v := x4 + 1) (lv' := [(3, .int (x4 + 1)), (2, .int (x3 + 1)), (0, .ref (ad 40)), (1, .int p1)]) hx hb dX8_count_96 hl (k := 3) rfl rfl (by decide) rfl (fun ls hl => ?_)
            refine lv_goto (tgt := 74) hx hb dX8_count_99 (by decide) ?_
            obtain ⟨n7, hlt, hV⟩ := h
            exact ihn2 n7 hlt _ _ _ _ _ hP hD hS ls (lv_sub hl [2, 3, 1, 0] rfl) hV
    exact hlpn2 n20 _ _ _ _ _ hP hD hS ls (lv_sub hl [2, 3, 1, 0] rfl) hV0
  replace h := h.2
  by_cases e1 : p1 = 1
  · have h := h.1 e1
    refine lv_tableIn (off := 101) (tgt := 104) hx hb dX8_count_3 (by rw [e1]; decide) (by rw [e1]; decide) (by rw [e1]; rfl) (by decide) ?_
    refine lv_aload_n hx hb dX8_count_104 rfl (lv_at hl 1 rfl) ?_
    refine va_get (D := (dC, dI)) (ci := 8) (v := .int (I 5 0)) (C := RX8) (T := TX8) (N := 35) hx hb hts hinX8 hown hK hP 0 rG_o rfl 5 (by decide) (hts (.fieldLink RX8 83 "OutboxHouseModel" "end" "I") (by decide +kernel)) (fun _ h9 => h9) rfl dX8_count_105 ?_
    exact W.iret (v := I 5 0) hx hb hr (fun t ht hW => hQ _ _ t (I 5 0) I h ⟨by rw [ht]; exact hP, hD⟩ (hS.F ht)) hS.2.2 dX8_count_108
  replace h := h.2
  by_cases e2 : p1 = 2
  · have h := h.1 e2
    refine lv_tableIn (off := 106) (tgt := 109) hx hb dX8_count_3 (by rw [e2]; decide) (by rw [e2]; decide) (by rw [e2]; rfl) (by decide) ?_
    refine lv_aload_n hx hb dX8_count_109 rfl (lv_at hl 1 rfl) ?_
    refine va_get (D := (dC, dI)) (ci := 8) (v := .int (I 6 0)) (C := RX8) (T := TX8) (N := 35) hx hb hts hinX8 hown hK hP 0 rG_o rfl 6 (by decide) (hts (.fieldLink RX8 95 "OutboxHouseModel" "flushed" "I") (by decide +kernel)) (fun _ h9 => h9) rfl dX8_count_110 ?_
    exact W.iret (v := I 6 0) hx hb hr (fun t ht hW => hQ _ _ t (I 6 0) I h ⟨by rw [ht]; exact hP, hD⟩ (hS.F ht)) hS.2.2 dX8_count_113
  replace h := h.2
  by_cases e3 : p1 = 3
  · have h := h.1 e3
    refine lv_tableIn (off := 111) (tgt := 114) hx hb dX8_count_3 (by rw [e3]; decide) (by rw [e3]; decide) (by rw [e3]; rfl) (by decide) ?_
    refine lv_aload_n hx hb dX8_count_114 rfl (lv_at hl 1 rfl) ?_
    refine va_get (D := (dC, dI)) (ci := 8) (v := .int (I 12 0)) (C := RX8) (T := TX8) (N := 35) hx hb hts hinX8 hown hK hP 0 rG_o rfl 12 (by decide) (hts (.fieldLink RX8 125 "OutboxHouseModel" "position" "I") (by decide +kernel)) (fun _ h9 => h9) rfl dX8_count_115 ?_
    exact W.iret (v := I 12 0) hx hb hr (fun t ht hW => hQ _ _ t (I 12 0) I h ⟨by rw [ht]; exact hP, hD⟩ (hS.F ht)) hS.2.2 dX8_count_118
  replace h := h.2
  by_cases e4 : p1 = 4
  · have h := h.1 e4
    refine lv_tableIn (off := 116) (tgt := 119) hx hb dX8_count_3 (by rw [e4]; decide) (by rw [e4]; decide) (by rw [e4]; rfl) (by decide) ?_
    refine lv_aload_n hx hb dX8_count_119 rfl (lv_at hl 1 rfl) ?_
    refine va_get (D := (dC, dI)) (ci := 8) (v := .int (I 13 0)) (C := RX8) (T := TX8) (N := 35) hx hb hts hinX8 hown hK hP 0 rG_o rfl 13 (by decide) (hts (.fieldLink RX8 128 "OutboxHouseModel" "mark" "I") (by decide +kernel)) (fun _ h9 => h9) rfl dX8_count_120 ?_
    exact W.iret (v := I 13 0) hx hb hr (fun t ht hW => hQ _ _ t (I 13 0) I h ⟨by rw [ht]; exact hP, hD⟩ (hS.F ht)) hS.2.2 dX8_count_123
  replace h := h.2
  by_cases e5 : p1 = 5
  · have h := h.1 e5
    refine lv_tableIn (off := 121) (tgt := 124) hx hb dX8_count_3 (by rw [e5]; decide) (by rw [e5]; decide) (by rw [e5]; rfl) (by decide) ?_
    refine lv_aload_n hx hb dX8_count_124 rfl (lv_at hl 1 rfl) ?_
    refine va_get (D := (dC, dI)) (ci := 8) (v := .int (I 7 0)) (C := RX8) (T := TX8) (N := 35) hx hb hts hinX8 hown hK hP 0 rG_o rfl 7 (by decide) (hts (.fieldLink RX8 134 "OutboxHouseModel" "first" "I") (by decide +kernel)) (fun _ h9 => h9) rfl dX8_count_125 ?_
    exact W.iret (v := I 7 0) hx hb hr (fun t ht hW => hQ _ _ t (I 7 0) I h ⟨by rw [ht]; exact hP, hD⟩ (hS.F ht)) hS.2.2 dX8_count_128
  replace h := h.2
  by_cases e6 : p1 = 6
  · have h := h.1 e6
    refine lv_tableIn (off := 126) (tgt := 129) hx hb dX8_count_3 (by rw [e6]; decide) (by rw [e6]; decide) (by rw [e6]; rfl) (by decide) ?_
    refine lv_aload_n hx hb dX8_count_129 rfl (lv_at hl 1 rfl) ?_
    refine va_get (D := (dC, dI)) (ci := 8) (v := .ref (ad 14)) (C := RX8) (T := TX8) (N := 35) hx hb hts hinX8 hown hK hP 0 rG_o rfl 14 (by decide) (hts (.fieldLink RX8 38 "OutboxHouseModel" "letters" "[I") (by decide +kernel)) (fun _ h9 => h9) rfl dX8_count_130 ?_
    refine lv_iconst (v := 0) hx hb dX8_count_133 (by decide) ?_
    have hv := h.1; replace h := h.2
    refine va_iald hx hb hK hP 10 0 rG_14 rfl hv dX8_count_134 ?_
    refine lv_aload_n hx hb dX8_count_135 rfl (lv_at hl 1 rfl) ?_
    refine va_get (D := (dC, dI)) (ci := 8) (v := .ref (ad 14)) (C := RX8) (T := TX8) (N := 35) hx hb hts hinX8 hown hK hP 0 rG_o rfl 14 (by decide) (hts (.fieldLink RX8 38 "OutboxHouseModel" "letters" "[I") (by decide +kernel)) (fun _ h9 => h9) rfl dX8_count_136 ?_
    refine lv_iconst (v := 1) hx hb dX8_count_139 (by decide) ?_
    have hv := h.1; replace h := h.2
    refine va_iald hx hb hK hP 10 0 rG_14 rfl hv dX8_count_140 ?_
    refine lv_iadd hx hb dX8_count_141 ?_
    refine lv_aload_n hx hb dX8_count_142 rfl (lv_at hl 1 rfl) ?_
    refine va_get (D := (dC, dI)) (ci := 8) (v := .ref (ad 14)) (C := RX8) (T := TX8) (N := 35) hx hb hts hinX8 hown hK hP 0 rG_o rfl 14 (by decide) (hts (.fieldLink RX8 38 "OutboxHouseModel" "letters" "[I") (by decide +kernel)) (fun _ h9 => h9) rfl dX8_count_143 ?_
    refine lv_iconst (v := 2) hx hb dX8_count_146 (by decide) ?_
    have hv := h.1; replace h := h.2
    refine va_iald hx hb hK hP 10 0 rG_14 rfl hv dX8_count_147 ?_
    refine lv_iadd hx hb dX8_count_148 ?_
    exact W.iret (v := ((I 14 (0 : Int32).toNatClampNeg) + (I 14 (1 : Int32).toNatClampNeg)) + (I 14 (2 : Int32).toNatClampNeg)) hx hb hr (fun t ht hW => hQ _ _ t (((I 14 (0 : Int32).toNatClampNeg) + (I 14 (1 : Int32).toNatClampNeg)) + (I 14 (2 : Int32).toNatClampNeg)) I h ⟨by rw [ht]; exact hP, hD⟩ (hS.F ht)) hS.2.2 dX8_count_149
  replace h := h.2
  by_cases e7 : p1 = 7
  · have h := h.1 e7
    refine lv_tableIn (off := 147) (tgt := 150) hx hb dX8_count_3 (by rw [e7]; decide) (by rw [e7]; decide) (by rw [e7]; rfl) (by decide) ?_
    refine lv_aload_n hx hb dX8_count_150 rfl (lv_at hl 1 rfl) ?_
    refine va_get (D := (dC, dI)) (ci := 8) (v := .int (I 30 0)) (C := RX8) (T := TX8) (N := 35) hx hb hts hinX8 hown hK hP 0 rG_o rfl 30 (by decide) (hts (.fieldLink RX8 137 "OutboxHouseModel" "sent" "I") (by decide +kernel)) (fun _ h9 => h9) rfl dX8_count_151 ?_
    exact W.iret (v := I 30 0) hx hb hr (fun t ht hW => hQ _ _ t (I 30 0) I h ⟨by rw [ht]; exact hP, hD⟩ (hS.F ht)) hS.2.2 dX8_count_154
  replace h := h.2
  by_cases e8 : p1 = 8
  · have h := h.1 e8
    refine lv_tableIn (off := 152) (tgt := 155) hx hb dX8_count_3 (by rw [e8]; decide) (by rw [e8]; decide) (by rw [e8]; rfl) (by decide) ?_
    refine lv_aload_n hx hb dX8_count_155 rfl (lv_at hl 1 rfl) ?_
    refine va_get (D := (dC, dI)) (ci := 8) (v := .int (I 31 0)) (C := RX8) (T := TX8) (N := 35) hx hb hts hinX8 hown hK hP 0 rG_o rfl 31 (by decide) (hts (.fieldLink RX8 143 "OutboxHouseModel" "doneEver" "I") (by decide +kernel)) (fun _ h9 => h9) rfl dX8_count_156 ?_
    exact W.iret (v := I 31 0) hx hb hr (fun t ht hW => hQ _ _ t (I 31 0) I h ⟨by rw [ht]; exact hP, hD⟩ (hS.F ht)) hS.2.2 dX8_count_159
  replace h := h.2
  by_cases e9 : p1 = 9
  · have h := h.1 e9
    refine lv_tableIn (off := 157) (tgt := 160) hx hb dX8_count_3 (by rw [e9]; decide) (by rw [e9]; decide) (by rw [e9]; rfl) (by decide) ?_
    refine lv_aload_n hx hb dX8_count_160 rfl (lv_at hl 1 rfl) ?_
    refine va_get (D := (dC, dI)) (ci := 8) (v := .int (I 32 0)) (C := RX8) (T := TX8) (N := 35) hx hb hts hinX8 hown hK hP 0 rG_o rfl 32 (by decide) (hts (.fieldLink RX8 146 "OutboxHouseModel" "twice" "I") (by decide +kernel)) (fun _ h9 => h9) rfl dX8_count_161 ?_
    exact W.iret (v := I 32 0) hx hb hr (fun t ht hW => hQ _ _ t (I 32 0) I h ⟨by rw [ht]; exact hP, hD⟩ (hS.F ht)) hS.2.2 dX8_count_164
  replace h := h.2
  by_cases e10 : p1 = 10
  · have h := h.1 e10
    refine lv_tableIn (off := 162) (tgt := 165) hx hb dX8_count_3 (by rw [e10]; decide) (by rw [e10]; decide) (by rw [e10]; rfl) (by decide) ?_
    refine lv_aload_n hx hb dX8_count_165 rfl (lv_at hl 1 rfl) ?_
    refine va_get (D := (dC, dI)) (ci := 8) (v := .int (I 25 0)) (C := RX8) (T := TX8) (N := 35) hx hb hts hinX8 hown hK hP 0 rG_o rfl 25 (by decide) (hts (.fieldLink RX8 115 "OutboxHouseModel" "held" "I") (by decide +kernel)) (fun _ h9 => h9) rfl dX8_count_166 ?_
    exact W.iret (v := I 25 0) hx hb hr (fun t ht hW => hQ _ _ t (I 25 0) I h ⟨by rw [ht]; exact hP, hD⟩ (hS.F ht)) hS.2.2 dX8_count_169
  replace h := h.2
  by_cases e11 : p1 = 11
  · have h := h.1 e11
    refine lv_tableIn (off := 167) (tgt := 170) hx hb dX8_count_3 (by rw [e11]; decide) (by rw [e11]; decide) (by rw [e11]; rfl) (by decide) ?_
    refine lv_aload_n hx hb dX8_count_170 rfl (lv_at hl 1 rfl) ?_
    refine va_get (D := (dC, dI)) (ci := 8) (v := .int (I 33 0)) (C := RX8) (T := TX8) (N := 35) hx hb hts hinX8 hown hK hP 0 rG_o rfl 33 (by decide) (hts (.fieldLink RX8 153 "OutboxHouseModel" "lost" "I") (by decide +kernel)) (fun _ h9 => h9) rfl dX8_count_171 ?_
    exact W.iret (v := I 33 0) hx hb hr (fun t ht hW => hQ _ _ t (I 33 0) I h ⟨by rw [ht]; exact hP, hD⟩ (hS.F ht)) hS.2.2 dX8_count_174
  replace h := h.2
  by_cases e12 : p1 = 12
  · have h := h.1 e12
    refine lv_tableIn (off := 172) (tgt := 175) hx hb dX8_count_3 (by rw [e12]; decide) (by rw [e12]; decide) (by rw [e12]; rfl) (by decide) ?_
    refine lv_aload_n hx hb dX8_count_175 rfl (lv_at hl 1 rfl) ?_
    refine va_get (D := (dC, dI)) (ci := 8) (v := .int (I 34 0)) (C := RX8) (T := TX8) (N := 35) hx hb hts hinX8 hown hK hP 0 rG_o rfl 34 (by decide) (hts (.fieldLink RX8 118 "OutboxHouseModel" "crashes" "I") (by decide +kernel)) (fun _ h9 => h9) rfl dX8_count_176 ?_
    exact W.iret (v := I 34 0) hx hb hr (fun t ht hW => hQ _ _ t (I 34 0) I h ⟨by rw [ht]; exact hP, hD⟩ (hS.F ht)) hS.2.2 dX8_count_179
  replace h := h.2
  by_cases e13 : p1 = 13
  · have h := h.1 e13
    refine lv_tableIn (off := 177) (tgt := 180) hx hb dX8_count_3 (by rw [e13]; decide) (by rw [e13]; decide) (by rw [e13]; rfl) (by decide) ?_
    refine lv_aload_n hx hb dX8_count_180 rfl (lv_at hl 1 rfl) ?_
    refine va_calli (va_runV (As := []) (rest := []) ⟨hx, hb, hml, hown, hts⟩ (m_X8_toAck l dC dI cy ad A I  hD h) (cwV 0 hts gX8_count_X8_toAck rfl rfl rfl (by decide +kernel) ⟨Nat.le_of_ble_eq_true rfl, Nat.le_of_ble_eq_true rfl⟩) ⟨wPre.blind, va_recv hK hP (ci := 8) (q0 := 0) rfl rG_o, wPre.at hP hK hN hS hA⟩ rfl rfl hl.1 rfl (lv_room (Nat.le_of_ble_eq_true rfl)) dX8_count_181 ⟨by first | exact Nat.le_of_ble_eq_true rfl | (show _ ≤ 0; omega), by first | exact Nat.le_of_ble_eq_true rfl | (show _ ≤ 0; omega)⟩) hS (fun q _ h => h) (fun q h => h) (fun r8 u t H locs ht hvm hw hB hz1 hk1 hS => ?_)
    obtain ⟨I9, rfl⟩ : ∃ z : St, z = u := ⟨_, rfl⟩
    obtain ⟨hP, hD⟩ := hB; rw [ht] at hP; replace h := hw; try dsimp only at h hP hD
    exact W.iret (v := r8) hx hb hr (fun t ht hW => hQ _ _ t r8 I9 h ⟨by rw [ht]; exact hP, hD⟩ (hS.F ht)) hS.2.2 dX8_count_184
  replace h := h.2
  have h := h ⟨e0, e1, e2, e3, e4, e5, e6, e7, e8, e9, e10, e11, e12, e13⟩
  refine lv_tableOut (tgt := 185) hx hb dX8_count_3 (by have z0 := lv_neT e0 (a := 0) (by decide); have z1 := lv_neT e1 (a := 1) (by decide); have z2 := lv_neT e2 (a := 2) (by decide); have z3 := lv_neT e3 (a := 3) (by decide); have z4 := lv_neT e4 (a := 4) (by decide); have z5 := lv_neT e5 (a := 5) (by decide); have z6 := lv_neT e6 (a := 6) (by decide); have z7 := lv_neT e7 (a := 7) (by decide); have z8 := lv_neT e8 (a := 8) (by decide); have z9 := lv_neT e9 (a := 9) (by decide); have z10 := lv_neT e10 (a := 10) (by decide); have z11 := lv_neT e11 (a := 11) (by decide); have z12 := lv_neT e12 (a := 12) (by decide); have z13 := lv_neT e13 (a := 13) (by decide); omega) (by decide) ?_
  refine lv_iconst (v := (-1)) hx hb dX8_count_185 (by decide) ?_
  exact W.iret (v := (-1)) hx hb hr (fun t ht hW => hQ _ _ t (-1) I h ⟨by rw [ht]; exact hP, hD⟩ (hS.F ht)) hS.2.2 dX8_count_186
theorem m_X8_count (l : Launch) (dC : Nat → ClassId) (dI : Nat → Nat → Nat) (cy : Nat → ClassId) (ad : Nat → Nat) (A : Nat → Prop) (I : St) (p1 : Int32) {post : Int32 → St → Prop} (hD : va_D A (rW ad cy I)) (h : wp_X8_count I p1 post) : Met l yX8_count wsX8_count rmX8_count (va_Pc [.ref (ad 40), .int p1] (wPre (dC, dI) cy A (rW ad cy I))) (va_Qi (fun r (u : St) => post r u) (fun (u : St) t => wPost (dC, dI) A (rW ad cy u) t) A) 0 0 A := g_X8_count l dC dI cy ad A I p1 hD h (fun a s0 t r I' h1 h2 h3 => ⟨⟨r, I', rfl, h1, h2⟩, h3⟩)
