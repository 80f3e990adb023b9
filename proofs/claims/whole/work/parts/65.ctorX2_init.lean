abbrev rmX2_init : Room := { frames := 2, cells := 7, slots := 129, locals := 42 }
set_option maxHeartbeats 4000000 in
set_option maxRecDepth 100000 in
theorem m_X2_init (l : Launch) (dC : Nat → ClassId) (dI : Nat → Nat → Nat) (cy : Nat → ClassId) (A : Nat → Prop) (q h : Nat) (hD : va_D A [(q, .inr (2, [.null, .null, .int 0, .int 0, .int 0, .int 0]))]) : Met l yX2_init wsX2_init rmX2_init (va_Pc [.ref q, .ref h] (wPre2 (dC, dI) cy A [(q, .inr (2, [.null, .null, .int 0, .int 0, .int 0, .int 0]))])) (va_Qv (fun _ : Nat → Nat => True) (fun (u : Nat → Nat) t => wPost (dC, dI) A [(q, .inr (2, [.ref h, .ref (u 0), .int 0, .int 0, .int 0, .int 0])), ((u 0), .inl (cy 3, 3, .inr (.inr (.inr (.inr (va_up (va_up (va_up (fun _ => none) 0 (some (u 1))) 1 (some (u 3))) 2 (some (u 5)))))))), ((u 1), .inr (3, [.ref (u 2), .int 0])), ((u 2), .inl (cy 2, 40, .inr (.inr (.inr (.inr (fun _ => none)))))), ((u 3), .inr (3, [.ref (u 4), .int 0])), ((u 4), .inl (cy 2, 40, .inr (.inr (.inr (.inr (fun _ => none)))))), ((u 5), .inr (3, [.ref (u 6), .int 0])), ((u 6), .inl (cy 2, 40, .inr (.inr (.inr (.inr (fun _ => none))))))] t) A) 7 129 A := by
  refine Met.ofW (cc := cX2_init) (maxL := 3) (ret := none) (by decide) rfl ?_
  intro p e s m args below meth c s₁ B hml hv
  obtain ⟨rfl, ⟨hP, hK, hN, hA⟩, hO⟩ := hv
  have hx := B.exec
  have hb := B.bytes
  have hr := B.returns
  have hts := atoms_spec (ws := wsX2_init) B.pre
  have hown : s.vm.findClass RX2 = some m.cls := findClass_of_methodNamed B.named
  have hlocks := B.notSynchronized
  have hin : meth.name = "<init>" := (name_of_methodNamed B.named B.method).1
  have hinX2 : ∀ w ∈ wsX20, w ∈ wsX2_init := fun _ h9 => List.mem_cons_of_mem _ (List.mem_append_left _ (List.mem_append_right _ h9))
  have hinX3 : ∀ w ∈ wsX30, w ∈ wsX2_init := fun _ h9 => List.mem_cons_of_mem _ (List.mem_append_right _ h9)
  have hS : va_S A s.heap s.heap [] := va_S.rf
  have hl := lv_entry ([.ref q, .ref h]) (n := 3) (Nat.le_of_ble_eq_true rfl)
  rw [lg_entry_eq]
  generalize (lg_sl ([.ref q, .ref h]) ++ List.replicate (3 - (lg_sl ([.ref q, .ref h])).length) Slot.unset).toArray = ls at hl ⊢
  have hl : lv_has ls 3 [(0, .ref q), (1, .ref h)] := hl
  have hP : va_P (dC, dI) vwCl [(q, .inr (2, [.null, .null, .int 0, .int 0, .int 0, .int 0]))] s.heap := hP
  refine lv_aload_n hx hb dX2_init_0 rfl (lv_at hl 0 rfl) ?_
  refine W.objInit hx hb hown (hts (.methodLink RX2 3 objectInit) (by decide +kernel)) (hts (.instanceMethod objectInit) (by decide +kernel)) (hts _ (List.mem_cons_of_mem _ (List.mem_append_left _ (List.mem_append_left _ (List.mem_of_getElem? (i := 2) rfl))))) rfl (by rw [hml]; exact hl.1) rfl dX2_init_1 (Nat.le_of_ble_eq_true rfl) (Nat.le_of_ble_eq_true rfl) ?_
  refine W.eq (g2 := F0 m 4 ls []) rfl ?_
  refine lv_aload_n hx hb dX2_init_4 rfl (lv_at hl 0 rfl) ?_
  refine lv_iconst (v := 3) hx hb dX2_init_5 (by decide) ?_
  refine va_newq (C := RX3) (N' := 3) hx hb hown (hts (.classLink RX2 9 RX3) (by decide +kernel)) hO.2 hK hP hD hS hA (by decide) (by decide) (by decide) (Nat.le_of_ble_eq_true rfl) (Nat.le_of_ble_eq_true rfl) dX2_init_6 (fun q1 cA H hK2 hP hD hS => ?_)
  have ecA : cA = cy 3 := ra_o (hK2.2 4 _ rfl).2 (hK.2 3 _ rfl).2
  subst ecA
  have hP : va_P (dC, dI) vwCl [(q, .inr (2, [.null, .null, .int 0, .int 0, .int 0, .int 0])), (q1, .inl (cy 3, 3, .inr (.inr (.inr (.inr (fun _ => none))))))] H := hP
  have hD : va_D A [(q, .inr (2, [.null, .null, .int 0, .int 0, .int 0, .int 0])), (q1, .inl (cy 3, 3, .inr (.inr (.inr (.inr (fun _ => none))))))] := hD
  refine W.widen (k := 1) (n := 3) (by omega) (by omega) ?_
  refine va_putF (D := (dC, dI)) (ci := 2) (v := .ref q1) (ty := .array (.object "OutboxHouse$Row")) (C := RX2) (T := TX2) (N := 6) hx hb hts hinX2 tyX2 tyX2_ok nmX2 hown hK hP hD hS 0 rfl rfl 1 (by decide) (hts (.fieldLink RX2 11 "OutboxHouse$Relay" "lanes" "[LOutboxHouse$Row;") (by decide +kernel)) (fun _ h9 => h9) rfl hin rfl (by decide +kernel) rfl rfl (Nat.le_of_ble_eq_true rfl) dX2_init_9 (fun H locs hP hD hS => ?_)
  have hP : va_P (dC, dI) vwCl [(q, .inr (2, [.null, .ref q1, .int 0, .int 0, .int 0, .int 0])), (q1, .inl (cy 3, 3, .inr (.inr (.inr (.inr (fun _ => none))))))] H := hP
  have hD : va_D A [(q, .inr (2, [.null, .ref q1, .int 0, .int 0, .int 0, .int 0])), (q1, .inl (cy 3, 3, .inr (.inr (.inr (.inr (fun _ => none))))))] := hD
  refine lv_aload_n hx hb dX2_init_12 rfl (lv_at hl 0 rfl) ?_
  refine lv_aload_n hx hb dX2_init_13 rfl (lv_at hl 1 rfl) ?_
  refine va_putF (D := (dC, dI)) (ci := 2) (v := .ref h) (ty := .object "OutboxHouse$ChangeLog") (C := RX2) (T := TX2) (N := 6) hx hb hts hinX2 tyX2 tyX2_ok nmX2 hown hK hP hD hS 0 rfl rfl 0 (by decide) (hts (.fieldLink RX2 17 "OutboxHouse$Relay" "changes" "LOutboxHouse$ChangeLog;") (by decide +kernel)) (fun _ h9 => h9) rfl hin rfl (by decide +kernel) rfl rfl (Nat.le_of_ble_eq_true rfl) dX2_init_14 (fun H locs hP hD hS => ?_)
  have hP : va_P (dC, dI) vwCl [(q, .inr (2, [.ref h, .ref q1, .int 0, .int 0, .int 0, .int 0])), (q1, .inl (cy 3, 3, .inr (.inr (.inr (.inr (fun _ => none))))))] H := hP
  have hD : va_D A [(q, .inr (2, [.ref h, .ref q1, .int 0, .int 0, .int 0, .int 0])), (q1, .inl (cy 3, 3, .inr (.inr (.inr (.inr (fun _ => none))))))] := hD
  refine lv_iconst (v := 0) hx hb dX2_init_17 (by decide) ?_
  refine lv_istore_n (lv' := [(2, .int 0), (0, .ref q), (1, .ref h)]) hx hb dX2_init_18 rfl hl (by decide) rfl (fun ls hl => ?_)
  refine lv_iload_n hx hb dX2_init_19 rfl (lv_at hl 0 rfl) ?_
  refine lv_iconst (v := 3) hx hb dX2_init_20 (by decide) ?_
  refine lv_icmp_ge (tgt := 45) hx hb dX2_init_21 (by decide) (fun hc => absurd hc (by decide)) (fun hc => ?_)
  refine lv_aload_n hx hb dX2_init_24 rfl (lv_at hl 1 rfl) ?_
  refine va_get (D := (dC, dI)) (ci := 2) (v := .ref q1) (C := RX2) (T := TX2) (N := 6) hx hb hts hinX2 hown hK hP 0 rfl rfl 1 (by decide) (hts (.fieldLink RX2 11 "OutboxHouse$Relay" "lanes" "[LOutboxHouse$Row;") (by decide +kernel)) (fun _ h9 => h9) rfl dX2_init_25 ?_
  refine lv_iload_n hx hb dX2_init_28 rfl (lv_at hl 0 rfl) ?_
  refine va_new (ci := 3) (fs := [.null, .int 0]) (C := RX3) (T := TX3) (N := 2) hx hb hts hinX3 tyX3 tyX3_ok hown (hts (.classLink RX2 9 RX3) (by decide +kernel)) (hts (.instantiable RX3 2) (by decide +kernel)) (hts (.initialized RX3) (by decide +kernel)) hK hP hD hS hA rfl (fun j hj => by rcases (show j = 0 ∨ j = 1 by omega) with rfl | rfl <;> rfl) (Nat.le_of_ble_eq_true rfl) (Nat.le_of_ble_eq_true rfl) dX2_init_29 (fun q2 H hP hD hS => ?_)
  have hP : va_P (dC, dI) vwCl [(q, .inr (2, [.ref h, .ref q1, .int 0, .int 0, .int 0, .int 0])), (q1, .inl (cy 3, 3, .inr (.inr (.inr (.inr (fun _ => none)))))), (q2, .inr (3, [.null, .int 0]))] H := hP
  have hD : va_D A [(q, .inr (2, [.ref h, .ref q1, .int 0, .int 0, .int 0, .int 0])), (q1, .inl (cy 3, 3, .inr (.inr (.inr (.inr (fun _ => none)))))), (q2, .inr (3, [.null, .int 0]))] := hD
  refine W.widen (k := 2) (n := 5) (by omega) (by omega) ?_
  refine lv_dup hx hb dX2_init_32 rfl ?_
  refine lv_bipush (v := 40) hx hb dX2_init_33 (by decide) ?_
  have hPc := hP.sub (ws' := [(q2, .inr (3, [.null, .int 0]))]) [2] rfl
  have hDc := hD.sub (ws' := [(q2, .inr (3, [.null, .int 0]))]) [2] (by decide) rfl
  have hFc := va_free (wc := [(q2, .inr (3, [.null, .int 0]))]) hD hS hA [2] rfl
  refine va_callv (va_runI (As := [.int 40]) (rest := [.ref q2, .int 0, .ref q1]) ⟨hx, hb, hml, hown, hts⟩ (m_X3_init l dC dI cy (va_A [(q2, .inr (3, [.null, .int 0]))] H.size) q2 40 (by decide) hDc.self) (cwI 1 hts gX2_init_X3_init rfl rfl rfl (hts (.initialized RX3) (by decide +kernel)) (hts (.methodLink RX2 21 yX3_init) (by decide +kernel)) (hts (.instanceMethod yX3_init) (by decide +kernel)) rfl (by decide +kernel) ⟨Nat.le_of_ble_eq_true rfl, Nat.le_of_ble_eq_true rfl⟩) ⟨wPre2.blind, wPre2.at (fun q h => Or.inr h) hPc hK hN hO⟩ rfl rfl hl.1 rfl (lv_room (Nat.le_of_ble_eq_true rfl)) dX2_init_35 ⟨Nat.le_of_ble_eq_true rfl, Nat.le_of_ble_eq_true rfl⟩) hS (fun q _ h => hFc q h) hFc (fun u3 t H1 locs ht hvm hw hB hz1 hk1 hS => ?_)
  obtain ⟨hP1, hD1⟩ := hB; rw [ht] at hP1
  obtain ⟨hP, hD⟩ := va_join (wr := [(q, .inr (2, [.ref h, .ref q1, .int 0, .int 0, .int 0, .int 0])), (q1, .inl (cy 3, 3, .inr (.inr (.inr (.inr (fun _ => none))))))]) (w1 := [(q2, .inr (3, [.ref (u3 0), .int 0])), ((u3 0), .inl (cy 2, 40, .inr (.inr (.inr (.inr (fun _ => none))))))]) hP hD [2] [0, 1] rfl rfl (by decide) (by decide) hk1 hFc hP1 hD1
  generalize H1 = H at hP hS ⊢
  have hP : va_P (dC, dI) vwCl [(q, .inr (2, [.ref h, .ref q1, .int 0, .int 0, .int 0, .int 0])), (q1, .inl (cy 3, 3, .inr (.inr (.inr (.inr (fun _ => none)))))), (q2, .inr (3, [.ref (u3 0), .int 0])), ((u3 0), .inl (cy 2, 40, .inr (.inr (.inr (.inr (fun _ => none))))))] H := hP
  have hD : va_D A [(q, .inr (2, [.ref h, .ref q1, .int 0, .int 0, .int 0, .int 0])), (q1, .inl (cy 3, 3, .inr (.inr (.inr (.inr (fun _ => none)))))), (q2, .inr (3, [.ref (u3 0), .int 0])), ((u3 0), .inl (cy 2, 40, .inr (.inr (.inr (.inr (fun _ => none))))))] := hD
  refine W.widen (k := 3) (n := 45) (by omega) (by omega) ?_
  refine va_astq hx hb hK hP hD hS 1 3 2 3 rfl rfl rfl rfl (in_ (n := 0) (by decide) (by decide)) dX2_init_38 (fun H locs hP hD hS => ?_)
  have hP : va_P (dC, dI) vwCl [(q, .inr (2, [.ref h, .ref q1, .int 0, .int 0, .int 0, .int 0])), (q1, .inl (cy 3, 3, .inr (.inr (.inr (.inr (va_up (fun _ => none) 0 (some q2))))))), (q2, .inr (3, [.ref (u3 0), .int 0])), ((u3 0), .inl (cy 2, 40, .inr (.inr (.inr (.inr (fun _ => none))))))] H := hP
  have hD : va_D A [(q, .inr (2, [.ref h, .ref q1, .int 0, .int 0, .int 0, .int 0])), (q1, .inl (cy 3, 3, .inr (.inr (.inr (.inr (va_up (fun _ => none) 0 (some q2))))))), (q2, .inr (3, [.ref (u3 0), .int 0])), ((u3 0), .inl (cy 2, 40, .inr (.inr (.inr (.inr (fun _ => none))))))] := hD
  refine lv_iinc (v := 1) (lv' := [(2, .int 1), (0, .ref q), (1, .ref h)]) hx hb dX2_init_39 hl (k := 0) rfl (by decide) (by decide) rfl (fun ls hl => ?_)
  refine lv_goto (tgt := 19) hx hb dX2_init_42 (by decide) ?_
  refine lv_iload_n hx hb dX2_init_19 rfl (lv_at hl 0 rfl) ?_
  refine lv_iconst (v := 3) hx hb dX2_init_20 (by decide) ?_
  refine lv_icmp_ge (tgt := 45) hx hb dX2_init_21 (by decide) (fun hc => absurd hc (by decide)) (fun hc => ?_)
  refine lv_aload_n hx hb dX2_init_24 rfl (lv_at hl 1 rfl) ?_
  refine va_get (D := (dC, dI)) (ci := 2) (v := .ref q1) (C := RX2) (T := TX2) (N := 6) hx hb hts hinX2 hown hK hP 0 rfl rfl 1 (by decide) (hts (.fieldLink RX2 11 "OutboxHouse$Relay" "lanes" "[LOutboxHouse$Row;") (by decide +kernel)) (fun _ h9 => h9) rfl dX2_init_25 ?_
  refine lv_iload_n hx hb dX2_init_28 rfl (lv_at hl 0 rfl) ?_
  refine va_new (ci := 3) (fs := [.null, .int 0]) (C := RX3) (T := TX3) (N := 2) hx hb hts hinX3 tyX3 tyX3_ok hown (hts (.classLink RX2 9 RX3) (by decide +kernel)) (hts (.instantiable RX3 2) (by decide +kernel)) (hts (.initialized RX3) (by decide +kernel)) hK hP hD hS hA rfl (fun j hj => by rcases (show j = 0 ∨ j = 1 by omega) with rfl | rfl <;> rfl) (Nat.le_of_ble_eq_true rfl) (Nat.le_of_ble_eq_true rfl) dX2_init_29 (fun q4 H hP hD hS => ?_)
  have hP : va_P (dC, dI) vwCl [(q, .inr (2, [.ref h, .ref q1, .int 0, .int 0, .int 0, .int 0])), (q1, .inl (cy 3, 3, .inr (.inr (.inr (.inr (va_up (fun _ => none) 0 (some q2))))))), (q2, .inr (3, [.ref (u3 0), .int 0])), ((u3 0), .inl (cy 2, 40, .inr (.inr (.inr (.inr (fun _ => none)))))), (q4, .inr (3, [.null, .int 0]))] H := hP
  have hD : va_D A [(q, .inr (2, [.ref h, .ref q1, .int 0, .int 0, .int 0, .int 0])), (q1, .inl (cy 3, 3, .inr (.inr (.inr (.inr (va_up (fun _ => none) 0 (some q2))))))), (q2, .inr (3, [.ref (u3 0), .int 0])), ((u3 0), .inl (cy 2, 40, .inr (.inr (.inr (.inr (fun _ => none)))))), (q4, .inr (3, [.null, .int 0]))] := hD
  refine W.widen (k := 4) (n := 47) (by omega) (by omega) ?_
  refine lv_dup hx hb dX2_init_32 rfl ?_
  refine lv_bipush (v := 40) hx hb dX2_init_33 (by decide) ?_
  have hPc := hP.sub (ws' := [(q4, .inr (3, [.null, .int 0]))]) [4] rfl
  have hDc := hD.sub (ws' := [(q4, .inr (3, [.null, .int 0]))]) [4] (by decide) rfl
  have hFc := va_free (wc := [(q4, .inr (3, [.null, .int 0]))]) hD hS hA [4] rfl
  refine va_callv (va_runI (As := [.int 40]) (rest := [.ref q4, .int 1, .ref q1]) ⟨hx, hb, hml, hown, hts⟩ (m_X3_init l dC dI cy (va_A [(q4, .inr (3, [.null, .int 0]))] H.size) q4 40 (by decide) hDc.self) (cwI 1 hts gX2_init_X3_init rfl rfl rfl (hts (.initialized RX3) (by decide +kernel)) (hts (.methodLink RX2 21 yX3_init) (by decide +kernel)) (hts (.instanceMethod yX3_init) (by decide +kernel)) rfl (by decide +kernel) ⟨Nat.le_of_ble_eq_true rfl, Nat.le_of_ble_eq_true rfl⟩) ⟨wPre2.blind, wPre2.at (fun q h => Or.inr h) hPc hK hN hO⟩ rfl rfl hl.1 rfl (lv_room (Nat.le_of_ble_eq_true rfl)) dX2_init_35 ⟨Nat.le_of_ble_eq_true rfl, Nat.le_of_ble_eq_true rfl⟩) hS (fun q _ h => hFc q h) hFc (fun u5 t H1 locs ht hvm hw hB hz1 hk1 hS => ?_)
  obtain ⟨hP1, hD1⟩ := hB; rw [ht] at hP1
  obtain ⟨hP, hD⟩ := va_join (wr := [(q, .inr (2, [.ref h, .ref q1, .int 0, .int 0, .int 0, .int 0])), (q1, .inl (cy 3, 3, .inr (.inr (.inr (.inr (va_up (fun _ => none) 0 (some q2))))))), (q2, .inr (3, [.ref (u3 0), .int 0])), ((u3 0), .inl (cy 2, 40, .inr (.inr (.inr (.inr (fun _ => none))))))]) (w1 := [(q4, .inr (3, [.ref (u5 0), .int 0])), ((u5 0), .inl (cy 2, 40, .inr (.inr (.inr (.inr (fun _ => none))))))]) hP hD [4] [0, 1, 2, 3] rfl rfl (by decide) (by decide) hk1 hFc hP1 hD1
  generalize H1 = H at hP hS ⊢
  have hP : va_P (dC, dI) vwCl [(q, .inr (2, [.ref h, .ref q1, .int 0, .int 0, .int 0, .int 0])), (q1, .inl (cy 3, 3, .inr (.inr (.inr (.inr (va_up (fun _ => none) 0 (some q2))))))), (q2, .inr (3, [.ref (u3 0), .int 0])), ((u3 0), .inl (cy 2, 40, .inr (.inr (.inr (.inr (fun _ => none)))))), (q4, .inr (3, [.ref (u5 0), .int 0])), ((u5 0), .inl (cy 2, 40, .inr (.inr (.inr (.inr (fun _ => none))))))] H := hP
  have hD : va_D A [(q, .inr (2, [.ref h, .ref q1, .int 0, .int 0, .int 0, .int 0])), (q1, .inl (cy 3, 3, .inr (.inr (.inr (.inr (va_up (fun _ => none) 0 (some q2))))))), (q2, .inr (3, [.ref (u3 0), .int 0])), ((u3 0), .inl (cy 2, 40, .inr (.inr (.inr (.inr (fun _ => none)))))), (q4, .inr (3, [.ref (u5 0), .int 0])), ((u5 0), .inl (cy 2, 40, .inr (.inr (.inr (.inr (fun _ => none))))))] := hD
  refine W.widen (k := 5) (n := 87) (by omega) (by omega) ?_
  refine va_astq hx hb hK hP hD hS 1 3 4 3 rfl rfl rfl rfl (in_ (n := 1) (by decide) (by decide)) dX2_init_38 (fun H locs hP hD hS => ?_)
  have hP : va_P (dC, dI) vwCl [(q, .inr (2, [.ref h, .ref q1, .int 0, .int 0, .int 0, .int 0])), (q1, .inl (cy 3, 3, .inr (.inr (.inr (.inr (va_up (va_up (fun _ => none) 0 (some q2)) 1 (some q4))))))), (q2, .inr (3, [.ref (u3 0), .int 0])), ((u3 0), .inl (cy 2, 40, .inr (.inr (.inr (.inr (fun _ => none)))))), (q4, .inr (3, [.ref (u5 0), .int 0])), ((u5 0), .inl (cy 2, 40, .inr (.inr (.inr (.inr (fun _ => none))))))] H := hP
  have hD : va_D A [(q, .inr (2, [.ref h, .ref q1, .int 0, .int 0, .int 0, .int 0])), (q1, .inl (cy 3, 3, .inr (.inr (.inr (.inr (va_up (va_up (fun _ => none) 0 (some q2)) 1 (some q4))))))), (q2, .inr (3, [.ref (u3 0), .int 0])), ((u3 0), .inl (cy 2, 40, .inr (.inr (.inr (.inr (fun _ => none)))))), (q4, .inr (3, [.ref (u5 0), .int 0])), ((u5 0), .inl (cy 2, 40, .inr (.inr (.inr (.inr (fun _ => none))))))] := hD
  refine lv_iinc (v := 2) (lv' := [(2, .int 2), (0, .ref q), (1, .ref h)]) hx hb dX2_init_39 hl (k := 0) rfl (by decide) (by decide) rfl (fun ls hl => ?_)
  refine lv_goto (tgt := 19) hx hb dX2_init_42 (by decide) ?_
  refine lv_iload_n hx hb dX2_init_19 rfl (lv_at hl 0 rfl) ?_
  refine lv_iconst (v := 3) hx hb dX2_init_20 (by decide) ?_
  refine lv_icmp_ge (tgt := 45) hx hb dX2_init_21 (by decide) (fun hc => absurd hc (by decide)) (fun hc => ?_)
  refine lv_aload_n hx hb dX2_init_24 rfl (lv_at hl 1 rfl) ?_
  refine va_get (D := (dC, dI)) (ci := 2) (v := .ref q1) (C := RX2) (T := TX2) (N := 6) hx hb hts hinX2 hown hK hP 0 rfl rfl 1 (by decide) (hts (.fieldLink RX2 11 "OutboxHouse$Relay" "lanes" "[LOutboxHouse$Row;") (by decide +kernel)) (fun _ h9 => h9) rfl dX2_init_25 ?_
  refine lv_iload_n hx hb dX2_init_28 rfl (lv_at hl 0 rfl) ?_
  refine va_new (ci := 3) (fs := [.null, .int 0]) (C := RX3) (T := TX3) (N := 2) hx hb hts hinX3 tyX3 tyX3_ok hown (hts (.classLink RX2 9 RX3) (by decide +kernel)) (hts (.instantiable RX3 2) (by decide +kernel)) (hts (.initialized RX3) (by decide +kernel)) hK hP hD hS hA rfl (fun j hj => by rcases (show j = 0 ∨ j = 1 by omega) with rfl | rfl <;> rfl) (Nat.le_of_ble_eq_true rfl) (Nat.le_of_ble_eq_true rfl) dX2_init_29 (fun q6 H hP hD hS => ?_)
  have hP : va_P (dC, dI) vwCl [(q, .inr (2, [.ref h, .ref q1, .int 0, .int 0, .int 0, .int 0])), (q1, .inl (cy 3, 3, .inr (.inr (.inr (.inr (va_up (va_up (fun _ => none) 0 (some q2)) 1 (some q4))))))), (q2, .inr (3, [.ref (u3 0), .int 0])), ((u3 0), .inl (cy 2, 40, .inr (.inr (.inr (.inr (fun _ => none)))))), (q4, .inr (3, [.ref (u5 0), .int 0])), ((u5 0), .inl (cy 2, 40, .inr (.inr (.inr (.inr (fun _ => none)))))), (q6, .inr (3, [.null, .int 0]))] H := hP
  have hD : va_D A [(q, .inr (2, [.ref h, .ref q1, .int 0, .int 0, .int 0, .int 0])), (q1, .inl (cy 3, 3, .inr (.inr (.inr (.inr (va_up (va_up (fun _ => none) 0 (some q2)) 1 (some q4))))))), (q2, .inr (3, [.ref (u3 0), .int 0])), ((u3 0), .inl (cy 2, 40, .inr (.inr (.inr (.inr (fun _ => none)))))), (q4, .inr (3, [.ref (u5 0), .int 0])), ((u5 0), .inl (cy 2, 40, .inr (.inr (.inr (.inr (fun _ => none)))))), (q6, .inr (3, [.null, .int 0]))] := hD
  refine W.widen (k := 6) (n := 89) (by omega) (by omega) ?_
  refine lv_dup hx hb dX2_init_32 rfl ?_
  refine lv_bipush (v := 40) hx hb dX2_init_33 (by decide) ?_
  have hPc := hP.sub (ws' := [(q6, .inr (3, [.null, .int 0]))]) [6] rfl
  have hDc := hD.sub (ws' := [(q6, .inr (3, [.null, .int 0]))]) [6] (by decide) rfl
  have hFc := va_free (wc := [(q6, .inr (3, [.null, .int 0]))]) hD hS hA [6] rfl
  refine va_callv (va_runI (As := [.int 40]) (rest := [.ref q6, .int 2, .ref q1]) ⟨hx, hb, hml, hown, hts⟩ (m_X3_init l dC dI cy (va_A [(q6, .inr (3, [.null, .int 0]))] H.size) q6 40 (by decide) hDc.self) (cwI 1 hts gX2_init_X3_init rfl rfl rfl (hts (.initialized RX3) (by decide +kernel)) (hts (.methodLink RX2 21 yX3_init) (by decide +kernel)) (hts (.instanceMethod yX3_init) (by decide +kernel)) rfl (by decide +kernel) ⟨Nat.le_of_ble_eq_true rfl, Nat.le_of_ble_eq_true rfl⟩) ⟨wPre2.blind, wPre2.at (fun q h => Or.inr h) hPc hK hN hO⟩ rfl rfl hl.1 rfl (lv_room (Nat.le_of_ble_eq_true rfl)) dX2_init_35 ⟨Nat.le_of_ble_eq_true rfl, Nat.le_of_ble_eq_true rfl⟩) hS (fun q _ h => hFc q h) hFc (fun u7 t H1 locs ht hvm hw hB hz1 hk1 hS => ?_)
  obtain ⟨hP1, hD1⟩ := hB; rw [ht] at hP1
  obtain ⟨hP, hD⟩ := va_join (wr := [(q, .inr (2, [.ref h, .ref q1, .int 0, .int 0, .int 0, .int 0])), (q1, .inl (cy 3, 3, .inr (.inr (.inr (.inr (va_up (va_up (fun _ => none) 0 (some q2)) 1 (some q4))))))), (q2, .inr (3, [.ref (u3 0), .int 0])), ((u3 0), .inl (cy 2, 40, .inr (.inr (.inr (.inr (fun _ => none)))))), (q4, .inr (3, [.ref (u5 0), .int 0])), ((u5 0), .inl (cy 2, 40, .inr (.inr (.inr (.inr (fun _ => none))))))]) (w1 := [(q6, .inr (3, [.ref (u7 0), .int 0])), ((u7 0), .inl (cy 2, 40, .inr (.inr (.inr (.inr (fun _ => none))))))]) hP hD [6] [0, 1, 2, 3, 4, 5] rfl rfl (by decide) (by decide) hk1 hFc hP1 hD1
  generalize H1 = H at hP hS ⊢
  have hP : va_P (dC, dI) vwCl [(q, .inr (2, [.ref h, .ref q1, .int 0, .int 0, .int 0, .int 0])), (q1, .inl (cy 3, 3, .inr (.inr (.inr (.inr (va_up (va_up (fun _ => none) 0 (some q2)) 1 (some q4))))))), (q2, .inr (3, [.ref (u3 0), .int 0])), ((u3 0), .inl (cy 2, 40, .inr (.inr (.inr (.inr (fun _ => none)))))), (q4, .inr (3, [.ref (u5 0), .int 0])), ((u5 0), .inl (cy 2, 40, .inr (.inr (.inr (.inr (fun _ => none)))))), (q6, .inr (3, [.ref (u7 0), .int 0])), ((u7 0), .inl (cy 2, 40, .inr (.inr (.inr (.inr (fun _ => none))))))] H := hP
  have hD : va_D A [(q, .inr (2, [.ref h, .ref q1, .int 0, .int 0, .int 0, .int 0])), (q1, .inl (cy 3, 3, .inr (.inr (.inr (.inr (va_up (va_up (fun _ => none) 0 (some q2)) 1 (some q4))))))), (q2, .inr (3, [.ref (u3 0), .int 0])), ((u3 0), .inl (cy 2, 40, .inr (.inr (.inr (.inr (fun _ => none)))))), (q4, .inr (3, [.ref (u5 0), .int 0])), ((u5 0), .inl (cy 2, 40, .inr (.inr (.inr (.inr (fun _ => none)))))), (q6, .inr (3, [.ref (u7 0), .int 0])), ((u7 0), .inl (cy 2, 40, .inr (.inr (.inr (.inr (fun _ => none))))))] := hD
  refine W.widen (k := 7) (n := 129) (by omega) (by omega) ?_
  refine va_astq hx hb hK hP hD hS 1 3 6 3 rfl rfl rfl rfl (in_ (n := 2) (by decide) (by decide)) dX2_init_38 (fun H locs hP hD hS => ?_)
  have hP : va_P (dC, dI) vwCl [(q, .inr (2, [.ref h, .ref q1, .int 0, .int 0, .int 0, .int 0])), (q1, .inl (cy 3, 3, .inr (.inr (.inr (.inr (va_up (va_up (va_up (fun _ => none) 0 (some q2)) 1 (some q4)) 2 (some q6))))))), (q2, .inr (3, [.ref (u3 0), .int 0])), ((u3 0), .inl (cy 2, 40, .inr (.inr (.inr (.inr (fun _ => none)))))), (q4, .inr (3, [.ref (u5 0), .int 0])), ((u5 0), .inl (cy 2, 40, .inr (.inr (.inr (.inr (fun _ => none)))))), (q6, .inr (3, [.ref (u7 0), .int 0])), ((u7 0), .inl (cy 2, 40, .inr (.inr (.inr (.inr (fun _ => none))))))] H := hP
  have hD : va_D A [(q, .inr (2, [.ref h, .ref q1, .int 0, .int 0, .int 0, .int 0])), (q1, .inl (cy 3, 3, .inr (.inr (.inr (.inr (va_up (va_up (va_up (fun _ => none) 0 (some q2)) 1 (some q4)) 2 (some q6))))))), (q2, .inr (3, [.ref (u3 0), .int 0])), ((u3 0), .inl (cy 2, 40, .inr (.inr (.inr (.inr (fun _ => none)))))), (q4, .inr (3, [.ref (u5 0), .int 0])), ((u5 0), .inl (cy 2, 40, .inr (.inr (.inr (.inr (fun _ => none)))))), (q6, .inr (3, [.ref (u7 0), .int 0])), ((u7 0), .inl (cy 2, 40, .inr (.inr (.inr (.inr (fun _ => none))))))] := hD
  refine lv_iinc (v := 3) (lv' := [(2, .int 3), (0, .ref q), (1, .ref h)]) hx hb dX2_init_39 hl (k := 0) rfl (by decide) (by decide) rfl (fun ls hl => ?_)
  refine lv_goto (tgt := 19) hx hb dX2_init_42 (by decide) ?_
  refine lv_iload_n hx hb dX2_init_19 rfl (lv_at hl 0 rfl) ?_
  refine lv_iconst (v := 3) hx hb dX2_init_20 (by decide) ?_
  refine lv_icmp_ge (tgt := 45) hx hb dX2_init_21 (by decide) (fun hc => ?_) (fun hc => absurd (by decide) hc)
  exact W.vret hx hb hr (fun t ht hW => ⟨⟨(fun i => match i with | 0 => q1 | 1 => q2 | 2 => (u3 0) | 3 => q4 | 4 => (u5 0) | 5 => q6 | 6 => (u7 0) | _ => 0), rfl, trivial, by rw [ht]; exact hP, hD⟩, hS.F ht⟩) hS.2.2 dX2_init_45

