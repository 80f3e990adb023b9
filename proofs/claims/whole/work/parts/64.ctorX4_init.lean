abbrev rmX4_init : Room := { frames := 1, cells := 5, slots := 28, locals := 23 }
set_option maxHeartbeats 4000000 in
set_option maxRecDepth 100000 in
theorem m_X4_init (l : Launch) (dC : Nat → ClassId) (dI : Nat → Nat → Nat) (cy : Nat → ClassId) (A : Nat → Prop) (q h : Nat) (hD : va_D A [(q, .inr (4, [.null, .null, .null, .null, .null, .null]))]) : Met l yX4_init wsX4_init rmX4_init (va_Pc [.ref q, .ref h] (wPre2 (dC, dI) cy A [(q, .inr (4, [.null, .null, .null, .null, .null, .null]))])) (va_Qv (fun _ : Nat → Nat => True) (fun (u : Nat → Nat) t => wPost (dC, dI) A [(q, .inr (4, [.ref h, .ref (u 0), .ref (u 1), .ref (u 2), .ref (u 3), .ref (u 4)])), ((u 0), .inl (cy 0, 6, .inl (fun _ => 0))), ((u 1), .inl (cy 0, 6, .inl (fun _ => 0))), ((u 3), .inl (cy 0, 6, .inl (fun _ => 0))), ((u 4), .inl (cy 1, 4, .inl (fun _ => 0))), ((u 2), .inl (cy 0, 6, .inl (upd (upd (upd (upd (upd (upd (fun _ => 0) 0 (-1)) 1 (-1)) 2 (-1)) 3 (-1)) 4 (-1)) 5 (-1))))] t) A) 5 28 A := by
  refine Met.ofW (cc := cX4_init) (maxL := 2) (ret := none) (by decide) rfl ?_
  intro p e s m args below meth c s₁ B hml hv
  obtain ⟨rfl, ⟨hP, hK, hN, hA⟩, hO⟩ := hv
  have hx := B.exec
  have hb := B.bytes
  have hr := B.returns
  have hts := atoms_spec (ws := wsX4_init) B.pre
  have hown : s.vm.findClass RX4 = some m.cls := findClass_of_methodNamed B.named
  have hlocks := B.notSynchronized
  have hin : meth.name = "<init>" := (name_of_methodNamed B.named B.method).1
  have hinX4 : ∀ w ∈ wsX40, w ∈ wsX4_init := fun _ h9 => List.mem_cons_of_mem _ (List.mem_append_right _ h9)
  have hS : va_S A s.heap s.heap [] := va_S.rf
  have hl := lv_entry ([.ref q, .ref h]) (n := 2) (Nat.le_of_ble_eq_true rfl)
  rw [lg_entry_eq]
  generalize (lg_sl ([.ref q, .ref h]) ++ List.replicate (2 - (lg_sl ([.ref q, .ref h])).length) Slot.unset).toArray = ls at hl ⊢
  have hl : lv_has ls 2 [(0, .ref q), (1, .ref h)] := hl
  have hP : va_P (dC, dI) vwCl [(q, .inr (4, [.null, .null, .null, .null, .null, .null]))] s.heap := hP
  refine lv_aload_n hx hb dX4_init_0 rfl (lv_at hl 0 rfl) ?_
  refine W.objInit hx hb hown (hts (.methodLink RX4 3 objectInit) (by decide +kernel)) (hts (.instanceMethod objectInit) (by decide +kernel)) (hts _ (List.mem_cons_of_mem _ (List.mem_append_left _ (List.mem_of_getElem? (i := 2) rfl)))) rfl (by rw [hml]; exact hl.1) rfl dX4_init_1 (Nat.le_of_ble_eq_true rfl) (Nat.le_of_ble_eq_true rfl) ?_
  refine W.eq (g2 := F0 m 4 ls []) rfl ?_
  refine lv_aload_n hx hb dX4_init_4 rfl (lv_at hl 0 rfl) ?_
  refine lv_bipush (v := 6) hx hb dX4_init_5 (by decide) ?_
  refine va_newa (atype := .int) (ty := .int) (n := 6) (a0 := (6, .inl (fun _ => 0))) (N' := 6) hx hb (hts (.arrayClass .int) (by decide +kernel)) rfl hK hP hD hS hA (vc_i 6) (by decide) (cl_ (n := 6) (by decide)) (by decide) (Nat.le_of_ble_eq_true rfl) (Nat.le_of_ble_eq_true rfl) dX4_init_7 (fun q1 cA H hK2 hP hD hS => ?_)
  have ecA : cA = cy 0 := ra_i (hK2.2 4 _ rfl).2 (hK.2 0 _ rfl).2
  subst ecA
  have hP : va_P (dC, dI) vwCl [(q, .inr (4, [.null, .null, .null, .null, .null, .null])), (q1, .inl (cy 0, 6, .inl (fun _ => 0)))] H := hP
  have hD : va_D A [(q, .inr (4, [.null, .null, .null, .null, .null, .null])), (q1, .inl (cy 0, 6, .inl (fun _ => 0)))] := hD
  refine W.widen (k := 1) (n := 6) (by omega) (by omega) ?_
  refine va_putF (D := (dC, dI)) (ci := 4) (v := .ref q1) (ty := .array .int) (C := RX4) (T := TX4) (N := 6) hx hb hts hinX4 tyX4 tyX4_ok nmX4 hown hK hP hD hS 0 rfl rfl 1 (by decide) (hts (.fieldLink RX4 9 "OutboxHouse$Source" "values" "[I") (by decide +kernel)) (fun _ h9 => h9) rfl hin rfl (by decide +kernel) rfl rfl (Nat.le_of_ble_eq_true rfl) dX4_init_9 (fun H locs hP hD hS => ?_)
  have hP : va_P (dC, dI) vwCl [(q, .inr (4, [.null, .ref q1, .null, .null, .null, .null])), (q1, .inl (cy 0, 6, .inl (fun _ => 0)))] H := hP
  have hD : va_D A [(q, .inr (4, [.null, .ref q1, .null, .null, .null, .null])), (q1, .inl (cy 0, 6, .inl (fun _ => 0)))] := hD
  refine lv_aload_n hx hb dX4_init_12 rfl (lv_at hl 0 rfl) ?_
  refine lv_bipush (v := 6) hx hb dX4_init_13 (by decide) ?_
  refine va_newa (atype := .int) (ty := .int) (n := 6) (a0 := (6, .inl (fun _ => 0))) (N' := 6) hx hb (hts (.arrayClass .int) (by decide +kernel)) rfl hK hP hD hS hA (vc_i 6) (by decide) (cl_ (n := 6) (by decide)) (by decide) (Nat.le_of_ble_eq_true rfl) (Nat.le_of_ble_eq_true rfl) dX4_init_15 (fun q2 cA H hK2 hP hD hS => ?_)
  have ecA : cA = cy 0 := ra_i (hK2.2 4 _ rfl).2 (hK.2 0 _ rfl).2
  subst ecA
  have hP : va_P (dC, dI) vwCl [(q, .inr (4, [.null, .ref q1, .null, .null, .null, .null])), (q1, .inl (cy 0, 6, .inl (fun _ => 0))), (q2, .inl (cy 0, 6, .inl (fun _ => 0)))] H := hP
  have hD : va_D A [(q, .inr (4, [.null, .ref q1, .null, .null, .null, .null])), (q1, .inl (cy 0, 6, .inl (fun _ => 0))), (q2, .inl (cy 0, 6, .inl (fun _ => 0)))] := hD
  refine W.widen (k := 2) (n := 12) (by omega) (by omega) ?_
  refine va_putF (D := (dC, dI)) (ci := 4) (v := .ref q2) (ty := .array .int) (C := RX4) (T := TX4) (N := 6) hx hb hts hinX4 tyX4 tyX4_ok nmX4 hown hK hP hD hS 0 rfl rfl 2 (by decide) (hts (.fieldLink RX4 15 "OutboxHouse$Source" "counts" "[I") (by decide +kernel)) (fun _ h9 => h9) rfl hin rfl (by decide +kernel) rfl rfl (Nat.le_of_ble_eq_true rfl) dX4_init_17 (fun H locs hP hD hS => ?_)
  have hP : va_P (dC, dI) vwCl [(q, .inr (4, [.null, .ref q1, .ref q2, .null, .null, .null])), (q1, .inl (cy 0, 6, .inl (fun _ => 0))), (q2, .inl (cy 0, 6, .inl (fun _ => 0)))] H := hP
  have hD : va_D A [(q, .inr (4, [.null, .ref q1, .ref q2, .null, .null, .null])), (q1, .inl (cy 0, 6, .inl (fun _ => 0))), (q2, .inl (cy 0, 6, .inl (fun _ => 0)))] := hD
  refine lv_aload_n hx hb dX4_init_20 rfl (lv_at hl 0 rfl) ?_
  refine lv_bipush (v := 6) hx hb dX4_init_21 (by decide) ?_
  refine va_newa (atype := .int) (ty := .int) (n := 6) (a0 := (6, .inl (fun _ => 0))) (N' := 6) hx hb (hts (.arrayClass .int) (by decide +kernel)) rfl hK hP hD hS hA (vc_i 6) (by decide) (cl_ (n := 6) (by decide)) (by decide) (Nat.le_of_ble_eq_true rfl) (Nat.le_of_ble_eq_true rfl) dX4_init_23 (fun q3 cA H hK2 hP hD hS => ?_)
  have ecA : cA = cy 0 := ra_i (hK2.2 4 _ rfl).2 (hK.2 0 _ rfl).2
  subst ecA
  have hP : va_P (dC, dI) vwCl [(q, .inr (4, [.null, .ref q1, .ref q2, .null, .null, .null])), (q1, .inl (cy 0, 6, .inl (fun _ => 0))), (q2, .inl (cy 0, 6, .inl (fun _ => 0))), (q3, .inl (cy 0, 6, .inl (fun _ => 0)))] H := hP
  have hD : va_D A [(q, .inr (4, [.null, .ref q1, .ref q2, .null, .null, .null])), (q1, .inl (cy 0, 6, .inl (fun _ => 0))), (q2, .inl (cy 0, 6, .inl (fun _ => 0))), (q3, .inl (cy 0, 6, .inl (fun _ => 0)))] := hD
  refine W.widen (k := 3) (n := 18) (by omega) (by omega) ?_
  refine va_putF (D := (dC, dI)) (ci := 4) (v := .ref q3) (ty := .array .int) (C := RX4) (T := TX4) (N := 6) hx hb hts hinX4 tyX4 tyX4_ok nmX4 hown hK hP hD hS 0 rfl rfl 3 (by decide) (hts (.fieldLink RX4 18 "OutboxHouse$Source" "owners" "[I") (by decide +kernel)) (fun _ h9 => h9) rfl hin rfl (by decide +kernel) rfl rfl (Nat.le_of_ble_eq_true rfl) dX4_init_25 (fun H locs hP hD hS => ?_)
  have hP : va_P (dC, dI) vwCl [(q, .inr (4, [.null, .ref q1, .ref q2, .ref q3, .null, .null])), (q1, .inl (cy 0, 6, .inl (fun _ => 0))), (q2, .inl (cy 0, 6, .inl (fun _ => 0))), (q3, .inl (cy 0, 6, .inl (fun _ => 0)))] H := hP
  have hD : va_D A [(q, .inr (4, [.null, .ref q1, .ref q2, .ref q3, .null, .null])), (q1, .inl (cy 0, 6, .inl (fun _ => 0))), (q2, .inl (cy 0, 6, .inl (fun _ => 0))), (q3, .inl (cy 0, 6, .inl (fun _ => 0)))] := hD
  refine lv_aload_n hx hb dX4_init_28 rfl (lv_at hl 0 rfl) ?_
  refine lv_bipush (v := 6) hx hb dX4_init_29 (by decide) ?_
  refine va_newa (atype := .int) (ty := .int) (n := 6) (a0 := (6, .inl (fun _ => 0))) (N' := 6) hx hb (hts (.arrayClass .int) (by decide +kernel)) rfl hK hP hD hS hA (vc_i 6) (by decide) (cl_ (n := 6) (by decide)) (by decide) (Nat.le_of_ble_eq_true rfl) (Nat.le_of_ble_eq_true rfl) dX4_init_31 (fun q4 cA H hK2 hP hD hS => ?_)
  have ecA : cA = cy 0 := ra_i (hK2.2 4 _ rfl).2 (hK.2 0 _ rfl).2
  subst ecA
  have hP : va_P (dC, dI) vwCl [(q, .inr (4, [.null, .ref q1, .ref q2, .ref q3, .null, .null])), (q1, .inl (cy 0, 6, .inl (fun _ => 0))), (q2, .inl (cy 0, 6, .inl (fun _ => 0))), (q3, .inl (cy 0, 6, .inl (fun _ => 0))), (q4, .inl (cy 0, 6, .inl (fun _ => 0)))] H := hP
  have hD : va_D A [(q, .inr (4, [.null, .ref q1, .ref q2, .ref q3, .null, .null])), (q1, .inl (cy 0, 6, .inl (fun _ => 0))), (q2, .inl (cy 0, 6, .inl (fun _ => 0))), (q3, .inl (cy 0, 6, .inl (fun _ => 0))), (q4, .inl (cy 0, 6, .inl (fun _ => 0)))] := hD
  refine W.widen (k := 4) (n := 24) (by omega) (by omega) ?_
  refine va_putF (D := (dC, dI)) (ci := 4) (v := .ref q4) (ty := .array .int) (C := RX4) (T := TX4) (N := 6) hx hb hts hinX4 tyX4 tyX4_ok nmX4 hown hK hP hD hS 0 rfl rfl 4 (by decide) (hts (.fieldLink RX4 21 "OutboxHouse$Source" "drafts" "[I") (by decide +kernel)) (fun _ h9 => h9) rfl hin rfl (by decide +kernel) rfl rfl (Nat.le_of_ble_eq_true rfl) dX4_init_33 (fun H locs hP hD hS => ?_)
  have hP : va_P (dC, dI) vwCl [(q, .inr (4, [.null, .ref q1, .ref q2, .ref q3, .ref q4, .null])), (q1, .inl (cy 0, 6, .inl (fun _ => 0))), (q2, .inl (cy 0, 6, .inl (fun _ => 0))), (q3, .inl (cy 0, 6, .inl (fun _ => 0))), (q4, .inl (cy 0, 6, .inl (fun _ => 0)))] H := hP
  have hD : va_D A [(q, .inr (4, [.null, .ref q1, .ref q2, .ref q3, .ref q4, .null])), (q1, .inl (cy 0, 6, .inl (fun _ => 0))), (q2, .inl (cy 0, 6, .inl (fun _ => 0))), (q3, .inl (cy 0, 6, .inl (fun _ => 0))), (q4, .inl (cy 0, 6, .inl (fun _ => 0)))] := hD
  refine lv_aload_n hx hb dX4_init_36 rfl (lv_at hl 0 rfl) ?_
  refine lv_iconst (v := 4) hx hb dX4_init_37 (by decide) ?_
  refine va_newa (atype := .boolean) (ty := .boolean) (n := 4) (a0 := (4, .inl (fun _ => 0))) (N' := 4) hx hb (hts (.arrayClass .boolean) (by decide +kernel)) rfl hK hP hD hS hA (vc_z 4) (by decide) (cl_ (n := 4) (by decide)) (by decide) (Nat.le_of_ble_eq_true rfl) (Nat.le_of_ble_eq_true rfl) dX4_init_38 (fun q5 cA H hK2 hP hD hS => ?_)
  have ecA : cA = cy 1 := ra_z (hK2.2 4 _ rfl).2 (hK.2 1 _ rfl).2
  subst ecA
  have hP : va_P (dC, dI) vwCl [(q, .inr (4, [.null, .ref q1, .ref q2, .ref q3, .ref q4, .null])), (q1, .inl (cy 0, 6, .inl (fun _ => 0))), (q2, .inl (cy 0, 6, .inl (fun _ => 0))), (q3, .inl (cy 0, 6, .inl (fun _ => 0))), (q4, .inl (cy 0, 6, .inl (fun _ => 0))), (q5, .inl (cy 1, 4, .inl (fun _ => 0)))] H := hP
  have hD : va_D A [(q, .inr (4, [.null, .ref q1, .ref q2, .ref q3, .ref q4, .null])), (q1, .inl (cy 0, 6, .inl (fun _ => 0))), (q2, .inl (cy 0, 6, .inl (fun _ => 0))), (q3, .inl (cy 0, 6, .inl (fun _ => 0))), (q4, .inl (cy 0, 6, .inl (fun _ => 0))), (q5, .inl (cy 1, 4, .inl (fun _ => 0)))] := hD
  refine W.widen (k := 5) (n := 28) (by omega) (by omega) ?_
  refine va_putF (D := (dC, dI)) (ci := 4) (v := .ref q5) (ty := .array .boolean) (C := RX4) (T := TX4) (N := 6) hx hb hts hinX4 tyX4 tyX4_ok nmX4 hown hK hP hD hS 0 rfl rfl 5 (by decide) (hts (.fieldLink RX4 24 "OutboxHouse$Source" "open" "[Z") (by decide +kernel)) (fun _ h9 => h9) rfl hin rfl (by decide +kernel) rfl rfl (Nat.le_of_ble_eq_true rfl) dX4_init_40 (fun H locs hP hD hS => ?_)
  have hP : va_P (dC, dI) vwCl [(q, .inr (4, [.null, .ref q1, .ref q2, .ref q3, .ref q4, .ref q5])), (q1, .inl (cy 0, 6, .inl (fun _ => 0))), (q2, .inl (cy 0, 6, .inl (fun _ => 0))), (q3, .inl (cy 0, 6, .inl (fun _ => 0))), (q4, .inl (cy 0, 6, .inl (fun _ => 0))), (q5, .inl (cy 1, 4, .inl (fun _ => 0)))] H := hP
  have hD : va_D A [(q, .inr (4, [.null, .ref q1, .ref q2, .ref q3, .ref q4, .ref q5])), (q1, .inl (cy 0, 6, .inl (fun _ => 0))), (q2, .inl (cy 0, 6, .inl (fun _ => 0))), (q3, .inl (cy 0, 6, .inl (fun _ => 0))), (q4, .inl (cy 0, 6, .inl (fun _ => 0))), (q5, .inl (cy 1, 4, .inl (fun _ => 0)))] := hD
  refine lv_aload_n hx hb dX4_init_43 rfl (lv_at hl 0 rfl) ?_
  refine lv_aload_n hx hb dX4_init_44 rfl (lv_at hl 1 rfl) ?_
  refine va_putF (D := (dC, dI)) (ci := 4) (v := .ref h) (ty := .object "OutboxHouse$ChangeLog") (C := RX4) (T := TX4) (N := 6) hx hb hts hinX4 tyX4 tyX4_ok nmX4 hown hK hP hD hS 0 rfl rfl 0 (by decide) (hts (.fieldLink RX4 28 "OutboxHouse$Source" "changes" "LOutboxHouse$ChangeLog;") (by decide +kernel)) (fun _ h9 => h9) rfl hin rfl (by decide +kernel) rfl rfl (Nat.le_of_ble_eq_true rfl) dX4_init_45 (fun H locs hP hD hS => ?_)
  have hP : va_P (dC, dI) vwCl [(q, .inr (4, [.ref h, .ref q1, .ref q2, .ref q3, .ref q4, .ref q5])), (q1, .inl (cy 0, 6, .inl (fun _ => 0))), (q2, .inl (cy 0, 6, .inl (fun _ => 0))), (q3, .inl (cy 0, 6, .inl (fun _ => 0))), (q4, .inl (cy 0, 6, .inl (fun _ => 0))), (q5, .inl (cy 1, 4, .inl (fun _ => 0)))] H := hP
  have hD : va_D A [(q, .inr (4, [.ref h, .ref q1, .ref q2, .ref q3, .ref q4, .ref q5])), (q1, .inl (cy 0, 6, .inl (fun _ => 0))), (q2, .inl (cy 0, 6, .inl (fun _ => 0))), (q3, .inl (cy 0, 6, .inl (fun _ => 0))), (q4, .inl (cy 0, 6, .inl (fun _ => 0))), (q5, .inl (cy 1, 4, .inl (fun _ => 0)))] := hD
  refine lv_aload_n hx hb dX4_init_48 rfl (lv_at hl 0 rfl) ?_
  refine va_get (D := (dC, dI)) (ci := 4) (v := .ref q3) (C := RX4) (T := TX4) (N := 6) hx hb hts hinX4 hown hK hP 0 rfl rfl 3 (by decide) (hts (.fieldLink RX4 18 "OutboxHouse$Source" "owners" "[I") (by decide +kernel)) (fun _ h9 => h9) rfl dX4_init_49 ?_
  refine lv_iconst (v := (-1)) hx hb dX4_init_52 (by decide) ?_
  have hPc := hP.sub (ws' := [(q3, .inl (cy 0, 6, .inl (fun _ => 0)))]) [3] rfl
  have hDc := hD.sub (ws' := [(q3, .inl (cy 0, 6, .inl (fun _ => 0)))]) [3] (by decide) rfl
  have hFc := va_free (wc := [(q3, .inl (cy 0, 6, .inl (fun _ => 0)))]) hD hS hA [3] rfl
  refine va_callv (va_runS (As := [.ref q3, .int (-1)]) (rest := []) ⟨hx, hb, hml, hown, hts⟩ (mF_fill l dC dI cy (va_A [(q3, .inl (cy 0, 6, .inl (fun _ => 0)))] H.size) q3 hDc.self) (va_cwS 2 hts gX4_init_J7_fill_53178 rfl rfl rfl (by decide +kernel) ⟨Nat.le_of_ble_eq_true rfl, Nat.le_of_ble_eq_true rfl⟩) ⟨wPre2.blind, wPre2.at (fun q h => Or.inr h) hPc hK hN hO⟩ rfl rfl hl.1 rfl (lv_room (Nat.le_of_ble_eq_true rfl)) dX4_init_53 ⟨Nat.le_of_ble_eq_true rfl, Nat.le_of_ble_eq_true rfl⟩) hS (fun q _ h => hFc q h) hFc (fun u6 t H1 locs ht hvm hw hB hz1 hk1 hS => ?_)
  obtain ⟨hP1, hD1⟩ := hB; rw [ht] at hP1
  obtain ⟨hP, hD⟩ := va_join (wr := [(q, .inr (4, [.ref h, .ref q1, .ref q2, .ref q3, .ref q4, .ref q5])), (q1, .inl (cy 0, 6, .inl (fun _ => 0))), (q2, .inl (cy 0, 6, .inl (fun _ => 0))), (q4, .inl (cy 0, 6, .inl (fun _ => 0))), (q5, .inl (cy 1, 4, .inl (fun _ => 0)))]) (w1 := [(q3, .inl (cy 0, 6, .inl (upd (upd (upd (upd (upd (upd (fun _ => 0) 0 (-1)) 1 (-1)) 2 (-1)) 3 (-1)) 4 (-1)) 5 (-1))))]) hP hD [3] [0, 1, 2, 4, 5] rfl rfl (by decide) (by decide) hk1 hFc hP1 hD1
  generalize H1 = H at hP hS ⊢
  have hP : va_P (dC, dI) vwCl [(q, .inr (4, [.ref h, .ref q1, .ref q2, .ref q3, .ref q4, .ref q5])), (q1, .inl (cy 0, 6, .inl (fun _ => 0))), (q2, .inl (cy 0, 6, .inl (fun _ => 0))), (q4, .inl (cy 0, 6, .inl (fun _ => 0))), (q5, .inl (cy 1, 4, .inl (fun _ => 0))), (q3, .inl (cy 0, 6, .inl (upd (upd (upd (upd (upd (upd (fun _ => 0) 0 (-1)) 1 (-1)) 2 (-1)) 3 (-1)) 4 (-1)) 5 (-1))))] H := hP
  have hD : va_D A [(q, .inr (4, [.ref h, .ref q1, .ref q2, .ref q3, .ref q4, .ref q5])), (q1, .inl (cy 0, 6, .inl (fun _ => 0))), (q2, .inl (cy 0, 6, .inl (fun _ => 0))), (q4, .inl (cy 0, 6, .inl (fun _ => 0))), (q5, .inl (cy 1, 4, .inl (fun _ => 0))), (q3, .inl (cy 0, 6, .inl (upd (upd (upd (upd (upd (upd (fun _ => 0) 0 (-1)) 1 (-1)) 2 (-1)) 3 (-1)) 4 (-1)) 5 (-1))))] := hD
  refine W.widen (k := 5) (n := 28) (by omega) (by omega) ?_
  exact W.vret hx hb hr (fun t ht hW => ⟨⟨(fun i => match i with | 0 => q1 | 1 => q2 | 2 => q3 | 3 => q4 | 4 => q5 | _ => 0), rfl, trivial, by rw [ht]; exact hP, hD⟩, hS.F ht⟩) hS.2.2 dX4_init_56

