theorem vc_i (N : Nat) (cA : ClassId) : vp_cell cA (N, .inl (fun _ => 0)) = arrV cA N (fun _ => defaultValue .int) := rfl
theorem vc_z (N : Nat) (cA : ClassId) : vp_cell cA (N, .inl (fun _ => 0)) = arrV cA N (fun _ => defaultValue .boolean) := rfl
theorem ra_o {U : State} {a b : ClassId} {C : String} (h1 : va_RA U a (.object C)) (h2 : va_RA U b (.object C)) : a = b := by
  obtain ⟨_, _, _, _, _, e1⟩ := h1
  obtain ⟨_, _, _, _, _, e2⟩ := h2
  exact Option.some.inj (e1.symm.trans e2)
theorem ra_i {U : State} {a b : ClassId} (h1 : va_RA U a .int) (h2 : va_RA U b .int) : a = b := Option.some.inj (Eq.trans (Eq.symm h1) h2)
theorem ra_z {U : State} {a b : ClassId} (h1 : va_RA U a .boolean) (h2 : va_RA U b .boolean) : a = b := Option.some.inj (Eq.trans (Eq.symm h1) h2)
def wPre2 (D : va_G) (cy : Nat → ClassId) (A : Nat → Prop) (ws : va_W) (U : State) : Prop := wPre D cy A ws U ∧ va_AO RX0 U ∧ va_AO RX3 U
theorem wPre2.blind {D : va_G} {cy : Nat → ClassId} {A : Nat → Prop} {ws : va_W} {av : List Value} : FrameBlind (va_Pc av (wPre2 D cy A ws)) := fun a U g mk q => ⟨q.1, (wPre.blind (av := av) a U g mk ⟨q.1, q.2.1⟩).2, va_AO.moved (u := U) (U := U.calling g mk a) (Vm.Alike.refl U.vm) q.2.2.1, va_AO.moved (u := U) (U := U.calling g mk a) (Vm.Alike.refl U.vm) q.2.2.2⟩
theorem wPre2.at {D : va_G} {cy : Nat → ClassId} {A : Nat → Prop} {ws : va_W} {H : Heap} {s : State} {av : List Value} (hA : ∀ q, H.size ≤ q → A q) (hP : va_P D vwCl ws H) (hK : va_K D vwCl (wT cy) s) (hN : wN s) (hO : va_AO RX0 s ∧ va_AO RX3 s) : ∀ U : State, U.heap = H → s.WarmedH U.vm → va_Pc av (wPre2 D cy A ws) av.toArray U := fun U hU hW => ⟨rfl, ⟨by rw [hU]; exact hP, va_K.moved hW.alike hK, hN.warm hW, by rw [hU]; exact hA⟩, va_AO.moved hW.alike hO.1, va_AO.moved hW.alike hO.2⟩
abbrev rmX1_init : Room := { frames := 1, cells := 1, slots := 400, locals := 12 }
set_option maxHeartbeats 4000000 in
set_option maxRecDepth 100000 in
theorem m_X1_init (l : Launch) (dC : Nat → ClassId) (dI : Nat → Nat → Nat) (cy : Nat → ClassId) (A : Nat → Prop) (q : Nat) (hD : va_D A [(q, .inr (1, [.null, .int 0, .int 0, .int 0]))]) : Met l yX1_init wsX1_init rmX1_init (va_Pc [.ref q] (wPre2 (dC, dI) cy A [(q, .inr (1, [.null, .int 0, .int 0, .int 0]))])) (va_Qv (fun _ : Nat → Nat => True) (fun (u : Nat → Nat) t => wPost (dC, dI) A [(q, .inr (1, [.ref (u 0), .int 0, .int 0, .int 0])), ((u 0), .inl (cy 2, 400, .inr (.inr (.inr (.inr (fun _ => none))))))] t) A) 1 400 A := by
  refine Met.ofW (cc := cX1_init) (maxL := 1) (ret := none) (by decide) rfl ?_
  intro p e s m args below meth c s₁ B hml hv
  obtain ⟨rfl, ⟨hP, hK, hN, hA⟩, hO⟩ := hv
  have hx := B.exec
  have hb := B.bytes
  have hr := B.returns
  have hts := atoms_spec (ws := wsX1_init) B.pre
  have hown : s.vm.findClass RX1 = some m.cls := findClass_of_methodNamed B.named
  have hlocks := B.notSynchronized
  have hin : meth.name = "<init>" := (name_of_methodNamed B.named B.method).1
  have hinX1 : ∀ w ∈ wsX10, w ∈ wsX1_init := fun _ h9 => List.mem_cons_of_mem _ (List.mem_append_right _ h9)
  have hS : va_S A s.heap s.heap [] := va_S.rf
  have hl := lv_entry ([.ref q]) (n := 1) (Nat.le_of_ble_eq_true rfl)
  rw [lg_entry_eq]
  generalize (lg_sl ([.ref q]) ++ List.replicate (1 - (lg_sl ([.ref q])).length) Slot.unset).toArray = ls at hl ⊢
  have hl : lv_has ls 1 [(0, .ref q)] := hl
  have hP : va_P (dC, dI) vwCl [(q, .inr (1, [.null, .int 0, .int 0, .int 0]))] s.heap := hP
  refine lv_aload_n hx hb dX1_init_0 rfl (lv_at hl 0 rfl) ?_
  refine W.objInit hx hb hown (hts (.methodLink RX1 3 objectInit) (by decide +kernel)) (hts (.instanceMethod objectInit) (by decide +kernel)) (hts _ (List.mem_cons_of_mem _ (List.mem_append_left _ (List.mem_of_getElem? (i := 2) rfl)))) rfl (by rw [hml]; exact hl.1) rfl dX1_init_1 (Nat.le_of_ble_eq_true rfl) (Nat.le_of_ble_eq_true rfl) ?_
  refine W.eq (g2 := F0 m 4 ls []) rfl ?_
  refine lv_aload_n hx hb dX1_init_4 rfl (lv_at hl 0 rfl) ?_
  refine lv_sipush (v := 400) hx hb dX1_init_5 (by decide) ?_
  refine va_newq (C := RX0) (N' := 400) hx hb hown (hts (.classLink RX1 9 RX0) (by decide +kernel)) hO.1 hK hP hD hS hA (by decide) (by decide) (by decide) (Nat.le_of_ble_eq_true rfl) (Nat.le_of_ble_eq_true rfl) dX1_init_8 (fun q1 cA H hK2 hP hD hS => ?_)
  have ecA : cA = cy 2 := ra_o (hK2.2 4 _ rfl).2 (hK.2 2 _ rfl).2
  subst ecA
  have hP : va_P (dC, dI) vwCl [(q, .inr (1, [.null, .int 0, .int 0, .int 0])), (q1, .inl (cy 2, 400, .inr (.inr (.inr (.inr (fun _ => none))))))] H := hP
  have hD : va_D A [(q, .inr (1, [.null, .int 0, .int 0, .int 0])), (q1, .inl (cy 2, 400, .inr (.inr (.inr (.inr (fun _ => none))))))] := hD
  refine W.widen (k := 1) (n := 400) (by omega) (by omega) ?_
  refine va_putF (D := (dC, dI)) (ci := 1) (v := .ref q1) (ty := .array (.object "OutboxHouse$Change")) (C := RX1) (T := TX1) (N := 4) hx hb hts hinX1 tyX1 tyX1_ok nmX1 hown hK hP hD hS 0 rfl rfl 0 (by decide) (hts (.fieldLink RX1 11 "OutboxHouse$ChangeLog" "rows" "[LOutboxHouse$Change;") (by decide +kernel)) (fun _ h9 => h9) rfl hin rfl (by decide +kernel) rfl rfl (Nat.le_of_ble_eq_true rfl) dX1_init_11 (fun H locs hP hD hS => ?_)
  have hP : va_P (dC, dI) vwCl [(q, .inr (1, [.ref q1, .int 0, .int 0, .int 0])), (q1, .inl (cy 2, 400, .inr (.inr (.inr (.inr (fun _ => none))))))] H := hP
  have hD : va_D A [(q, .inr (1, [.ref q1, .int 0, .int 0, .int 0])), (q1, .inl (cy 2, 400, .inr (.inr (.inr (.inr (fun _ => none))))))] := hD
  exact W.vret hx hb hr (fun t ht hW => ⟨⟨(fun i => match i with | 0 => q1 | _ => 0), rfl, trivial, by rw [ht]; exact hP, hD⟩, hS.F ht⟩) hS.2.2 dX1_init_14

