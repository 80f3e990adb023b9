abbrev rmX1_hasRoomFor : Room := { frames := 0, cells := 0, slots := 0, locals := 0 }
set_option maxHeartbeats 4000000 in
set_option maxRecDepth 100000 in
theorem g_X1_hasRoomFor (l : Launch) (dC : Nat → ClassId) (dI : Nat → Nat → Nat) (cy : Nat → ClassId) (ad : Nat → Nat) (A : Nat → Prop) (I : St) (J : Rf) (LP : List Nat) (P : St) (p1 : Int32) {post : Int32 → St → Rf → List Nat → St → Prop} (hD : va_D A (cW ad cy I J LP P)) (h : wp_X1_hasRoomFor I J LP P p1 post) {Qc : Array Value → State → Outcome → State → Prop} (hQ : ∀ (a : Array Value) (s0 t : State) (r : Int32) (I' : St) (J' : Rf) (LP' : List Nat) (P' : St), post r I' J' LP' P' → wPost (dC, dI) A (cW ad cy I' J' LP' P') t → va_F A s0 t → Qc a s0 (.returned (some (.int r))) t) : Met l yX1_hasRoomFor wsX1_hasRoomFor rmX1_hasRoomFor (va_Pc [.ref (ad 1), .int p1] (wPre (dC, dI) cy A (cW ad cy I J LP P))) Qc 0 0 A := by
  refine Met.ofW (cc := cX1_hasRoomFor) (maxL := 2) (ret := (some .boolean)) (by decide) rfl ?_
  intro p e s m args below meth c s₁ B hml hv
  obtain ⟨rfl, hP, hK, hN, hA⟩ := hv
  have hx := B.exec
  have hb := B.bytes
  have hr := B.returns
  have hts := atoms_spec (ws := wsX1_hasRoomFor) B.pre
  have hown : s.vm.findClass RX1 = some m.cls := findClass_of_methodNamed B.named
  have hlocks := B.notSynchronized
  have hinX1 : ∀ w ∈ wsX10, w ∈ wsX1_hasRoomFor := fun _ h9 => List.mem_cons_of_mem _ (List.mem_append_right _ h9)
  have hS : va_S A s.heap s.heap [] := va_S.rf
  unfold wp_X1_hasRoomFor at h
  have hl := lv_entry ([.ref (ad 1), .int p1]) (n := 2) (Nat.le_of_ble_eq_true rfl)
  rw [lg_entry_eq]
  generalize (lg_sl ([.ref (ad 1), .int p1]) ++ List.replicate (2 - (lg_sl ([.ref (ad 1), .int p1])).length) Slot.unset).toArray = ls at hl ⊢
  have hl : lv_has ls 2 [(0, .ref (ad 1)), (1, .int p1)] := hl
  refine lv_iload_n hx hb dX1_hasRoomFor_0 rfl (lv_at hl 1 rfl) ?_
  refine lv_sipush (v := 400) hx hb dX1_hasRoomFor_1 (by decide) ?_
  refine lv_aload_n hx hb dX1_hasRoomFor_4 rfl (lv_at hl 0 rfl) ?_
  refine va_get (D := (dC, dI)) (ci := 1) (v := .int (I 1 2)) (C := RX1) (T := TX1) (N := 4) hx hb hts hinX1 hown hK hP 1 cG_1 rfl 3 (by decide) (hts (.fieldLink RX1 17 "OutboxHouse$ChangeLog" "end" "I") (by decide +kernel)) (fun _ h9 => h9) rfl dX1_hasRoomFor_5 ?_
  refine lv_isub hx hb dX1_hasRoomFor_8 ?_
  refine lv_icmp_gt (tgt := 16) hx hb dX1_hasRoomFor_9 (by decide) (fun hc => ?_) (fun hc => ?_)
  · have h := h.1 hc
    refine lv_iconst (v := 0) hx hb dX1_hasRoomFor_16 (by decide) ?_
    exact W.zret (v := 0) (ty := .boolean) hx hb hr rfl (fun t ht hW => hQ _ _ t 0 I J LP P h ⟨by rw [ht]; exact hP, hD⟩ (hS.F ht)) hS.2.2 dX1_hasRoomFor_17
  · have h := h.2 hc
    refine lv_iconst (v := 1) hx hb dX1_hasRoomFor_12 (by decide) ?_
    refine lv_goto (tgt := 17) hx hb dX1_hasRoomFor_13 (by decide) ?_
    exact W.zret (v := 1) (ty := .boolean) hx hb hr rfl (fun t ht hW => hQ _ _ t 1 I J LP P h ⟨by rw [ht]; exact hP, hD⟩ (hS.F ht)) hS.2.2 dX1_hasRoomFor_17
theorem m_X1_hasRoomFor (l : Launch) (dC : Nat → ClassId) (dI : Nat → Nat → Nat) (cy : Nat → ClassId) (ad : Nat → Nat) (A : Nat → Prop) (I : St) (J : Rf) (LP : List Nat) (P : St) (p1 : Int32) {post : Int32 → St → Rf → List Nat → St → Prop} (hD : va_D A (cW ad cy I J LP P)) (h : wp_X1_hasRoomFor I J LP P p1 post) : Met l yX1_hasRoomFor wsX1_hasRoomFor rmX1_hasRoomFor (va_Pc [.ref (ad 1), .int p1] (wPre (dC, dI) cy A (cW ad cy I J LP P))) (va_Qi (fun r (u : CS) => post r u.1 u.2.1 u.2.2.1 u.2.2.2) (fun (u : CS) t => wPost (dC, dI) A (cW ad cy u.1 u.2.1 u.2.2.1 u.2.2.2) t) A) 0 0 A := g_X1_hasRoomFor l dC dI cy ad A I J LP P p1 hD h (fun a s0 t r I' J' LP' P' h1 h2 h3 => ⟨⟨r, (I', J', LP', P'), rfl, h1, h2⟩, h3⟩)
abbrev rmX1_at : Room := { frames := 0, cells := 0, slots := 0, locals := 0 }
set_option maxHeartbeats 4000000 in
set_option maxRecDepth 100000 in
theorem g_X1_at (l : Launch) (dC : Nat → ClassId) (dI : Nat → Nat → Nat) (cy : Nat → ClassId) (ad : Nat → Nat) (A : Nat → Prop) (I : St) (J : Rf) (LP : List Nat) (P : St) (p1 : Int32) {post : Option Nat → St → Rf → List Nat → St → Prop} (hD : va_D A (cW ad cy I J LP P)) (h : wp_X1_at I J LP P p1 post) {Qc : Array Value → State → Outcome → State → Prop} (hQ : ∀ (a : Array Value) (s0 t : State) (r : Option Nat) (I' : St) (J' : Rf) (LP' : List Nat) (P' : St), post r I' J' LP' P' → wPost (dC, dI) A (cW ad cy I' J' LP' P') t → va_F A s0 t → Qc a s0 (.returned (some (va_rf r))) t) : Met l yX1_at wsX1_at rmX1_at (va_Pc [.ref (ad 1), .int p1] (wPre (dC, dI) cy A (cW ad cy I J LP P))) Qc 0 0 A := by
  refine Met.ofW (cc := cX1_at) (maxL := 2) (ret := (some (.object "OutboxHouse$Change"))) (by decide) rfl ?_
  intro p e s m args below meth c s₁ B hml hv
  obtain ⟨rfl, hP, hK, hN, hA⟩ := hv
  have hx := B.exec
  have hb := B.bytes
  have hr := B.returns
  have hts := atoms_spec (ws := wsX1_at) B.pre
  have hown : s.vm.findClass RX1 = some m.cls := findClass_of_methodNamed B.named
  have hlocks := B.notSynchronized
  have hinX1 : ∀ w ∈ wsX10, w ∈ wsX1_at := fun _ h9 => List.mem_cons_of_mem _ (List.mem_append_right _ h9)
  have hS : va_S A s.heap s.heap [] := va_S.rf
  unfold wp_X1_at at h
  have hl := lv_entry ([.ref (ad 1), .int p1]) (n := 2) (Nat.le_of_ble_eq_true rfl)
  rw [lg_entry_eq]
  generalize (lg_sl ([.ref (ad 1), .int p1]) ++ List.replicate (2 - (lg_sl ([.ref (ad 1), .int p1])).length) Slot.unset).toArray = ls at hl ⊢
  have hl : lv_has ls 2 [(0, .ref (ad 1)), (1, .int p1)] := hl
  refine lv_iload_n hx hb dX1_at_0 rfl (lv_at hl 1 rfl) ?_
  refine lv_if_lt (tgt := 21) hx hb dX1_at_1 (by decide) (fun hc => ?_) (fun hc => ?_)
  · have h := h.1 hc
    refine lv_null hx hb dX1_at_21 ?_
    exact W.aret (v := .null) hx hb hr (Or.inl ⟨_, rfl⟩) (Or.inl rfl) (fun t ht hW => hQ _ _ t none I J LP P h ⟨by rw [ht]; exact hP, hD⟩ (hS.F ht)) hS.2.2 dX1_at_22
  · have h := h.2 hc
    refine lv_iload_n hx hb dX1_at_4 rfl (lv_at hl 1 rfl) ?_
    refine lv_aload_n hx hb dX1_at_5 rfl (lv_at hl 0 rfl) ?_
    refine va_get (D := (dC, dI)) (ci := 1) (v := .int (I 1 2)) (C := RX1) (T := TX1) (N := 4) hx hb hts hinX1 hown hK hP 1 cG_1 rfl 3 (by decide) (hts (.fieldLink RX1 17 "OutboxHouse$ChangeLog" "end" "I") (by decide +kernel)) (fun _ h9 => h9) rfl dX1_at_6 ?_
    refine lv_icmp_ge (tgt := 21) hx hb dX1_at_9 (by decide) (fun hc => ?_) (fun hc => ?_)
    · have h := h.1 hc
      refine lv_null hx hb dX1_at_21 ?_
      exact W.aret (v := .null) hx hb hr (Or.inl ⟨_, rfl⟩) (Or.inl rfl) (fun t ht hW => hQ _ _ t none I J LP P h ⟨by rw [ht]; exact hP, hD⟩ (hS.F ht)) hS.2.2 dX1_at_22
    · have h := h.2 hc
      refine lv_aload_n hx hb dX1_at_12 rfl (lv_at hl 0 rfl) ?_
      refine va_get (D := (dC, dI)) (ci := 1) (v := .ref (ad 2)) (C := RX1) (T := TX1) (N := 4) hx hb hts hinX1 hown hK hP 1 cG_1 rfl 0 (by decide) (hts (.fieldLink RX1 11 "OutboxHouse$ChangeLog" "rows" "[LOutboxHouse$Change;") (by decide +kernel)) (fun _ h9 => h9) rfl dX1_at_13 ?_
      refine lv_iload_n hx hb dX1_at_16 rfl (lv_at hl 1 rfl) ?_
      have hv := h.1; replace h := h.2
      refine va_aldq hx hb hK hP 2 2 cG_2 rfl hv dX1_at_17 ?_
      rcases hq : J 2 p1.toNatClampNeg with _ | a1
      · replace h := h.1 hq
        try rw [hq]
        refine W.eq (g2 := F0 m 18 ls [.null]) rfl ?_
        refine lv_goto (tgt := 22) hx hb dX1_at_18 (by decide) ?_
        exact W.aret (v := .null) hx hb hr (Or.inl ⟨_, rfl⟩) (Or.inl rfl) (fun t ht hW => hQ _ _ t none I J LP P h ⟨by rw [ht]; exact hP, hD⟩ (hS.F ht)) hS.2.2 dX1_at_22
      · replace h := h.2 _ hq
        try rw [hq]
        refine W.eq (g2 := F0 m 18 ls [.ref a1]) rfl ?_
        refine lv_goto (tgt := 22) hx hb dX1_at_18 (by decide) ?_
        exact W.aret (v := .ref a1) hx hb hr (Or.inl ⟨_, rfl⟩) (Or.inr ⟨_, rfl⟩) (fun t ht hW => hQ _ _ t (some a1) I J LP P h ⟨by rw [ht]; exact hP, hD⟩ (hS.F ht)) hS.2.2 dX1_at_22
theorem m_X1_at (l : Launch) (dC : Nat → ClassId) (dI : Nat → Nat → Nat) (cy : Nat → ClassId) (ad : Nat → Nat) (A : Nat → Prop) (I : St) (J : Rf) (LP : List Nat) (P : St) (p1 : Int32) {post : Option Nat → St → Rf → List Nat → St → Prop} (hD : va_D A (cW ad cy I J LP P)) (h : wp_X1_at I J LP P p1 post) : Met l yX1_at wsX1_at rmX1_at (va_Pc [.ref (ad 1), .int p1] (wPre (dC, dI) cy A (cW ad cy I J LP P))) (va_Qq (fun r (u : CS) => post r u.1 u.2.1 u.2.2.1 u.2.2.2) (fun (u : CS) t => wPost (dC, dI) A (cW ad cy u.1 u.2.1 u.2.2.1 u.2.2.2) t) A) 0 0 A := g_X1_at l dC dI cy ad A I J LP P p1 hD h (fun a s0 t r I' J' LP' P' h1 h2 h3 => ⟨⟨r, (I', J', LP', P'), rfl, h1, h2⟩, h3⟩)
abbrev rmX1_flushedAt : Room := { frames := 0, cells := 0, slots := 0, locals := 0 }
set_option maxHeartbeats 4000000 in
set_option maxRecDepth 100000 in
theorem g_X1_flushedAt (l : Launch) (dC : Nat → ClassId) (dI : Nat → Nat → Nat) (cy : Nat → ClassId) (ad : Nat → Nat) (A : Nat → Prop) (I : St) (J : Rf) (LP : List Nat) (P : St) (p1 : Int32) {post : Option Nat → St → Rf → List Nat → St → Prop} (hD : va_D A (cW ad cy I J LP P)) (h : wp_X1_flushedAt I J LP P p1 post) {Qc : Array Value → State → Outcome → State → Prop} (hQ : ∀ (a : Array Value) (s0 t : State) (r : Option Nat) (I' : St) (J' : Rf) (LP' : List Nat) (P' : St), post r I' J' LP' P' → wPost (dC, dI) A (cW ad cy I' J' LP' P') t → va_F A s0 t → Qc a s0 (.returned (some (va_rf r))) t) : Met l yX1_flushedAt wsX1_flushedAt rmX1_flushedAt (va_Pc [.ref (ad 1), .int p1] (wPre (dC, dI) cy A (cW ad cy I J LP P))) Qc 0 0 A := by
  refine Met.ofW (cc := cX1_flushedAt) (maxL := 2) (ret := (some (.object "OutboxHouse$Change"))) (by decide) rfl ?_
  intro p e s m args below meth c s₁ B hml hv
  obtain ⟨rfl, hP, hK, hN, hA⟩ := hv
  have hx := B.exec
  have hb := B.bytes
  have hr := B.returns
  have hts := atoms_spec (ws := wsX1_flushedAt) B.pre
  have hown : s.vm.findClass RX1 = some m.cls := findClass_of_methodNamed B.named
  have hlocks := B.notSynchronized
  have hinX1 : ∀ w ∈ wsX10, w ∈ wsX1_flushedAt := fun _ h9 => List.mem_cons_of_mem _ (List.mem_append_right _ h9)
  have hS : va_S A s.heap s.heap [] := va_S.rf
  unfold wp_X1_flushedAt at h
  have hl := lv_entry ([.ref (ad 1), .int p1]) (n := 2) (Nat.le_of_ble_eq_true rfl)
  rw [lg_entry_eq]
  generalize (lg_sl ([.ref (ad 1), .int p1]) ++ List.replicate (2 - (lg_sl ([.ref (ad 1), .int p1])).length) Slot.unset).toArray = ls at hl ⊢
  have hl : lv_has ls 2 [(0, .ref (ad 1)), (1, .int p1)] := hl
  refine lv_iload_n hx hb dX1_flushedAt_0 rfl (lv_at hl 1 rfl) ?_
  refine lv_if_lt (tgt := 21) hx hb dX1_flushedAt_1 (by decide) (fun hc => ?_) (fun hc => ?_)
  · have h := h.1 hc
    refine lv_null hx hb dX1_flushedAt_21 ?_
    exact W.aret (v := .null) hx hb hr (Or.inl ⟨_, rfl⟩) (Or.inl rfl) (fun t ht hW => hQ _ _ t none I J LP P h ⟨by rw [ht]; exact hP, hD⟩ (hS.F ht)) hS.2.2 dX1_flushedAt_22
  · have h := h.2 hc
    refine lv_iload_n hx hb dX1_flushedAt_4 rfl (lv_at hl 1 rfl) ?_
    refine lv_aload_n hx hb dX1_flushedAt_5 rfl (lv_at hl 0 rfl) ?_
    refine va_get (D := (dC, dI)) (ci := 1) (v := .int (I 1 1)) (C := RX1) (T := TX1) (N := 4) hx hb hts hinX1 hown hK hP 1 cG_1 rfl 2 (by decide) (hts (.fieldLink RX1 24 "OutboxHouse$ChangeLog" "flushed" "I") (by decide +kernel)) (fun _ h9 => h9) rfl dX1_flushedAt_6 ?_
    refine lv_icmp_ge (tgt := 21) hx hb dX1_flushedAt_9 (by decide) (fun hc => ?_) (fun hc => ?_)
    · have h := h.1 hc
      refine lv_null hx hb dX1_flushedAt_21 ?_
      exact W.aret (v := .null) hx hb hr (Or.inl ⟨_, rfl⟩) (Or.inl rfl) (fun t ht hW => hQ _ _ t none I J LP P h ⟨by rw [ht]; exact hP, hD⟩ (hS.F ht)) hS.2.2 dX1_flushedAt_22
    · have h := h.2 hc
      refine lv_aload_n hx hb dX1_flushedAt_12 rfl (lv_at hl 0 rfl) ?_
      refine va_get (D := (dC, dI)) (ci := 1) (v := .ref (ad 2)) (C := RX1) (T := TX1) (N := 4) hx hb hts hinX1 hown hK hP 1 cG_1 rfl 0 (by decide) (hts (.fieldLink RX1 11 "OutboxHouse$ChangeLog" "rows" "[LOutboxHouse$Change;") (by decide +kernel)) (fun _ h9 => h9) rfl dX1_flushedAt_13 ?_
      refine lv_iload_n hx hb dX1_flushedAt_16 rfl (lv_at hl 1 rfl) ?_
      have hv := h.1; replace h := h.2
      refine va_aldq hx hb hK hP 2 2 cG_2 rfl hv dX1_flushedAt_17 ?_
      rcases hq : J 2 p1.toNatClampNeg with _ | a1
      · replace h := h.1 hq
        try rw [hq]
        refine W.eq (g2 := F0 m 18 ls [.null]) rfl ?_
        refine lv_goto (tgt := 22) hx hb dX1_flushedAt_18 (by decide) ?_
        exact W.aret (v := .null) hx hb hr (Or.inl ⟨_, rfl⟩) (Or.inl rfl) (fun t ht hW => hQ _ _ t none I J LP P h ⟨by rw [ht]; exact hP, hD⟩ (hS.F ht)) hS.2.2 dX1_flushedAt_22
      · replace h := h.2 _ hq
        try rw [hq]
        refine W.eq (g2 := F0 m 18 ls [.ref a1]) rfl ?_
        refine lv_goto (tgt := 22) hx hb dX1_flushedAt_18 (by decide) ?_
        exact W.aret (v := .ref a1) hx hb hr (Or.inl ⟨_, rfl⟩) (Or.inr ⟨_, rfl⟩) (fun t ht hW => hQ _ _ t (some a1) I J LP P h ⟨by rw [ht]; exact hP, hD⟩ (hS.F ht)) hS.2.2 dX1_flushedAt_22
theorem m_X1_flushedAt (l : Launch) (dC : Nat → ClassId) (dI : Nat → Nat → Nat) (cy : Nat → ClassId) (ad : Nat → Nat) (A : Nat → Prop) (I : St) (J : Rf) (LP : List Nat) (P : St) (p1 : Int32) {post : Option Nat → St → Rf → List Nat → St → Prop} (hD : va_D A (cW ad cy I J LP P)) (h : wp_X1_flushedAt I J LP P p1 post) : Met l yX1_flushedAt wsX1_flushedAt rmX1_flushedAt (va_Pc [.ref (ad 1), .int p1] (wPre (dC, dI) cy A (cW ad cy I J LP P))) (va_Qq (fun r (u : CS) => post r u.1 u.2.1 u.2.2.1 u.2.2.2) (fun (u : CS) t => wPost (dC, dI) A (cW ad cy u.1 u.2.1 u.2.2.1 u.2.2.2) t) A) 0 0 A := g_X1_flushedAt l dC dI cy ad A I J LP P p1 hD h (fun a s0 t r I' J' LP' P' h1 h2 h3 => ⟨⟨r, (I', J', LP', P'), rfl, h1, h2⟩, h3⟩)
abbrev rmX1_isFlushed : Room := { frames := 0, cells := 0, slots := 0, locals := 0 }
set_option maxHeartbeats 4000000 in
set_option maxRecDepth 100000 in
theorem g_X1_isFlushed (l : Launch) (dC : Nat → ClassId) (dI : Nat → Nat → Nat) (cy : Nat → ClassId) (ad : Nat → Nat) (A : Nat → Prop) (I : St) (J : Rf) (LP : List Nat) (P : St) (p1 : Int32) {post : Int32 → St → Rf → List Nat → St → Prop} (hD : va_D A (cW ad cy I J LP P)) (h : wp_X1_isFlushed I J LP P p1 post) {Qc : Array Value → State → Outcome → State → Prop} (hQ : ∀ (a : Array Value) (s0 t : State) (r : Int32) (I' : St) (J' : Rf) (LP' : List Nat) (P' : St), post r I' J' LP' P' → wPost (dC, dI) A (cW ad cy I' J' LP' P') t → va_F A s0 t → Qc a s0 (.returned (some (.int r))) t) : Met l yX1_isFlushed wsX1_isFlushed rmX1_isFlushed (va_Pc [.ref (ad 1), .int p1] (wPre (dC, dI) cy A (cW ad cy I J LP P))) Qc 0 0 A := by
  refine Met.ofW (cc := cX1_isFlushed) (maxL := 2) (ret := (some .boolean)) (by decide) rfl ?_
  intro p e s m args below meth c s₁ B hml hv
  obtain ⟨rfl, hP, hK, hN, hA⟩ := hv
  have hx := B.exec
  have hb := B.bytes
  have hr := B.returns
  have hts := atoms_spec (ws := wsX1_isFlushed) B.pre
  have hown : s.vm.findClass RX1 = some m.cls := findClass_of_methodNamed B.named
  have hlocks := B.notSynchronized
  have hinX1 : ∀ w ∈ wsX10, w ∈ wsX1_isFlushed := fun _ h9 => List.mem_cons_of_mem _ (List.mem_append_right _ h9)
  have hS : va_S A s.heap s.heap [] := va_S.rf
  unfold wp_X1_isFlushed at h
  have hl := lv_entry ([.ref (ad 1), .int p1]) (n := 2) (Nat.le_of_ble_eq_true rfl)
  rw [lg_entry_eq]
  generalize (lg_sl ([.ref (ad 1), .int p1]) ++ List.replicate (2 - (lg_sl ([.ref (ad 1), .int p1])).length) Slot.unset).toArray = ls at hl ⊢
  have hl : lv_has ls 2 [(0, .ref (ad 1)), (1, .int p1)] := hl
  refine lv_iload_n hx hb dX1_isFlushed_0 rfl (lv_at hl 1 rfl) ?_
  refine lv_aload_n hx hb dX1_isFlushed_1 rfl (lv_at hl 0 rfl) ?_
  refine va_get (D := (dC, dI)) (ci := 1) (v := .int (I 1 1)) (C := RX1) (T := TX1) (N := 4) hx hb hts hinX1 hown hK hP 1 cG_1 rfl 2 (by decide) (hts (.fieldLink RX1 24 "OutboxHouse$ChangeLog" "flushed" "I") (by decide +kernel)) (fun _ h9 => h9) rfl dX1_isFlushed_2 ?_
  refine lv_icmp_ge (tgt := 12) hx hb dX1_isFlushed_5 (by decide) (fun hc => ?_) (fun hc => ?_)
  · have h := h.1 hc
    refine lv_iconst (v := 0) hx hb dX1_isFlushed_12 (by decide) ?_
    exact W.zret (v := 0) (ty := .boolean) hx hb hr rfl (fun t ht hW => hQ _ _ t 0 I J LP P h ⟨by rw [ht]; exact hP, hD⟩ (hS.F ht)) hS.2.2 dX1_isFlushed_13
  · have h := h.2 hc
    refine lv_iconst (v := 1) hx hb dX1_isFlushed_8 (by decide) ?_
    refine lv_goto (tgt := 13) hx hb dX1_isFlushed_9 (by decide) ?_
    exact W.zret (v := 1) (ty := .boolean) hx hb hr rfl (fun t ht hW => hQ _ _ t 1 I J LP P h ⟨by rw [ht]; exact hP, hD⟩ (hS.F ht)) hS.2.2 dX1_isFlushed_13
theorem m_X1_isFlushed (l : Launch) (dC : Nat → ClassId) (dI : Nat → Nat → Nat) (cy : Nat → ClassId) (ad : Nat → Nat) (A : Nat → Prop) (I : St) (J : Rf) (LP : List Nat) (P : St) (p1 : Int32) {post : Int32 → St → Rf → List Nat → St → Prop} (hD : va_D A (cW ad cy I J LP P)) (h : wp_X1_isFlushed I J LP P p1 post) : Met l yX1_isFlushed wsX1_isFlushed rmX1_isFlushed (va_Pc [.ref (ad 1), .int p1] (wPre (dC, dI) cy A (cW ad cy I J LP P))) (va_Qi (fun r (u : CS) => post r u.1 u.2.1 u.2.2.1 u.2.2.2) (fun (u : CS) t => wPost (dC, dI) A (cW ad cy u.1 u.2.1 u.2.2.1 u.2.2.2) t) A) 0 0 A := g_X1_isFlushed l dC dI cy ad A I J LP P p1 hD h (fun a s0 t r I' J' LP' P' h1 h2 h3 => ⟨⟨r, (I', J', LP', P'), rfl, h1, h2⟩, h3⟩)
abbrev rmX1_isCut : Room := { frames := 0, cells := 0, slots := 0, locals := 0 }
set_option maxHeartbeats 4000000 in
set_option maxRecDepth 100000 in
theorem g_X1_isCut (l : Launch) (dC : Nat → ClassId) (dI : Nat → Nat → Nat) (cy : Nat → ClassId) (ad : Nat → Nat) (A : Nat → Prop) (I : St) (J : Rf) (LP : List Nat) (P : St) (p1 : Int32) {post : Int32 → St → Rf → List Nat → St → Prop} (hD : va_D A (cW ad cy I J LP P)) (h : wp_X1_isCut I J LP P p1 post) {Qc : Array Value → State → Outcome → State → Prop} (hQ : ∀ (a : Array Value) (s0 t : State) (r : Int32) (I' : St) (J' : Rf) (LP' : List Nat) (P' : St), post r I' J' LP' P' → wPost (dC, dI) A (cW ad cy I' J' LP' P') t → va_F A s0 t → Qc a s0 (.returned (some (.int r))) t) : Met l yX1_isCut wsX1_isCut rmX1_isCut (va_Pc [.ref (ad 1), .int p1] (wPre (dC, dI) cy A (cW ad cy I J LP P))) Qc 0 0 A := by
  refine Met.ofW (cc := cX1_isCut) (maxL := 2) (ret := (some .boolean)) (by decide) rfl ?_
  intro p e s m args below meth c s₁ B hml hv
  obtain ⟨rfl, hP, hK, hN, hA⟩ := hv
  have hx := B.exec
  have hb := B.bytes
  have hr := B.returns
  have hts := atoms_spec (ws := wsX1_isCut) B.pre
  have hown : s.vm.findClass RX1 = some m.cls := findClass_of_methodNamed B.named
  have hlocks := B.notSynchronized
  have hinX1 : ∀ w ∈ wsX10, w ∈ wsX1_isCut := fun _ h9 => List.mem_cons_of_mem _ (List.mem_append_right _ h9)
  have hS : va_S A s.heap s.heap [] := va_S.rf
  unfold wp_X1_isCut at h
  have hl := lv_entry ([.ref (ad 1), .int p1]) (n := 2) (Nat.le_of_ble_eq_true rfl)
  rw [lg_entry_eq]
  generalize (lg_sl ([.ref (ad 1), .int p1]) ++ List.replicate (2 - (lg_sl ([.ref (ad 1), .int p1])).length) Slot.unset).toArray = ls at hl ⊢
  have hl : lv_has ls 2 [(0, .ref (ad 1)), (1, .int p1)] := hl
  refine lv_iload_n hx hb dX1_isCut_0 rfl (lv_at hl 1 rfl) ?_
  refine lv_aload_n hx hb dX1_isCut_1 rfl (lv_at hl 0 rfl) ?_
  refine va_get (D := (dC, dI)) (ci := 1) (v := .int (I 1 0)) (C := RX1) (T := TX1) (N := 4) hx hb hts hinX1 hown hK hP 1 cG_1 rfl 1 (by decide) (hts (.fieldLink RX1 27 "OutboxHouse$ChangeLog" "first" "I") (by decide +kernel)) (fun _ h9 => h9) rfl dX1_isCut_2 ?_
  refine lv_icmp_ge (tgt := 12) hx hb dX1_isCut_5 (by decide) (fun hc => ?_) (fun hc => ?_)
  · have h := h.1 hc
    refine lv_iconst (v := 0) hx hb dX1_isCut_12 (by decide) ?_
    exact W.zret (v := 0) (ty := .boolean) hx hb hr rfl (fun t ht hW => hQ _ _ t 0 I J LP P h ⟨by rw [ht]; exact hP, hD⟩ (hS.F ht)) hS.2.2 dX1_isCut_13
  · have h := h.2 hc
    refine lv_iconst (v := 1) hx hb dX1_isCut_8 (by decide) ?_
    refine lv_goto (tgt := 13) hx hb dX1_isCut_9 (by decide) ?_
    exact W.zret (v := 1) (ty := .boolean) hx hb hr rfl (fun t ht hW => hQ _ _ t 1 I J LP P h ⟨by rw [ht]; exact hP, hD⟩ (hS.F ht)) hS.2.2 dX1_isCut_13
theorem m_X1_isCut (l : Launch) (dC : Nat → ClassId) (dI : Nat → Nat → Nat) (cy : Nat → ClassId) (ad : Nat → Nat) (A : Nat → Prop) (I : St) (J : Rf) (LP : List Nat) (P : St) (p1 : Int32) {post : Int32 → St → Rf → List Nat → St → Prop} (hD : va_D A (cW ad cy I J LP P)) (h : wp_X1_isCut I J LP P p1 post) : Met l yX1_isCut wsX1_isCut rmX1_isCut (va_Pc [.ref (ad 1), .int p1] (wPre (dC, dI) cy A (cW ad cy I J LP P))) (va_Qi (fun r (u : CS) => post r u.1 u.2.1 u.2.2.1 u.2.2.2) (fun (u : CS) t => wPost (dC, dI) A (cW ad cy u.1 u.2.1 u.2.2.1 u.2.2.2) t) A) 0 0 A := g_X1_isCut l dC dI cy ad A I J LP P p1 hD h (fun a s0 t r I' J' LP' P' h1 h2 h3 => ⟨⟨r, (I', J', LP', P'), rfl, h1, h2⟩, h3⟩)
abbrev rmX1_dropUnflushed : Room := { frames := 0, cells := 0, slots := 0, locals := 0 }
set_option maxHeartbeats 4000000 in
set_option maxRecDepth 100000 in
theorem g_X1_dropUnflushed (l : Launch) (dC : Nat → ClassId) (dI : Nat → Nat → Nat) (cy : Nat → ClassId) (ad : Nat → Nat) (A : Nat → Prop) (I : St) (J : Rf) (LP : List Nat) (P : St)  {post : Int32 → St → Rf → List Nat → St → Prop} (hD : va_D A (cW ad cy I J LP P)) (h : wp_X1_dropUnflushed I J LP P  post) {Qc : Array Value → State → Outcome → State → Prop} (hQ : ∀ (a : Array Value) (s0 t : State) (r : Int32) (I' : St) (J' : Rf) (LP' : List Nat) (P' : St), post r I' J' LP' P' → wPost (dC, dI) A (cW ad cy I' J' LP' P') t → va_F A s0 t → Qc a s0 (.returned (some (.int r))) t) : Met l yX1_dropUnflushed wsX1_dropUnflushed rmX1_dropUnflushed (va_Pc [.ref (ad 1)] (wPre (dC, dI) cy A (cW ad cy I J LP P))) Qc 0 0 A := by
  refine Met.ofW (cc := cX1_dropUnflushed) (maxL := 2) (ret := (some .int)) (by decide) rfl ?_
  intro p e s m args below meth c s₁ B hml hv
  obtain ⟨rfl, hP, hK, hN, hA⟩ := hv
  have hx := B.exec
  have hb := B.bytes
  have hr := B.returns
  have hts := atoms_spec (ws := wsX1_dropUnflushed) B.pre
  have hown : s.vm.findClass RX1 = some m.cls := findClass_of_methodNamed B.named
  have hlocks := B.notSynchronized
  have hinX1 : ∀ w ∈ wsX10, w ∈ wsX1_dropUnflushed := fun _ h9 => List.mem_cons_of_mem _ (List.mem_append_right _ h9)
  have hS : va_S A s.heap s.heap [] := va_S.rf
  unfold wp_X1_dropUnflushed at h
  have hl := lv_entry ([.ref (ad 1)]) (n := 2) (Nat.le_of_ble_eq_true rfl)
  rw [lg_entry_eq]
  generalize (lg_sl ([.ref (ad 1)]) ++ List.replicate (2 - (lg_sl ([.ref (ad 1)])).length) Slot.unset).toArray = ls at hl ⊢
  have hl : lv_has ls 2 [(0, .ref (ad 1))] := hl
  refine lv_aload_n hx hb dX1_dropUnflushed_0 rfl (lv_at hl 0 rfl) ?_
  refine va_get (D := (dC, dI)) (ci := 1) (v := .int (I 1 2)) (C := RX1) (T := TX1) (N := 4) hx hb hts hinX1 hown hK hP 1 cG_1 rfl 3 (by decide) (hts (.fieldLink RX1 17 "OutboxHouse$ChangeLog" "end" "I") (by decide +kernel)) (fun _ h9 => h9) rfl dX1_dropUnflushed_1 ?_
  refine lv_aload_n hx hb dX1_dropUnflushed_4 rfl (lv_at hl 0 rfl) ?_
  refine va_get (D := (dC, dI)) (ci := 1) (v := .int (I 1 1)) (C := RX1) (T := TX1) (N := 4) hx hb hts hinX1 hown hK hP 1 cG_1 rfl 2 (by decide) (hts (.fieldLink RX1 24 "OutboxHouse$ChangeLog" "flushed" "I") (by decide +kernel)) (fun _ h9 => h9) rfl dX1_dropUnflushed_5 ?_
  refine lv_isub hx hb dX1_dropUnflushed_8 ?_
  refine lv_istore_n (lv' := [(1, .int ((I 1 2) - (I 1 1))), (0, .ref (ad 1))]) hx hb dX1_dropUnflushed_9 rfl hl (by decide) rfl (fun ls hl => ?_)
  refine lv_aload_n hx hb dX1_dropUnflushed_10 rfl (lv_at hl 1 rfl) ?_
  refine lv_aload_n hx hb dX1_dropUnflushed_11 rfl (lv_at hl 1 rfl) ?_
  refine va_get (D := (dC, dI)) (ci := 1) (v := .int (I 1 1)) (C := RX1) (T := TX1) (N := 4) hx hb hts hinX1 hown hK hP 1 cG_1 rfl 2 (by decide) (hts (.fieldLink RX1 24 "OutboxHouse$ChangeLog" "flushed" "I") (by decide +kernel)) (fun _ h9 => h9) rfl dX1_dropUnflushed_12 ?_
  refine va_put (D := (dC, dI)) (ci := 1) (v := .int (I 1 1)) (ty := .int) (C := RX1) (T := TX1) (N := 4) hx hb hts hinX1 tyX1 tyX1_ok nmX1 hown hK hP hD hS 1 cG_1 rfl 3 (by decide) (hts (.fieldLink RX1 17 "OutboxHouse$ChangeLog" "end" "I") (by decide +kernel)) (fun _ h9 => h9) rfl (by decide +kernel) rfl rfl (Nat.le_of_ble_eq_true rfl) dX1_dropUnflushed_15 (fun H locs hP hD hS => ?_)
  obtain ⟨I1, hI1⟩ : ∃ z : St, z = st I 1 2 (I 1 1) := ⟨_, rfl⟩
  replace hP := wP (cE_1_2 hI1) hP; replace hD := wD (cE_1_2 hI1) hD; replace h := h _ hI1
  refine lv_iload_n hx hb dX1_dropUnflushed_18 rfl (lv_at hl 0 rfl) ?_
  exact W.iret (v := (I 1 2) - (I 1 1)) hx hb hr (fun t ht hW => hQ _ _ t ((I 1 2) - (I 1 1)) I1 J LP P h ⟨by rw [ht]; exact hP, hD⟩ (hS.F ht)) hS.2.2 dX1_dropUnflushed_19
theorem m_X1_dropUnflushed (l : Launch) (dC : Nat → ClassId) (dI : Nat → Nat → Nat) (cy : Nat → ClassId) (ad : Nat → Nat) (A : Nat → Prop) (I : St) (J : Rf) (LP : List Nat) (P : St)  {post : Int32 → St → Rf → List Nat → St → Prop} (hD : va_D A (cW ad cy I J LP P)) (h : wp_X1_dropUnflushed I J LP P  post) : Met l yX1_dropUnflushed wsX1_dropUnflushed rmX1_dropUnflushed (va_Pc [.ref (ad 1)] (wPre (dC, dI) cy A (cW ad cy I J LP P))) (va_Qi (fun r (u : CS) => post r u.1 u.2.1 u.2.2.1 u.2.2.2) (fun (u : CS) t => wPost (dC, dI) A (cW ad cy u.1 u.2.1 u.2.2.1 u.2.2.2) t) A) 0 0 A := g_X1_dropUnflushed l dC dI cy ad A I J LP P  hD h (fun a s0 t r I' J' LP' P' h1 h2 h3 => ⟨⟨r, (I', J', LP', P'), rfl, h1, h2⟩, h3⟩)
abbrev rmX1_cutUpTo : Room := { frames := 0, cells := 0, slots := 0, locals := 0 }
set_option maxHeartbeats 4000000 in
set_option maxRecDepth 100000 in
theorem g_X1_cutUpTo (l : Launch) (dC : Nat → ClassId) (dI : Nat → Nat → Nat) (cy : Nat → ClassId) (ad : Nat → Nat) (A : Nat → Prop) (I : St) (J : Rf) (LP : List Nat) (P : St) (p1 : Int32) {post : Int32 → St → Rf → List Nat → St → Prop} (hD : va_D A (cW ad cy I J LP P)) (h : wp_X1_cutUpTo I J LP P p1 post) {Qc : Array Value → State → Outcome → State → Prop} (hQ : ∀ (a : Array Value) (s0 t : State) (r : Int32) (I' : St) (J' : Rf) (LP' : List Nat) (P' : St), post r I' J' LP' P' → wPost (dC, dI) A (cW ad cy I' J' LP' P') t → va_F A s0 t → Qc a s0 (.returned (some (.int r))) t) : Met l yX1_cutUpTo wsX1_cutUpTo rmX1_cutUpTo (va_Pc [.ref (ad 1), .int p1] (wPre (dC, dI) cy A (cW ad cy I J LP P))) Qc 0 0 A := by
  refine Met.ofW (cc := cX1_cutUpTo) (maxL := 3) (ret := (some .int)) (by decide) rfl ?_
  intro p e s m args below meth c s₁ B hml hv
  obtain ⟨rfl, hP, hK, hN, hA⟩ := hv
  have hx := B.exec
  have hb := B.bytes
  have hr := B.returns
  have hts := atoms_spec (ws := wsX1_cutUpTo) B.pre
  have hown : s.vm.findClass RX1 = some m.cls := findClass_of_methodNamed B.named
  have hlocks := B.notSynchronized
  have hinX1 : ∀ w ∈ wsX10, w ∈ wsX1_cutUpTo := fun _ h9 => List.mem_cons_of_mem _ (List.mem_append_right _ h9)
  have hS : va_S A s.heap s.heap [] := va_S.rf
  unfold wp_X1_cutUpTo at h
  have hl := lv_entry ([.ref (ad 1), .int p1]) (n := 3) (Nat.le_of_ble_eq_true rfl)
  rw [lg_entry_eq]
  generalize (lg_sl ([.ref (ad 1), .int p1]) ++ List.replicate (3 - (lg_sl ([.ref (ad 1), .int p1])).length) Slot.unset).toArray = ls at hl ⊢
  have hl : lv_has ls 3 [(0, .ref (ad 1)), (1, .int p1)] := hl
  refine lv_iload_n hx hb dX1_cutUpTo_0 rfl (lv_at hl 1 rfl) ?_
  refine lv_aload_n hx hb dX1_cutUpTo_1 rfl (lv_at hl 0 rfl) ?_
  refine va_get (D := (dC, dI)) (ci := 1) (v := .int (I 1 0)) (C := RX1) (T := TX1) (N := 4) hx hb hts hinX1 hown hK hP 1 cG_1 rfl 1 (by decide) (hts (.fieldLink RX1 27 "OutboxHouse$ChangeLog" "first" "I") (by decide +kernel)) (fun _ h9 => h9) rfl dX1_cutUpTo_2 ?_
  refine lv_isub hx hb dX1_cutUpTo_5 ?_
  refine lv_istore_n (lv' := [(2, .int (p1 - (I 1 0))), (0, .ref (ad 1)), (1, .int p1)]) hx hb dX1_cutUpTo_6 rfl hl (by decide) rfl (fun ls hl => ?_)
  refine lv_aload_n hx hb dX1_cutUpTo_7 rfl (lv_at hl 1 rfl) ?_
  refine lv_iload_n hx hb dX1_cutUpTo_8 rfl (lv_at hl 2 rfl) ?_
  refine va_put (D := (dC, dI)) (ci := 1) (v := .int p1) (ty := .int) (C := RX1) (T := TX1) (N := 4) hx hb hts hinX1 tyX1 tyX1_ok nmX1 hown hK hP hD hS 1 cG_1 rfl 1 (by decide) (hts (.fieldLink RX1 27 "OutboxHouse$ChangeLog" "first" "I") (by decide +kernel)) (fun _ h9 => h9) rfl (by decide +kernel) rfl rfl (Nat.le_of_ble_eq_true rfl) dX1_cutUpTo_9 (fun H locs hP hD hS => ?_)
  obtain ⟨I1, hI1⟩ : ∃ z : St, z = st I 1 0 p1 := ⟨_, rfl⟩
  replace hP := wP (cE_1_0 hI1) hP; replace hD := wD (cE_1_0 hI1) hD; replace h := h _ hI1
  refine lv_iload_n hx hb dX1_cutUpTo_12 rfl (lv_at hl 0 rfl) ?_
  exact W.iret (v := p1 - (I 1 0)) hx hb hr (fun t ht hW => hQ _ _ t (p1 - (I 1 0)) I1 J LP P h ⟨by rw [ht]; exact hP, hD⟩ (hS.F ht)) hS.2.2 dX1_cutUpTo_13
theorem m_X1_cutUpTo (l : Launch) (dC : Nat → ClassId) (dI : Nat → Nat → Nat) (cy : Nat → ClassId) (ad : Nat → Nat) (A : Nat → Prop) (I : St) (J : Rf) (LP : List Nat) (P : St) (p1 : Int32) {post : Int32 → St → Rf → List Nat → St → Prop} (hD : va_D A (cW ad cy I J LP P)) (h : wp_X1_cutUpTo I J LP P p1 post) : Met l yX1_cutUpTo wsX1_cutUpTo rmX1_cutUpTo (va_Pc [.ref (ad 1), .int p1] (wPre (dC, dI) cy A (cW ad cy I J LP P))) (va_Qi (fun r (u : CS) => post r u.1 u.2.1 u.2.2.1 u.2.2.2) (fun (u : CS) t => wPost (dC, dI) A (cW ad cy u.1 u.2.1 u.2.2.1 u.2.2.2) t) A) 0 0 A := g_X1_cutUpTo l dC dI cy ad A I J LP P p1 hD h (fun a s0 t r I' J' LP' P' h1 h2 h3 => ⟨⟨r, (I', J', LP', P'), rfl, h1, h2⟩, h3⟩)
abbrev rmX3_add : Room := { frames := 0, cells := 0, slots := 0, locals := 0 }
set_option maxHeartbeats 4000000 in
set_option maxRecDepth 100000 in
theorem g_X3_add (l : Launch) (dC : Nat → ClassId) (dI : Nat → Nat → Nat) (cy : Nat → ClassId) (ad : Nat → Nat) (A : Nat → Prop) (I : St) (J : Rf) (LP : List Nat) (P : St) (j : Nat) (h_j : 11 ≤ j ∧ j ≤ 14) (a0 : Nat) {post : St → Rf → List Nat → St → Prop} (hD : va_D A (cW ad cy I J LP P)) (h : wp_X3_add I J LP P j a0 post) {Qc : Array Value → State → Outcome → State → Prop} (hQ : ∀ (a : Array Value) (s0 t : State) (I' : St) (J' : Rf) (LP' : List Nat) (P' : St), post I' J' LP' P' → wPost (dC, dI) A (cW ad cy I' J' LP' P') t → va_F A s0 t → Qc a s0 (.returned (none)) t) : Met l yX3_add wsX3_add rmX3_add (va_Pc [.ref (ad j), .ref a0] (wPre (dC, dI) cy A (cW ad cy I J LP P))) Qc 0 0 A := by
  refine Met.ofW (cc := cX3_add) (maxL := 2) (ret := none) (by decide) rfl ?_
  intro p e s m args below meth c s₁ B hml hv
  obtain ⟨rfl, hP, hK, hN, hA⟩ := hv
  have hx := B.exec
  have hb := B.bytes
  have hr := B.returns
  have hts := atoms_spec (ws := wsX3_add) B.pre
  have hown : s.vm.findClass RX3 = some m.cls := findClass_of_methodNamed B.named
  have hlocks := B.notSynchronized
  have hinX3 : ∀ w ∈ wsX30, w ∈ wsX3_add := fun _ h9 => List.mem_cons_of_mem _ (List.mem_append_right _ h9)
  have hS : va_S A s.heap s.heap [] := va_S.rf
  unfold wp_X3_add at h
  have hl := lv_entry ([.ref (ad j), .ref a0]) (n := 2) (Nat.le_of_ble_eq_true rfl)
  rw [lg_entry_eq]
  generalize (lg_sl ([.ref (ad j), .ref a0]) ++ List.replicate (2 - (lg_sl ([.ref (ad j), .ref a0])).length) Slot.unset).toArray = ls at hl ⊢
  have hl : lv_has ls 2 [(0, .ref (ad j)), (1, .ref a0)] := hl
  refine lv_aload_n hx hb dX3_add_0 rfl (lv_at hl 0 rfl) ?_
  refine va_get (D := (dC, dI)) (ci := 3) (v := .int (I j 0)) (C := RX3) (T := TX3) (N := 2) hx hb hts hinX3 hown hK hP j (cG_row (j := j) h_j) rfl 1 (by decide) (hts (.fieldLink RX3 23 "OutboxHouse$Row" "size" "I") (by decide +kernel)) (fun _ h9 => h9) rfl dX3_add_1 ?_
  refine lv_aload_n hx hb dX3_add_4 rfl (lv_at hl 0 rfl) ?_
  refine va_get (D := (dC, dI)) (ci := 3) (v := .ref (ad (j + 4))) (C := RX3) (T := TX3) (N := 2) hx hb hts hinX3 hown hK hP j (cG_row (j := j) h_j) rfl 0 (by decide) (hts (.fieldLink RX3 17 "OutboxHouse$Row" "slots" "[LOutboxHouse$Change;") (by decide +kernel)) (fun _ h9 => h9) rfl dX3_add_5 ?_
  refine va_alen hx hb hK hP (j + 4) 2 (cG_slots (j := j) h_j) rfl (v := Int32.ofNat (rlen j)) (by first | rfl | decide) dX3_add_8 ?_
  refine lv_icmp_ge (tgt := 32) hx hb dX3_add_9 (by decide) (fun hc => ?_) (fun hc => ?_)
  · have h := h.1 hc
    exact W.vret hx hb hr (fun t ht hW => hQ _ _ t I J LP P h ⟨by rw [ht]; exact hP, hD⟩ (hS.F ht)) hS.2.2 dX3_add_32
  · have h := h.2 hc
    refine lv_aload_n hx hb dX3_add_12 rfl (lv_at hl 0 rfl) ?_
    refine va_get (D := (dC, dI)) (ci := 3) (v := .ref (ad (j + 4))) (C := RX3) (T := TX3) (N := 2) hx hb hts hinX3 hown hK hP j (cG_row (j := j) h_j) rfl 0 (by decide) (hts (.fieldLink RX3 17 "OutboxHouse$Row" "slots" "[LOutboxHouse$Change;") (by decide +kernel)) (fun _ h9 => h9) rfl dX3_add_13 ?_
    refine lv_aload_n hx hb dX3_add_16 rfl (lv_at hl 0 rfl) ?_
    refine va_get (D := (dC, dI)) (ci := 3) (v := .int (I j 0)) (C := RX3) (T := TX3) (N := 2) hx hb hts hinX3 hown hK hP j (cG_row (j := j) h_j) rfl 1 (by decide) (hts (.fieldLink RX3 23 "OutboxHouse$Row" "size" "I") (by decide +kernel)) (fun _ h9 => h9) rfl dX3_add_17 ?_
    refine lv_aload_n hx hb dX3_add_20 rfl (lv_at hl 1 rfl) ?_
    have hv := h.1; replace h := h.2
    have hm := h.1; replace h := h.2
    obtain ⟨q2, hq2⟩ := cG_p (ad := ad) (cy := cy) (I := I) (J := J) (P := P) hm
    refine va_astq hx hb hK hP hD hS (j + 4) 2 q2 0 (cG_slots (j := j) h_j) rfl hq2 rfl hv dX3_add_21 (fun H locs hP hD hS => ?_)
    obtain ⟨J1, hJ1⟩ : ∃ z : Rf, z = stJ J (j + 4) (I j 0).toNatClampNeg (some a0) := ⟨_, rfl⟩
    replace hP := wP (cE_slots h_j hJ1) hP; replace hD := wD (cE_slots h_j hJ1) hD; replace h := h _ hJ1
    refine lv_aload_n hx hb dX3_add_22 rfl (lv_at hl 0 rfl) ?_
    refine lv_dup hx hb dX3_add_23 rfl ?_
    refine va_get (D := (dC, dI)) (ci := 3) (v := .int (I j 0)) (C := RX3) (T := TX3) (N := 2) hx hb hts hinX3 hown hK hP j (cG_row (j := j) h_j) rfl 1 (by decide) (hts (.fieldLink RX3 23 "OutboxHouse$Row" "size" "I") (by decide +kernel)) (fun _ h9 => h9) rfl dX3_add_24 ?_
    refine lv_iconst (v := 1) hx hb dX3_add_27 (by decide) ?_
    refine lv_iadd hx hb dX3_add_28 ?_
    refine va_put (D := (dC, dI)) (ci := 3) (v := .int ((I j 0) + 1)) (ty := .int) (C := RX3) (T := TX3) (N := 2) hx hb hts hinX3 tyX3 tyX3_ok nmX3 hown hK hP hD hS j (cG_row (j := j) h_j) rfl 1 (by decide) (hts (.fieldLink RX3 23 "OutboxHouse$Row" "size" "I") (by decide +kernel)) (fun _ h9 => h9) rfl (by decide +kernel) rfl rfl (Nat.le_of_ble_eq_true rfl) dX3_add_29 (fun H locs hP hD hS => ?_)
    obtain ⟨I3, hI3⟩ : ∃ z : St, z = st I j 0 ((I j 0) + 1) := ⟨_, rfl⟩
    replace hP := wP (cE_row h_j hI3) hP; replace hD := wD (cE_row h_j hI3) hD; replace h := h _ hI3
    exact W.vret hx hb hr (fun t ht hW => hQ _ _ t I3 J1 LP P h ⟨by rw [ht]; exact hP, hD⟩ (hS.F ht)) hS.2.2 dX3_add_32
theorem m_X3_add (l : Launch) (dC : Nat → ClassId) (dI : Nat → Nat → Nat) (cy : Nat → ClassId) (ad : Nat → Nat) (A : Nat → Prop) (I : St) (J : Rf) (LP : List Nat) (P : St) (j : Nat) (h_j : 11 ≤ j ∧ j ≤ 14) (a0 : Nat) {post : St → Rf → List Nat → St → Prop} (hD : va_D A (cW ad cy I J LP P)) (h : wp_X3_add I J LP P j a0 post) : Met l yX3_add wsX3_add rmX3_add (va_Pc [.ref (ad j), .ref a0] (wPre (dC, dI) cy A (cW ad cy I J LP P))) (va_Qv (fun (u : CS) => post u.1 u.2.1 u.2.2.1 u.2.2.2) (fun (u : CS) t => wPost (dC, dI) A (cW ad cy u.1 u.2.1 u.2.2.1 u.2.2.2) t) A) 0 0 A := g_X3_add l dC dI cy ad A I J LP P j h_j a0 hD h (fun a s0 t I' J' LP' P' h1 h2 h3 => ⟨⟨(I', J', LP', P'), rfl, h1, h2⟩, h3⟩)
abbrev rmX3_isFull : Room := { frames := 0, cells := 0, slots := 0, locals := 0 }
set_option maxHeartbeats 4000000 in
set_option maxRecDepth 100000 in
theorem g_X3_isFull (l : Launch) (dC : Nat → ClassId) (dI : Nat → Nat → Nat) (cy : Nat → ClassId) (ad : Nat → Nat) (A : Nat → Prop) (I : St) (J : Rf) (LP : List Nat) (P : St) (j : Nat) (h_j : 11 ≤ j ∧ j ≤ 14) {post : Int32 → St → Rf → List Nat → St → Prop} (hD : va_D A (cW ad cy I J LP P)) (h : wp_X3_isFull I J LP P j post) {Qc : Array Value → State → Outcome → State → Prop} (hQ : ∀ (a : Array Value) (s0 t : State) (r : Int32) (I' : St) (J' : Rf) (LP' : List Nat) (P' : St), post r I' J' LP' P' → wPost (dC, dI) A (cW ad cy I' J' LP' P') t → va_F A s0 t → Qc a s0 (.returned (some (.int r))) t) : Met l yX3_isFull wsX3_isFull rmX3_isFull (va_Pc [.ref (ad j)] (wPre (dC, dI) cy A (cW ad cy I J LP P))) Qc 0 0 A := by
  refine Met.ofW (cc := cX3_isFull) (maxL := 1) (ret := (some .boolean)) (by decide) rfl ?_
  intro p e s m args below meth c s₁ B hml hv
  obtain ⟨rfl, hP, hK, hN, hA⟩ := hv
  have hx := B.exec
  have hb := B.bytes
  have hr := B.returns
  have hts := atoms_spec (ws := wsX3_isFull) B.pre
  have hown : s.vm.findClass RX3 = some m.cls := findClass_of_methodNamed B.named
  have hlocks := B.notSynchronized
  have hinX3 : ∀ w ∈ wsX30, w ∈ wsX3_isFull := fun _ h9 => List.mem_cons_of_mem _ (List.mem_append_right _ h9)
  have hS : va_S A s.heap s.heap [] := va_S.rf
  unfold wp_X3_isFull at h
  have hl := lv_entry ([.ref (ad j)]) (n := 1) (Nat.le_of_ble_eq_true rfl)
  rw [lg_entry_eq]
  generalize (lg_sl ([.ref (ad j)]) ++ List.replicate (1 - (lg_sl ([.ref (ad j)])).length) Slot.unset).toArray = ls at hl ⊢
  have hl : lv_has ls 1 [(0, .ref (ad j))] := hl
  refine lv_aload_n hx hb dX3_isFull_0 rfl (lv_at hl 0 rfl) ?_
  refine va_get (D := (dC, dI)) (ci := 3) (v := .int (I j 0)) (C := RX3) (T := TX3) (N := 2) hx hb hts hinX3 hown hK hP j (cG_row (j := j) h_j) rfl 1 (by decide) (hts (.fieldLink RX3 23 "OutboxHouse$Row" "size" "I") (by decide +kernel)) (fun _ h9 => h9) rfl dX3_isFull_1 ?_
  refine lv_aload_n hx hb dX3_isFull_4 rfl (lv_at hl 0 rfl) ?_
  refine va_get (D := (dC, dI)) (ci := 3) (v := .ref (ad (j + 4))) (C := RX3) (T := TX3) (N := 2) hx hb hts hinX3 hown hK hP j (cG_row (j := j) h_j) rfl 0 (by decide) (hts (.fieldLink RX3 17 "OutboxHouse$Row" "slots" "[LOutboxHouse$Change;") (by decide +kernel)) (fun _ h9 => h9) rfl dX3_isFull_5 ?_
  refine va_alen hx hb hK hP (j + 4) 2 (cG_slots (j := j) h_j) rfl (v := Int32.ofNat (rlen j)) (by first | rfl | decide) dX3_isFull_8 ?_
  refine lv_icmp_lt (tgt := 16) hx hb dX3_isFull_9 (by decide) (fun hc => ?_) (fun hc => ?_)
  · have h := h.1 hc
    refine lv_iconst (v := 0) hx hb dX3_isFull_16 (by decide) ?_
    exact W.zret (v := 0) (ty := .boolean) hx hb hr rfl (fun t ht hW => hQ _ _ t 0 I J LP P h ⟨by rw [ht]; exact hP, hD⟩ (hS.F ht)) hS.2.2 dX3_isFull_17
  · have h := h.2 hc
    refine lv_iconst (v := 1) hx hb dX3_isFull_12 (by decide) ?_
    refine lv_goto (tgt := 17) hx hb dX3_isFull_13 (by decide) ?_
    exact W.zret (v := 1) (ty := .boolean) hx hb hr rfl (fun t ht hW => hQ _ _ t 1 I J LP P h ⟨by rw [ht]; exact hP, hD⟩ (hS.F ht)) hS.2.2 dX3_isFull_17
theorem m_X3_isFull (l : Launch) (dC : Nat → ClassId) (dI : Nat → Nat → Nat) (cy : Nat → ClassId) (ad : Nat → Nat) (A : Nat → Prop) (I : St) (J : Rf) (LP : List Nat) (P : St) (j : Nat) (h_j : 11 ≤ j ∧ j ≤ 14) {post : Int32 → St → Rf → List Nat → St → Prop} (hD : va_D A (cW ad cy I J LP P)) (h : wp_X3_isFull I J LP P j post) : Met l yX3_isFull wsX3_isFull rmX3_isFull (va_Pc [.ref (ad j)] (wPre (dC, dI) cy A (cW ad cy I J LP P))) (va_Qi (fun r (u : CS) => post r u.1 u.2.1 u.2.2.1 u.2.2.2) (fun (u : CS) t => wPost (dC, dI) A (cW ad cy u.1 u.2.1 u.2.2.1 u.2.2.2) t) A) 0 0 A := g_X3_isFull l dC dI cy ad A I J LP P j h_j hD h (fun a s0 t r I' J' LP' P' h1 h2 h3 => ⟨⟨r, (I', J', LP', P'), rfl, h1, h2⟩, h3⟩)
abbrev rmX2_readOne : Room := { frames := 1, cells := 0, slots := 0, locals := 21 }
set_option maxHeartbeats 4000000 in
set_option maxRecDepth 100000 in
theorem g_X2_readOne (l : Launch) (dC : Nat → ClassId) (dI : Nat → Nat → Nat) (cy : Nat → ClassId) (ad : Nat → Nat) (A : Nat → Prop) (I : St) (J : Rf) (LP : List Nat) (P : St)  {post : Int32 → St → Rf → List Nat → St → Prop} (hD : va_D A (cW ad cy I J LP P)) (h : wp_X2_readOne I J LP P  post) {Qc : Array Value → State → Outcome → State → Prop} (hQ : ∀ (a : Array Value) (s0 t : State) (r : Int32) (I' : St) (J' : Rf) (LP' : List Nat) (P' : St), post r I' J' LP' P' → wPost (dC, dI) A (cW ad cy I' J' LP' P') t → va_F A s0 t → Qc a s0 (.returned (some (.int r))) t) : Met l yX2_readOne wsX2_readOne rmX2_readOne (va_Pc [.ref (ad 9)] (wPre (dC, dI) cy A (cW ad cy I J LP P))) Qc 0 0 A := by
  refine Met.ofW (cc := cX2_readOne) (maxL := 3) (ret := (some .boolean)) (by decide) rfl ?_
  intro p e s m args below meth c s₁ B hml hv
  obtain ⟨rfl, hP, hK, hN, hA⟩ := hv
  have hx := B.exec
  have hb := B.bytes
  have hr := B.returns
  have hts := atoms_spec (ws := wsX2_readOne) B.pre
  have hown : s.vm.findClass RX2 = some m.cls := findClass_of_methodNamed B.named
  have hlocks := B.notSynchronized
  have hinX2 : ∀ w ∈ wsX20, w ∈ wsX2_readOne := fun _ h9 => List.mem_cons_of_mem _ (List.mem_append_left _ (List.mem_append_left _ (List.mem_append_left _ (List.mem_append_right _ h9))))
  have hinX0 : ∀ w ∈ wsX00, w ∈ wsX2_readOne := fun _ h9 => List.mem_cons_of_mem _ (List.mem_append_left _ (List.mem_append_left _ (List.mem_append_right _ h9)))
  have hS : va_S A s.heap s.heap [] := va_S.rf
  unfold wp_X2_readOne at h
  have hl := lv_entry ([.ref (ad 9)]) (n := 3) (Nat.le_of_ble_eq_true rfl)
  rw [lg_entry_eq]
  generalize (lg_sl ([.ref (ad 9)]) ++ List.replicate (3 - (lg_sl ([.ref (ad 9)])).length) Slot.unset).toArray = ls at hl ⊢
  have hl : lv_has ls 3 [(0, .ref (ad 9))] := hl
  refine lv_aload_n hx hb dX2_readOne_0 rfl (lv_at hl 0 rfl) ?_
  refine va_get (D := (dC, dI)) (ci := 2) (v := .ref (ad 1)) (C := RX2) (T := TX2) (N := 6) hx hb hts hinX2 hown hK hP 9 cG_9 rfl 0 (by decide) (hts (.fieldLink RX2 17 "OutboxHouse$Relay" "changes" "LOutboxHouse$ChangeLog;") (by decide +kernel)) (fun _ h9 => h9) rfl dX2_readOne_1 ?_
  refine lv_aload_n hx hb dX2_readOne_4 rfl (lv_at hl 0 rfl) ?_
  refine va_get (D := (dC, dI)) (ci := 2) (v := .int (I 9 0)) (C := RX2) (T := TX2) (N := 6) hx hb hts hinX2 hown hK hP 9 cG_9 rfl 2 (by decide) (hts (.fieldLink RX2 28 "OutboxHouse$Relay" "position" "I") (by decide +kernel)) (fun _ h9 => h9) rfl dX2_readOne_5 ?_
  refine va_callq (va_runV (As := [.int (I 9 0)]) (rest := []) ⟨hx, hb, hml, hown, hts⟩ (m_X1_flushedAt l dC dI cy ad A I J LP P (I 9 0) hD h) (cwV 1 hts gX2_readOne_X1_flushedAt rfl rfl rfl (by decide +kernel) ⟨Nat.le_of_ble_eq_true rfl, Nat.le_of_ble_eq_true rfl⟩) ⟨wPre.blind, va_recv hK hP (ci := 1) (q0 := 1) rfl cG_1, wPre.at hP hK hN hS hA⟩ rfl rfl hl.1 rfl (lv_room (Nat.le_of_ble_eq_true rfl)) dX2_readOne_8 ⟨by first | exact Nat.le_of_ble_eq_true rfl | (show _ ≤ 0; omega), by first | exact Nat.le_of_ble_eq_true rfl | (show _ ≤ 0; omega)⟩) hS (fun q _ h => h) (fun q h => h) (fun r1 u t H locs ht hvm hw hB hz1 hk1 hS => ?_)
  obtain ⟨I2, J3, LP4, P5⟩ := u
  obtain ⟨hP, hD⟩ := hB; rw [ht] at hP; replace h := hw; try dsimp only at h hP hD
  rcases r1 with _ | a6
  · replace h := h.1 rfl
    refine W.eq (g2 := F0 m 11 ls [.null]) rfl ?_
    refine lv_astore_nN (lv' := [(1, .null), (0, .ref (ad 9))]) hx hb dX2_readOne_11 rfl hl (by decide) rfl (fun ls hl => ?_)
    refine lv_aload_nN hx hb dX2_readOne_12 rfl (lv_at hl 0 rfl) ?_
    refine lv_ifnonnullN hx hb dX2_readOne_13 ?_
    refine lv_iconst (v := 0) hx hb dX2_readOne_16 (by decide) ?_
    exact W.zret (v := 0) (ty := .boolean) hx hb hr rfl (fun t ht hW => hQ _ _ t 0 I2 J3 LP4 P5 h ⟨by rw [ht]; exact hP, hD⟩ (hS.F ht)) hS.2.2 dX2_readOne_17
  · replace h := h.2 _ rfl
    refine W.eq (g2 := F0 m 11 ls [.ref a6]) rfl ?_
    refine lv_astore_n (lv' := [(1, .ref a6), (0, .ref (ad 9))]) hx hb dX2_readOne_11 rfl hl (by decide) rfl (fun ls hl => ?_)
    refine lv_aload_n hx hb dX2_readOne_12 rfl (lv_at hl 0 rfl) ?_
    refine lv_ifnonnull (tgt := 18) hx hb dX2_readOne_13 (by decide) ?_
    refine lv_aload_n hx hb dX2_readOne_18 rfl (lv_at hl 1 rfl) ?_
    refine va_get (D := (dC, dI)) (ci := 2) (v := .ref (ad 10)) (C := RX2) (T := TX2) (N := 6) hx hb hts hinX2 hown hK hP 9 cG_9 rfl 1 (by decide) (hts (.fieldLink RX2 11 "OutboxHouse$Relay" "lanes" "[LOutboxHouse$Row;") (by decide +kernel)) (fun _ h9 => h9) rfl dX2_readOne_19 ?_
    refine lv_aload_n hx hb dX2_readOne_22 rfl (lv_at hl 0 rfl) ?_
    have hm := h.1; replace h := h.2
    obtain ⟨q7, hq7⟩ := cG_p (ad := ad) (cy := cy) (I := I2) (J := J3) (P := P5) hm
    refine va_get (D := (dC, dI)) (ci := 0) (v := .int (P5 a6 1)) (C := RX0) (T := TX0) (N := 5) hx hb hts hinX0 hown hK hP q7 hq7 rfl 1 (by decide) (hts (.fieldLink RX2 38 "OutboxHouse$Change" "key" "I") (by decide +kernel)) (fun _ h9 => h9) rfl dX2_readOne_23 ?_
    refine lv_iconst (v := 3) hx hb dX2_readOne_26 (by decide) ?_
    refine lv_irem hx hb dX2_readOne_27 (by decide) ?_
    have hv := h.1; replace h := h.2
    refine va_aldq hx hb hK hP 10 3 cG_10 rfl hv dX2_readOne_28 ?_
    obtain ⟨j8, ej8⟩ : ∃ z : Nat, z = 11 + ((P5 a6 1) - (P5 a6 1) / 3 * 3).toNatClampNeg := ⟨_, rfl⟩
    have h_j8 : 11 ≤ j8 ∧ j8 ≤ 14 := by rw [ej8]; exact lane_j hv
    replace h := h _ ej8
    refine W.eq (g2 := F0 m 29 ls [.ref (ad j8)]) (by rw [ej8]; rfl) ?_
    refine lv_astore_n (lv' := [(2, .ref (ad j8)), (1, .ref a6), (0, .ref (ad 9))]) hx hb dX2_readOne_29 rfl hl (by decide) rfl (fun ls hl => ?_)
    refine lv_aload_n hx hb dX2_readOne_30 rfl (lv_at hl 0 rfl) ?_
    refine va_calli (va_runV (As := []) (rest := []) ⟨hx, hb, hml, hown, hts⟩ (m_X3_isFull l dC dI cy ad A I2 J3 LP4 P5 j8 h_j8 hD h) (cwV 0 hts gX2_readOne_X3_isFull rfl rfl rfl (by decide +kernel) ⟨Nat.le_of_ble_eq_true rfl, Nat.le_of_ble_eq_true rfl⟩) ⟨wPre.blind, va_recv hK hP (ci := 3) (q0 := j8) rfl (cG_row (j := j8) h_j8), wPre.at hP hK hN hS hA⟩ rfl rfl hl.1 rfl (lv_room (Nat.le_of_ble_eq_true rfl)) dX2_readOne_31 ⟨by first | exact Nat.le_of_ble_eq_true rfl | (show _ ≤ 0; omega), by first | exact Nat.le_of_ble_eq_true rfl | (show _ ≤ 0; omega)⟩) hS (fun q _ h => h) (fun q h => h) (fun r9 u t H locs ht hvm hw hB hz1 hk1 hS => ?_)
    obtain ⟨I10, J11, LP12, P13⟩ := u
    obtain ⟨hP, hD⟩ := hB; rw [ht] at hP; replace h := hw; try dsimp only at h hP hD
    refine lv_if_eq (tgt := 39) hx hb dX2_readOne_34 (by decide) (fun hc => ?_) (fun hc => ?_)
    · have h := h.1 hc
      refine lv_aload_n hx hb dX2_readOne_39 rfl (lv_at hl 0 rfl) ?_
      refine lv_aload_n hx hb dX2_readOne_40 rfl (lv_at hl 1 rfl) ?_
      refine va_callv (va_runV (As := [.ref a6]) (rest := []) ⟨hx, hb, hml, hown, hts⟩ (m_X3_add l dC dI cy ad A I10 J11 LP12 P13 j8 h_j8 a6 hD h) (cwV 1 hts gX2_readOne_X3_add rfl rfl rfl (by decide +kernel) ⟨Nat.le_of_ble_eq_true rfl, Nat.le_of_ble_eq_true rfl⟩) ⟨wPre.blind, va_recv hK hP (ci := 3) (q0 := j8) rfl (cG_row (j := j8) h_j8), wPre.at hP hK hN hS hA⟩ rfl rfl hl.1 rfl (lv_room (Nat.le_of_ble_eq_true rfl)) dX2_readOne_41 ⟨by first | exact Nat.le_of_ble_eq_true rfl | (show _ ≤ 0; omega), by first | exact Nat.le_of_ble_eq_true rfl | (show _ ≤ 0; omega)⟩) hS (fun q _ h => h) (fun q h => h) (fun u t H locs ht hvm hw hB hz1 hk1 hS => ?_)
      obtain ⟨I15, J16, LP17, P18⟩ := u
      obtain ⟨hP, hD⟩ := hB; rw [ht] at hP; replace h := hw; try dsimp only at h hP hD
      refine lv_aload_n hx hb dX2_readOne_44 rfl (lv_at hl 2 rfl) ?_
      refine lv_dup hx hb dX2_readOne_45 rfl ?_
      refine va_get (D := (dC, dI)) (ci := 2) (v := .int (I15 9 0)) (C := RX2) (T := TX2) (N := 6) hx hb hts hinX2 hown hK hP 9 cG_9 rfl 2 (by decide) (hts (.fieldLink RX2 28 "OutboxHouse$Relay" "position" "I") (by decide +kernel)) (fun _ h9 => h9) rfl dX2_readOne_46 ?_
      refine lv_iconst (v := 1) hx hb dX2_readOne_49 (by decide) ?_
      refine lv_iadd hx hb dX2_readOne_50 ?_
      refine va_put (D := (dC, dI)) (ci := 2) (v := .int ((I15 9 0) + 1)) (ty := .int) (C := RX2) (T := TX2) (N := 6) hx hb hts hinX2 tyX2 tyX2_ok nmX2 hown hK hP hD hS 9 cG_9 rfl 2 (by decide) (hts (.fieldLink RX2 28 "OutboxHouse$Relay" "position" "I") (by decide +kernel)) (fun _ h9 => h9) rfl (by decide +kernel) rfl rfl (Nat.le_of_ble_eq_true rfl) dX2_readOne_51 (fun H locs hP hD hS => ?_)
      obtain ⟨I19, hI19⟩ : ∃ z : St, z = st I15 9 0 ((I15 9 0) + 1) := ⟨_, rfl⟩
      replace hP := wP (cE_9_0 hI19) hP; replace hD := wD (cE_9_0 hI19) hD; replace h := h _ hI19
      refine lv_aload_n hx hb dX2_readOne_54 rfl (lv_at hl 2 rfl) ?_
      refine lv_dup hx hb dX2_readOne_55 rfl ?_
      refine va_get (D := (dC, dI)) (ci := 2) (v := .int (I19 9 2)) (C := RX2) (T := TX2) (N := 6) hx hb hts hinX2 hown hK hP 9 cG_9 rfl 4 (by decide) (hts (.fieldLink RX2 50 "OutboxHouse$Relay" "sentEver" "I") (by decide +kernel)) (fun _ h9 => h9) rfl dX2_readOne_56 ?_
      refine lv_iconst (v := 1) hx hb dX2_readOne_59 (by decide) ?_
      refine lv_iadd hx hb dX2_readOne_60 ?_
      refine va_put (D := (dC, dI)) (ci := 2) (v := .int ((I19 9 2) + 1)) (ty := .int) (C := RX2) (T := TX2) (N := 6) hx hb hts hinX2 tyX2 tyX2_ok nmX2 hown hK hP hD hS 9 cG_9 rfl 4 (by decide) (hts (.fieldLink RX2 50 "OutboxHouse$Relay" "sentEver" "I") (by decide +kernel)) (fun _ h9 => h9) rfl (by decide +kernel) rfl rfl (Nat.le_of_ble_eq_true rfl) dX2_readOne_61 (fun H locs hP hD hS => ?_)
      obtain ⟨I20, hI20⟩ : ∃ z : St, z = st I19 9 2 ((I19 9 2) + 1) := ⟨_, rfl⟩
      replace hP := wP (cE_9_2 hI20) hP; replace hD := wD (cE_9_2 hI20) hD; replace h := h _ hI20
      refine lv_iconst (v := 1) hx hb dX2_readOne_64 (by decide) ?_
      exact W.zret (v := 1) (ty := .boolean) hx hb hr rfl (fun t ht hW => hQ _ _ t 1 I20 J16 LP17 P18 h ⟨by rw [ht]; exact hP, hD⟩ (hS.F ht)) hS.2.2 dX2_readOne_65
    · have h := h.2 hc
      refine lv_iconst (v := 0) hx hb dX2_readOne_37 (by decide) ?_
      exact W.zret (v := 0) (ty := .boolean) hx hb hr rfl (fun t ht hW => hQ _ _ t 0 I10 J11 LP12 P13 h ⟨by rw [ht]; exact hP, hD⟩ (hS.F ht)) hS.2.2 dX2_readOne_38
theorem m_X2_readOne (l : Launch) (dC : Nat → ClassId) (dI : Nat → Nat → Nat) (cy : Nat → ClassId) (ad : Nat → Nat) (A : Nat → Prop) (I : St) (J : Rf) (LP : List Nat) (P : St)  {post : Int32 → St → Rf → List Nat → St → Prop} (hD : va_D A (cW ad cy I J LP P)) (h : wp_X2_readOne I J LP P  post) : Met l yX2_readOne wsX2_readOne rmX2_readOne (va_Pc [.ref (ad 9)] (wPre (dC, dI) cy A (cW ad cy I J LP P))) (va_Qi (fun r (u : CS) => post r u.1 u.2.1 u.2.2.1 u.2.2.2) (fun (u : CS) t => wPost (dC, dI) A (cW ad cy u.1 u.2.1 u.2.2.1 u.2.2.2) t) A) 0 0 A := g_X2_readOne l dC dI cy ad A I J LP P  hD h (fun a s0 t r I' J' LP' P' h1 h2 h3 => ⟨⟨r, (I', J', LP', P'), rfl, h1, h2⟩, h3⟩)
abbrev rmX2_readOn : Room := { frames := 2, cells := 0, slots := 0, locals := 43 }
set_option maxHeartbeats 4000000 in
set_option maxRecDepth 100000 in
theorem g_X2_readOn (l : Launch) (dC : Nat → ClassId) (dI : Nat → Nat → Nat) (cy : Nat → ClassId) (ad : Nat → Nat) (A : Nat → Prop) (I : St) (J : Rf) (LP : List Nat) (P : St) (p1 : Int32) {post : Int32 → St → Rf → List Nat → St → Prop} (hD : va_D A (cW ad cy I J LP P)) (h : wp_X2_readOn I J LP P p1 post) {Qc : Array Value → State → Outcome → State → Prop} (hQ : ∀ (a : Array Value) (s0 t : State) (r : Int32) (I' : St) (J' : Rf) (LP' : List Nat) (P' : St), post r I' J' LP' P' → wPost (dC, dI) A (cW ad cy I' J' LP' P') t → va_F A s0 t → Qc a s0 (.returned (some (.int r))) t) : Met l yX2_readOn wsX2_readOn rmX2_readOn (va_Pc [.ref (ad 9), .int p1] (wPre (dC, dI) cy A (cW ad cy I J LP P))) Qc 0 0 A := by
  refine Met.ofW (cc := cX2_readOn) (maxL := 3) (ret := (some .int)) (by decide) rfl ?_
  intro p e s m args below meth c s₁ B hml hv
  obtain ⟨rfl, hP, hK, hN, hA⟩ := hv
  have hx := B.exec
  have hb := B.bytes
  have hr := B.returns
  have hts := atoms_spec (ws := wsX2_readOn) B.pre
  have hown : s.vm.findClass RX2 = some m.cls := findClass_of_methodNamed B.named
  have hlocks := B.notSynchronized
  have hS : va_S A s.heap s.heap [] := va_S.rf
  unfold wp_X2_readOn at h
  have hl := lv_entry ([.ref (ad 9), .int p1]) (n := 3) (Nat.le_of_ble_eq_true rfl)
  rw [lg_entry_eq]
  generalize (lg_sl ([.ref (ad 9), .int p1]) ++ List.replicate (3 - (lg_sl ([.ref (ad 9), .int p1])).length) Slot.unset).toArray = ls at hl ⊢
  have hl : lv_has ls 3 [(0, .ref (ad 9)), (1, .int p1)] := hl
  refine lv_iconst (v := 0) hx hb dX2_readOn_0 (by decide) ?_
  refine lv_istore_n (lv' := [(2, .int 0), (0, .ref (ad 9)), (1, .int p1)]) hx hb dX2_readOn_1 rfl hl (by decide) rfl (fun ls hl => ?_)
  obtain ⟨V1, ⟨n20, hV0⟩, hstepn2⟩ := h
  have hlpn2 : ∀ (n2 : Nat) (x3 : Int32) (I4 : St) (J5 : Rf) (LP6 : List Nat) (P7 : St) (H : Heap) (locs : List Loc), va_P (dC, dI) vwCl (cW ad cy I4 J5 LP6 P7) H → va_D A (cW ad cy I4 J5 LP6 P7) → va_S A s.heap H locs → ∀ ls : Array Slot, lv_has ls 3 [(0, .ref (ad 9)), (1, .int p1), (2, .int x3)] → V1 n2 x3 I4 J5 LP6 P7 → W p l e (headSpec wsX2_readOn rmX2_readOn).room s m ([.ref (ad 9), .int p1] : List Value).toArray below meth c H locs 0 0 (MQ below Qc ([.ref (ad 9), .int p1] : List Value).toArray s 0 0 A) (F0 m 2 ls []) := by
    intro n2
    induction n2 using Nat.strongRecOn with
    | _ n2 ihn2 =>
      intro x3 I4 J5 LP6 P7 H locs hP hD hS ls hl hV
      have h := hstepn2 n2 x3 I4 J5 LP6 P7 hV
      refine lv_iload_n hx hb dX2_readOn_2 rfl (lv_at hl 2 rfl) ?_
      refine lv_iload_n hx hb dX2_readOn_3 rfl (lv_at hl 1 rfl) ?_
      refine lv_icmp_ge (tgt := 20) hx hb dX2_readOn_4 (by decide) (fun hc => ?_) (fun hc => ?_)
      · have h := h.1 hc
        refine lv_iload_n hx hb dX2_readOn_20 rfl (lv_at hl 2 rfl) ?_
        exact W.iret (v := x3) hx hb hr (fun t ht hW => hQ _ _ t x3 I4 J5 LP6 P7 h ⟨by rw [ht]; exact hP, hD⟩ (hS.F ht)) hS.2.2 dX2_readOn_21
      · have h := h.2 hc
        refine lv_aload_n hx hb dX2_readOn_7 rfl (lv_at hl 0 rfl) ?_
        refine va_calli (va_runV (As := []) (rest := []) ⟨hx, hb, hml, hown, hts⟩ (m_X2_readOne l dC dI cy ad A I4 J5 LP6 P7  hD h) (cwV 0 hts gX2_readOn_X2_readOne rfl rfl rfl (by decide +kernel) ⟨Nat.le_of_ble_eq_true rfl, Nat.le_of_ble_eq_true rfl⟩) ⟨wPre.blind, va_recv hK hP (ci := 2) (q0 := 9) rfl cG_9, wPre.at hP hK hN hS hA⟩ rfl rfl hl.1 rfl (lv_room (Nat.le_of_ble_eq_true rfl)) dX2_readOn_8 ⟨by first | exact Nat.le_of_ble_eq_true rfl | (show _ ≤ 0; omega), by first | exact Nat.le_of_ble_eq_true rfl | (show _ ≤ 0; omega)⟩) hS (fun q _ h => h) (fun q h => h) (fun r8 u t H locs ht hvm hw hB hz1 hk1 hS => ?_)
        obtain ⟨I9, J10, LP11, P12⟩ := u
        obtain ⟨hP, hD⟩ := hB; rw [ht] at hP; replace h := hw; try dsimp only at h hP hD
        refine lv_if_eq (tgt := 20) hx hb dX2_readOn_11 (by decide) (fun hc => ?_) (fun hc => ?_)
        · have h := h.1 hc
          refine lv_iload_n hx hb dX2_readOn_20 rfl (lv_at hl 2 rfl) ?_
          exact W.iret (v := x3) hx hb hr (fun t ht hW => hQ _ _ t x3 I9 J10 LP11 P12 h ⟨by rw [ht]; exact hP, hD⟩ (hS.F ht)) hS.2.2 dX2_readOn_21
        · have h := h.2 hc
          refine lv_iinc (v := x3 + 1) (lv' := [(2, .int (x3 + 1)), (0, .ref (ad 9)), (1, .int p1)]) hx hb dX2_readOn_14 hl (k := 2) rfl rfl (by decide) rfl (fun ls hl => ?_)
          refine lv_goto (tgt := 2) hx hb dX2_readOn_17 (by decide) ?_
          obtain ⟨n13, hlt, hV⟩ := h
          exact ihn2 n13 hlt _ _ _ _ _ _ _ hP hD hS ls (lv_sub hl [1, 2, 0] rfl) hV
  exact hlpn2 n20 _ _ _ _ _ _ _ hP hD hS ls (lv_sub hl [1, 2, 0] rfl) hV0
theorem m_X2_readOn (l : Launch) (dC : Nat → ClassId) (dI : Nat → Nat → Nat) (cy : Nat → ClassId) (ad : Nat → Nat) (A : Nat → Prop) (I : St) (J : Rf) (LP : List Nat) (P : St) (p1 : Int32) {post : Int32 → St → Rf → List Nat → St → Prop} (hD : va_D A (cW ad cy I J LP P)) (h : wp_X2_readOn I J LP P p1 post) : Met l yX2_readOn wsX2_readOn rmX2_readOn (va_Pc [.ref (ad 9), .int p1] (wPre (dC, dI) cy A (cW ad cy I J LP P))) (va_Qi (fun r (u : CS) => post r u.1 u.2.1 u.2.2.1 u.2.2.2) (fun (u : CS) t => wPost (dC, dI) A (cW ad cy u.1 u.2.1 u.2.2.1 u.2.2.2) t) A) 0 0 A := g_X2_readOn l dC dI cy ad A I J LP P p1 hD h (fun a s0 t r I' J' LP' P' h1 h2 h3 => ⟨⟨r, (I', J', LP', P'), rfl, h1, h2⟩, h3⟩)
abbrev rmX7_isLane : Room := { frames := 0, cells := 0, slots := 0, locals := 0 }
set_option maxHeartbeats 4000000 in
set_option maxRecDepth 100000 in
theorem g_X7_isLane (l : Launch) (dC : Nat → ClassId) (dI : Nat → Nat → Nat) (cy : Nat → ClassId) (ad : Nat → Nat) (A : Nat → Prop) (I : St) (J : Rf) (LP : List Nat) (P : St) (p1 : Int32) {post : Int32 → St → Rf → List Nat → St → Prop} (hD : va_D A (cW ad cy I J LP P)) (h : wp_X7_isLane I J LP P p1 post) {Qc : Array Value → State → Outcome → State → Prop} (hQ : ∀ (a : Array Value) (s0 t : State) (r : Int32) (I' : St) (J' : Rf) (LP' : List Nat) (P' : St), post r I' J' LP' P' → wPost (dC, dI) A (cW ad cy I' J' LP' P') t → va_F A s0 t → Qc a s0 (.returned (some (.int r))) t) : Met l yX7_isLane wsX7_isLane rmX7_isLane (va_Pc [.int p1] (wPre (dC, dI) cy A (cW ad cy I J LP P))) Qc 0 0 A := by
  refine Met.ofW (cc := cX7_isLane) (maxL := 1) (ret := (some .boolean)) (by decide) rfl ?_
  intro p e s m args below meth c s₁ B hml hv
  obtain ⟨rfl, hP, hK, hN, hA⟩ := hv
  have hx := B.exec
  have hb := B.bytes
  have hr := B.returns
  have hts := atoms_spec (ws := wsX7_isLane) B.pre
  have hown : s.vm.findClass RX7 = some m.cls := findClass_of_methodNamed B.named
  have hlocks := B.notSynchronized
  have hS : va_S A s.heap s.heap [] := va_S.rf
  unfold wp_X7_isLane at h
  have hl := lv_entry ([.int p1]) (n := 1) (Nat.le_of_ble_eq_true rfl)
  rw [lg_entry_eq]
  generalize (lg_sl ([.int p1]) ++ List.replicate (1 - (lg_sl ([.int p1])).length) Slot.unset).toArray = ls at hl ⊢
  have hl : lv_has ls 1 [(0, .int p1)] := hl
  refine lv_iload_n hx hb dX7_isLane_0 rfl (lv_at hl 0 rfl) ?_
  refine lv_if_lt (tgt := 13) hx hb dX7_isLane_1 (by decide) (fun hc => ?_) (fun hc => ?_)
  · have h := h.1 hc
    refine lv_iconst (v := 0) hx hb dX7_isLane_13 (by decide) ?_
    exact W.zret (v := 0) (ty := .boolean) hx hb hr rfl (fun t ht hW => hQ _ _ t 0 I J LP P h ⟨by rw [ht]; exact hP, hD⟩ (hS.F ht)) hS.2.2 dX7_isLane_14
  · have h := h.2 hc
    refine lv_iload_n hx hb dX7_isLane_4 rfl (lv_at hl 0 rfl) ?_
    refine lv_iconst (v := 3) hx hb dX7_isLane_5 (by decide) ?_
    refine lv_icmp_ge (tgt := 13) hx hb dX7_isLane_6 (by decide) (fun hc => ?_) (fun hc => ?_)
    · have h := h.1 hc
      refine lv_iconst (v := 0) hx hb dX7_isLane_13 (by decide) ?_
      exact W.zret (v := 0) (ty := .boolean) hx hb hr rfl (fun t ht hW => hQ _ _ t 0 I J LP P h ⟨by rw [ht]; exact hP, hD⟩ (hS.F ht)) hS.2.2 dX7_isLane_14
    · have h := h.2 hc
      refine lv_iconst (v := 1) hx hb dX7_isLane_9 (by decide) ?_
      refine lv_goto (tgt := 14) hx hb dX7_isLane_10 (by decide) ?_
      exact W.zret (v := 1) (ty := .boolean) hx hb hr rfl (fun t ht hW => hQ _ _ t 1 I J LP P h ⟨by rw [ht]; exact hP, hD⟩ (hS.F ht)) hS.2.2 dX7_isLane_14
theorem m_X7_isLane (l : Launch) (dC : Nat → ClassId) (dI : Nat → Nat → Nat) (cy : Nat → ClassId) (ad : Nat → Nat) (A : Nat → Prop) (I : St) (J : Rf) (LP : List Nat) (P : St) (p1 : Int32) {post : Int32 → St → Rf → List Nat → St → Prop} (hD : va_D A (cW ad cy I J LP P)) (h : wp_X7_isLane I J LP P p1 post) : Met l yX7_isLane wsX7_isLane rmX7_isLane (va_Pc [.int p1] (wPre (dC, dI) cy A (cW ad cy I J LP P))) (va_Qi (fun r (u : CS) => post r u.1 u.2.1 u.2.2.1 u.2.2.2) (fun (u : CS) t => wPost (dC, dI) A (cW ad cy u.1 u.2.1 u.2.2.1 u.2.2.2) t) A) 0 0 A := g_X7_isLane l dC dI cy ad A I J LP P p1 hD h (fun a s0 t r I' J' LP' P' h1 h2 h3 => ⟨⟨r, (I', J', LP', P'), rfl, h1, h2⟩, h3⟩)
