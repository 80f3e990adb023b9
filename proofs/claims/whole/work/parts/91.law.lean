theorem wl_r {D : va_G} {H : Heap} {wr wc : va_W} (h : va_P D vwCl (wr ++ wc) H) : va_P D vwCl wc H := fun k q hk => h (wr.length + k) q (by rw [List.getElem?_append_right (by omega), show wr.length + k - wr.length = k by omega]; exact hk)
theorem wl_l {D : va_G} {H : Heap} {wr wc : va_W} (h : va_P D vwCl (wr ++ wc) H) : va_P D vwCl wr H := fun k q hk => h k q (by rw [List.getElem?_append_left (List.getElem?_eq_some_iff.mp hk).1]; exact hk)
theorem wl_Dr {A : Nat → Prop} {wr wc : va_W} (h : va_D A (wr ++ wc)) : va_D A wc := by
  have at' : ∀ (k : Nat) (q : Nat × va_E), wc[k]? = some q → (wr ++ wc)[wr.length + k]? = some q := fun k q hk => by rw [List.getElem?_append_right (by omega), show wr.length + k - wr.length = k by omega]; exact hk
  exact ⟨fun i j x y hi hj e => by have := h.1 _ _ x y (at' i x hi) (at' j y hj) e; omega, fun k q hk => h.2 _ q (at' k q hk)⟩
theorem wl_Dl {A : Nat → Prop} {wr wc : va_W} (h : va_D A (wr ++ wc)) : va_D A wr := by
  have at' : ∀ (k : Nat) (q : Nat × va_E), wr[k]? = some q → (wr ++ wc)[k]? = some q := fun k q hk => by rw [List.getElem?_append_left (List.getElem?_eq_some_iff.mp hk).1]; exact hk
  exact ⟨fun i j x y hi hj e => h.1 _ _ x y (at' i x hi) (at' j y hj) e, fun k q hk => h.2 _ q (at' k q hk)⟩
theorem wl_x {A : Nat → Prop} {wr wc : va_W} (h : va_D A (wr ++ wc)) (i j : Nat) (x y : Nat × va_E) (hi : wr[i]? = some x) (hj : wc[j]? = some y) : x.1 ≠ y.1 := fun e => by
  have l1 := (List.getElem?_eq_some_iff.mp hi).1
  have := h.1 i (wr.length + j) x y (by rw [List.getElem?_append_left l1]; exact hi) (by rw [List.getElem?_append_right (by omega), show wr.length + j - wr.length = j by omega]; exact hj) e
  omega
theorem wl_F {A : Nat → Prop} {wc : va_W} {H : Heap} (h : va_D A wc) (hA : ∀ q, H.size ≤ q → A q) : ∀ q, va_A wc H.size q → A q := fun q hq => hq.elim (fun ⟨k, e, hk⟩ => h.2 k (q, e) hk) (fun z => hA q z)
/-- behind a call on the second part -/
theorem wl_jr {A : Nat → Prop} {D : va_G} {wr wc w1 : va_W} {H H1 : Heap} (hP : va_P D vwCl (wr ++ wc) H) (hD : va_D A (wr ++ wc)) (hA : ∀ q, H.size ≤ q → A q) (hk : ∀ q : Nat, q < H.size → ¬ va_A wc H.size q → H1[q]? = H[q]?) (hP1 : va_P D vwCl w1 H1) (hD1 : va_D (va_A wc H.size) w1) : va_P D vwCl (wr ++ w1) H1 ∧ va_D A (wr ++ w1) := by
  have hn : ∀ (k : Nat) (q : Nat × va_E), wr[k]? = some q → q.1 < H.size ∧ ¬ va_A wc H.size q.1 := fun k q hq => by
    have hl := (wl_l hP k q hq).lt
    exact ⟨hl, fun z => z.elim (fun ⟨k2, e, h2⟩ => wl_x hD k k2 q (q.1, e) hq h2 rfl) (fun z => by omega)⟩
  refine ⟨va_P.app (fun k q hq => (wl_l hP k q hq).kept (hk _ (hn k q hq).1 (hn k q hq).2)) hP1, va_D.app (wl_Dl hD) (hD1.weaken (fun k q _ z => wl_F (wl_Dr hD) hA _ z)) (fun i j x y hx hy e => (hn i x hx).2 (by rw [e]; exact hD1.2 j y hy))⟩
/-- behind a call on the first part -/
theorem wl_jl {A : Nat → Prop} {D : va_G} {wr wc w1 : va_W} {H H1 : Heap} (hP : va_P D vwCl (wr ++ wc) H) (hD : va_D A (wr ++ wc)) (hA : ∀ q, H.size ≤ q → A q) (hk : ∀ q : Nat, q < H.size → ¬ va_A wr H.size q → H1[q]? = H[q]?) (hP1 : va_P D vwCl w1 H1) (hD1 : va_D (va_A wr H.size) w1) : va_P D vwCl (w1 ++ wc) H1 ∧ va_D A (w1 ++ wc) := by
  have hn : ∀ (k : Nat) (q : Nat × va_E), wc[k]? = some q → q.1 < H.size ∧ ¬ va_A wr H.size q.1 := fun k q hq => by
    have hl := (wl_r hP k q hq).lt
    exact ⟨hl, fun z => z.elim (fun ⟨k2, e, h2⟩ => wl_x hD k2 k (q.1, e) q h2 hq rfl) (fun z => by omega)⟩
  refine ⟨va_P.app hP1 (fun k q hq => (wl_r hP k q hq).kept (hk _ (hn k q hq).1 (hn k q hq).2)), va_D.app (hD1.weaken (fun k q _ z => wl_F (wl_Dl hD) hA _ z)) (wl_Dr hD) (fun i j x y hx hy e => (hn j y hy).2 (by rw [← e]; exact hD1.2 i x hx))⟩
theorem lw_go {L i : Nat} (hL : L ≤ 2048) (hi : i ≤ 4000) (h : ¬ Int32.ofNat L - 4 < nI i) : i + 4 ≤ L := by
  rcases Nat.lt_or_ge L 4 with z | z
  · refine absurd ?_ h
    refine Int32.lt_of_lt_of_le ?_ (nI_pos' (show i < 2 ^ 31 by omega))
    rcases (show L = 0 ∨ L = 1 ∨ L = 2 ∨ L = 3 by omega) with rfl | rfl | rfl | rfl <;> decide
  · rw [show Int32.ofNat L = nI L from rfl, l4, pk_sub z, lt_ (by omega) (by omega)] at h
    omega
set_option maxHeartbeats 16000000 in
set_option maxRecDepth 100000 in
theorem law_loop {p : Program} {e : Env} {s : State} {m : MethodId} {below : List Frame} {meth : Method} {c : Code} (l : Launch) {b L : Nat} {xs : Nat → Int32} (hL : L ≤ 2048) (C0 : lw_At p s m meth c b L xs) (dC : Nat → ClassId) (dI : Nat → Nat → Nat) (cy : Nat → ClassId) (hK : va_K (dC, dI) vwCl (wT cy) s) (hN : wN s) (adC adR : Nat → Nat) : ∀ (n i cl sl : Nat) (M I : St) (J : Rf) (LP : List Nat) (P : St) (H : Heap) (locs : List Loc), L ≤ i + 4 * n → i ≤ L + 4 → cl + 7 * n ≤ 4000 → sl + 35 * n ≤ 30000 → SimE M I J LP P → va_P (dC, dI) vwCl ((rW adR cy M) ++ (cW adC cy I J LP P)) H → va_D (fun q : Nat => s.heap.size ≤ q) ((rW adR cy M) ++ (cW adC cy I J LP P)) → va_S (fun q : Nat => s.heap.size ≤ q) s.heap H locs → ∀ ls : Array Slot, lv_has ls 4 [(0, .ref b), (1, .ref (adC 0)), (2, .ref (adR 40)), (3, .int (nI i))] → W p l e room_1 s m #[Value.ref b] below meth c H locs cl sl (lw_Z below #[Value.ref b] s) (F0 m 18 ls []) := by
  obtain ⟨hx, hb, hr, hml, hown, hts0, hX, hbl, hlocks, hgv⟩ := id C0
  have hown : s.vm.findClass RL = some m.cls := hown
  have hts : ∀ w ∈ wsL_law, w.before #[Value.ref b] s = true := fun w h => hts0 w (wsL_law_in w h)
  have hA : ∀ q : Nat, s.heap.size ≤ q → (fun q : Nat => s.heap.size ≤ q) q := fun _ h => h
  have hbA : ¬ (fun q : Nat => s.heap.size ≤ q) b := Nat.not_le.mpr hbl
  intro n
  induction n with
  | zero =>
    intro i cl sl M I J LP P H locs hn hi hcl hsl hs hP hD hS ls hl
    refine lv_iload_n hx hb dL_law_18 rfl (lv_at hl 3 rfl) ?_
    refine lv_aload_n hx hb dL_law_19 rfl (lv_at hl 0 rfl) ?_
    refine va_slen hx hb hX hbl hbA hS dL_law_20 ?_
    refine lv_iconst (v := 4) hx hb dL_law_21 (by decide) ?_
    refine lv_isub hx hb dL_law_22 ?_
    refine lv_icmp_gt (tgt := 676) hx hb dL_law_23 (by decide) (fun hc => ?_) (fun hc => ?_)
    · refine lv_iconst (v := 1) hx hb dL_law_676 (by decide) ?_
      refine va_forget hS.2.2 ?_
      refine W.widen (k := room_1.cells) (n := room_1.slots) (by have := rm_c; omega) (by have := rm_s; omega) ?_
      exact lw_ret hx hb hr hlocks dL_law_677
    · have := lw_go hL (by omega) hc; omega
  | succ n ih =>
    intro i cl sl M I J LP P H locs hn hi hcl hsl hs hP hD hS ls hl
    refine lv_iload_n hx hb dL_law_18 rfl (lv_at hl 3 rfl) ?_
    refine lv_aload_n hx hb dL_law_19 rfl (lv_at hl 0 rfl) ?_
    refine va_slen hx hb hX hbl hbA hS dL_law_20 ?_
    refine lv_iconst (v := 4) hx hb dL_law_21 (by decide) ?_
    refine lv_isub hx hb dL_law_22 ?_
    refine lv_icmp_gt (tgt := 676) hx hb dL_law_23 (by decide) (fun hc => ?_) (fun hc => ?_)
    · refine lv_iconst (v := 1) hx hb dL_law_676 (by decide) ?_
      refine va_forget hS.2.2 ?_
      refine W.widen (k := room_1.cells) (n := room_1.slots) (by have := rm_c; omega) (by have := rm_s; omega) ?_
      exact lw_ret hx hb hr hlocks dL_law_677
    · have hgo := lw_go hL (by omega) hc
      have v0 : vp_in (nI i) L := in_ (by omega) (by omega)
      have v1 : vp_in (nI i + 1) L := by rw [nI_1]; exact in_ (by omega) (by omega)
      have v2 : vp_in (nI i + 2) L := by rw [l2, nI_add]; exact in_ (by omega) (by omega)
      have v3 : vp_in (nI i + 3) L := by rw [l3, nI_add]; exact in_ (by omega) (by omega)
      have next : ∀ (cl2 sl2 : Nat) (M I : St) (J : Rf) (LP : List Nat) (P : St) (H : Heap) (locs : List Loc), cl2 ≤ cl + 7 → sl2 ≤ sl + 35 → SimE M I J LP P → va_P (dC, dI) vwCl ((rW adR cy M) ++ (cW adC cy I J LP P)) H → va_D (fun q : Nat => s.heap.size ≤ q) ((rW adR cy M) ++ (cW adC cy I J LP P)) → va_S (fun q : Nat => s.heap.size ≤ q) s.heap H locs → W p l e room_1 s m #[Value.ref b] below meth c H locs cl2 sl2 (lw_Z below #[Value.ref b] s) (F0 m 670 ls []) := by
        intro cl2 sl2 M I J LP P H locs hc2 hs2 hs hP hD hS
        refine lv_iinc (v := nI (i + 4)) (lv' := [(3, .int (nI (i + 4))), (0, .ref b), (1, .ref (adC 0)), (2, .ref (adR 40))]) hx hb dL_law_670 hl (k := 3) rfl (by rw [← nI_add]; rfl) (by decide) rfl (fun ls hl => ?_)
        refine lv_goto (tgt := 18) hx hb dL_law_673 (by decide) ?_
        exact ih (i + 4) cl2 sl2 M I J LP P H locs (by omega) (by omega) (by omega) (by omega) hs hP hD hS ls (lv_sub hl [1, 2, 3, 0] rfl)
      refine lv_aload_n hx hb dL_law_26 rfl (lv_at hl 0 rfl) ?_
      refine lv_iload_n hx hb dL_law_27 rfl (lv_at hl 3 rfl) ?_
      refine va_sld hx hb hX hbl hbA hS v0 dL_law_28 ?_
      refine lv_bipush (v := 31) hx hb dL_law_29 (by decide) ?_
      refine lv_iand hx hb dL_law_31 ?_
      refine lv_topi (fun x ex => ?_)
      by_cases e0 : x = 0
      · refine lv_tableIn (off := 96) (tgt := 128) hx hb dL_law_32 (by rw [e0]; decide) (by rw [e0]; decide) (by rw [e0]; rfl) (by decide) ?_
        refine lv_aload_n hx hb dL_law_128 rfl (lv_at hl 1 rfl) ?_
        have hsz := hS.1
        have hPc := wl_r hP; have hDc := wl_Dr hD
        have hFc := wl_F hDc (fun q h => Nat.le_trans hS.1 h : ∀ q, H.size ≤ q → s.heap.size ≤ q)
        refine va_calli (va_runV (As := []) (rest := []) ⟨hx, hb, hml, hown, hts⟩ (m_X7_begin l dC dI cy adC (va_A (cW adC cy I J LP P) H.size) I J LP P  hDc.self (o_begin hs )) (cwV 0 hts gL_law_X7_begin rfl rfl rfl (by decide +kernel) ⟨Nat.le_of_ble_eq_true rfl, Nat.le_of_ble_eq_true rfl⟩) ⟨wPre.blind, va_recv hK hPc (ci := 7) (q0 := 0) rfl cG_0, wPre.at hPc hK hN (va_S.rf (A := va_A (cW adC cy I J LP P) H.size)) (fun q h => Or.inr h)⟩ rfl rfl hl.1 rfl (lv_room (Nat.le_of_ble_eq_true rfl)) dL_law_129 ⟨by show _ ≤ room_1.cells; have := rm_c; omega, by show _ ≤ room_1.slots; have := rm_s; omega⟩) hS (fun q _ h => hFc q h) hFc (fun r u t H1 locs ht hvm hw hB hz1 hk1 hS => ?_)
        obtain ⟨I2, J2, LP2, P2⟩ := u
        obtain ⟨hP1, hD1⟩ := hB; rw [ht] at hP1
        obtain ⟨hP, hD⟩ := wl_jr hP hD (fun q h => Nat.le_trans hsz h) hk1 hP1 hD1
        replace hs := hw; try dsimp only at hs hP hD
        generalize H1 = H at hP hS ⊢
        clear hPc hDc hFc
        generalize I2 = I at hs hP hD; generalize J2 = J at hs hP hD; generalize LP2 = LP at hs hP hD; generalize P2 = P at hs hP hD
        refine lv_aload_n hx hb dL_law_132 rfl (lv_at hl 2 rfl) ?_
        have hsz := hS.1
        have hPc := wl_l hP; have hDc := wl_Dl hD
        have hFc := wl_F hDc (fun q h => Nat.le_trans hS.1 h : ∀ q, H.size ≤ q → s.heap.size ≤ q)
        refine va_calli (va_runV (As := []) (rest := [.int r]) ⟨hx, hb, hml, hown, hts⟩ (m_X8_begin l dC dI cy adR (va_A (rW adR cy M) H.size) M  hDc.self hs) (cwV 0 hts gL_law_X8_begin rfl rfl rfl (by decide +kernel) ⟨Nat.le_of_ble_eq_true rfl, Nat.le_of_ble_eq_true rfl⟩) ⟨wPre.blind, va_recv hK hPc (ci := 8) (q0 := 0) rfl rG_o, wPre.at hPc hK hN (va_S.rf (A := va_A (rW adR cy M) H.size)) (fun q h => Or.inr h)⟩ rfl rfl hl.1 rfl (lv_room (Nat.le_of_ble_eq_true rfl)) dL_law_133 ⟨by show _ ≤ room_1.cells; have := rm_c; omega, by show _ ≤ room_1.slots; have := rm_s; omega⟩) hS (fun q _ h => hFc q h) hFc (fun r' u t H1 locs ht hvm hw hB hz1 hk1 hS => ?_)
        obtain ⟨M2, rfl⟩ : ∃ z : St, z = u := ⟨_, rfl⟩
        obtain ⟨hP1, hD1⟩ := hB; rw [ht] at hP1
        obtain ⟨hP, hD⟩ := wl_jl hP hD (fun q h => Nat.le_trans hsz h) hk1 hP1 hD1
        obtain ⟨hreq, hs⟩ := hw
        refine lv_icmp_eq (tgt := 670) hx hb dL_law_136 (by decide) (fun _ => ?_) (fun hne => absurd hreq hne)
        exact next _ _ M2 I J LP P _ _ (by omega) (by omega) hs hP hD hS
      by_cases e1 : x = 1
      · refine lv_tableIn (off := 109) (tgt := 141) hx hb dL_law_32 (by rw [e1]; decide) (by rw [e1]; decide) (by rw [e1]; rfl) (by decide) ?_
        refine lv_aload_n hx hb dL_law_141 rfl (lv_at hl 1 rfl) ?_
        refine lv_aload_n hx hb dL_law_142 rfl (lv_at hl 0 rfl) ?_
        refine lv_iload_n hx hb dL_law_143 rfl (lv_at hl 3 rfl) ?_
        refine lv_iconst (v := 1) hx hb dL_law_144 (by decide) ?_
        refine lv_iadd hx hb dL_law_145 ?_
        refine va_sld hx hb hX hbl hbA hS v1 dL_law_146 ?_
        refine lv_aload_n hx hb dL_law_147 rfl (lv_at hl 0 rfl) ?_
        refine lv_iload_n hx hb dL_law_148 rfl (lv_at hl 3 rfl) ?_
        refine lv_iconst (v := 2) hx hb dL_law_149 (by decide) ?_
        refine lv_iadd hx hb dL_law_150 ?_
        refine va_sld hx hb hX hbl hbA hS v2 dL_law_151 ?_
        refine lv_aload_n hx hb dL_law_152 rfl (lv_at hl 0 rfl) ?_
        refine lv_iload_n hx hb dL_law_153 rfl (lv_at hl 3 rfl) ?_
        refine lv_iconst (v := 3) hx hb dL_law_154 (by decide) ?_
        refine lv_iadd hx hb dL_law_155 ?_
        refine va_sld hx hb hX hbl hbA hS v3 dL_law_156 ?_
        have hsz := hS.1
        have hPc := wl_r hP; have hDc := wl_Dr hD
        have hFc := wl_F hDc (fun q h => Nat.le_trans hS.1 h : ∀ q, H.size ≤ q → s.heap.size ≤ q)
        refine va_calli (va_runV (As := [.int (xs (nI i + 1).toNatClampNeg), .int (xs (nI i + 2).toNatClampNeg), .int (xs (nI i + 3).toNatClampNeg)]) (rest := []) ⟨hx, hb, hml, hown, hts⟩ (m_X7_write l dC dI cy adC (va_A (cW adC cy I J LP P) H.size) I J LP P (xs (nI i + 1).toNatClampNeg) (xs (nI i + 2).toNatClampNeg) (xs (nI i + 3).toNatClampNeg) hDc.self (o_write hs (xs (nI i + 1).toNatClampNeg) (xs (nI i + 2).toNatClampNeg) (xs (nI i + 3).toNatClampNeg))) (cwV 3 hts gL_law_X7_write rfl rfl rfl (by decide +kernel) ⟨Nat.le_of_ble_eq_true rfl, Nat.le_of_ble_eq_true rfl⟩) ⟨wPre.blind, va_recv hK hPc (ci := 7) (q0 := 0) rfl cG_0, wPre.at hPc hK hN (va_S.rf (A := va_A (cW adC cy I J LP P) H.size)) (fun q h => Or.inr h)⟩ rfl rfl hl.1 rfl (lv_room (Nat.le_of_ble_eq_true rfl)) dL_law_157 ⟨by show _ ≤ room_1.cells; have := rm_c; omega, by show _ ≤ room_1.slots; have := rm_s; omega⟩) hS (fun q _ h => hFc q h) hFc (fun r u t H1 locs ht hvm hw hB hz1 hk1 hS => ?_)
        obtain ⟨I2, J2, LP2, P2⟩ := u
        obtain ⟨hP1, hD1⟩ := hB; rw [ht] at hP1
        obtain ⟨hP, hD⟩ := wl_jr hP hD (fun q h => Nat.le_trans hsz h) hk1 hP1 hD1
        replace hs := hw; try dsimp only at hs hP hD
        generalize H1 = H at hP hS ⊢
        clear hPc hDc hFc
        generalize I2 = I at hs hP hD; generalize J2 = J at hs hP hD; generalize LP2 = LP at hs hP hD; generalize P2 = P at hs hP hD
        refine lv_aload_n hx hb dL_law_160 rfl (lv_at hl 2 rfl) ?_
        refine lv_aload_n hx hb dL_law_161 rfl (lv_at hl 0 rfl) ?_
        refine lv_iload_n hx hb dL_law_162 rfl (lv_at hl 3 rfl) ?_
        refine lv_iconst (v := 1) hx hb dL_law_163 (by decide) ?_
        refine lv_iadd hx hb dL_law_164 ?_
        refine va_sld hx hb hX hbl hbA hS v1 dL_law_165 ?_
        refine lv_aload_n hx hb dL_law_166 rfl (lv_at hl 0 rfl) ?_
        refine lv_iload_n hx hb dL_law_167 rfl (lv_at hl 3 rfl) ?_
        refine lv_iconst (v := 2) hx hb dL_law_168 (by decide) ?_
        refine lv_iadd hx hb dL_law_169 ?_
        refine va_sld hx hb hX hbl hbA hS v2 dL_law_170 ?_
        refine lv_aload_n hx hb dL_law_171 rfl (lv_at hl 0 rfl) ?_
        refine lv_iload_n hx hb dL_law_172 rfl (lv_at hl 3 rfl) ?_
        refine lv_iconst (v := 3) hx hb dL_law_173 (by decide) ?_
        refine lv_iadd hx hb dL_law_174 ?_
        refine va_sld hx hb hX hbl hbA hS v3 dL_law_175 ?_
        have hsz := hS.1
        have hPc := wl_l hP; have hDc := wl_Dl hD
        have hFc := wl_F hDc (fun q h => Nat.le_trans hS.1 h : ∀ q, H.size ≤ q → s.heap.size ≤ q)
        refine va_calli (va_runV (As := [.int (xs (nI i + 1).toNatClampNeg), .int (xs (nI i + 2).toNatClampNeg), .int (xs (nI i + 3).toNatClampNeg)]) (rest := [.int r]) ⟨hx, hb, hml, hown, hts⟩ (m_X8_write l dC dI cy adR (va_A (rW adR cy M) H.size) M (xs (nI i + 1).toNatClampNeg) (xs (nI i + 2).toNatClampNeg) (xs (nI i + 3).toNatClampNeg) hDc.self hs) (cwV 3 hts gL_law_X8_write rfl rfl rfl (by decide +kernel) ⟨Nat.le_of_ble_eq_true rfl, Nat.le_of_ble_eq_true rfl⟩) ⟨wPre.blind, va_recv hK hPc (ci := 8) (q0 := 0) rfl rG_o, wPre.at hPc hK hN (va_S.rf (A := va_A (rW adR cy M) H.size)) (fun q h => Or.inr h)⟩ rfl rfl hl.1 rfl (lv_room (Nat.le_of_ble_eq_true rfl)) dL_law_176 ⟨by show _ ≤ room_1.cells; have := rm_c; omega, by show _ ≤ room_1.slots; have := rm_s; omega⟩) hS (fun q _ h => hFc q h) hFc (fun r' u t H1 locs ht hvm hw hB hz1 hk1 hS => ?_)
        obtain ⟨M2, rfl⟩ : ∃ z : St, z = u := ⟨_, rfl⟩
        obtain ⟨hP1, hD1⟩ := hB; rw [ht] at hP1
        obtain ⟨hP, hD⟩ := wl_jl hP hD (fun q h => Nat.le_trans hsz h) hk1 hP1 hD1
        obtain ⟨hreq, hs⟩ := hw
        refine lv_icmp_eq (tgt := 670) hx hb dL_law_179 (by decide) (fun _ => ?_) (fun hne => absurd hreq hne)
        exact next _ _ M2 I J LP P _ _ (by omega) (by omega) hs hP hD hS
      by_cases e2 : x = 2
      · refine lv_tableIn (off := 152) (tgt := 184) hx hb dL_law_32 (by rw [e2]; decide) (by rw [e2]; decide) (by rw [e2]; rfl) (by decide) ?_
        refine lv_aload_n hx hb dL_law_184 rfl (lv_at hl 1 rfl) ?_
        refine lv_aload_n hx hb dL_law_185 rfl (lv_at hl 0 rfl) ?_
        refine lv_iload_n hx hb dL_law_186 rfl (lv_at hl 3 rfl) ?_
        refine lv_iconst (v := 1) hx hb dL_law_187 (by decide) ?_
        refine lv_iadd hx hb dL_law_188 ?_
        refine va_sld hx hb hX hbl hbA hS v1 dL_law_189 ?_
        refine lv_aload_n hx hb dL_law_190 rfl (lv_at hl 0 rfl) ?_
        refine lv_iload_n hx hb dL_law_191 rfl (lv_at hl 3 rfl) ?_
        refine lv_iconst (v := 2) hx hb dL_law_192 (by decide) ?_
        refine lv_iadd hx hb dL_law_193 ?_
        refine va_sld hx hb hX hbl hbA hS v2 dL_law_194 ?_
        have hsz := hS.1
        have hPc := wl_r hP; have hDc := wl_Dr hD
        have hFc := wl_F hDc (fun q h => Nat.le_trans hS.1 h : ∀ q, H.size ≤ q → s.heap.size ≤ q)
        refine va_calli (va_runV (As := [.int (xs (nI i + 1).toNatClampNeg), .int (xs (nI i + 2).toNatClampNeg)]) (rest := []) ⟨hx, hb, hml, hown, hts⟩ (m_X7_read l dC dI cy adC (va_A (cW adC cy I J LP P) H.size) I J LP P (xs (nI i + 1).toNatClampNeg) (xs (nI i + 2).toNatClampNeg) hDc.self (o_read hs (xs (nI i + 1).toNatClampNeg) (xs (nI i + 2).toNatClampNeg))) (cwV 2 hts gL_law_X7_read rfl rfl rfl (by decide +kernel) ⟨Nat.le_of_ble_eq_true rfl, Nat.le_of_ble_eq_true rfl⟩) ⟨wPre.blind, va_recv hK hPc (ci := 7) (q0 := 0) rfl cG_0, wPre.at hPc hK hN (va_S.rf (A := va_A (cW adC cy I J LP P) H.size)) (fun q h => Or.inr h)⟩ rfl rfl hl.1 rfl (lv_room (Nat.le_of_ble_eq_true rfl)) dL_law_195 ⟨by show _ ≤ room_1.cells; have := rm_c; omega, by show _ ≤ room_1.slots; have := rm_s; omega⟩) hS (fun q _ h => hFc q h) hFc (fun r u t H1 locs ht hvm hw hB hz1 hk1 hS => ?_)
        obtain ⟨I2, J2, LP2, P2⟩ := u
        obtain ⟨hP1, hD1⟩ := hB; rw [ht] at hP1
        obtain ⟨hP, hD⟩ := wl_jr hP hD (fun q h => Nat.le_trans hsz h) hk1 hP1 hD1
        replace hs := hw; try dsimp only at hs hP hD
        generalize H1 = H at hP hS ⊢
        clear hPc hDc hFc
        generalize I2 = I at hs hP hD; generalize J2 = J at hs hP hD; generalize LP2 = LP at hs hP hD; generalize P2 = P at hs hP hD
        refine lv_aload_n hx hb dL_law_198 rfl (lv_at hl 2 rfl) ?_
        refine lv_aload_n hx hb dL_law_199 rfl (lv_at hl 0 rfl) ?_
        refine lv_iload_n hx hb dL_law_200 rfl (lv_at hl 3 rfl) ?_
        refine lv_iconst (v := 1) hx hb dL_law_201 (by decide) ?_
        refine lv_iadd hx hb dL_law_202 ?_
        refine va_sld hx hb hX hbl hbA hS v1 dL_law_203 ?_
        refine lv_aload_n hx hb dL_law_204 rfl (lv_at hl 0 rfl) ?_
        refine lv_iload_n hx hb dL_law_205 rfl (lv_at hl 3 rfl) ?_
        refine lv_iconst (v := 2) hx hb dL_law_206 (by decide) ?_
        refine lv_iadd hx hb dL_law_207 ?_
        refine va_sld hx hb hX hbl hbA hS v2 dL_law_208 ?_
        have hsz := hS.1
        have hPc := wl_l hP; have hDc := wl_Dl hD
        have hFc := wl_F hDc (fun q h => Nat.le_trans hS.1 h : ∀ q, H.size ≤ q → s.heap.size ≤ q)
        refine va_calli (va_runV (As := [.int (xs (nI i + 1).toNatClampNeg), .int (xs (nI i + 2).toNatClampNeg)]) (rest := [.int r]) ⟨hx, hb, hml, hown, hts⟩ (m_X8_read l dC dI cy adR (va_A (rW adR cy M) H.size) M (xs (nI i + 1).toNatClampNeg) (xs (nI i + 2).toNatClampNeg) hDc.self hs) (cwV 2 hts gL_law_X8_read rfl rfl rfl (by decide +kernel) ⟨Nat.le_of_ble_eq_true rfl, Nat.le_of_ble_eq_true rfl⟩) ⟨wPre.blind, va_recv hK hPc (ci := 8) (q0 := 0) rfl rG_o, wPre.at hPc hK hN (va_S.rf (A := va_A (rW adR cy M) H.size)) (fun q h => Or.inr h)⟩ rfl rfl hl.1 rfl (lv_room (Nat.le_of_ble_eq_true rfl)) dL_law_209 ⟨by show _ ≤ room_1.cells; have := rm_c; omega, by show _ ≤ room_1.slots; have := rm_s; omega⟩) hS (fun q _ h => hFc q h) hFc (fun r' u t H1 locs ht hvm hw hB hz1 hk1 hS => ?_)
        obtain ⟨M2, rfl⟩ : ∃ z : St, z = u := ⟨_, rfl⟩
        obtain ⟨hP1, hD1⟩ := hB; rw [ht] at hP1
        obtain ⟨hP, hD⟩ := wl_jl hP hD (fun q h => Nat.le_trans hsz h) hk1 hP1 hD1
        obtain ⟨hreq, hs⟩ := hw
        refine lv_icmp_eq (tgt := 670) hx hb dL_law_212 (by decide) (fun _ => ?_) (fun hne => absurd hreq hne)
        exact next _ _ M2 I J LP P _ _ (by omega) (by omega) hs hP hD hS
      by_cases e3 : x = 3
      · refine lv_tableIn (off := 185) (tgt := 217) hx hb dL_law_32 (by rw [e3]; decide) (by rw [e3]; decide) (by rw [e3]; rfl) (by decide) ?_
        refine lv_aload_n hx hb dL_law_217 rfl (lv_at hl 1 rfl) ?_
        refine lv_aload_n hx hb dL_law_218 rfl (lv_at hl 0 rfl) ?_
        refine lv_iload_n hx hb dL_law_219 rfl (lv_at hl 3 rfl) ?_
        refine lv_iconst (v := 1) hx hb dL_law_220 (by decide) ?_
        refine lv_iadd hx hb dL_law_221 ?_
        refine va_sld hx hb hX hbl hbA hS v1 dL_law_222 ?_
        have hsz := hS.1
        have hPc := wl_r hP; have hDc := wl_Dr hD
        have hFc := wl_F hDc (fun q h => Nat.le_trans hS.1 h : ∀ q, H.size ≤ q → s.heap.size ≤ q)
        refine va_calli (va_runV (As := [.int (xs (nI i + 1).toNatClampNeg)]) (rest := []) ⟨hx, hb, hml, hown, hts⟩ (m_X7_commit l dC dI cy adC (va_A (cW adC cy I J LP P) H.size) I J LP P (xs (nI i + 1).toNatClampNeg) hDc.self (o_commit hs (xs (nI i + 1).toNatClampNeg))) (cwV 1 hts gL_law_X7_commit rfl rfl rfl (by decide +kernel) ⟨Nat.le_of_ble_eq_true rfl, Nat.le_of_ble_eq_true rfl⟩) ⟨wPre.blind, va_recv hK hPc (ci := 7) (q0 := 0) rfl cG_0, wPre.at hPc hK hN (va_S.rf (A := va_A (cW adC cy I J LP P) H.size)) (fun q h => Or.inr h)⟩ rfl rfl hl.1 rfl (lv_room (Nat.le_of_ble_eq_true rfl)) dL_law_223 ⟨by show _ ≤ room_1.cells; have := rm_c; omega, by show _ ≤ room_1.slots; have := rm_s; omega⟩) hS (fun q _ h => hFc q h) hFc (fun r u t H1 locs ht hvm hw hB hz1 hk1 hS => ?_)
        obtain ⟨I2, J2, LP2, P2⟩ := u
        obtain ⟨hP1, hD1⟩ := hB; rw [ht] at hP1
        obtain ⟨hP, hD⟩ := wl_jr hP hD (fun q h => Nat.le_trans hsz h) hk1 hP1 hD1
        replace hs := hw; try dsimp only at hs hP hD
        generalize H1 = H at hP hS ⊢
        clear hPc hDc hFc
        generalize I2 = I at hs hP hD; generalize J2 = J at hs hP hD; generalize LP2 = LP at hs hP hD; generalize P2 = P at hs hP hD
        refine lv_aload_n hx hb dL_law_226 rfl (lv_at hl 2 rfl) ?_
        refine lv_aload_n hx hb dL_law_227 rfl (lv_at hl 0 rfl) ?_
        refine lv_iload_n hx hb dL_law_228 rfl (lv_at hl 3 rfl) ?_
        refine lv_iconst (v := 1) hx hb dL_law_229 (by decide) ?_
        refine lv_iadd hx hb dL_law_230 ?_
        refine va_sld hx hb hX hbl hbA hS v1 dL_law_231 ?_
        have hsz := hS.1
        have hPc := wl_l hP; have hDc := wl_Dl hD
        have hFc := wl_F hDc (fun q h => Nat.le_trans hS.1 h : ∀ q, H.size ≤ q → s.heap.size ≤ q)
        refine va_calli (va_runV (As := [.int (xs (nI i + 1).toNatClampNeg)]) (rest := [.int r]) ⟨hx, hb, hml, hown, hts⟩ (m_X8_commit l dC dI cy adR (va_A (rW adR cy M) H.size) M (xs (nI i + 1).toNatClampNeg) hDc.self hs) (cwV 1 hts gL_law_X8_commit rfl rfl rfl (by decide +kernel) ⟨Nat.le_of_ble_eq_true rfl, Nat.le_of_ble_eq_true rfl⟩) ⟨wPre.blind, va_recv hK hPc (ci := 8) (q0 := 0) rfl rG_o, wPre.at hPc hK hN (va_S.rf (A := va_A (rW adR cy M) H.size)) (fun q h => Or.inr h)⟩ rfl rfl hl.1 rfl (lv_room (Nat.le_of_ble_eq_true rfl)) dL_law_232 ⟨by show _ ≤ room_1.cells; have := rm_c; omega, by show _ ≤ room_1.slots; have := rm_s; omega⟩) hS (fun q _ h => hFc q h) hFc (fun r' u t H1 locs ht hvm hw hB hz1 hk1 hS => ?_)
        obtain ⟨M2, rfl⟩ : ∃ z : St, z = u := ⟨_, rfl⟩
        obtain ⟨hP1, hD1⟩ := hB; rw [ht] at hP1
        obtain ⟨hP, hD⟩ := wl_jl hP hD (fun q h => Nat.le_trans hsz h) hk1 hP1 hD1
        obtain ⟨hreq, hs⟩ := hw
        refine lv_icmp_eq (tgt := 670) hx hb dL_law_235 (by decide) (fun _ => ?_) (fun hne => absurd hreq hne)
        exact next _ _ M2 I J LP P _ _ (by omega) (by omega) hs hP hD hS
      by_cases e4 : x = 4
      · refine lv_tableIn (off := 208) (tgt := 240) hx hb dL_law_32 (by rw [e4]; decide) (by rw [e4]; decide) (by rw [e4]; rfl) (by decide) ?_
        refine lv_aload_n hx hb dL_law_240 rfl (lv_at hl 1 rfl) ?_
        refine lv_aload_n hx hb dL_law_241 rfl (lv_at hl 0 rfl) ?_
        refine lv_iload_n hx hb dL_law_242 rfl (lv_at hl 3 rfl) ?_
        refine lv_iconst (v := 1) hx hb dL_law_243 (by decide) ?_
        refine lv_iadd hx hb dL_law_244 ?_
        refine va_sld hx hb hX hbl hbA hS v1 dL_law_245 ?_
        have hsz := hS.1
        have hPc := wl_r hP; have hDc := wl_Dr hD
        have hFc := wl_F hDc (fun q h => Nat.le_trans hS.1 h : ∀ q, H.size ≤ q → s.heap.size ≤ q)
        refine va_calli (va_runV (As := [.int (xs (nI i + 1).toNatClampNeg)]) (rest := []) ⟨hx, hb, hml, hown, hts⟩ (m_X7_abort l dC dI cy adC (va_A (cW adC cy I J LP P) H.size) I J LP P (xs (nI i + 1).toNatClampNeg) hDc.self (o_abort hs (xs (nI i + 1).toNatClampNeg))) (cwV 1 hts gL_law_X7_abort rfl rfl rfl (by decide +kernel) ⟨Nat.le_of_ble_eq_true rfl, Nat.le_of_ble_eq_true rfl⟩) ⟨wPre.blind, va_recv hK hPc (ci := 7) (q0 := 0) rfl cG_0, wPre.at hPc hK hN (va_S.rf (A := va_A (cW adC cy I J LP P) H.size)) (fun q h => Or.inr h)⟩ rfl rfl hl.1 rfl (lv_room (Nat.le_of_ble_eq_true rfl)) dL_law_246 ⟨by show _ ≤ room_1.cells; have := rm_c; omega, by show _ ≤ room_1.slots; have := rm_s; omega⟩) hS (fun q _ h => hFc q h) hFc (fun r u t H1 locs ht hvm hw hB hz1 hk1 hS => ?_)
        obtain ⟨I2, J2, LP2, P2⟩ := u
        obtain ⟨hP1, hD1⟩ := hB; rw [ht] at hP1
        obtain ⟨hP, hD⟩ := wl_jr hP hD (fun q h => Nat.le_trans hsz h) hk1 hP1 hD1
        replace hs := hw; try dsimp only at hs hP hD
        generalize H1 = H at hP hS ⊢
        clear hPc hDc hFc
        generalize I2 = I at hs hP hD; generalize J2 = J at hs hP hD; generalize LP2 = LP at hs hP hD; generalize P2 = P at hs hP hD
        refine lv_aload_n hx hb dL_law_249 rfl (lv_at hl 2 rfl) ?_
        refine lv_aload_n hx hb dL_law_250 rfl (lv_at hl 0 rfl) ?_
        refine lv_iload_n hx hb dL_law_251 rfl (lv_at hl 3 rfl) ?_
        refine lv_iconst (v := 1) hx hb dL_law_252 (by decide) ?_
        refine lv_iadd hx hb dL_law_253 ?_
        refine va_sld hx hb hX hbl hbA hS v1 dL_law_254 ?_
        have hsz := hS.1
        have hPc := wl_l hP; have hDc := wl_Dl hD
        have hFc := wl_F hDc (fun q h => Nat.le_trans hS.1 h : ∀ q, H.size ≤ q → s.heap.size ≤ q)
        refine va_calli (va_runV (As := [.int (xs (nI i + 1).toNatClampNeg)]) (rest := [.int r]) ⟨hx, hb, hml, hown, hts⟩ (m_X8_abort l dC dI cy adR (va_A (rW adR cy M) H.size) M (xs (nI i + 1).toNatClampNeg) hDc.self hs) (cwV 1 hts gL_law_X8_abort rfl rfl rfl (by decide +kernel) ⟨Nat.le_of_ble_eq_true rfl, Nat.le_of_ble_eq_true rfl⟩) ⟨wPre.blind, va_recv hK hPc (ci := 8) (q0 := 0) rfl rG_o, wPre.at hPc hK hN (va_S.rf (A := va_A (rW adR cy M) H.size)) (fun q h => Or.inr h)⟩ rfl rfl hl.1 rfl (lv_room (Nat.le_of_ble_eq_true rfl)) dL_law_255 ⟨by show _ ≤ room_1.cells; have := rm_c; omega, by show _ ≤ room_1.slots; have := rm_s; omega⟩) hS (fun q _ h => hFc q h) hFc (fun r' u t H1 locs ht hvm hw hB hz1 hk1 hS => ?_)
        obtain ⟨M2, rfl⟩ : ∃ z : St, z = u := ⟨_, rfl⟩
        obtain ⟨hP1, hD1⟩ := hB; rw [ht] at hP1
        obtain ⟨hP, hD⟩ := wl_jl hP hD (fun q h => Nat.le_trans hsz h) hk1 hP1 hD1
        obtain ⟨hreq, hs⟩ := hw
        refine lv_icmp_eq (tgt := 670) hx hb dL_law_258 (by decide) (fun _ => ?_) (fun hne => absurd hreq hne)
        exact next _ _ M2 I J LP P _ _ (by omega) (by omega) hs hP hD hS
      by_cases e5 : x = 5
      · refine lv_tableIn (off := 231) (tgt := 263) hx hb dL_law_32 (by rw [e5]; decide) (by rw [e5]; decide) (by rw [e5]; rfl) (by decide) ?_
        refine lv_aload_n hx hb dL_law_263 rfl (lv_at hl 1 rfl) ?_
        have hsz := hS.1
        have hPc := wl_r hP; have hDc := wl_Dr hD
        have hFc := wl_F hDc (fun q h => Nat.le_trans hS.1 h : ∀ q, H.size ≤ q → s.heap.size ≤ q)
        refine va_calli (va_runV (As := []) (rest := []) ⟨hx, hb, hml, hown, hts⟩ (m_X7_flush l dC dI cy adC (va_A (cW adC cy I J LP P) H.size) I J LP P  hDc.self (o_flush hs )) (cwV 0 hts gL_law_X7_flush rfl rfl rfl (by decide +kernel) ⟨Nat.le_of_ble_eq_true rfl, Nat.le_of_ble_eq_true rfl⟩) ⟨wPre.blind, va_recv hK hPc (ci := 7) (q0 := 0) rfl cG_0, wPre.at hPc hK hN (va_S.rf (A := va_A (cW adC cy I J LP P) H.size)) (fun q h => Or.inr h)⟩ rfl rfl hl.1 rfl (lv_room (Nat.le_of_ble_eq_true rfl)) dL_law_264 ⟨by show _ ≤ room_1.cells; have := rm_c; omega, by show _ ≤ room_1.slots; have := rm_s; omega⟩) hS (fun q _ h => hFc q h) hFc (fun r u t H1 locs ht hvm hw hB hz1 hk1 hS => ?_)
        obtain ⟨I2, J2, LP2, P2⟩ := u
        obtain ⟨hP1, hD1⟩ := hB; rw [ht] at hP1
        obtain ⟨hP, hD⟩ := wl_jr hP hD (fun q h => Nat.le_trans hsz h) hk1 hP1 hD1
        replace hs := hw; try dsimp only at hs hP hD
        generalize H1 = H at hP hS ⊢
        clear hPc hDc hFc
        generalize I2 = I at hs hP hD; generalize J2 = J at hs hP hD; generalize LP2 = LP at hs hP hD; generalize P2 = P at hs hP hD
        refine lv_aload_n hx hb dL_law_267 rfl (lv_at hl 2 rfl) ?_
        have hsz := hS.1
        have hPc := wl_l hP; have hDc := wl_Dl hD
        have hFc := wl_F hDc (fun q h => Nat.le_trans hS.1 h : ∀ q, H.size ≤ q → s.heap.size ≤ q)
        refine va_calli (va_runV (As := []) (rest := [.int r]) ⟨hx, hb, hml, hown, hts⟩ (m_X8_flush l dC dI cy adR (va_A (rW adR cy M) H.size) M  hDc.self hs) (cwV 0 hts gL_law_X8_flush rfl rfl rfl (by decide +kernel) ⟨Nat.le_of_ble_eq_true rfl, Nat.le_of_ble_eq_true rfl⟩) ⟨wPre.blind, va_recv hK hPc (ci := 8) (q0 := 0) rfl rG_o, wPre.at hPc hK hN (va_S.rf (A := va_A (rW adR cy M) H.size)) (fun q h => Or.inr h)⟩ rfl rfl hl.1 rfl (lv_room (Nat.le_of_ble_eq_true rfl)) dL_law_268 ⟨by show _ ≤ room_1.cells; have := rm_c; omega, by show _ ≤ room_1.slots; have := rm_s; omega⟩) hS (fun q _ h => hFc q h) hFc (fun r' u t H1 locs ht hvm hw hB hz1 hk1 hS => ?_)
        obtain ⟨M2, rfl⟩ : ∃ z : St, z = u := ⟨_, rfl⟩
        obtain ⟨hP1, hD1⟩ := hB; rw [ht] at hP1
        obtain ⟨hP, hD⟩ := wl_jl hP hD (fun q h => Nat.le_trans hsz h) hk1 hP1 hD1
        obtain ⟨hreq, hs⟩ := hw
        refine lv_icmp_eq (tgt := 670) hx hb dL_law_271 (by decide) (fun _ => ?_) (fun hne => absurd hreq hne)
        exact next _ _ M2 I J LP P _ _ (by omega) (by omega) hs hP hD hS
      by_cases e6 : x = 6
      · refine lv_tableIn (off := 244) (tgt := 276) hx hb dL_law_32 (by rw [e6]; decide) (by rw [e6]; decide) (by rw [e6]; rfl) (by decide) ?_
        refine lv_aload_n hx hb dL_law_276 rfl (lv_at hl 1 rfl) ?_
        refine lv_aload_n hx hb dL_law_277 rfl (lv_at hl 0 rfl) ?_
        refine lv_iload_n hx hb dL_law_278 rfl (lv_at hl 3 rfl) ?_
        refine lv_iconst (v := 1) hx hb dL_law_279 (by decide) ?_
        refine lv_iadd hx hb dL_law_280 ?_
        refine va_sld hx hb hX hbl hbA hS v1 dL_law_281 ?_
        have hsz := hS.1
        have hPc := wl_r hP; have hDc := wl_Dr hD
        have hFc := wl_F hDc (fun q h => Nat.le_trans hS.1 h : ∀ q, H.size ≤ q → s.heap.size ≤ q)
        refine va_calli (va_runV (As := [.int (xs (nI i + 1).toNatClampNeg)]) (rest := []) ⟨hx, hb, hml, hown, hts⟩ (m_X7_crash l dC dI cy adC (va_A (cW adC cy I J LP P) H.size) I J LP P (xs (nI i + 1).toNatClampNeg) hDc.self (o_crash hs (xs (nI i + 1).toNatClampNeg))) (cwV 1 hts gL_law_X7_crash rfl rfl rfl (by decide +kernel) ⟨Nat.le_of_ble_eq_true rfl, Nat.le_of_ble_eq_true rfl⟩) ⟨wPre.blind, va_recv hK hPc (ci := 7) (q0 := 0) rfl cG_0, wPre.at hPc hK hN (va_S.rf (A := va_A (cW adC cy I J LP P) H.size)) (fun q h => Or.inr h)⟩ rfl rfl hl.1 rfl (lv_room (Nat.le_of_ble_eq_true rfl)) dL_law_282 ⟨by show _ ≤ room_1.cells; have := rm_c; omega, by show _ ≤ room_1.slots; have := rm_s; omega⟩) hS (fun q _ h => hFc q h) hFc (fun r u t H1 locs ht hvm hw hB hz1 hk1 hS => ?_)
        obtain ⟨I2, J2, LP2, P2⟩ := u
        obtain ⟨hP1, hD1⟩ := hB; rw [ht] at hP1
        obtain ⟨hP, hD⟩ := wl_jr hP hD (fun q h => Nat.le_trans hsz h) hk1 hP1 hD1
        replace hs := hw; try dsimp only at hs hP hD
        generalize H1 = H at hP hS ⊢
        clear hPc hDc hFc
        generalize I2 = I at hs hP hD; generalize J2 = J at hs hP hD; generalize LP2 = LP at hs hP hD; generalize P2 = P at hs hP hD
        refine lv_aload_n hx hb dL_law_285 rfl (lv_at hl 2 rfl) ?_
        refine lv_aload_n hx hb dL_law_286 rfl (lv_at hl 0 rfl) ?_
        refine lv_iload_n hx hb dL_law_287 rfl (lv_at hl 3 rfl) ?_
        refine lv_iconst (v := 1) hx hb dL_law_288 (by decide) ?_
        refine lv_iadd hx hb dL_law_289 ?_
        refine va_sld hx hb hX hbl hbA hS v1 dL_law_290 ?_
        have hsz := hS.1
        have hPc := wl_l hP; have hDc := wl_Dl hD
        have hFc := wl_F hDc (fun q h => Nat.le_trans hS.1 h : ∀ q, H.size ≤ q → s.heap.size ≤ q)
        refine va_calli (va_runV (As := [.int (xs (nI i + 1).toNatClampNeg)]) (rest := [.int r]) ⟨hx, hb, hml, hown, hts⟩ (m_X8_crash l dC dI cy adR (va_A (rW adR cy M) H.size) M (xs (nI i + 1).toNatClampNeg) hDc.self hs) (cwV 1 hts gL_law_X8_crash rfl rfl rfl (by decide +kernel) ⟨Nat.le_of_ble_eq_true rfl, Nat.le_of_ble_eq_true rfl⟩) ⟨wPre.blind, va_recv hK hPc (ci := 8) (q0 := 0) rfl rG_o, wPre.at hPc hK hN (va_S.rf (A := va_A (rW adR cy M) H.size)) (fun q h => Or.inr h)⟩ rfl rfl hl.1 rfl (lv_room (Nat.le_of_ble_eq_true rfl)) dL_law_291 ⟨by show _ ≤ room_1.cells; have := rm_c; omega, by show _ ≤ room_1.slots; have := rm_s; omega⟩) hS (fun q _ h => hFc q h) hFc (fun r' u t H1 locs ht hvm hw hB hz1 hk1 hS => ?_)
        obtain ⟨M2, rfl⟩ : ∃ z : St, z = u := ⟨_, rfl⟩
        obtain ⟨hP1, hD1⟩ := hB; rw [ht] at hP1
        obtain ⟨hP, hD⟩ := wl_jl hP hD (fun q h => Nat.le_trans hsz h) hk1 hP1 hD1
        obtain ⟨hreq, hs⟩ := hw
        refine lv_icmp_eq (tgt := 670) hx hb dL_law_294 (by decide) (fun _ => ?_) (fun hne => absurd hreq hne)
        exact next _ _ M2 I J LP P _ _ (by omega) (by omega) hs hP hD hS
      by_cases e7 : x = 7
      · refine lv_tableIn (off := 267) (tgt := 299) hx hb dL_law_32 (by rw [e7]; decide) (by rw [e7]; decide) (by rw [e7]; rfl) (by decide) ?_
        refine lv_aload_n hx hb dL_law_299 rfl (lv_at hl 1 rfl) ?_
        refine lv_aload_n hx hb dL_law_300 rfl (lv_at hl 0 rfl) ?_
        refine lv_iload_n hx hb dL_law_301 rfl (lv_at hl 3 rfl) ?_
        refine lv_iconst (v := 1) hx hb dL_law_302 (by decide) ?_
        refine lv_iadd hx hb dL_law_303 ?_
        refine va_sld hx hb hX hbl hbA hS v1 dL_law_304 ?_
        refine lv_aload_n hx hb dL_law_305 rfl (lv_at hl 0 rfl) ?_
        refine lv_iload_n hx hb dL_law_306 rfl (lv_at hl 3 rfl) ?_
        refine lv_iconst (v := 2) hx hb dL_law_307 (by decide) ?_
        refine lv_iadd hx hb dL_law_308 ?_
        refine va_sld hx hb hX hbl hbA hS v2 dL_law_309 ?_
        have hsz := hS.1
        have hPc := wl_r hP; have hDc := wl_Dr hD
        have hFc := wl_F hDc (fun q h => Nat.le_trans hS.1 h : ∀ q, H.size ≤ q → s.heap.size ≤ q)
        refine va_calli (va_runV (As := [.int (xs (nI i + 1).toNatClampNeg), .int (xs (nI i + 2).toNatClampNeg)]) (rest := []) ⟨hx, hb, hml, hown, hts⟩ (m_X7_key l dC dI cy adC (va_A (cW adC cy I J LP P) H.size) I J LP P (xs (nI i + 1).toNatClampNeg) (xs (nI i + 2).toNatClampNeg) hDc.self (o_key hs (xs (nI i + 1).toNatClampNeg) (xs (nI i + 2).toNatClampNeg))) (cwV 2 hts gL_law_X7_key rfl rfl rfl (by decide +kernel) ⟨Nat.le_of_ble_eq_true rfl, Nat.le_of_ble_eq_true rfl⟩) ⟨wPre.blind, va_recv hK hPc (ci := 7) (q0 := 0) rfl cG_0, wPre.at hPc hK hN (va_S.rf (A := va_A (cW adC cy I J LP P) H.size)) (fun q h => Or.inr h)⟩ rfl rfl hl.1 rfl (lv_room (Nat.le_of_ble_eq_true rfl)) dL_law_310 ⟨by show _ ≤ room_1.cells; have := rm_c; omega, by show _ ≤ room_1.slots; have := rm_s; omega⟩) hS (fun q _ h => hFc q h) hFc (fun r u t H1 locs ht hvm hw hB hz1 hk1 hS => ?_)
        obtain ⟨I2, J2, LP2, P2⟩ := u
        obtain ⟨hP1, hD1⟩ := hB; rw [ht] at hP1
        obtain ⟨hP, hD⟩ := wl_jr hP hD (fun q h => Nat.le_trans hsz h) hk1 hP1 hD1
        replace hs := hw; try dsimp only at hs hP hD
        generalize H1 = H at hP hS ⊢
        clear hPc hDc hFc
        generalize I2 = I at hs hP hD; generalize J2 = J at hs hP hD; generalize LP2 = LP at hs hP hD; generalize P2 = P at hs hP hD
        refine lv_aload_n hx hb dL_law_313 rfl (lv_at hl 2 rfl) ?_
        refine lv_aload_n hx hb dL_law_314 rfl (lv_at hl 0 rfl) ?_
        refine lv_iload_n hx hb dL_law_315 rfl (lv_at hl 3 rfl) ?_
        refine lv_iconst (v := 1) hx hb dL_law_316 (by decide) ?_
        refine lv_iadd hx hb dL_law_317 ?_
        refine va_sld hx hb hX hbl hbA hS v1 dL_law_318 ?_
        refine lv_aload_n hx hb dL_law_319 rfl (lv_at hl 0 rfl) ?_
        refine lv_iload_n hx hb dL_law_320 rfl (lv_at hl 3 rfl) ?_
        refine lv_iconst (v := 2) hx hb dL_law_321 (by decide) ?_
        refine lv_iadd hx hb dL_law_322 ?_
        refine va_sld hx hb hX hbl hbA hS v2 dL_law_323 ?_
        have hsz := hS.1
        have hPc := wl_l hP; have hDc := wl_Dl hD
        have hFc := wl_F hDc (fun q h => Nat.le_trans hS.1 h : ∀ q, H.size ≤ q → s.heap.size ≤ q)
        refine va_calli (va_runV (As := [.int (xs (nI i + 1).toNatClampNeg), .int (xs (nI i + 2).toNatClampNeg)]) (rest := [.int r]) ⟨hx, hb, hml, hown, hts⟩ (m_X8_key l dC dI cy adR (va_A (rW adR cy M) H.size) M (xs (nI i + 1).toNatClampNeg) (xs (nI i + 2).toNatClampNeg) hDc.self hs) (cwV 2 hts gL_law_X8_key rfl rfl rfl (by decide +kernel) ⟨Nat.le_of_ble_eq_true rfl, Nat.le_of_ble_eq_true rfl⟩) ⟨wPre.blind, va_recv hK hPc (ci := 8) (q0 := 0) rfl rG_o, wPre.at hPc hK hN (va_S.rf (A := va_A (rW adR cy M) H.size)) (fun q h => Or.inr h)⟩ rfl rfl hl.1 rfl (lv_room (Nat.le_of_ble_eq_true rfl)) dL_law_324 ⟨by show _ ≤ room_1.cells; have := rm_c; omega, by show _ ≤ room_1.slots; have := rm_s; omega⟩) hS (fun q _ h => hFc q h) hFc (fun r' u t H1 locs ht hvm hw hB hz1 hk1 hS => ?_)
        obtain ⟨M2, rfl⟩ : ∃ z : St, z = u := ⟨_, rfl⟩
        obtain ⟨hP1, hD1⟩ := hB; rw [ht] at hP1
        obtain ⟨hP, hD⟩ := wl_jl hP hD (fun q h => Nat.le_trans hsz h) hk1 hP1 hD1
        obtain ⟨hreq, hs⟩ := hw
        refine lv_icmp_eq (tgt := 670) hx hb dL_law_327 (by decide) (fun _ => ?_) (fun hne => absurd hreq hne)
        exact next _ _ M2 I J LP P _ _ (by omega) (by omega) hs hP hD hS
      by_cases e8 : x = 8
      · refine lv_tableIn (off := 300) (tgt := 332) hx hb dL_law_32 (by rw [e8]; decide) (by rw [e8]; decide) (by rw [e8]; rfl) (by decide) ?_
        refine lv_aload_n hx hb dL_law_332 rfl (lv_at hl 1 rfl) ?_
        refine lv_aload_n hx hb dL_law_333 rfl (lv_at hl 0 rfl) ?_
        refine lv_iload_n hx hb dL_law_334 rfl (lv_at hl 3 rfl) ?_
        refine lv_iconst (v := 1) hx hb dL_law_335 (by decide) ?_
        refine lv_iadd hx hb dL_law_336 ?_
        refine va_sld hx hb hX hbl hbA hS v1 dL_law_337 ?_
        refine lv_aload_n hx hb dL_law_338 rfl (lv_at hl 0 rfl) ?_
        refine lv_iload_n hx hb dL_law_339 rfl (lv_at hl 3 rfl) ?_
        refine lv_iconst (v := 2) hx hb dL_law_340 (by decide) ?_
        refine lv_iadd hx hb dL_law_341 ?_
        refine va_sld hx hb hX hbl hbA hS v2 dL_law_342 ?_
        have hsz := hS.1
        have hPc := wl_r hP; have hDc := wl_Dr hD
        have hFc := wl_F hDc (fun q h => Nat.le_trans hS.1 h : ∀ q, H.size ≤ q → s.heap.size ≤ q)
        refine va_calli (va_runV (As := [.int (xs (nI i + 1).toNatClampNeg), .int (xs (nI i + 2).toNatClampNeg)]) (rest := []) ⟨hx, hb, hml, hown, hts⟩ (m_X7_log l dC dI cy adC (va_A (cW adC cy I J LP P) H.size) I J LP P (xs (nI i + 1).toNatClampNeg) (xs (nI i + 2).toNatClampNeg) hDc.self (o_log hs (xs (nI i + 1).toNatClampNeg) (xs (nI i + 2).toNatClampNeg))) (cwV 2 hts gL_law_X7_log rfl rfl rfl (by decide +kernel) ⟨Nat.le_of_ble_eq_true rfl, Nat.le_of_ble_eq_true rfl⟩) ⟨wPre.blind, va_recv hK hPc (ci := 7) (q0 := 0) rfl cG_0, wPre.at hPc hK hN (va_S.rf (A := va_A (cW adC cy I J LP P) H.size)) (fun q h => Or.inr h)⟩ rfl rfl hl.1 rfl (lv_room (Nat.le_of_ble_eq_true rfl)) dL_law_343 ⟨by show _ ≤ room_1.cells; have := rm_c; omega, by show _ ≤ room_1.slots; have := rm_s; omega⟩) hS (fun q _ h => hFc q h) hFc (fun r u t H1 locs ht hvm hw hB hz1 hk1 hS => ?_)
        obtain ⟨I2, J2, LP2, P2⟩ := u
        obtain ⟨hP1, hD1⟩ := hB; rw [ht] at hP1
        obtain ⟨hP, hD⟩ := wl_jr hP hD (fun q h => Nat.le_trans hsz h) hk1 hP1 hD1
        replace hs := hw; try dsimp only at hs hP hD
        generalize H1 = H at hP hS ⊢
        clear hPc hDc hFc
        generalize I2 = I at hs hP hD; generalize J2 = J at hs hP hD; generalize LP2 = LP at hs hP hD; generalize P2 = P at hs hP hD
        refine lv_aload_n hx hb dL_law_346 rfl (lv_at hl 2 rfl) ?_
        refine lv_aload_n hx hb dL_law_347 rfl (lv_at hl 0 rfl) ?_
        refine lv_iload_n hx hb dL_law_348 rfl (lv_at hl 3 rfl) ?_
        refine lv_iconst (v := 1) hx hb dL_law_349 (by decide) ?_
        refine lv_iadd hx hb dL_law_350 ?_
        refine va_sld hx hb hX hbl hbA hS v1 dL_law_351 ?_
        refine lv_aload_n hx hb dL_law_352 rfl (lv_at hl 0 rfl) ?_
        refine lv_iload_n hx hb dL_law_353 rfl (lv_at hl 3 rfl) ?_
        refine lv_iconst (v := 2) hx hb dL_law_354 (by decide) ?_
        refine lv_iadd hx hb dL_law_355 ?_
        refine va_sld hx hb hX hbl hbA hS v2 dL_law_356 ?_
        have hsz := hS.1
        have hPc := wl_l hP; have hDc := wl_Dl hD
        have hFc := wl_F hDc (fun q h => Nat.le_trans hS.1 h : ∀ q, H.size ≤ q → s.heap.size ≤ q)
        refine va_calli (va_runV (As := [.int (xs (nI i + 1).toNatClampNeg), .int (xs (nI i + 2).toNatClampNeg)]) (rest := [.int r]) ⟨hx, hb, hml, hown, hts⟩ (m_X8_log l dC dI cy adR (va_A (rW adR cy M) H.size) M (xs (nI i + 1).toNatClampNeg) (xs (nI i + 2).toNatClampNeg) hDc.self hs) (cwV 2 hts gL_law_X8_log rfl rfl rfl (by decide +kernel) ⟨Nat.le_of_ble_eq_true rfl, Nat.le_of_ble_eq_true rfl⟩) ⟨wPre.blind, va_recv hK hPc (ci := 8) (q0 := 0) rfl rG_o, wPre.at hPc hK hN (va_S.rf (A := va_A (rW adR cy M) H.size)) (fun q h => Or.inr h)⟩ rfl rfl hl.1 rfl (lv_room (Nat.le_of_ble_eq_true rfl)) dL_law_357 ⟨by show _ ≤ room_1.cells; have := rm_c; omega, by show _ ≤ room_1.slots; have := rm_s; omega⟩) hS (fun q _ h => hFc q h) hFc (fun r' u t H1 locs ht hvm hw hB hz1 hk1 hS => ?_)
        obtain ⟨M2, rfl⟩ : ∃ z : St, z = u := ⟨_, rfl⟩
        obtain ⟨hP1, hD1⟩ := hB; rw [ht] at hP1
        obtain ⟨hP, hD⟩ := wl_jl hP hD (fun q h => Nat.le_trans hsz h) hk1 hP1 hD1
        obtain ⟨hreq, hs⟩ := hw
        refine lv_icmp_eq (tgt := 670) hx hb dL_law_360 (by decide) (fun _ => ?_) (fun hne => absurd hreq hne)
        exact next _ _ M2 I J LP P _ _ (by omega) (by omega) hs hP hD hS
      by_cases e9 : x = 9
      · refine lv_tableIn (off := 333) (tgt := 365) hx hb dL_law_32 (by rw [e9]; decide) (by rw [e9]; decide) (by rw [e9]; rfl) (by decide) ?_
        refine lv_aload_n hx hb dL_law_365 rfl (lv_at hl 1 rfl) ?_
        refine lv_aload_n hx hb dL_law_366 rfl (lv_at hl 0 rfl) ?_
        refine lv_iload_n hx hb dL_law_367 rfl (lv_at hl 3 rfl) ?_
        refine lv_iconst (v := 1) hx hb dL_law_368 (by decide) ?_
        refine lv_iadd hx hb dL_law_369 ?_
        refine va_sld hx hb hX hbl hbA hS v1 dL_law_370 ?_
        have hsz := hS.1
        have hPc := wl_r hP; have hDc := wl_Dr hD
        have hFc := wl_F hDc (fun q h => Nat.le_trans hS.1 h : ∀ q, H.size ≤ q → s.heap.size ≤ q)
        refine va_calli (va_runV (As := [.int (xs (nI i + 1).toNatClampNeg)]) (rest := []) ⟨hx, hb, hml, hown, hts⟩ (m_X7_relay l dC dI cy adC (va_A (cW adC cy I J LP P) H.size) I J LP P (xs (nI i + 1).toNatClampNeg) hDc.self (o_relay hs (xs (nI i + 1).toNatClampNeg))) (cwV 1 hts gL_law_X7_relay rfl rfl rfl (by decide +kernel) ⟨Nat.le_of_ble_eq_true rfl, Nat.le_of_ble_eq_true rfl⟩) ⟨wPre.blind, va_recv hK hPc (ci := 7) (q0 := 0) rfl cG_0, wPre.at hPc hK hN (va_S.rf (A := va_A (cW adC cy I J LP P) H.size)) (fun q h => Or.inr h)⟩ rfl rfl hl.1 rfl (lv_room (Nat.le_of_ble_eq_true rfl)) dL_law_371 ⟨by show _ ≤ room_1.cells; have := rm_c; omega, by show _ ≤ room_1.slots; have := rm_s; omega⟩) hS (fun q _ h => hFc q h) hFc (fun r u t H1 locs ht hvm hw hB hz1 hk1 hS => ?_)
        obtain ⟨I2, J2, LP2, P2⟩ := u
        obtain ⟨hP1, hD1⟩ := hB; rw [ht] at hP1
        obtain ⟨hP, hD⟩ := wl_jr hP hD (fun q h => Nat.le_trans hsz h) hk1 hP1 hD1
        replace hs := hw; try dsimp only at hs hP hD
        generalize H1 = H at hP hS ⊢
        clear hPc hDc hFc
        generalize I2 = I at hs hP hD; generalize J2 = J at hs hP hD; generalize LP2 = LP at hs hP hD; generalize P2 = P at hs hP hD
        refine lv_aload_n hx hb dL_law_374 rfl (lv_at hl 2 rfl) ?_
        refine lv_aload_n hx hb dL_law_375 rfl (lv_at hl 0 rfl) ?_
        refine lv_iload_n hx hb dL_law_376 rfl (lv_at hl 3 rfl) ?_
        refine lv_iconst (v := 1) hx hb dL_law_377 (by decide) ?_
        refine lv_iadd hx hb dL_law_378 ?_
        refine va_sld hx hb hX hbl hbA hS v1 dL_law_379 ?_
        have hsz := hS.1
        have hPc := wl_l hP; have hDc := wl_Dl hD
        have hFc := wl_F hDc (fun q h => Nat.le_trans hS.1 h : ∀ q, H.size ≤ q → s.heap.size ≤ q)
        refine va_calli (va_runV (As := [.int (xs (nI i + 1).toNatClampNeg)]) (rest := [.int r]) ⟨hx, hb, hml, hown, hts⟩ (m_X8_relay l dC dI cy adR (va_A (rW adR cy M) H.size) M (xs (nI i + 1).toNatClampNeg) hDc.self hs) (cwV 1 hts gL_law_X8_relay rfl rfl rfl (by decide +kernel) ⟨Nat.le_of_ble_eq_true rfl, Nat.le_of_ble_eq_true rfl⟩) ⟨wPre.blind, va_recv hK hPc (ci := 8) (q0 := 0) rfl rG_o, wPre.at hPc hK hN (va_S.rf (A := va_A (rW adR cy M) H.size)) (fun q h => Or.inr h)⟩ rfl rfl hl.1 rfl (lv_room (Nat.le_of_ble_eq_true rfl)) dL_law_380 ⟨by show _ ≤ room_1.cells; have := rm_c; omega, by show _ ≤ room_1.slots; have := rm_s; omega⟩) hS (fun q _ h => hFc q h) hFc (fun r' u t H1 locs ht hvm hw hB hz1 hk1 hS => ?_)
        obtain ⟨M2, rfl⟩ : ∃ z : St, z = u := ⟨_, rfl⟩
        obtain ⟨hP1, hD1⟩ := hB; rw [ht] at hP1
        obtain ⟨hP, hD⟩ := wl_jl hP hD (fun q h => Nat.le_trans hsz h) hk1 hP1 hD1
        obtain ⟨hreq, hs⟩ := hw
        refine lv_icmp_eq (tgt := 670) hx hb dL_law_383 (by decide) (fun _ => ?_) (fun hne => absurd hreq hne)
        exact next _ _ M2 I J LP P _ _ (by omega) (by omega) hs hP hD hS
      by_cases e10 : x = 10
      · refine lv_tableIn (off := 356) (tgt := 388) hx hb dL_law_32 (by rw [e10]; decide) (by rw [e10]; decide) (by rw [e10]; rfl) (by decide) ?_
        refine lv_aload_n hx hb dL_law_388 rfl (lv_at hl 1 rfl) ?_
        have hsz := hS.1
        have hPc := wl_r hP; have hDc := wl_Dr hD
        have hFc := wl_F hDc (fun q h => Nat.le_trans hS.1 h : ∀ q, H.size ≤ q → s.heap.size ≤ q)
        refine va_calli (va_runV (As := []) (rest := []) ⟨hx, hb, hml, hown, hts⟩ (m_X7_cut l dC dI cy adC (va_A (cW adC cy I J LP P) H.size) I J LP P  hDc.self (o_cut hs )) (cwV 0 hts gL_law_X7_cut rfl rfl rfl (by decide +kernel) ⟨Nat.le_of_ble_eq_true rfl, Nat.le_of_ble_eq_true rfl⟩) ⟨wPre.blind, va_recv hK hPc (ci := 7) (q0 := 0) rfl cG_0, wPre.at hPc hK hN (va_S.rf (A := va_A (cW adC cy I J LP P) H.size)) (fun q h => Or.inr h)⟩ rfl rfl hl.1 rfl (lv_room (Nat.le_of_ble_eq_true rfl)) dL_law_389 ⟨by show _ ≤ room_1.cells; have := rm_c; omega, by show _ ≤ room_1.slots; have := rm_s; omega⟩) hS (fun q _ h => hFc q h) hFc (fun r u t H1 locs ht hvm hw hB hz1 hk1 hS => ?_)
        obtain ⟨I2, J2, LP2, P2⟩ := u
        obtain ⟨hP1, hD1⟩ := hB; rw [ht] at hP1
        obtain ⟨hP, hD⟩ := wl_jr hP hD (fun q h => Nat.le_trans hsz h) hk1 hP1 hD1
        replace hs := hw; try dsimp only at hs hP hD
        generalize H1 = H at hP hS ⊢
        clear hPc hDc hFc
        generalize I2 = I at hs hP hD; generalize J2 = J at hs hP hD; generalize LP2 = LP at hs hP hD; generalize P2 = P at hs hP hD
        refine lv_aload_n hx hb dL_law_392 rfl (lv_at hl 2 rfl) ?_
        have hsz := hS.1
        have hPc := wl_l hP; have hDc := wl_Dl hD
        have hFc := wl_F hDc (fun q h => Nat.le_trans hS.1 h : ∀ q, H.size ≤ q → s.heap.size ≤ q)
        refine va_calli (va_runV (As := []) (rest := [.int r]) ⟨hx, hb, hml, hown, hts⟩ (m_X8_cut l dC dI cy adR (va_A (rW adR cy M) H.size) M  hDc.self hs) (cwV 0 hts gL_law_X8_cut rfl rfl rfl (by decide +kernel) ⟨Nat.le_of_ble_eq_true rfl, Nat.le_of_ble_eq_true rfl⟩) ⟨wPre.blind, va_recv hK hPc (ci := 8) (q0 := 0) rfl rG_o, wPre.at hPc hK hN (va_S.rf (A := va_A (rW adR cy M) H.size)) (fun q h => Or.inr h)⟩ rfl rfl hl.1 rfl (lv_room (Nat.le_of_ble_eq_true rfl)) dL_law_393 ⟨by show _ ≤ room_1.cells; have := rm_c; omega, by show _ ≤ room_1.slots; have := rm_s; omega⟩) hS (fun q _ h => hFc q h) hFc (fun r' u t H1 locs ht hvm hw hB hz1 hk1 hS => ?_)
        obtain ⟨M2, rfl⟩ : ∃ z : St, z = u := ⟨_, rfl⟩
        obtain ⟨hP1, hD1⟩ := hB; rw [ht] at hP1
        obtain ⟨hP, hD⟩ := wl_jl hP hD (fun q h => Nat.le_trans hsz h) hk1 hP1 hD1
        obtain ⟨hreq, hs⟩ := hw
        refine lv_icmp_eq (tgt := 670) hx hb dL_law_396 (by decide) (fun _ => ?_) (fun hne => absurd hreq hne)
        exact next _ _ M2 I J LP P _ _ (by omega) (by omega) hs hP hD hS
      by_cases e11 : x = 11
      · refine lv_tableIn (off := 369) (tgt := 401) hx hb dL_law_32 (by rw [e11]; decide) (by rw [e11]; decide) (by rw [e11]; rfl) (by decide) ?_
        refine lv_aload_n hx hb dL_law_401 rfl (lv_at hl 1 rfl) ?_
        refine lv_aload_n hx hb dL_law_402 rfl (lv_at hl 0 rfl) ?_
        refine lv_iload_n hx hb dL_law_403 rfl (lv_at hl 3 rfl) ?_
        refine lv_iconst (v := 1) hx hb dL_law_404 (by decide) ?_
        refine lv_iadd hx hb dL_law_405 ?_
        refine va_sld hx hb hX hbl hbA hS v1 dL_law_406 ?_
        refine lv_aload_n hx hb dL_law_407 rfl (lv_at hl 0 rfl) ?_
        refine lv_iload_n hx hb dL_law_408 rfl (lv_at hl 3 rfl) ?_
        refine lv_iconst (v := 2) hx hb dL_law_409 (by decide) ?_
        refine lv_iadd hx hb dL_law_410 ?_
        refine va_sld hx hb hX hbl hbA hS v2 dL_law_411 ?_
        refine lv_aload_n hx hb dL_law_412 rfl (lv_at hl 0 rfl) ?_
        refine lv_iload_n hx hb dL_law_413 rfl (lv_at hl 3 rfl) ?_
        refine lv_iconst (v := 3) hx hb dL_law_414 (by decide) ?_
        refine lv_iadd hx hb dL_law_415 ?_
        refine va_sld hx hb hX hbl hbA hS v3 dL_law_416 ?_
        refine lv_if_eq (tgt := 424) hx hb dL_law_417 (by decide) (fun zz => ?_) (fun zz => ?_)
        · skip
          refine lv_iconst (v := 0) hx hb dL_law_424 (by decide) ?_
          have hsz := hS.1
          have hPc := wl_r hP; have hDc := wl_Dr hD
          have hFc := wl_F hDc (fun q h => Nat.le_trans hS.1 h : ∀ q, H.size ≤ q → s.heap.size ≤ q)
          refine va_calli (va_runV (As := [.int (xs (nI i + 1).toNatClampNeg), .int (xs (nI i + 2).toNatClampNeg), .int 0]) (rest := []) ⟨hx, hb, hml, hown, hts⟩ (m_X7_deliver l dC dI cy adC (va_A (cW adC cy I J LP P) H.size) I J LP P (xs (nI i + 1).toNatClampNeg) (xs (nI i + 2).toNatClampNeg) 0 hDc.self (o_deliver hs (xs (nI i + 1).toNatClampNeg) (xs (nI i + 2).toNatClampNeg) 0)) (cwV 3 hts gL_law_X7_deliver rfl rfl rfl (by decide +kernel) ⟨Nat.le_of_ble_eq_true rfl, Nat.le_of_ble_eq_true rfl⟩) ⟨wPre.blind, va_recv hK hPc (ci := 7) (q0 := 0) rfl cG_0, wPre.at hPc hK hN (va_S.rf (A := va_A (cW adC cy I J LP P) H.size)) (fun q h => Or.inr h)⟩ rfl rfl hl.1 rfl (lv_room (Nat.le_of_ble_eq_true rfl)) dL_law_425 ⟨by show _ ≤ room_1.cells; have := rm_c; omega, by show _ ≤ room_1.slots; have := rm_s; omega⟩) hS (fun q _ h => hFc q h) hFc (fun r u t H1 locs ht hvm hw hB hz1 hk1 hS => ?_)
          obtain ⟨I2, J2, LP2, P2⟩ := u
          obtain ⟨hP1, hD1⟩ := hB; rw [ht] at hP1
          obtain ⟨hP, hD⟩ := wl_jr hP hD (fun q h => Nat.le_trans hsz h) hk1 hP1 hD1
          replace hs := hw; try dsimp only at hs hP hD
          generalize H1 = H at hP hS ⊢
          clear hPc hDc hFc
          generalize I2 = I at hs hP hD; generalize J2 = J at hs hP hD; generalize LP2 = LP at hs hP hD; generalize P2 = P at hs hP hD
          refine lv_aload_n hx hb dL_law_428 rfl (lv_at hl 2 rfl) ?_
          refine lv_aload_n hx hb dL_law_429 rfl (lv_at hl 0 rfl) ?_
          refine lv_iload_n hx hb dL_law_430 rfl (lv_at hl 3 rfl) ?_
          refine lv_iconst (v := 1) hx hb dL_law_431 (by decide) ?_
          refine lv_iadd hx hb dL_law_432 ?_
          refine va_sld hx hb hX hbl hbA hS v1 dL_law_433 ?_
          refine lv_aload_n hx hb dL_law_434 rfl (lv_at hl 0 rfl) ?_
          refine lv_iload_n hx hb dL_law_435 rfl (lv_at hl 3 rfl) ?_
          refine lv_iconst (v := 2) hx hb dL_law_436 (by decide) ?_
          refine lv_iadd hx hb dL_law_437 ?_
          refine va_sld hx hb hX hbl hbA hS v2 dL_law_438 ?_
          refine lv_aload_n hx hb dL_law_439 rfl (lv_at hl 0 rfl) ?_
          refine lv_iload_n hx hb dL_law_440 rfl (lv_at hl 3 rfl) ?_
          refine lv_iconst (v := 3) hx hb dL_law_441 (by decide) ?_
          refine lv_iadd hx hb dL_law_442 ?_
          refine va_sld hx hb hX hbl hbA hS v3 dL_law_443 ?_
          refine lv_if_eq (tgt := 451) hx hb dL_law_444 (by decide) (fun z2 => ?_) (fun z2 => absurd zz z2)
          refine lv_iconst (v := 0) hx hb dL_law_451 (by decide) ?_
          have hsz := hS.1
          have hPc := wl_l hP; have hDc := wl_Dl hD
          have hFc := wl_F hDc (fun q h => Nat.le_trans hS.1 h : ∀ q, H.size ≤ q → s.heap.size ≤ q)
          refine va_calli (va_runV (As := [.int (xs (nI i + 1).toNatClampNeg), .int (xs (nI i + 2).toNatClampNeg), .int 0]) (rest := [.int r]) ⟨hx, hb, hml, hown, hts⟩ (m_X8_deliver l dC dI cy adR (va_A (rW adR cy M) H.size) M (xs (nI i + 1).toNatClampNeg) (xs (nI i + 2).toNatClampNeg) 0 hDc.self hs) (cwV 3 hts gL_law_X8_deliver rfl rfl rfl (by decide +kernel) ⟨Nat.le_of_ble_eq_true rfl, Nat.le_of_ble_eq_true rfl⟩) ⟨wPre.blind, va_recv hK hPc (ci := 8) (q0 := 0) rfl rG_o, wPre.at hPc hK hN (va_S.rf (A := va_A (rW adR cy M) H.size)) (fun q h => Or.inr h)⟩ rfl rfl hl.1 rfl (lv_room (Nat.le_of_ble_eq_true rfl)) dL_law_452 ⟨by show _ ≤ room_1.cells; have := rm_c; omega, by show _ ≤ room_1.slots; have := rm_s; omega⟩) hS (fun q _ h => hFc q h) hFc (fun r' u t H1 locs ht hvm hw hB hz1 hk1 hS => ?_)
          obtain ⟨M2, rfl⟩ : ∃ z : St, z = u := ⟨_, rfl⟩
          obtain ⟨hP1, hD1⟩ := hB; rw [ht] at hP1
          obtain ⟨hP, hD⟩ := wl_jl hP hD (fun q h => Nat.le_trans hsz h) hk1 hP1 hD1
          obtain ⟨hreq, hs⟩ := hw
          refine lv_icmp_eq (tgt := 670) hx hb dL_law_455 (by decide) (fun _ => ?_) (fun hne => absurd hreq hne)
          exact next _ _ M2 I J LP P _ _ (by omega) (by omega) hs hP hD hS
        · skip
          refine lv_iconst (v := 1) hx hb dL_law_420 (by decide) ?_
          refine lv_goto (tgt := 425) hx hb dL_law_421 (by decide) ?_
          have hsz := hS.1
          have hPc := wl_r hP; have hDc := wl_Dr hD
          have hFc := wl_F hDc (fun q h => Nat.le_trans hS.1 h : ∀ q, H.size ≤ q → s.heap.size ≤ q)
          refine va_calli (va_runV (As := [.int (xs (nI i + 1).toNatClampNeg), .int (xs (nI i + 2).toNatClampNeg), .int 1]) (rest := []) ⟨hx, hb, hml, hown, hts⟩ (m_X7_deliver l dC dI cy adC (va_A (cW adC cy I J LP P) H.size) I J LP P (xs (nI i + 1).toNatClampNeg) (xs (nI i + 2).toNatClampNeg) 1 hDc.self (o_deliver hs (xs (nI i + 1).toNatClampNeg) (xs (nI i + 2).toNatClampNeg) 1)) (cwV 3 hts gL_law_X7_deliver rfl rfl rfl (by decide +kernel) ⟨Nat.le_of_ble_eq_true rfl, Nat.le_of_ble_eq_true rfl⟩) ⟨wPre.blind, va_recv hK hPc (ci := 7) (q0 := 0) rfl cG_0, wPre.at hPc hK hN (va_S.rf (A := va_A (cW adC cy I J LP P) H.size)) (fun q h => Or.inr h)⟩ rfl rfl hl.1 rfl (lv_room (Nat.le_of_ble_eq_true rfl)) dL_law_425 ⟨by show _ ≤ room_1.cells; have := rm_c; omega, by show _ ≤ room_1.slots; have := rm_s; omega⟩) hS (fun q _ h => hFc q h) hFc (fun r u t H1 locs ht hvm hw hB hz1 hk1 hS => ?_)
          obtain ⟨I2, J2, LP2, P2⟩ := u
          obtain ⟨hP1, hD1⟩ := hB; rw [ht] at hP1
          obtain ⟨hP, hD⟩ := wl_jr hP hD (fun q h => Nat.le_trans hsz h) hk1 hP1 hD1
          replace hs := hw; try dsimp only at hs hP hD
          generalize H1 = H at hP hS ⊢
          clear hPc hDc hFc
          generalize I2 = I at hs hP hD; generalize J2 = J at hs hP hD; generalize LP2 = LP at hs hP hD; generalize P2 = P at hs hP hD
          refine lv_aload_n hx hb dL_law_428 rfl (lv_at hl 2 rfl) ?_
          refine lv_aload_n hx hb dL_law_429 rfl (lv_at hl 0 rfl) ?_
          refine lv_iload_n hx hb dL_law_430 rfl (lv_at hl 3 rfl) ?_
          refine lv_iconst (v := 1) hx hb dL_law_431 (by decide) ?_
          refine lv_iadd hx hb dL_law_432 ?_
          refine va_sld hx hb hX hbl hbA hS v1 dL_law_433 ?_
          refine lv_aload_n hx hb dL_law_434 rfl (lv_at hl 0 rfl) ?_
          refine lv_iload_n hx hb dL_law_435 rfl (lv_at hl 3 rfl) ?_
          refine lv_iconst (v := 2) hx hb dL_law_436 (by decide) ?_
          refine lv_iadd hx hb dL_law_437 ?_
          refine va_sld hx hb hX hbl hbA hS v2 dL_law_438 ?_
          refine lv_aload_n hx hb dL_law_439 rfl (lv_at hl 0 rfl) ?_
          refine lv_iload_n hx hb dL_law_440 rfl (lv_at hl 3 rfl) ?_
          refine lv_iconst (v := 3) hx hb dL_law_441 (by decide) ?_
          refine lv_iadd hx hb dL_law_442 ?_
          refine va_sld hx hb hX hbl hbA hS v3 dL_law_443 ?_
          refine lv_if_eq (tgt := 451) hx hb dL_law_444 (by decide) (fun z2 => absurd z2 zz) (fun z2 => ?_)
          refine lv_iconst (v := 1) hx hb dL_law_447 (by decide) ?_
          refine lv_goto (tgt := 452) hx hb dL_law_448 (by decide) ?_
          have hsz := hS.1
          have hPc := wl_l hP; have hDc := wl_Dl hD
          have hFc := wl_F hDc (fun q h => Nat.le_trans hS.1 h : ∀ q, H.size ≤ q → s.heap.size ≤ q)
          refine va_calli (va_runV (As := [.int (xs (nI i + 1).toNatClampNeg), .int (xs (nI i + 2).toNatClampNeg), .int 1]) (rest := [.int r]) ⟨hx, hb, hml, hown, hts⟩ (m_X8_deliver l dC dI cy adR (va_A (rW adR cy M) H.size) M (xs (nI i + 1).toNatClampNeg) (xs (nI i + 2).toNatClampNeg) 1 hDc.self hs) (cwV 3 hts gL_law_X8_deliver rfl rfl rfl (by decide +kernel) ⟨Nat.le_of_ble_eq_true rfl, Nat.le_of_ble_eq_true rfl⟩) ⟨wPre.blind, va_recv hK hPc (ci := 8) (q0 := 0) rfl rG_o, wPre.at hPc hK hN (va_S.rf (A := va_A (rW adR cy M) H.size)) (fun q h => Or.inr h)⟩ rfl rfl hl.1 rfl (lv_room (Nat.le_of_ble_eq_true rfl)) dL_law_452 ⟨by show _ ≤ room_1.cells; have := rm_c; omega, by show _ ≤ room_1.slots; have := rm_s; omega⟩) hS (fun q _ h => hFc q h) hFc (fun r' u t H1 locs ht hvm hw hB hz1 hk1 hS => ?_)
          obtain ⟨M2, rfl⟩ : ∃ z : St, z = u := ⟨_, rfl⟩
          obtain ⟨hP1, hD1⟩ := hB; rw [ht] at hP1
          obtain ⟨hP, hD⟩ := wl_jl hP hD (fun q h => Nat.le_trans hsz h) hk1 hP1 hD1
          obtain ⟨hreq, hs⟩ := hw
          refine lv_icmp_eq (tgt := 670) hx hb dL_law_455 (by decide) (fun _ => ?_) (fun hne => absurd hreq hne)
          exact next _ _ M2 I J LP P _ _ (by omega) (by omega) hs hP hD hS
      by_cases e12 : x = 12
      · refine lv_tableIn (off := 428) (tgt := 460) hx hb dL_law_32 (by rw [e12]; decide) (by rw [e12]; decide) (by rw [e12]; rfl) (by decide) ?_
        refine lv_aload_n hx hb dL_law_460 rfl (lv_at hl 1 rfl) ?_
        refine lv_aload_n hx hb dL_law_461 rfl (lv_at hl 0 rfl) ?_
        refine lv_iload_n hx hb dL_law_462 rfl (lv_at hl 3 rfl) ?_
        refine lv_iconst (v := 1) hx hb dL_law_463 (by decide) ?_
        refine lv_iadd hx hb dL_law_464 ?_
        refine va_sld hx hb hX hbl hbA hS v1 dL_law_465 ?_
        refine lv_aload_n hx hb dL_law_466 rfl (lv_at hl 0 rfl) ?_
        refine lv_iload_n hx hb dL_law_467 rfl (lv_at hl 3 rfl) ?_
        refine lv_iconst (v := 2) hx hb dL_law_468 (by decide) ?_
        refine lv_iadd hx hb dL_law_469 ?_
        refine va_sld hx hb hX hbl hbA hS v2 dL_law_470 ?_
        have hsz := hS.1
        have hPc := wl_r hP; have hDc := wl_Dr hD
        have hFc := wl_F hDc (fun q h => Nat.le_trans hS.1 h : ∀ q, H.size ≤ q → s.heap.size ≤ q)
        refine va_calli (va_runV (As := [.int (xs (nI i + 1).toNatClampNeg), .int (xs (nI i + 2).toNatClampNeg)]) (rest := []) ⟨hx, hb, hml, hown, hts⟩ (m_X7_lose l dC dI cy adC (va_A (cW adC cy I J LP P) H.size) I J LP P (xs (nI i + 1).toNatClampNeg) (xs (nI i + 2).toNatClampNeg) hDc.self (o_lose hs (xs (nI i + 1).toNatClampNeg) (xs (nI i + 2).toNatClampNeg))) (cwV 2 hts gL_law_X7_lose rfl rfl rfl (by decide +kernel) ⟨Nat.le_of_ble_eq_true rfl, Nat.le_of_ble_eq_true rfl⟩) ⟨wPre.blind, va_recv hK hPc (ci := 7) (q0 := 0) rfl cG_0, wPre.at hPc hK hN (va_S.rf (A := va_A (cW adC cy I J LP P) H.size)) (fun q h => Or.inr h)⟩ rfl rfl hl.1 rfl (lv_room (Nat.le_of_ble_eq_true rfl)) dL_law_471 ⟨by show _ ≤ room_1.cells; have := rm_c; omega, by show _ ≤ room_1.slots; have := rm_s; omega⟩) hS (fun q _ h => hFc q h) hFc (fun r u t H1 locs ht hvm hw hB hz1 hk1 hS => ?_)
        obtain ⟨I2, J2, LP2, P2⟩ := u
        obtain ⟨hP1, hD1⟩ := hB; rw [ht] at hP1
        obtain ⟨hP, hD⟩ := wl_jr hP hD (fun q h => Nat.le_trans hsz h) hk1 hP1 hD1
        replace hs := hw; try dsimp only at hs hP hD
        generalize H1 = H at hP hS ⊢
        clear hPc hDc hFc
        generalize I2 = I at hs hP hD; generalize J2 = J at hs hP hD; generalize LP2 = LP at hs hP hD; generalize P2 = P at hs hP hD
        refine lv_aload_n hx hb dL_law_474 rfl (lv_at hl 2 rfl) ?_
        refine lv_aload_n hx hb dL_law_475 rfl (lv_at hl 0 rfl) ?_
        refine lv_iload_n hx hb dL_law_476 rfl (lv_at hl 3 rfl) ?_
        refine lv_iconst (v := 1) hx hb dL_law_477 (by decide) ?_
        refine lv_iadd hx hb dL_law_478 ?_
        refine va_sld hx hb hX hbl hbA hS v1 dL_law_479 ?_
        refine lv_aload_n hx hb dL_law_480 rfl (lv_at hl 0 rfl) ?_
        refine lv_iload_n hx hb dL_law_481 rfl (lv_at hl 3 rfl) ?_
        refine lv_iconst (v := 2) hx hb dL_law_482 (by decide) ?_
        refine lv_iadd hx hb dL_law_483 ?_
        refine va_sld hx hb hX hbl hbA hS v2 dL_law_484 ?_
        have hsz := hS.1
        have hPc := wl_l hP; have hDc := wl_Dl hD
        have hFc := wl_F hDc (fun q h => Nat.le_trans hS.1 h : ∀ q, H.size ≤ q → s.heap.size ≤ q)
        refine va_calli (va_runV (As := [.int (xs (nI i + 1).toNatClampNeg), .int (xs (nI i + 2).toNatClampNeg)]) (rest := [.int r]) ⟨hx, hb, hml, hown, hts⟩ (m_X8_lose l dC dI cy adR (va_A (rW adR cy M) H.size) M (xs (nI i + 1).toNatClampNeg) (xs (nI i + 2).toNatClampNeg) hDc.self hs) (cwV 2 hts gL_law_X8_lose rfl rfl rfl (by decide +kernel) ⟨Nat.le_of_ble_eq_true rfl, Nat.le_of_ble_eq_true rfl⟩) ⟨wPre.blind, va_recv hK hPc (ci := 8) (q0 := 0) rfl rG_o, wPre.at hPc hK hN (va_S.rf (A := va_A (rW adR cy M) H.size)) (fun q h => Or.inr h)⟩ rfl rfl hl.1 rfl (lv_room (Nat.le_of_ble_eq_true rfl)) dL_law_485 ⟨by show _ ≤ room_1.cells; have := rm_c; omega, by show _ ≤ room_1.slots; have := rm_s; omega⟩) hS (fun q _ h => hFc q h) hFc (fun r' u t H1 locs ht hvm hw hB hz1 hk1 hS => ?_)
        obtain ⟨M2, rfl⟩ : ∃ z : St, z = u := ⟨_, rfl⟩
        obtain ⟨hP1, hD1⟩ := hB; rw [ht] at hP1
        obtain ⟨hP, hD⟩ := wl_jl hP hD (fun q h => Nat.le_trans hsz h) hk1 hP1 hD1
        obtain ⟨hreq, hs⟩ := hw
        refine lv_icmp_eq (tgt := 670) hx hb dL_law_488 (by decide) (fun _ => ?_) (fun hne => absurd hreq hne)
        exact next _ _ M2 I J LP P _ _ (by omega) (by omega) hs hP hD hS
      by_cases e13 : x = 13
      · refine lv_tableIn (off := 461) (tgt := 493) hx hb dL_law_32 (by rw [e13]; decide) (by rw [e13]; decide) (by rw [e13]; rfl) (by decide) ?_
        refine lv_aload_n hx hb dL_law_493 rfl (lv_at hl 1 rfl) ?_
        refine lv_aload_n hx hb dL_law_494 rfl (lv_at hl 0 rfl) ?_
        refine lv_iload_n hx hb dL_law_495 rfl (lv_at hl 3 rfl) ?_
        refine lv_iconst (v := 1) hx hb dL_law_496 (by decide) ?_
        refine lv_iadd hx hb dL_law_497 ?_
        refine va_sld hx hb hX hbl hbA hS v1 dL_law_498 ?_
        refine lv_aload_n hx hb dL_law_499 rfl (lv_at hl 0 rfl) ?_
        refine lv_iload_n hx hb dL_law_500 rfl (lv_at hl 3 rfl) ?_
        refine lv_iconst (v := 2) hx hb dL_law_501 (by decide) ?_
        refine lv_iadd hx hb dL_law_502 ?_
        refine va_sld hx hb hX hbl hbA hS v2 dL_law_503 ?_
        refine lv_aload_n hx hb dL_law_504 rfl (lv_at hl 0 rfl) ?_
        refine lv_iload_n hx hb dL_law_505 rfl (lv_at hl 3 rfl) ?_
        refine lv_iconst (v := 3) hx hb dL_law_506 (by decide) ?_
        refine lv_iadd hx hb dL_law_507 ?_
        refine va_sld hx hb hX hbl hbA hS v3 dL_law_508 ?_
        have hsz := hS.1
        have hPc := wl_r hP; have hDc := wl_Dr hD
        have hFc := wl_F hDc (fun q h => Nat.le_trans hS.1 h : ∀ q, H.size ≤ q → s.heap.size ≤ q)
        refine va_calli (va_runV (As := [.int (xs (nI i + 1).toNatClampNeg), .int (xs (nI i + 2).toNatClampNeg), .int (xs (nI i + 3).toNatClampNeg)]) (rest := []) ⟨hx, hb, hml, hown, hts⟩ (m_X7_letter l dC dI cy adC (va_A (cW adC cy I J LP P) H.size) I J LP P (xs (nI i + 1).toNatClampNeg) (xs (nI i + 2).toNatClampNeg) (xs (nI i + 3).toNatClampNeg) hDc.self (o_letter hs (xs (nI i + 1).toNatClampNeg) (xs (nI i + 2).toNatClampNeg) (xs (nI i + 3).toNatClampNeg))) (cwV 3 hts gL_law_X7_letter rfl rfl rfl (by decide +kernel) ⟨Nat.le_of_ble_eq_true rfl, Nat.le_of_ble_eq_true rfl⟩) ⟨wPre.blind, va_recv hK hPc (ci := 7) (q0 := 0) rfl cG_0, wPre.at hPc hK hN (va_S.rf (A := va_A (cW adC cy I J LP P) H.size)) (fun q h => Or.inr h)⟩ rfl rfl hl.1 rfl (lv_room (Nat.le_of_ble_eq_true rfl)) dL_law_509 ⟨by show _ ≤ room_1.cells; have := rm_c; omega, by show _ ≤ room_1.slots; have := rm_s; omega⟩) hS (fun q _ h => hFc q h) hFc (fun r u t H1 locs ht hvm hw hB hz1 hk1 hS => ?_)
        obtain ⟨I2, J2, LP2, P2⟩ := u
        obtain ⟨hP1, hD1⟩ := hB; rw [ht] at hP1
        obtain ⟨hP, hD⟩ := wl_jr hP hD (fun q h => Nat.le_trans hsz h) hk1 hP1 hD1
        replace hs := hw; try dsimp only at hs hP hD
        generalize H1 = H at hP hS ⊢
        clear hPc hDc hFc
        generalize I2 = I at hs hP hD; generalize J2 = J at hs hP hD; generalize LP2 = LP at hs hP hD; generalize P2 = P at hs hP hD
        refine lv_aload_n hx hb dL_law_512 rfl (lv_at hl 2 rfl) ?_
        refine lv_aload_n hx hb dL_law_513 rfl (lv_at hl 0 rfl) ?_
        refine lv_iload_n hx hb dL_law_514 rfl (lv_at hl 3 rfl) ?_
        refine lv_iconst (v := 1) hx hb dL_law_515 (by decide) ?_
        refine lv_iadd hx hb dL_law_516 ?_
        refine va_sld hx hb hX hbl hbA hS v1 dL_law_517 ?_
        refine lv_aload_n hx hb dL_law_518 rfl (lv_at hl 0 rfl) ?_
        refine lv_iload_n hx hb dL_law_519 rfl (lv_at hl 3 rfl) ?_
        refine lv_iconst (v := 2) hx hb dL_law_520 (by decide) ?_
        refine lv_iadd hx hb dL_law_521 ?_
        refine va_sld hx hb hX hbl hbA hS v2 dL_law_522 ?_
        refine lv_aload_n hx hb dL_law_523 rfl (lv_at hl 0 rfl) ?_
        refine lv_iload_n hx hb dL_law_524 rfl (lv_at hl 3 rfl) ?_
        refine lv_iconst (v := 3) hx hb dL_law_525 (by decide) ?_
        refine lv_iadd hx hb dL_law_526 ?_
        refine va_sld hx hb hX hbl hbA hS v3 dL_law_527 ?_
        have hsz := hS.1
        have hPc := wl_l hP; have hDc := wl_Dl hD
        have hFc := wl_F hDc (fun q h => Nat.le_trans hS.1 h : ∀ q, H.size ≤ q → s.heap.size ≤ q)
        refine va_calli (va_runV (As := [.int (xs (nI i + 1).toNatClampNeg), .int (xs (nI i + 2).toNatClampNeg), .int (xs (nI i + 3).toNatClampNeg)]) (rest := [.int r]) ⟨hx, hb, hml, hown, hts⟩ (m_X8_letter l dC dI cy adR (va_A (rW adR cy M) H.size) M (xs (nI i + 1).toNatClampNeg) (xs (nI i + 2).toNatClampNeg) (xs (nI i + 3).toNatClampNeg) hDc.self hs) (cwV 3 hts gL_law_X8_letter rfl rfl rfl (by decide +kernel) ⟨Nat.le_of_ble_eq_true rfl, Nat.le_of_ble_eq_true rfl⟩) ⟨wPre.blind, va_recv hK hPc (ci := 8) (q0 := 0) rfl rG_o, wPre.at hPc hK hN (va_S.rf (A := va_A (rW adR cy M) H.size)) (fun q h => Or.inr h)⟩ rfl rfl hl.1 rfl (lv_room (Nat.le_of_ble_eq_true rfl)) dL_law_528 ⟨by show _ ≤ room_1.cells; have := rm_c; omega, by show _ ≤ room_1.slots; have := rm_s; omega⟩) hS (fun q _ h => hFc q h) hFc (fun r' u t H1 locs ht hvm hw hB hz1 hk1 hS => ?_)
        obtain ⟨M2, rfl⟩ : ∃ z : St, z = u := ⟨_, rfl⟩
        obtain ⟨hP1, hD1⟩ := hB; rw [ht] at hP1
        obtain ⟨hP, hD⟩ := wl_jl hP hD (fun q h => Nat.le_trans hsz h) hk1 hP1 hD1
        obtain ⟨hreq, hs⟩ := hw
        refine lv_icmp_eq (tgt := 670) hx hb dL_law_531 (by decide) (fun _ => ?_) (fun hne => absurd hreq hne)
        exact next _ _ M2 I J LP P _ _ (by omega) (by omega) hs hP hD hS
      by_cases e14 : x = 14
      · refine lv_tableIn (off := 504) (tgt := 536) hx hb dL_law_32 (by rw [e14]; decide) (by rw [e14]; decide) (by rw [e14]; rfl) (by decide) ?_
        refine lv_aload_n hx hb dL_law_536 rfl (lv_at hl 1 rfl) ?_
        have hsz := hS.1
        have hPc := wl_r hP; have hDc := wl_Dr hD
        have hFc := wl_F hDc (fun q h => Nat.le_trans hS.1 h : ∀ q, H.size ≤ q → s.heap.size ≤ q)
        refine va_calli (va_runV (As := []) (rest := []) ⟨hx, hb, hml, hown, hts⟩ (m_X7_save l dC dI cy adC (va_A (cW adC cy I J LP P) H.size) I J LP P  hDc.self (o_save hs )) (cwV 0 hts gL_law_X7_save rfl rfl rfl (by decide +kernel) ⟨Nat.le_of_ble_eq_true rfl, Nat.le_of_ble_eq_true rfl⟩) ⟨wPre.blind, va_recv hK hPc (ci := 7) (q0 := 0) rfl cG_0, wPre.at hPc hK hN (va_S.rf (A := va_A (cW adC cy I J LP P) H.size)) (fun q h => Or.inr h)⟩ rfl rfl hl.1 rfl (lv_room (Nat.le_of_ble_eq_true rfl)) dL_law_537 ⟨by show _ ≤ room_1.cells; have := rm_c; omega, by show _ ≤ room_1.slots; have := rm_s; omega⟩) hS (fun q _ h => hFc q h) hFc (fun r u t H1 locs ht hvm hw hB hz1 hk1 hS => ?_)
        obtain ⟨I2, J2, LP2, P2⟩ := u
        obtain ⟨hP1, hD1⟩ := hB; rw [ht] at hP1
        obtain ⟨hP, hD⟩ := wl_jr hP hD (fun q h => Nat.le_trans hsz h) hk1 hP1 hD1
        replace hs := hw; try dsimp only at hs hP hD
        generalize H1 = H at hP hS ⊢
        clear hPc hDc hFc
        generalize I2 = I at hs hP hD; generalize J2 = J at hs hP hD; generalize LP2 = LP at hs hP hD; generalize P2 = P at hs hP hD
        refine lv_aload_n hx hb dL_law_540 rfl (lv_at hl 2 rfl) ?_
        have hsz := hS.1
        have hPc := wl_l hP; have hDc := wl_Dl hD
        have hFc := wl_F hDc (fun q h => Nat.le_trans hS.1 h : ∀ q, H.size ≤ q → s.heap.size ≤ q)
        refine va_calli (va_runV (As := []) (rest := [.int r]) ⟨hx, hb, hml, hown, hts⟩ (m_X8_save l dC dI cy adR (va_A (rW adR cy M) H.size) M  hDc.self hs) (cwV 0 hts gL_law_X8_save rfl rfl rfl (by decide +kernel) ⟨Nat.le_of_ble_eq_true rfl, Nat.le_of_ble_eq_true rfl⟩) ⟨wPre.blind, va_recv hK hPc (ci := 8) (q0 := 0) rfl rG_o, wPre.at hPc hK hN (va_S.rf (A := va_A (rW adR cy M) H.size)) (fun q h => Or.inr h)⟩ rfl rfl hl.1 rfl (lv_room (Nat.le_of_ble_eq_true rfl)) dL_law_541 ⟨by show _ ≤ room_1.cells; have := rm_c; omega, by show _ ≤ room_1.slots; have := rm_s; omega⟩) hS (fun q _ h => hFc q h) hFc (fun r' u t H1 locs ht hvm hw hB hz1 hk1 hS => ?_)
        obtain ⟨M2, rfl⟩ : ∃ z : St, z = u := ⟨_, rfl⟩
        obtain ⟨hP1, hD1⟩ := hB; rw [ht] at hP1
        obtain ⟨hP, hD⟩ := wl_jl hP hD (fun q h => Nat.le_trans hsz h) hk1 hP1 hD1
        obtain ⟨hreq, hs⟩ := hw
        refine lv_icmp_eq (tgt := 670) hx hb dL_law_544 (by decide) (fun _ => ?_) (fun hne => absurd hreq hne)
        exact next _ _ M2 I J LP P _ _ (by omega) (by omega) hs hP hD hS
      by_cases e15 : x = 15
      · refine lv_tableIn (off := 517) (tgt := 549) hx hb dL_law_32 (by rw [e15]; decide) (by rw [e15]; decide) (by rw [e15]; rfl) (by decide) ?_
        refine lv_aload_n hx hb dL_law_549 rfl (lv_at hl 1 rfl) ?_
        refine lv_aload_n hx hb dL_law_550 rfl (lv_at hl 0 rfl) ?_
        refine lv_iload_n hx hb dL_law_551 rfl (lv_at hl 3 rfl) ?_
        refine lv_iconst (v := 1) hx hb dL_law_552 (by decide) ?_
        refine lv_iadd hx hb dL_law_553 ?_
        refine va_sld hx hb hX hbl hbA hS v1 dL_law_554 ?_
        refine lv_if_eq (tgt := 562) hx hb dL_law_555 (by decide) (fun zz => ?_) (fun zz => ?_)
        · skip
          refine lv_iconst (v := 0) hx hb dL_law_562 (by decide) ?_
          have hsz := hS.1
          have hPc := wl_r hP; have hDc := wl_Dr hD
          have hFc := wl_F hDc (fun q h => Nat.le_trans hS.1 h : ∀ q, H.size ≤ q → s.heap.size ≤ q)
          refine va_calli (va_runV (As := [.int 0]) (rest := []) ⟨hx, hb, hml, hown, hts⟩ (m_X7_ack l dC dI cy adC (va_A (cW adC cy I J LP P) H.size) I J LP P 0 hDc.self (o_ack hs 0)) (cwV 1 hts gL_law_X7_ack rfl rfl rfl (by decide +kernel) ⟨Nat.le_of_ble_eq_true rfl, Nat.le_of_ble_eq_true rfl⟩) ⟨wPre.blind, va_recv hK hPc (ci := 7) (q0 := 0) rfl cG_0, wPre.at hPc hK hN (va_S.rf (A := va_A (cW adC cy I J LP P) H.size)) (fun q h => Or.inr h)⟩ rfl rfl hl.1 rfl (lv_room (Nat.le_of_ble_eq_true rfl)) dL_law_563 ⟨by show _ ≤ room_1.cells; have := rm_c; omega, by show _ ≤ room_1.slots; have := rm_s; omega⟩) hS (fun q _ h => hFc q h) hFc (fun r u t H1 locs ht hvm hw hB hz1 hk1 hS => ?_)
          obtain ⟨I2, J2, LP2, P2⟩ := u
          obtain ⟨hP1, hD1⟩ := hB; rw [ht] at hP1
          obtain ⟨hP, hD⟩ := wl_jr hP hD (fun q h => Nat.le_trans hsz h) hk1 hP1 hD1
          replace hs := hw; try dsimp only at hs hP hD
          generalize H1 = H at hP hS ⊢
          clear hPc hDc hFc
          generalize I2 = I at hs hP hD; generalize J2 = J at hs hP hD; generalize LP2 = LP at hs hP hD; generalize P2 = P at hs hP hD
          refine lv_aload_n hx hb dL_law_566 rfl (lv_at hl 2 rfl) ?_
          refine lv_aload_n hx hb dL_law_567 rfl (lv_at hl 0 rfl) ?_
          refine lv_iload_n hx hb dL_law_568 rfl (lv_at hl 3 rfl) ?_
          refine lv_iconst (v := 1) hx hb dL_law_569 (by decide) ?_
          refine lv_iadd hx hb dL_law_570 ?_
          refine va_sld hx hb hX hbl hbA hS v1 dL_law_571 ?_
          refine lv_if_eq (tgt := 579) hx hb dL_law_572 (by decide) (fun z2 => ?_) (fun z2 => absurd zz z2)
          refine lv_iconst (v := 0) hx hb dL_law_579 (by decide) ?_
          have hsz := hS.1
          have hPc := wl_l hP; have hDc := wl_Dl hD
          have hFc := wl_F hDc (fun q h => Nat.le_trans hS.1 h : ∀ q, H.size ≤ q → s.heap.size ≤ q)
          refine va_calli (va_runV (As := [.int 0]) (rest := [.int r]) ⟨hx, hb, hml, hown, hts⟩ (m_X8_ack l dC dI cy adR (va_A (rW adR cy M) H.size) M 0 hDc.self hs) (cwV 1 hts gL_law_X8_ack rfl rfl rfl (by decide +kernel) ⟨Nat.le_of_ble_eq_true rfl, Nat.le_of_ble_eq_true rfl⟩) ⟨wPre.blind, va_recv hK hPc (ci := 8) (q0 := 0) rfl rG_o, wPre.at hPc hK hN (va_S.rf (A := va_A (rW adR cy M) H.size)) (fun q h => Or.inr h)⟩ rfl rfl hl.1 rfl (lv_room (Nat.le_of_ble_eq_true rfl)) dL_law_580 ⟨by show _ ≤ room_1.cells; have := rm_c; omega, by show _ ≤ room_1.slots; have := rm_s; omega⟩) hS (fun q _ h => hFc q h) hFc (fun r' u t H1 locs ht hvm hw hB hz1 hk1 hS => ?_)
          obtain ⟨M2, rfl⟩ : ∃ z : St, z = u := ⟨_, rfl⟩
          obtain ⟨hP1, hD1⟩ := hB; rw [ht] at hP1
          obtain ⟨hP, hD⟩ := wl_jl hP hD (fun q h => Nat.le_trans hsz h) hk1 hP1 hD1
          obtain ⟨hreq, hs⟩ := hw
          refine lv_icmp_eq (tgt := 670) hx hb dL_law_583 (by decide) (fun _ => ?_) (fun hne => absurd hreq hne)
          exact next _ _ M2 I J LP P _ _ (by omega) (by omega) hs hP hD hS
        · skip
          refine lv_iconst (v := 1) hx hb dL_law_558 (by decide) ?_
          refine lv_goto (tgt := 563) hx hb dL_law_559 (by decide) ?_
          have hsz := hS.1
          have hPc := wl_r hP; have hDc := wl_Dr hD
          have hFc := wl_F hDc (fun q h => Nat.le_trans hS.1 h : ∀ q, H.size ≤ q → s.heap.size ≤ q)
          refine va_calli (va_runV (As := [.int 1]) (rest := []) ⟨hx, hb, hml, hown, hts⟩ (m_X7_ack l dC dI cy adC (va_A (cW adC cy I J LP P) H.size) I J LP P 1 hDc.self (o_ack hs 1)) (cwV 1 hts gL_law_X7_ack rfl rfl rfl (by decide +kernel) ⟨Nat.le_of_ble_eq_true rfl, Nat.le_of_ble_eq_true rfl⟩) ⟨wPre.blind, va_recv hK hPc (ci := 7) (q0 := 0) rfl cG_0, wPre.at hPc hK hN (va_S.rf (A := va_A (cW adC cy I J LP P) H.size)) (fun q h => Or.inr h)⟩ rfl rfl hl.1 rfl (lv_room (Nat.le_of_ble_eq_true rfl)) dL_law_563 ⟨by show _ ≤ room_1.cells; have := rm_c; omega, by show _ ≤ room_1.slots; have := rm_s; omega⟩) hS (fun q _ h => hFc q h) hFc (fun r u t H1 locs ht hvm hw hB hz1 hk1 hS => ?_)
          obtain ⟨I2, J2, LP2, P2⟩ := u
          obtain ⟨hP1, hD1⟩ := hB; rw [ht] at hP1
          obtain ⟨hP, hD⟩ := wl_jr hP hD (fun q h => Nat.le_trans hsz h) hk1 hP1 hD1
          replace hs := hw; try dsimp only at hs hP hD
          generalize H1 = H at hP hS ⊢
          clear hPc hDc hFc
          generalize I2 = I at hs hP hD; generalize J2 = J at hs hP hD; generalize LP2 = LP at hs hP hD; generalize P2 = P at hs hP hD
          refine lv_aload_n hx hb dL_law_566 rfl (lv_at hl 2 rfl) ?_
          refine lv_aload_n hx hb dL_law_567 rfl (lv_at hl 0 rfl) ?_
          refine lv_iload_n hx hb dL_law_568 rfl (lv_at hl 3 rfl) ?_
          refine lv_iconst (v := 1) hx hb dL_law_569 (by decide) ?_
          refine lv_iadd hx hb dL_law_570 ?_
          refine va_sld hx hb hX hbl hbA hS v1 dL_law_571 ?_
          refine lv_if_eq (tgt := 579) hx hb dL_law_572 (by decide) (fun z2 => absurd z2 zz) (fun z2 => ?_)
          refine lv_iconst (v := 1) hx hb dL_law_575 (by decide) ?_
          refine lv_goto (tgt := 580) hx hb dL_law_576 (by decide) ?_
          have hsz := hS.1
          have hPc := wl_l hP; have hDc := wl_Dl hD
          have hFc := wl_F hDc (fun q h => Nat.le_trans hS.1 h : ∀ q, H.size ≤ q → s.heap.size ≤ q)
          refine va_calli (va_runV (As := [.int 1]) (rest := [.int r]) ⟨hx, hb, hml, hown, hts⟩ (m_X8_ack l dC dI cy adR (va_A (rW adR cy M) H.size) M 1 hDc.self hs) (cwV 1 hts gL_law_X8_ack rfl rfl rfl (by decide +kernel) ⟨Nat.le_of_ble_eq_true rfl, Nat.le_of_ble_eq_true rfl⟩) ⟨wPre.blind, va_recv hK hPc (ci := 8) (q0 := 0) rfl rG_o, wPre.at hPc hK hN (va_S.rf (A := va_A (rW adR cy M) H.size)) (fun q h => Or.inr h)⟩ rfl rfl hl.1 rfl (lv_room (Nat.le_of_ble_eq_true rfl)) dL_law_580 ⟨by show _ ≤ room_1.cells; have := rm_c; omega, by show _ ≤ room_1.slots; have := rm_s; omega⟩) hS (fun q _ h => hFc q h) hFc (fun r' u t H1 locs ht hvm hw hB hz1 hk1 hS => ?_)
          obtain ⟨M2, rfl⟩ : ∃ z : St, z = u := ⟨_, rfl⟩
          obtain ⟨hP1, hD1⟩ := hB; rw [ht] at hP1
          obtain ⟨hP, hD⟩ := wl_jl hP hD (fun q h => Nat.le_trans hsz h) hk1 hP1 hD1
          obtain ⟨hreq, hs⟩ := hw
          refine lv_icmp_eq (tgt := 670) hx hb dL_law_583 (by decide) (fun _ => ?_) (fun hne => absurd hreq hne)
          exact next _ _ M2 I J LP P _ _ (by omega) (by omega) hs hP hD hS
      by_cases e16 : x = 16
      · refine lv_tableIn (off := 556) (tgt := 588) hx hb dL_law_32 (by rw [e16]; decide) (by rw [e16]; decide) (by rw [e16]; rfl) (by decide) ?_
        refine lv_aload_n hx hb dL_law_588 rfl (lv_at hl 1 rfl) ?_
        refine lv_aload_n hx hb dL_law_589 rfl (lv_at hl 0 rfl) ?_
        refine lv_iload_n hx hb dL_law_590 rfl (lv_at hl 3 rfl) ?_
        refine lv_iconst (v := 1) hx hb dL_law_591 (by decide) ?_
        refine lv_iadd hx hb dL_law_592 ?_
        refine va_sld hx hb hX hbl hbA hS v1 dL_law_593 ?_
        have hsz := hS.1
        have hPc := wl_r hP; have hDc := wl_Dr hD
        have hFc := wl_F hDc (fun q h => Nat.le_trans hS.1 h : ∀ q, H.size ≤ q → s.heap.size ≤ q)
        refine va_calli (va_runV (As := [.int (xs (nI i + 1).toNatClampNeg)]) (rest := []) ⟨hx, hb, hml, hown, hts⟩ (m_X7_flow l dC dI cy adC (va_A (cW adC cy I J LP P) H.size) I J LP P (xs (nI i + 1).toNatClampNeg) hDc.self (o_flow hs (xs (nI i + 1).toNatClampNeg))) (cwV 1 hts gL_law_X7_flow rfl rfl rfl (by decide +kernel) ⟨Nat.le_of_ble_eq_true rfl, Nat.le_of_ble_eq_true rfl⟩) ⟨wPre.blind, va_recv hK hPc (ci := 7) (q0 := 0) rfl cG_0, wPre.at hPc hK hN (va_S.rf (A := va_A (cW adC cy I J LP P) H.size)) (fun q h => Or.inr h)⟩ rfl rfl hl.1 rfl (lv_room (Nat.le_of_ble_eq_true rfl)) dL_law_594 ⟨by show _ ≤ room_1.cells; have := rm_c; omega, by show _ ≤ room_1.slots; have := rm_s; omega⟩) hS (fun q _ h => hFc q h) hFc (fun r u t H1 locs ht hvm hw hB hz1 hk1 hS => ?_)
        obtain ⟨I2, J2, LP2, P2⟩ := u
        obtain ⟨hP1, hD1⟩ := hB; rw [ht] at hP1
        obtain ⟨hP, hD⟩ := wl_jr hP hD (fun q h => Nat.le_trans hsz h) hk1 hP1 hD1
        replace hs := hw; try dsimp only at hs hP hD
        generalize H1 = H at hP hS ⊢
        clear hPc hDc hFc
        generalize I2 = I at hs hP hD; generalize J2 = J at hs hP hD; generalize LP2 = LP at hs hP hD; generalize P2 = P at hs hP hD
        refine lv_aload_n hx hb dL_law_597 rfl (lv_at hl 2 rfl) ?_
        refine lv_aload_n hx hb dL_law_598 rfl (lv_at hl 0 rfl) ?_
        refine lv_iload_n hx hb dL_law_599 rfl (lv_at hl 3 rfl) ?_
        refine lv_iconst (v := 1) hx hb dL_law_600 (by decide) ?_
        refine lv_iadd hx hb dL_law_601 ?_
        refine va_sld hx hb hX hbl hbA hS v1 dL_law_602 ?_
        have hsz := hS.1
        have hPc := wl_l hP; have hDc := wl_Dl hD
        have hFc := wl_F hDc (fun q h => Nat.le_trans hS.1 h : ∀ q, H.size ≤ q → s.heap.size ≤ q)
        refine va_calli (va_runV (As := [.int (xs (nI i + 1).toNatClampNeg)]) (rest := [.int r]) ⟨hx, hb, hml, hown, hts⟩ (m_X8_flow l dC dI cy adR (va_A (rW adR cy M) H.size) M (xs (nI i + 1).toNatClampNeg) hDc.self hs) (cwV 1 hts gL_law_X8_flow rfl rfl rfl (by decide +kernel) ⟨Nat.le_of_ble_eq_true rfl, Nat.le_of_ble_eq_true rfl⟩) ⟨wPre.blind, va_recv hK hPc (ci := 8) (q0 := 0) rfl rG_o, wPre.at hPc hK hN (va_S.rf (A := va_A (rW adR cy M) H.size)) (fun q h => Or.inr h)⟩ rfl rfl hl.1 rfl (lv_room (Nat.le_of_ble_eq_true rfl)) dL_law_603 ⟨by show _ ≤ room_1.cells; have := rm_c; omega, by show _ ≤ room_1.slots; have := rm_s; omega⟩) hS (fun q _ h => hFc q h) hFc (fun r' u t H1 locs ht hvm hw hB hz1 hk1 hS => ?_)
        obtain ⟨M2, rfl⟩ : ∃ z : St, z = u := ⟨_, rfl⟩
        obtain ⟨hP1, hD1⟩ := hB; rw [ht] at hP1
        obtain ⟨hP, hD⟩ := wl_jl hP hD (fun q h => Nat.le_trans hsz h) hk1 hP1 hD1
        obtain ⟨hreq, hs⟩ := hw
        refine lv_icmp_eq (tgt := 670) hx hb dL_law_606 (by decide) (fun _ => ?_) (fun hne => absurd hreq hne)
        exact next _ _ M2 I J LP P _ _ (by omega) (by omega) hs hP hD hS
      by_cases e17 : x = 17
      · refine lv_tableIn (off := 579) (tgt := 611) hx hb dL_law_32 (by rw [e17]; decide) (by rw [e17]; decide) (by rw [e17]; rfl) (by decide) ?_
        refine lv_aload_n hx hb dL_law_611 rfl (lv_at hl 1 rfl) ?_
        have hsz := hS.1
        have hPc := wl_r hP; have hDc := wl_Dr hD
        have hFc := wl_F hDc (fun q h => Nat.le_trans hS.1 h : ∀ q, H.size ≤ q → s.heap.size ≤ q)
        refine va_calli (va_runV (As := []) (rest := []) ⟨hx, hb, hml, hown, hts⟩ (m_X7_whole l dC dI cy adC (va_A (cW adC cy I J LP P) H.size) I J LP P  hDc.self (o_whole hs )) (cwV 0 hts gL_law_X7_whole rfl rfl rfl (by decide +kernel) ⟨Nat.le_of_ble_eq_true rfl, Nat.le_of_ble_eq_true rfl⟩) ⟨wPre.blind, va_recv hK hPc (ci := 7) (q0 := 0) rfl cG_0, wPre.at hPc hK hN (va_S.rf (A := va_A (cW adC cy I J LP P) H.size)) (fun q h => Or.inr h)⟩ rfl rfl hl.1 rfl (lv_room (Nat.le_of_ble_eq_true rfl)) dL_law_612 ⟨by show _ ≤ room_1.cells; have := rm_c; omega, by show _ ≤ room_1.slots; have := rm_s; omega⟩) hS (fun q _ h => hFc q h) hFc (fun r u t H1 locs ht hvm hw hB hz1 hk1 hS => ?_)
        obtain ⟨I2, J2, LP2, P2⟩ := u
        obtain ⟨hP1, hD1⟩ := hB; rw [ht] at hP1
        obtain ⟨hP, hD⟩ := wl_jr hP hD (fun q h => Nat.le_trans hsz h) hk1 hP1 hD1
        replace hs := hw; try dsimp only at hs hP hD
        generalize H1 = H at hP hS ⊢
        clear hPc hDc hFc
        generalize I2 = I at hs hP hD; generalize J2 = J at hs hP hD; generalize LP2 = LP at hs hP hD; generalize P2 = P at hs hP hD
        refine lv_aload_n hx hb dL_law_615 rfl (lv_at hl 2 rfl) ?_
        have hsz := hS.1
        have hPc := wl_l hP; have hDc := wl_Dl hD
        have hFc := wl_F hDc (fun q h => Nat.le_trans hS.1 h : ∀ q, H.size ≤ q → s.heap.size ≤ q)
        refine va_calli (va_runV (As := []) (rest := [.int r]) ⟨hx, hb, hml, hown, hts⟩ (m_X8_whole l dC dI cy adR (va_A (rW adR cy M) H.size) M  hDc.self hs) (cwV 0 hts gL_law_X8_whole rfl rfl rfl (by decide +kernel) ⟨Nat.le_of_ble_eq_true rfl, Nat.le_of_ble_eq_true rfl⟩) ⟨wPre.blind, va_recv hK hPc (ci := 8) (q0 := 0) rfl rG_o, wPre.at hPc hK hN (va_S.rf (A := va_A (rW adR cy M) H.size)) (fun q h => Or.inr h)⟩ rfl rfl hl.1 rfl (lv_room (Nat.le_of_ble_eq_true rfl)) dL_law_616 ⟨by show _ ≤ room_1.cells; have := rm_c; omega, by show _ ≤ room_1.slots; have := rm_s; omega⟩) hS (fun q _ h => hFc q h) hFc (fun r' u t H1 locs ht hvm hw hB hz1 hk1 hS => ?_)
        obtain ⟨M2, rfl⟩ : ∃ z : St, z = u := ⟨_, rfl⟩
        obtain ⟨hP1, hD1⟩ := hB; rw [ht] at hP1
        obtain ⟨hP, hD⟩ := wl_jl hP hD (fun q h => Nat.le_trans hsz h) hk1 hP1 hD1
        obtain ⟨hreq, hs⟩ := hw
        refine lv_icmp_eq (tgt := 670) hx hb dL_law_619 (by decide) (fun _ => ?_) (fun hne => absurd hreq hne)
        exact next _ _ M2 I J LP P _ _ (by omega) (by omega) hs hP hD hS
      by_cases e18 : x = 18
      · refine lv_tableIn (off := 592) (tgt := 624) hx hb dL_law_32 (by rw [e18]; decide) (by rw [e18]; decide) (by rw [e18]; rfl) (by decide) ?_
        refine lv_aload_n hx hb dL_law_624 rfl (lv_at hl 1 rfl) ?_
        refine lv_aload_n hx hb dL_law_625 rfl (lv_at hl 0 rfl) ?_
        refine lv_iload_n hx hb dL_law_626 rfl (lv_at hl 3 rfl) ?_
        refine lv_iconst (v := 1) hx hb dL_law_627 (by decide) ?_
        refine lv_iadd hx hb dL_law_628 ?_
        refine va_sld hx hb hX hbl hbA hS v1 dL_law_629 ?_
        have hsz := hS.1
        have hPc := wl_r hP; have hDc := wl_Dr hD
        have hFc := wl_F hDc (fun q h => Nat.le_trans hS.1 h : ∀ q, H.size ≤ q → s.heap.size ≤ q)
        refine va_calli (va_runV (As := [.int (xs (nI i + 1).toNatClampNeg)]) (rest := []) ⟨hx, hb, hml, hown, hts⟩ (m_X7_prefix l dC dI cy adC (va_A (cW adC cy I J LP P) H.size) I J LP P (xs (nI i + 1).toNatClampNeg) hDc.self (o_prefix hs (xs (nI i + 1).toNatClampNeg))) (cwV 1 hts gL_law_X7_prefix rfl rfl rfl (by decide +kernel) ⟨Nat.le_of_ble_eq_true rfl, Nat.le_of_ble_eq_true rfl⟩) ⟨wPre.blind, va_recv hK hPc (ci := 7) (q0 := 0) rfl cG_0, wPre.at hPc hK hN (va_S.rf (A := va_A (cW adC cy I J LP P) H.size)) (fun q h => Or.inr h)⟩ rfl rfl hl.1 rfl (lv_room (Nat.le_of_ble_eq_true rfl)) dL_law_630 ⟨by show _ ≤ room_1.cells; have := rm_c; omega, by show _ ≤ room_1.slots; have := rm_s; omega⟩) hS (fun q _ h => hFc q h) hFc (fun r u t H1 locs ht hvm hw hB hz1 hk1 hS => ?_)
        obtain ⟨I2, J2, LP2, P2⟩ := u
        obtain ⟨hP1, hD1⟩ := hB; rw [ht] at hP1
        obtain ⟨hP, hD⟩ := wl_jr hP hD (fun q h => Nat.le_trans hsz h) hk1 hP1 hD1
        replace hs := hw; try dsimp only at hs hP hD
        generalize H1 = H at hP hS ⊢
        clear hPc hDc hFc
        generalize I2 = I at hs hP hD; generalize J2 = J at hs hP hD; generalize LP2 = LP at hs hP hD; generalize P2 = P at hs hP hD
        refine lv_aload_n hx hb dL_law_633 rfl (lv_at hl 2 rfl) ?_
        refine lv_aload_n hx hb dL_law_634 rfl (lv_at hl 0 rfl) ?_
        refine lv_iload_n hx hb dL_law_635 rfl (lv_at hl 3 rfl) ?_
        refine lv_iconst (v := 1) hx hb dL_law_636 (by decide) ?_
        refine lv_iadd hx hb dL_law_637 ?_
        refine va_sld hx hb hX hbl hbA hS v1 dL_law_638 ?_
        have hsz := hS.1
        have hPc := wl_l hP; have hDc := wl_Dl hD
        have hFc := wl_F hDc (fun q h => Nat.le_trans hS.1 h : ∀ q, H.size ≤ q → s.heap.size ≤ q)
        refine va_calli (va_runV (As := [.int (xs (nI i + 1).toNatClampNeg)]) (rest := [.int r]) ⟨hx, hb, hml, hown, hts⟩ (m_X8_prefix l dC dI cy adR (va_A (rW adR cy M) H.size) M (xs (nI i + 1).toNatClampNeg) hDc.self hs) (cwV 1 hts gL_law_X8_prefix rfl rfl rfl (by decide +kernel) ⟨Nat.le_of_ble_eq_true rfl, Nat.le_of_ble_eq_true rfl⟩) ⟨wPre.blind, va_recv hK hPc (ci := 8) (q0 := 0) rfl rG_o, wPre.at hPc hK hN (va_S.rf (A := va_A (rW adR cy M) H.size)) (fun q h => Or.inr h)⟩ rfl rfl hl.1 rfl (lv_room (Nat.le_of_ble_eq_true rfl)) dL_law_639 ⟨by show _ ≤ room_1.cells; have := rm_c; omega, by show _ ≤ room_1.slots; have := rm_s; omega⟩) hS (fun q _ h => hFc q h) hFc (fun r' u t H1 locs ht hvm hw hB hz1 hk1 hS => ?_)
        obtain ⟨M2, rfl⟩ : ∃ z : St, z = u := ⟨_, rfl⟩
        obtain ⟨hP1, hD1⟩ := hB; rw [ht] at hP1
        obtain ⟨hP, hD⟩ := wl_jl hP hD (fun q h => Nat.le_trans hsz h) hk1 hP1 hD1
        obtain ⟨hreq, hs⟩ := hw
        refine lv_icmp_eq (tgt := 670) hx hb dL_law_642 (by decide) (fun _ => ?_) (fun hne => absurd hreq hne)
        exact next _ _ M2 I J LP P _ _ (by omega) (by omega) hs hP hD hS
      by_cases e19 : x = 19
      · refine lv_tableIn (off := 615) (tgt := 647) hx hb dL_law_32 (by rw [e19]; decide) (by rw [e19]; decide) (by rw [e19]; rfl) (by decide) ?_
        refine lv_aload_n hx hb dL_law_647 rfl (lv_at hl 1 rfl) ?_
        refine lv_aload_n hx hb dL_law_648 rfl (lv_at hl 0 rfl) ?_
        refine lv_iload_n hx hb dL_law_649 rfl (lv_at hl 3 rfl) ?_
        refine lv_iconst (v := 1) hx hb dL_law_650 (by decide) ?_
        refine lv_iadd hx hb dL_law_651 ?_
        refine va_sld hx hb hX hbl hbA hS v1 dL_law_652 ?_
        have hsz := hS.1
        have hPc := wl_r hP; have hDc := wl_Dr hD
        have hFc := wl_F hDc (fun q h => Nat.le_trans hS.1 h : ∀ q, H.size ≤ q → s.heap.size ≤ q)
        refine va_calli (va_runV (As := [.int (xs (nI i + 1).toNatClampNeg)]) (rest := []) ⟨hx, hb, hml, hown, hts⟩ (m_X7_count l dC dI cy adC (va_A (cW adC cy I J LP P) H.size) I J LP P (xs (nI i + 1).toNatClampNeg) hDc.self (o_count hs (xs (nI i + 1).toNatClampNeg))) (cwV 1 hts gL_law_X7_count rfl rfl rfl (by decide +kernel) ⟨Nat.le_of_ble_eq_true rfl, Nat.le_of_ble_eq_true rfl⟩) ⟨wPre.blind, va_recv hK hPc (ci := 7) (q0 := 0) rfl cG_0, wPre.at hPc hK hN (va_S.rf (A := va_A (cW adC cy I J LP P) H.size)) (fun q h => Or.inr h)⟩ rfl rfl hl.1 rfl (lv_room (Nat.le_of_ble_eq_true rfl)) dL_law_653 ⟨by show _ ≤ room_1.cells; have := rm_c; omega, by show _ ≤ room_1.slots; have := rm_s; omega⟩) hS (fun q _ h => hFc q h) hFc (fun r u t H1 locs ht hvm hw hB hz1 hk1 hS => ?_)
        obtain ⟨I2, J2, LP2, P2⟩ := u
        obtain ⟨hP1, hD1⟩ := hB; rw [ht] at hP1
        obtain ⟨hP, hD⟩ := wl_jr hP hD (fun q h => Nat.le_trans hsz h) hk1 hP1 hD1
        replace hs := hw; try dsimp only at hs hP hD
        generalize H1 = H at hP hS ⊢
        clear hPc hDc hFc
        generalize I2 = I at hs hP hD; generalize J2 = J at hs hP hD; generalize LP2 = LP at hs hP hD; generalize P2 = P at hs hP hD
        refine lv_aload_n hx hb dL_law_656 rfl (lv_at hl 2 rfl) ?_
        refine lv_aload_n hx hb dL_law_657 rfl (lv_at hl 0 rfl) ?_
        refine lv_iload_n hx hb dL_law_658 rfl (lv_at hl 3 rfl) ?_
        refine lv_iconst (v := 1) hx hb dL_law_659 (by decide) ?_
        refine lv_iadd hx hb dL_law_660 ?_
        refine va_sld hx hb hX hbl hbA hS v1 dL_law_661 ?_
        have hsz := hS.1
        have hPc := wl_l hP; have hDc := wl_Dl hD
        have hFc := wl_F hDc (fun q h => Nat.le_trans hS.1 h : ∀ q, H.size ≤ q → s.heap.size ≤ q)
        refine va_calli (va_runV (As := [.int (xs (nI i + 1).toNatClampNeg)]) (rest := [.int r]) ⟨hx, hb, hml, hown, hts⟩ (m_X8_count l dC dI cy adR (va_A (rW adR cy M) H.size) M (xs (nI i + 1).toNatClampNeg) hDc.self hs) (cwV 1 hts gL_law_X8_count rfl rfl rfl (by decide +kernel) ⟨Nat.le_of_ble_eq_true rfl, Nat.le_of_ble_eq_true rfl⟩) ⟨wPre.blind, va_recv hK hPc (ci := 8) (q0 := 0) rfl rG_o, wPre.at hPc hK hN (va_S.rf (A := va_A (rW adR cy M) H.size)) (fun q h => Or.inr h)⟩ rfl rfl hl.1 rfl (lv_room (Nat.le_of_ble_eq_true rfl)) dL_law_662 ⟨by show _ ≤ room_1.cells; have := rm_c; omega, by show _ ≤ room_1.slots; have := rm_s; omega⟩) hS (fun q _ h => hFc q h) hFc (fun r' u t H1 locs ht hvm hw hB hz1 hk1 hS => ?_)
        obtain ⟨M2, rfl⟩ : ∃ z : St, z = u := ⟨_, rfl⟩
        obtain ⟨hP1, hD1⟩ := hB; rw [ht] at hP1
        obtain ⟨hP, hD⟩ := wl_jl hP hD (fun q h => Nat.le_trans hsz h) hk1 hP1 hD1
        obtain ⟨hreq, hs⟩ := hw
        refine lv_icmp_eq (tgt := 670) hx hb dL_law_665 (by decide) (fun _ => ?_) (fun hne => absurd hreq hne)
        exact next _ _ M2 I J LP P _ _ (by omega) (by omega) hs hP hD hS
      refine lv_tableOut (tgt := 670) hx hb dL_law_32 (by have z0 := lv_neT e0 (a := 0) (by decide); have z1 := lv_neT e1 (a := 1) (by decide); have z2 := lv_neT e2 (a := 2) (by decide); have z3 := lv_neT e3 (a := 3) (by decide); have z4 := lv_neT e4 (a := 4) (by decide); have z5 := lv_neT e5 (a := 5) (by decide); have z6 := lv_neT e6 (a := 6) (by decide); have z7 := lv_neT e7 (a := 7) (by decide); have z8 := lv_neT e8 (a := 8) (by decide); have z9 := lv_neT e9 (a := 9) (by decide); have z10 := lv_neT e10 (a := 10) (by decide); have z11 := lv_neT e11 (a := 11) (by decide); have z12 := lv_neT e12 (a := 12) (by decide); have z13 := lv_neT e13 (a := 13) (by decide); have z14 := lv_neT e14 (a := 14) (by decide); have z15 := lv_neT e15 (a := 15) (by decide); have z16 := lv_neT e16 (a := 16) (by decide); have z17 := lv_neT e17 (a := 17) (by decide); have z18 := lv_neT e18 (a := 18) (by decide); have z19 := lv_neT e19 (a := 19) (by decide); omega) (by decide) ?_
      exact next cl sl M I J LP P H locs (by omega) (by omega) hs hP hD hS
