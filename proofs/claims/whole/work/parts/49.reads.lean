theorem r_toAck {M : St} {K : Nat → Nat} {fl : Nat} {d : Nat → Nat} {up : Nat} {mv md m9 iv id : Nat → Int32} {iu : Int32} {post : Int32 → St → Prop} (hT : TgOK K fl d up mv md (M 24) m9 iv id iu) (h4 : fl ≤ 400) (h : post (nI up) M) : wp_X8_toAck M post := by
  obtain ⟨-, h2, -, g4, g5, g6⟩ := hT
  refine ⟨fun n x M' => ∃ i, i ≤ up ∧ n + i = 400 ∧ x = nI i ∧ M' = M, ⟨400, 0, by omega, by omega, rfl, rfl⟩, ?_⟩
  rintro n x M' ⟨i, hi, hn, rfl, rfl⟩
  rw [l400, le_ (by omega) (by omega), cl_ (n := i) (by omega)]
  refine ⟨fun hc => ?_, fun hc => ⟨in_ (by omega) (by omega), fun z => ?_, fun z => ?_⟩⟩
  · have : i = up := by omega
    subst this; exact h
  · rcases Nat.lt_or_ge i up with y | y
    · rcases h2 i (by omega) with ⟨_, _, b⟩ | ⟨b, _⟩
      · rw [b] at z; exact absurd z (by decide)
      · exact absurd ⟨by omega, g5 i y⟩ b
    · have : i = up := by omega
      subst this; exact h
  · rcases Nat.lt_or_ge i up with y | y
    · exact ⟨n - 1, by omega, i + 1, by omega, by omega, nI_1 i, rfl⟩
    · have : i = up := by omega
      subst this
      rcases h2 i (by omega) with ⟨a, b, _⟩ | ⟨_, b⟩
      · exact absurd ⟨a, b⟩ g6
      · exact absurd b z
theorem r_acks1 {M : St} {K : Nat → Nat} {fl ma po : Nat} {d : Nat → Nat} {up : Nat} {mv md m9 iv id : Nat → Int32} {iu p1 : Int32} {post : Int32 → St → Prop} (hT : TgOK K fl d up mv md (M 24) m9 iv id iu) (h4 : fl ≤ 400) (hp : p1 ≠ 0) (h12 : M 12 0 = nI po) (h13 : M 13 0 = nI ma) (hm : ma ≤ po) (hpo : po ≤ fl) (h : post (nI up) (st (st M 13 0 (nI (max ma up))) 12 0 (nI (max po (max ma up))))) : wp_X8_acks M p1 post := by
  have hu := hT.2.2.2.1
  refine r_toAck hT h4 (br_f hp ?_)
  rw [h13, le_ (by omega) (by omega)]
  refine ⟨fun z => ?_, fun z => ?_⟩
  · rw [show max ma up = ma by omega, show max po ma = po by omega, st_id M 13 0 h13, st_id M 12 0 h12] at h
    exact h
  · rintro I3 rfl
    rw [st_s, upd_s, st_n _ _ _ (by decide), h12, le_ (by omega) (by omega)]
    rw [show max ma up = up by omega] at h
    refine ⟨fun y => ?_, fun y => ?_⟩
    · rintro I4 rfl
      rw [show max po up = po by omega] at h; exact h
    · rintro I4 rfl
      rw [show max po up = up by omega] at h; exact h
theorem c_hear {I : St} {J : Rf} {LP : List Nat} {P : St} {ma po up : Nat} {post : St → Rf → List Nat → St → Prop} (h90 : I 9 0 = nI po) (h91 : I 9 1 = nI ma) (b1 : ma ≤ 400) (b2 : po ≤ 400) (b3 : up ≤ 400) (h : post (st (st I 9 1 (nI (max ma up))) 9 0 (nI (max po (max ma up)))) J LP P) : wp_X2_hear I J LP P (nI up) post := by
  have key : ∀ a b : Nat, a ≤ 400 → b ≤ 400 → (if nI a < nI b then nI b else nI a) = nI (max a b) := fun a b ha hb => by
    by_cases z : a < b
    · rw [if_pos ((lt_ (by omega) (by omega)).mpr z), show max a b = b by omega]
    · rw [if_neg (fun y => z ((lt_ (by omega) (by omega)).mp y)), show max a b = a by omega]
  rintro I1 rfl
  rintro I2 rfl
  rw [h91, key ma up b1 b3]
  have e1 : st I 9 1 (nI (max ma up)) 9 1 = nI (max ma up) := by rw [st_s, upd_s]
  have e0 : st I 9 1 (nI (max ma up)) 9 0 = nI po := by rw [st_s, upd_n _ _ (by decide)]; exact h90
  rw [e1, e0, key po (max ma up) b2 (by omega)]
  exact h
section SXA
variable {K ow : Nat → Nat} {en fl fi po ma : Nat} {sz : Nat → Nat} {LT : Nat → Nat → Nat} {d dd : Nat → Nat} {up ud hd : Nat} {HT : Nat → Nat} {M I : St} {J : Rf} {LP : List Nat} {P : St}
theorem Sim.ack (h : Sim K ow en fl fi po ma sz LT d dd up ud hd HT M I J LP P) : Sim K ow en fl fi (max po (max ma ud)) (max ma ud) sz LT d dd up ud hd HT (st (st M 13 0 (nI (max ma ud))) 12 0 (nI (max po (max ma ud)))) (st (st I 9 1 (nI (max ma ud))) 9 0 (nI (max po (max ma ud)))) J LP P := by
  obtain ⟨hL, hc, hN, hR, hT, hTd, hH, hC⟩ := h
  obtain ⟨n5, n6, n7, n12, n13, i12, i11, i10, i90, i91, o1, o2, o3⟩ := hN
  have hu := hTd.2.2.2.1
  refine ⟨hL, hc, ⟨n5, n6, n7, rfl, rfl, i12, i11, i10, rfl, rfl, by omega, by omega, by omega⟩, ?_, hT, hTd, hH, hC⟩
  refine hR.fr rfl rfl rfl rfl rfl rfl rfl rfl (fun n hn => ?_) (fun _ _ => rfl) rfl
  rw [st_n _ _ _ (by omega), st_n _ _ _ (by omega)]
theorem Sim.save (h : Sim K ow en fl fi po ma sz LT d dd up ud hd HT M I J LP P) {f g e f' g' : Nat → Int32} (y1 : ∀ k, k < 6 → f k = M 19 k) (y2 : ∀ k, k < 6 → g k = M 20 k) (y3 : ∀ p, p < 400 → e p = M 21 p) (z1 : ∀ k, k < 6 → f' k = I 22 k) (z2 : ∀ k, k < 6 → g' k = I 24 k) : Sim K ow en fl fi po ma sz LT d d up up hd HT (va_up (va_up (va_up M 22 f) 23 g) 24 e) (st (va_up (va_up I 23 f') 25 g') 21 0 (I 20 0)) J LP P := by
  obtain ⟨hL, hc, hN, hR, hT, hTd, hH, hC⟩ := h
  refine ⟨hL, hc, hN, ?_, hT, hT.cp y1 y2 y3 z1 z2, hH, hC⟩
  refine hR.fr rfl rfl rfl rfl rfl rfl rfl rfl (fun n hn => ?_) (fun _ _ => rfl) rfl
  rw [st_n _ _ _ (by omega), up_n _ _ (by omega), up_n _ _ (by omega)]
end SXA
section OPR
variable {M I : St} {J : Rf} {LP : List Nat} {P : St}
theorem o_cut (hs : SimE M I J LP P) : wp_X7_cut I J LP P (fun r I' J' LP' P' => wp_X8_cut M (fun r' M' => Same r I' J' LP' P' r' M')) := by
  obtain ⟨K, ow, en, fl, fi, po, ma, sz, LT, d, dd, up, ud, hd, HT, hS⟩ := hs
  obtain ⟨hL, hc, hN, hR, hT, hTd, hH, hC⟩ := hS
  obtain ⟨n5, n6, n7, n12, n13, i12, i11, i10, i90, i91, o1, o2, o3⟩ := hN
  rintro I1 rfl
  rintro M1 rfl
  refine ⟨by rw [i91, i10, n13, n7], K, ow, en, fl, ma, po, ma, sz, LT, d, dd, up, ud, hd, HT, hL, hc, ⟨n5, n6, n13, n12, n13, i12, i11, i91, i90, i91, Nat.le_refl _, o2, o3⟩, ?_, hT, hTd, hH, hC⟩
  refine hR.fr rfl rfl rfl rfl rfl rfl rfl rfl (fun n hn => ?_) (fun _ _ => rfl) rfl
  rw [st_n _ _ _ (by omega)]
theorem o_save (hs : SimE M I J LP P) : wp_X7_save I J LP P (fun r I' J' LP' P' => wp_X8_save M (fun r' M' => Same r I' J' LP' P' r' M')) := by
  obtain ⟨K, ow, en, fl, fi, po, ma, sz, LT, d, dd, up, ud, hd, HT, hS⟩ := hs
  have hT := hS.2.2.2.2.1
  have hTd := hS.2.2.2.2.2.1
  refine c_become (Or.inr ⟨rfl, rfl⟩) (fun f' g' z1 z2 => r_saves (fun p hp => hT.bit p hp) (fun f g e y1 y2 y3 => ⟨?_, (hS.save y1 y2 y3 z1 z2).E⟩))
  refine sm_congr (fun k hk => ?_)
  show I 24 k - I 25 k = M 20 k - M 23 k
  rw [(hT.1 k hk).1, (hT.1 k hk).2.1, (hTd.1 k hk).1, (hTd.1 k hk).2.1]
theorem o_ack (hs : SimE M I J LP P) (p1 : Int32) : wp_X7_ack I J LP P p1 (fun r I' J' LP' P' => wp_X8_ack M p1 (fun r' M' => Same r I' J' LP' P' r' M')) := by
  obtain ⟨K, ow, en, fl, fi, po, ma, sz, LT, d, dd, up, ud, hd, HT, hS⟩ := hs
  have hTd := hS.2.2.2.2.2.1
  obtain ⟨n5, n6, n7, n12, n13, i12, i11, i10, i90, i91, o1, o2, o3⟩ := hS.2.2.1
  have h4 : fl ≤ 400 := by have := hS.1.1; have := hS.1.2.1; omega
  have hu := hTd.2.2.2.1
  have iu := hTd.2.2.1
  refine ⟨fun z => ?_, fun z => ?_⟩
  · exact r_toAck hTd h4 (br_t z ⟨iu, hS.E⟩)
  · rw [iu]
    exact c_hear i90 i91 (by omega) (by omega) (by omega) (r_acks1 hTd h4 z n12 n13 o2 o3 ⟨iu, hS.ack.E⟩)

theorem o_key (hs : SimE M I J LP P) (p1 p2 : Int32) : wp_X7_key I J LP P p1 p2 (fun r I' J' LP' P' => wp_X8_key M p1 p2 (fun r' M' => Same r I' J' LP' P' r' M')) := by
  obtain ⟨K, ow, en, fl, fi, po, ma, sz, LT, d, dd, up, ud, hd, HT, hS⟩ := hs
  have hc := hS.2.1
  have hL := hS.1
  have hN := hS.2.2.1
  have hT := hS.2.2.2.2.1
  have hTd := hS.2.2.2.2.2.1
  rcases key_cases p1 with hn | ⟨k, hk, rfl⟩
  · exact c_isKey0 hn (nbr_f rfl (r_isKey0 hn (nbr_f rfl ⟨rfl, hS.E⟩)))
  · have hv : vp_in (nI k) 6 := in_ hk (by omega)
    obtain ⟨a1, a2, a3, a4, a5⟩ := hc.2.2 k hk
    have uwr : ∀ {post : Int32 → St → Prop}, (ow k = 4 → post 1 M) → (ow k ≠ 4 → post 0 M) → wp_X8_isUnderWay M (nI k) post := fun {post} g1 g0 => r_isUW hN.2.1 hN.1 hL.2.1 hL.1 hk (fun p hp => ⟨(hL.2.2.1 p hp).2.1, (hL.2.2.1 p hp).1⟩) (fun u => g1 (a5.mpr u)) (fun u => g0 (fun z => u (a5.mp z)))
    refine c_isKey1 hk (nbr_t (by decide) ?_)
    unfold wp_X4_lockOf
    rw [cl_ (n := k) (by omega)]
    refine ⟨fun e => ⟨hv, ?_⟩, fun e => ⟨hv, ?_⟩, fun e => ⟨hv, ?_⟩, fun e => ⟨hv, ?_⟩, fun e => ⟨hv, ?_⟩, fun e => ⟨hv, ?_⟩, fun e => ⟨hv, ?_⟩, fun e => ?_⟩
    · subst e
      refine r_isKey1 hk (nbr_t (by decide) ?_)
      rw [cl_ (n := k) (by omega)]
      exact ⟨fun _ => ⟨hv, (hc.2.1 k hk).1, hS.E⟩, fun h => absurd h (by decide), fun h => absurd h (by decide), fun h => absurd h (by decide), fun h => absurd h (by decide), fun h => absurd h (by decide), fun h => absurd h (by decide), fun h => absurd rfl h.1⟩
    · subst e
      refine r_isKey1 hk (nbr_t (by decide) ?_)
      rw [cl_ (n := k) (by omega)]
      exact ⟨fun h => absurd h (by decide), fun _ => ⟨hv, (hc.2.1 k hk).2.1.trans (hc.2.1 k hk).2.2.symm, hS.E⟩, fun h => absurd h (by decide), fun h => absurd h (by decide), fun h => absurd h (by decide), fun h => absurd h (by decide), fun h => absurd h (by decide), fun h => absurd rfl h.2.1⟩
    · rw [a2, own_m1 a1]
      have r2 : ∀ v : Int32, (ow k = 4 → v = 2) → (ow k = 5 → v = 0) → (ow k < 4 → v = 1) → wp_X8_key M (nI k) p2 (fun r' M' => Same v I J LP P r' M') := by
        intro v v4 v5 v1
        subst e
        refine r_isKey1 hk (nbr_t (by decide) ?_)
        refine ⟨fun h => absurd h (by decide), fun h => absurd h (by decide), fun _ => ?_, fun h => absurd h (by decide), fun h => absurd h (by decide), fun h => absurd h (by decide), fun h => absurd h (by decide), fun h => absurd rfl h.2.2.1⟩
        refine uwr (fun z => br_f (by decide) ⟨v4 z, hS.E⟩) (fun z => br_t rfl ?_)
        by_cases q : ow k = 5
        · exact r_writer0 hk (fun t' h' => Or.inr (by rw [a3 t' h', if_neg (by omega)])) (br_t (by decide) ⟨v5 q, hS.E⟩)
        · have hlt : ow k < 4 := by omega
          exact r_writer1 hk hlt (by rw [(a4 hlt).1]; decide) (by rw [a3 _ hlt, if_pos rfl]; decide) (fun t' h' => Or.inr (by rw [a3 t' (by omega), if_neg (by omega)])) (br_f (nI_nneg (by omega)) ⟨v1 hlt, hS.E⟩)
      refine ⟨fun q => ⟨hv, ?_⟩, fun q => r2 0 (fun z => by omega) (fun _ => rfl) (fun z => by omega)⟩
      have e4 : own32 (ow k) = 4 ↔ ow k = 4 := by rw [own32, if_neg q, l4, eq_ (by omega) (by omega)]
      rw [e4]
      exact ⟨fun q4 => r2 1 (fun z => absurd z q4) (fun z => absurd z q) (fun _ => rfl), fun q4 => r2 2 (fun _ => rfl) (fun z => by omega) (fun z => by omega)⟩
    · subst e
      refine r_isKey1 hk (nbr_t (by decide) ?_)
      rw [cl_ (n := k) (by omega)]
      exact ⟨fun h => absurd h (by decide), fun h => absurd h (by decide), fun h => absurd h (by decide), fun _ => ⟨hv, (hT.1 k hk).2.2.1, hS.E⟩, fun h => absurd h (by decide), fun h => absurd h (by decide), fun h => absurd h (by decide), fun h => absurd rfl h.2.2.2.1⟩
    · subst e
      refine r_isKey1 hk (nbr_t (by decide) ?_)
      rw [cl_ (n := k) (by omega)]
      exact ⟨fun h => absurd h (by decide), fun h => absurd h (by decide), fun h => absurd h (by decide), fun h => absurd h (by decide), fun _ => ⟨hv, (hT.1 k hk).2.1.trans (hT.1 k hk).1.symm, hS.E⟩, fun h => absurd h (by decide), fun h => absurd h (by decide), fun h => absurd rfl h.2.2.2.2.1⟩
    · subst e
      refine r_isKey1 hk (nbr_t (by decide) ?_)
      rw [cl_ (n := k) (by omega)]
      exact ⟨fun h => absurd h (by decide), fun h => absurd h (by decide), fun h => absurd h (by decide), fun h => absurd h (by decide), fun h => absurd h (by decide), fun _ => ⟨hv, (hTd.1 k hk).2.2.1, hS.E⟩, fun h => absurd h (by decide), fun h => absurd rfl h.2.2.2.2.2.1⟩
    · subst e
      refine r_isKey1 hk (nbr_t (by decide) ?_)
      rw [cl_ (n := k) (by omega)]
      exact ⟨fun h => absurd h (by decide), fun h => absurd h (by decide), fun h => absurd h (by decide), fun h => absurd h (by decide), fun h => absurd h (by decide), fun h => absurd h (by decide), fun _ => ⟨hv, (hTd.1 k hk).2.1.trans (hTd.1 k hk).1.symm, hS.E⟩, fun h => absurd rfl h.2.2.2.2.2.2⟩
    · refine r_isKey1 hk (nbr_t (by decide) ?_)
      exact ⟨fun h => absurd h e.1, fun h => absurd h e.2.1, fun h => absurd h e.2.2.1, fun h => absurd h e.2.2.2.1, fun h => absurd h e.2.2.2.2.1, fun h => absurd h e.2.2.2.2.2.1, fun h => absurd h e.2.2.2.2.2.2, fun _ => ⟨rfl, hS.E⟩⟩
theorem o_log (hs : SimE M I J LP P) (p1 p2 : Int32) : wp_X7_log I J LP P p1 p2 (fun r I' J' LP' P' => wp_X8_log M p1 p2 (fun r' M' => Same r I' J' LP' P' r' M')) := by
  obtain ⟨K, ow, en, fl, fi, po, ma, sz, LT, d, dd, up, ud, hd, HT, hS⟩ := hs
  have hL := hS.1
  obtain ⟨L1, L2, L3, L4, L5, L6⟩ := hL
  obtain ⟨n5, n6, n7, n12, n13, i12, i11, i10, i90, i91, o1, o2, o3⟩ := hS.2.2.1
  by_cases hp : ∃ j, j ≤ 4 ∧ p2 = nI j
  · obtain ⟨j, hj, rfl⟩ := hp
    have in4 : ∀ {post : Int32 → St → Prop}, post 1 M → wp_X8_in M (nI j) 0 4 post := fun h => r_in1 (nI_nneg (by omega)) (by rw [l4, lt_ (by omega) (by omega)]; omega) h
    refine br_f (nI_nneg (by omega)) (br_t (by rw [l4, le_ (by omega) (by omega)]; exact hj) ?_)
    by_cases hq : ∃ p, p < en ∧ p1 = nI p
    · obtain ⟨p, hpe, rfl⟩ := hq
      obtain ⟨x1, x2, x3, x4, a, x5, x6, x7, x8, x9, x10, x11⟩ := L3 p hpe
      refine c_at1 i12 L2 hpe x5 ⟨fun z => (by cases z), fun b e => ?_⟩
      cases e
      unfold wp_X1_isCut
      rw [i10, le_ (by omega) (by omega)]
      have e1 : nI en - 1 = nI (en - 1) := by rw [l1, pk_sub (by omega)]
      refine ⟨fun hf => br_t rfl ?_, fun hf => br_f (by decide) ?_⟩
      · have hv : vp_in (nI p) 400 := in_ (by omega) (by omega)
        have go : ∀ {post : Int32 → St → Prop}, ((nI j = 0 → (vp_in (nI p) 400 ∧ (post (M 8 p) M))) ∧ ((nI j = 1 → (vp_in (nI p) 400 ∧ (post (M 9 p) M))) ∧ ((nI j = 2 → (vp_in (nI p) 400 ∧ (post (M 10 p) M))) ∧ ((nI j = 3 → ((fl ≤ p → (post 0 M)) ∧ (¬ fl ≤ p → (post 1 M)))) ∧ ((¬ nI j = 0 ∧ ¬ nI j = 1 ∧ ¬ nI j = 2 ∧ ¬ nI j = 3) → (vp_in (nI p) 400 ∧ (((M 11 p) = 0 → (post 0 M)) ∧ (¬ (M 11 p) = 0 → (post 1 M))))))))) → wp_X8_log M (nI p) (nI j) post := by
          intro post h
          refine in4 (nbr_t (by decide) (r_in1 (by rw [n7, lt_ (by omega) (by omega)]; omega) (by rw [n5, e1, lt_ (by omega) (by omega)]; omega) (nbr_t (by decide) ?_)))
          rw [cl_ (n := p) (by omega), n6, le_ (by omega) (by omega)]
          exact h
        unfold wp_X1_isFlushed
        rw [i11, le_ (by omega) (by omega)]
        rcases (show j = 0 ∨ j = 1 ∨ j = 2 ∨ j = 3 ∨ j = 4 by omega) with rfl | rfl | rfl | rfl | rfl
        · exact ⟨fun _ => ⟨x6, go ⟨fun _ => ⟨hv, x8.trans x2.symm, hS.E⟩, fun h => absurd h (by decide), fun h => absurd h (by decide), fun h => absurd h (by decide), fun h => absurd rfl h.1⟩⟩, fun h => absurd h (by decide), fun h => absurd h (by decide), fun h => absurd h (by decide), fun h => absurd rfl h.1⟩
        · exact ⟨fun h => absurd h (by decide), fun _ => ⟨x6, go ⟨fun h => absurd h (by decide), fun _ => ⟨hv, x9, hS.E⟩, fun h => absurd h (by decide), fun h => absurd h (by decide), fun h => absurd rfl h.2.1⟩⟩, fun h => absurd h (by decide), fun h => absurd h (by decide), fun h => absurd rfl h.2.1⟩
        · exact ⟨fun h => absurd h (by decide), fun h => absurd h (by decide), fun _ => ⟨x6, go ⟨fun h => absurd h (by decide), fun h => absurd h (by decide), fun _ => ⟨hv, x10.trans x3.symm, hS.E⟩, fun h => absurd h (by decide), fun h => absurd rfl h.2.2.1⟩⟩, fun h => absurd h (by decide), fun h => absurd rfl h.2.2.1⟩
        · refine ⟨fun h => absurd h (by decide), fun h => absurd h (by decide), fun h => absurd h (by decide), fun _ => ?_, fun h => absurd rfl h.2.2.2⟩
          exact ⟨fun z => br_t rfl (go ⟨fun h => absurd h (by decide), fun h => absurd h (by decide), fun h => absurd h (by decide), fun _ => br_t z ⟨rfl, hS.E⟩, fun h => absurd rfl h.2.2.2⟩), fun z => br_f (by decide) (go ⟨fun h => absurd h (by decide), fun h => absurd h (by decide), fun h => absurd h (by decide), fun _ => br_f z ⟨rfl, hS.E⟩, fun h => absurd rfl h.2.2.2⟩)⟩
        · refine ⟨fun h => absurd h (by decide), fun h => absurd h (by decide), fun h => absurd h (by decide), fun h => absurd h (by decide), fun _ => ⟨x6, ?_⟩⟩
          rw [x11]
          exact ⟨fun z => go ⟨fun h => absurd h (by decide), fun h => absurd h (by decide), fun h => absurd h (by decide), fun h => absurd h (by decide), fun _ => ⟨hv, br_t z ⟨rfl, hS.E⟩⟩⟩, fun z => go ⟨fun h => absurd h (by decide), fun h => absurd h (by decide), fun h => absurd h (by decide), fun h => absurd h (by decide), fun _ => ⟨hv, br_f z ⟨rfl, hS.E⟩⟩⟩⟩
      · exact in4 (nbr_t (by decide) (r_in0 (Or.inl (by rw [n7, lt_ (by omega) (by omega)]; omega)) (nbr_f rfl ⟨rfl, hS.E⟩)))
    · have hno : ∀ p, p < en → p1 ≠ nI p := fun p h1 h2 => hq ⟨p, h1, h2⟩
      refine c_at0 i12 L2 hno ⟨fun _ => ?_, fun b e => (by cases e)⟩
      refine in4 (nbr_t (by decide) (r_in0 ?_ (nbr_f rfl ⟨rfl, hS.E⟩)))
      rw [n7, n5]
      rcases ge_out (by omega) hno with z | z
      · exact Or.inl (Int32.lt_of_lt_of_le z (nI_pos' (by omega)))
      · right
        rcases Nat.eq_zero_or_pos en with y | y
        · subst y
          exact Int32.lt_of_lt_of_le (by decide) z
        · rw [l1, pk_sub (by omega)]
          exact Int32.lt_of_lt_of_le (by rw [lt_ (by omega) (by omega)]; omega) z
  · have ho := out_of (p := p2) (N := 4) (by omega) (fun j hj e => hp ⟨j, hj, e⟩)
    have fin : wp_X8_log M p1 p2 (fun r' M' => Same (-1) I J LP P r' M') := r_in0 ho (nbr_f rfl ⟨rfl, hS.E⟩)
    exact ⟨fun _ => fin, fun h0 => br_f (ho.elim (fun z => absurd z h0) (fun z => Int32.not_le.mpr z)) fin⟩
theorem r_count0 {post : Int32 → St → Prop} (h : post (nI (cnt (fun t => if M 0 t = 0 then 1 else 0) 0 4)) M) : (∃ V1 : Nat → Int32 → Int32 → St → Prop, (∃ n2 : Nat, V1 n2 0 0 M) ∧ ∀ (n2 : Nat) (x3 : Int32) (x4 : Int32) (I5 : St), V1 n2 x3 x4 I5 → ((4 ≤ x4 → (post x3 I5)) ∧ (¬ 4 ≤ x4 → (vp_in x4 4 ∧ (((I5 0 x4.toNatClampNeg) = 0 → (∃ n6 : Nat, n6 < n2 ∧ V1 n6 (x3 + 0) (x4 + 1) I5)) ∧ (¬ (I5 0 x4.toNatClampNeg) = 0 → (∃ n7 : Nat, n7 < n2 ∧ V1 n7 (x3 + 1) (x4 + 1) I5))))))) := by
  refine ⟨fun n x y M' => ∃ i, i ≤ 4 ∧ n + i = 4 ∧ y = nI i ∧ x = nI (cnt (fun t => if M 0 t = 0 then 1 else 0) 0 i) ∧ M' = M, ⟨4, 0, by omega, by omega, rfl, rfl, rfl⟩, ?_⟩
  rintro n x y M' ⟨i, hi, hn, rfl, rfl, rfl⟩
  rw [l4, le_ (by omega) (by omega), cl_ (n := i) (by omega)]
  refine ⟨fun hc => ?_, fun hc => ⟨in_ (by omega) (by omega), fun z => ⟨n - 1, by omega, i + 1, by omega, by omega, nI_1 i, ?_, rfl⟩, fun z => ⟨n - 1, by omega, i + 1, by omega, by omega, nI_1 i, ?_, rfl⟩⟩⟩
  · have : i = 4 := by omega
    subst this; exact h
  · rw [cnt_s, if_pos z, if_neg (by decide), l0, nI_add]
  · rw [cnt_s, if_neg z, if_pos rfl, nI_1]
theorem c_count0 {post : Int32 → St → Rf → List Nat → St → Prop} (h : post (nI (cnt (fun t => if I 8 t = 0 then 1 else 0) 0 4)) I J LP P) : wp_X4_openTransactions I J LP P post := by
  refine ⟨fun n x y I' J' LP' P' => ∃ i, i ≤ 4 ∧ n + i = 4 ∧ y = nI i ∧ x = nI (cnt (fun t => if I 8 t = 0 then 1 else 0) 0 i) ∧ I' = I ∧ J' = J ∧ LP' = LP ∧ P' = P, ⟨4, 0, by omega, by omega, rfl, rfl, rfl, rfl, rfl, rfl⟩, ?_⟩
  rintro n x y I' J' LP' P' ⟨i, hi, hn, rfl, rfl, rfl, rfl, rfl, rfl⟩
  rw [l4, le_ (by omega) (by omega), cl_ (n := i) (by omega)]
  refine ⟨fun hc => ?_, fun hc => ⟨in_ (by omega) (by omega), fun z => ⟨n - 1, by omega, i + 1, by omega, by omega, nI_1 i, ?_, rfl, rfl, rfl, rfl⟩, fun z => ⟨n - 1, by omega, i + 1, by omega, by omega, nI_1 i, ?_, rfl, rfl, rfl, rfl⟩⟩⟩
  · have : i = 4 := by omega
    subst this; exact h
  · rw [cnt_s, if_pos z, if_neg (by decide)]; rfl
  · rw [cnt_s, if_neg z, if_pos rfl, nI_1]
theorem c_letters {post : Int32 → St → Rf → List Nat → St → Prop} (h : post (sm (fun n => I (11 + n) 0) 3) I J LP P) : wp_X2_lettersUnderWay I J LP P post := by
  refine ⟨fun n x y I' J' LP' P' => ∃ i, i ≤ 3 ∧ n + i = 3 ∧ y = nI i ∧ x = sm (fun n => I (11 + n) 0) i ∧ I' = I ∧ J' = J ∧ LP' = LP ∧ P' = P, ⟨3, 0, by omega, by omega, rfl, rfl, rfl, rfl, rfl, rfl⟩, ?_⟩
  rintro n x y I' J' LP' P' ⟨i, hi, hn, rfl, rfl, rfl, rfl, rfl, rfl⟩
  rw [l3, le_ (by omega) (by omega), cl_ (n := i) (by omega)]
  refine ⟨fun hc => ?_, fun hc => ⟨in_ (by omega) (by omega), ?_⟩⟩
  · have : i = 3 := by omega
    subst this; exact h
  · rintro j rfl
    exact ⟨n - 1, by omega, i + 1, by omega, by omega, nI_1 i, rfl, rfl, rfl, rfl, rfl⟩
theorem o_count (hs : SimE M I J LP P) (p1 : Int32) : wp_X7_count I J LP P p1 (fun r I' J' LP' P' => wp_X8_count M p1 (fun r' M' => Same r I' J' LP' P' r' M')) := by
  obtain ⟨K, ow, en, fl, fi, po, ma, sz, LT, d, dd, up, ud, hd, HT, hS⟩ := hs
  have hc := hS.2.1
  have hR := hS.2.2.2.1
  have hTd := hS.2.2.2.2.2.1
  have hH := hS.2.2.2.2.2.2.1
  obtain ⟨k30, k31, k32, k33, k34⟩ := hS.2.2.2.2.2.2.2
  obtain ⟨n5, n6, n7, n12, n13, i12, i11, i10, i90, i91, o1, o2, o3⟩ := hS.2.2.1
  have h4 : fl ≤ 400 := by have := hS.1.1; have := hS.1.2.1; omega
  refine ⟨fun e => ?_, fun e => ?_, fun e => ?_, fun e => ?_, fun e => ?_, fun e => ?_, fun e => ?_, fun e => ?_, fun e => ?_, fun e => ?_, fun e => ?_, fun e => ?_, fun e => ?_, fun e => ?_, fun e => ?_⟩
  · subst e
    refine c_count0 ?_
    refine ⟨fun _ => ?_, fun h => absurd h (by decide), fun h => absurd h (by decide), fun h => absurd h (by decide), fun h => absurd h (by decide), fun h => absurd h (by decide), fun h => absurd h (by decide), fun h => absurd h (by decide), fun h => absurd h (by decide), fun h => absurd h (by decide), fun h => absurd h (by decide), fun h => absurd h (by decide), fun h => absurd h (by decide), fun h => absurd h (by decide), fun h => absurd rfl h.1⟩
    refine r_count0 ⟨congrArg nI (cnt_congr (fun t ht => ?_)), hS.E⟩
    rw [(hc.1 t ht).1]
  · subst e
    exact ⟨fun h => absurd h (by decide), fun _ => ⟨i12.trans n5.symm, hS.E⟩, fun h => absurd h (by decide), fun h => absurd h (by decide), fun h => absurd h (by decide), fun h => absurd h (by decide), fun h => absurd h (by decide), fun h => absurd h (by decide), fun h => absurd h (by decide), fun h => absurd h (by decide), fun h => absurd h (by decide), fun h => absurd h (by decide), fun h => absurd h (by decide), fun h => absurd h (by decide), fun h => absurd rfl h.2.1⟩
  · subst e
    exact ⟨fun h => absurd h (by decide), fun h => absurd h (by decide), fun _ => ⟨i11.trans n6.symm, hS.E⟩, fun h => absurd h (by decide), fun h => absurd h (by decide), fun h => absurd h (by decide), fun h => absurd h (by decide), fun h => absurd h (by decide), fun h => absurd h (by decide), fun h => absurd h (by decide), fun h => absurd h (by decide), fun h => absurd h (by decide), fun h => absurd h (by decide), fun h => absurd h (by decide), fun h => absurd rfl h.2.2.1⟩
  · subst e
    exact ⟨fun h => absurd h (by decide), fun h => absurd h (by decide), fun h => absurd h (by decide), fun _ => ⟨i90.trans n12.symm, hS.E⟩, fun h => absurd h (by decide), fun h => absurd h (by decide), fun h => absurd h (by decide), fun h => absurd h (by decide), fun h => absurd h (by decide), fun h => absurd h (by decide), fun h => absurd h (by decide), fun h => absurd h (by decide), fun h => absurd h (by decide), fun h => absurd h (by decide), fun h => absurd rfl h.2.2.2.1⟩
  · subst e
    exact ⟨fun h => absurd h (by decide), fun h => absurd h (by decide), fun h => absurd h (by decide), fun h => absurd h (by decide), fun _ => ⟨i91.trans n13.symm, hS.E⟩, fun h => absurd h (by decide), fun h => absurd h (by decide), fun h => absurd h (by decide), fun h => absurd h (by decide), fun h => absurd h (by decide), fun h => absurd h (by decide), fun h => absurd h (by decide), fun h => absurd h (by decide), fun h => absurd h (by decide), fun h => absurd rfl h.2.2.2.2.1⟩
  · subst e
    exact ⟨fun h => absurd h (by decide), fun h => absurd h (by decide), fun h => absurd h (by decide), fun h => absurd h (by decide), fun h => absurd h (by decide), fun _ => ⟨i10.trans n7.symm, hS.E⟩, fun h => absurd h (by decide), fun h => absurd h (by decide), fun h => absurd h (by decide), fun h => absurd h (by decide), fun h => absurd h (by decide), fun h => absurd h (by decide), fun h => absurd h (by decide), fun h => absurd h (by decide), fun h => absurd rfl h.2.2.2.2.2.1⟩
  · subst e
    refine c_letters ?_
    refine ⟨fun h => absurd h (by decide), fun h => absurd h (by decide), fun h => absurd h (by decide), fun h => absurd h (by decide), fun h => absurd h (by decide), fun h => absurd h (by decide), fun _ => ?_, fun h => absurd h (by decide), fun h => absurd h (by decide), fun h => absurd h (by decide), fun h => absurd h (by decide), fun h => absurd h (by decide), fun h => absurd h (by decide), fun h => absurd h (by decide), fun h => absurd rfl h.2.2.2.2.2.2.1⟩
    refine ⟨in_ (n := 0) (by omega) (by omega), in_ (n := 1) (by omega) (by omega), in_ (n := 2) (by omega) (by omega), ?_, hS.E⟩
    show 0 + I 11 0 + I 12 0 + I 13 0 = M 14 0 + M 14 1 + M 14 2
    have r0 := hR 0 (by omega)
    have r1 := hR 1 (by omega)
    have r2 := hR 2 (by omega)
    have c0 : I 11 0 = M 14 0 := r0.2.2.1.trans r0.2.1.symm
    have c1 : I 12 0 = M 14 1 := r1.2.2.1.trans r1.2.1.symm
    have c2 : I 13 0 = M 14 2 := r2.2.2.1.trans r2.2.1.symm
    rw [c0, c1, c2, Int32.zero_add]
  · subst e
    exact ⟨fun h => absurd h (by decide), fun h => absurd h (by decide), fun h => absurd h (by decide), fun h => absurd h (by decide), fun h => absurd h (by decide), fun h => absurd h (by decide), fun h => absurd h (by decide), fun _ => ⟨k30.symm, hS.E⟩, fun h => absurd h (by decide), fun h => absurd h (by decide), fun h => absurd h (by decide), fun h => absurd h (by decide), fun h => absurd h (by decide), fun h => absurd h (by decide), fun h => absurd rfl h.2.2.2.2.2.2.2.1⟩
  · subst e
    exact ⟨fun h => absurd h (by decide), fun h => absurd h (by decide), fun h => absurd h (by decide), fun h => absurd h (by decide), fun h => absurd h (by decide), fun h => absurd h (by decide), fun h => absurd h (by decide), fun h => absurd h (by decide), fun _ => ⟨k31.symm, hS.E⟩, fun h => absurd h (by decide), fun h => absurd h (by decide), fun h => absurd h (by decide), fun h => absurd h (by decide), fun h => absurd h (by decide), fun h => absurd rfl h.2.2.2.2.2.2.2.2.1⟩
  · subst e
    exact ⟨fun h => absurd h (by decide), fun h => absurd h (by decide), fun h => absurd h (by decide), fun h => absurd h (by decide), fun h => absurd h (by decide), fun h => absurd h (by decide), fun h => absurd h (by decide), fun h => absurd h (by decide), fun h => absurd h (by decide), fun _ => ⟨k32.symm, hS.E⟩, fun h => absurd h (by decide), fun h => absurd h (by decide), fun h => absurd h (by decide), fun h => absurd h (by decide), fun h => absurd rfl h.2.2.2.2.2.2.2.2.2.1⟩
  · subst e
    exact ⟨fun h => absurd h (by decide), fun h => absurd h (by decide), fun h => absurd h (by decide), fun h => absurd h (by decide), fun h => absurd h (by decide), fun h => absurd h (by decide), fun h => absurd h (by decide), fun h => absurd h (by decide), fun h => absurd h (by decide), fun h => absurd h (by decide), fun _ => ⟨hH.2.2.1.trans hH.2.1.symm, hS.E⟩, fun h => absurd h (by decide), fun h => absurd h (by decide), fun h => absurd h (by decide), fun h => absurd rfl h.2.2.2.2.2.2.2.2.2.2.1⟩
  · subst e
    exact ⟨fun h => absurd h (by decide), fun h => absurd h (by decide), fun h => absurd h (by decide), fun h => absurd h (by decide), fun h => absurd h (by decide), fun h => absurd h (by decide), fun h => absurd h (by decide), fun h => absurd h (by decide), fun h => absurd h (by decide), fun h => absurd h (by decide), fun h => absurd h (by decide), fun _ => ⟨k33.symm, hS.E⟩, fun h => absurd h (by decide), fun h => absurd h (by decide), fun h => absurd rfl h.2.2.2.2.2.2.2.2.2.2.2.1⟩
  · subst e
    exact ⟨fun h => absurd h (by decide), fun h => absurd h (by decide), fun h => absurd h (by decide), fun h => absurd h (by decide), fun h => absurd h (by decide), fun h => absurd h (by decide), fun h => absurd h (by decide), fun h => absurd h (by decide), fun h => absurd h (by decide), fun h => absurd h (by decide), fun h => absurd h (by decide), fun h => absurd h (by decide), fun _ => ⟨k34.symm, hS.E⟩, fun h => absurd h (by decide), fun h => absurd rfl h.2.2.2.2.2.2.2.2.2.2.2.2.1⟩
  · subst e
    exact ⟨fun h => absurd h (by decide), fun h => absurd h (by decide), fun h => absurd h (by decide), fun h => absurd h (by decide), fun h => absurd h (by decide), fun h => absurd h (by decide), fun h => absurd h (by decide), fun h => absurd h (by decide), fun h => absurd h (by decide), fun h => absurd h (by decide), fun h => absurd h (by decide), fun h => absurd h (by decide), fun h => absurd h (by decide), fun _ => r_toAck hTd h4 ⟨hTd.2.2.1, hS.E⟩, fun h => absurd rfl h.2.2.2.2.2.2.2.2.2.2.2.2.2⟩
  · exact ⟨fun h => absurd h e.1, fun h => absurd h e.2.1, fun h => absurd h e.2.2.1, fun h => absurd h e.2.2.2.1, fun h => absurd h e.2.2.2.2.1, fun h => absurd h e.2.2.2.2.2.1, fun h => absurd h e.2.2.2.2.2.2.1, fun h => absurd h e.2.2.2.2.2.2.2.1, fun h => absurd h e.2.2.2.2.2.2.2.2.1, fun h => absurd h e.2.2.2.2.2.2.2.2.2.1, fun h => absurd h e.2.2.2.2.2.2.2.2.2.2.1, fun h => absurd h e.2.2.2.2.2.2.2.2.2.2.2.1, fun h => absurd h e.2.2.2.2.2.2.2.2.2.2.2.2.1, fun h => absurd h e.2.2.2.2.2.2.2.2.2.2.2.2.2, fun _ => ⟨rfl, hS.E⟩⟩
end OPR
