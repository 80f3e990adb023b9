theorem FrM.rf {M : St} : FrM M M := fun _ _ => rfl
theorem FrM.tr {M M1 M2 : St} (h1 : FrM M M1) (h2 : FrM M1 M2) : FrM M M2 := fun c hc => (h2 c hc).trans (h1 c hc)
theorem LogOK.fr {K : Nat → Nat} {en fl : Nat} {M M' : St} {j2 : Nat → Option Nat} {LP : List Nat} {P : St} (h : LogOK K en fl (M 8) (M 9) (M 10) (M 11) j2 LP P) (f : FrM M M') : LogOK K en fl (M' 8) (M' 9) (M' 10) (M' 11) j2 LP P := by
  rw [f 8 (by omega), f 9 (by omega), f 10 (by omega), f 11 (by omega)]; exact h
/-- the target does all that follows: class and reference alike -/
theorem follow_sim {K : Nat → Nat} {en fl hd k up : Nat} {d HT : Nat → Nat} {M I : St} {J : Rf} {LP : List Nat} {P : St} {x0 : Int32} (hL : LogOK K en fl (M 8) (M 9) (M 10) (M 11) (J 2) LP P) (i11 : I 1 1 = nI fl) (hk : k < 6) (hW : TW K fl d up hd k HT M I J) (hx : Fnd K k (d k + 1) hd HT x0) {pc : St → Rf → List Nat → St → Prop} (hpc : ∀ I' J', FrI I I' → FrJ J J' → (∃ m xe M' d' up' hd' HT', Ch (StepF k) m (x0, M) (xe, M') ∧ xe < 0 ∧ FrM M M' ∧ TS K fl d' up' hd' HT' M' I' J') → pc I' J' LP P) : wp_X5_doHeldThatFollow I J LP P (nI k) pc := by
  refine ⟨fun n x I' J' LP' P' => LP' = LP ∧ P' = P ∧ FrI I I' ∧ FrJ J J' ∧ ∃ s, n + s = 8 ∧ x = nI s ∧ ∃ m x1 M1 d' up' hd' HT', Ch (StepF k) m (x0, M) (x1, M1) ∧ FrM M M1 ∧ TW K fl d' up' hd' k HT' M1 I' J' ∧ Fnd K k (d' k + 1) hd' HT' x1 ∧ hd' + s ≤ 8, ⟨8, rfl, rfl, fun _ _ => rfl, fun _ _ => rfl, 0, by omega, rfl, 0, x0, M, d, up, hd, HT, rfl, FrM.rf, hW, hx, by have := hW.2.1.1; omega⟩, ?_⟩
  rintro n x I' J' LP' P' ⟨rfl, rfl, fI, fJ, s, hs, rfl, m, x1, M1, d', up', hd', HT', hC, fM, hW', hF, h8⟩
  obtain ⟨hT, hH, hCt⟩ := hW'
  have hL1 : LogOK K en fl (M1 8) (M1 9) (M1 10) (M1 11) (J' 2) LP' P' := by rw [fJ 2 (by omega)]; exact hL.fr fM
  have hfl : fl ≤ 400 := by have := hL.1; have := hL.2.1; omega
  have dk4 : d' k ≤ 400 := (hT.db hfl k hk).2
  have i24 : I' 24 k = nI (d' k) := (hT.1 k hk).2.1
  -- the end: nothing follows
  have fin : (∀ i, i < hd' → ¬ (K (HT' i) = k ∧ cnt K (K (HT' i)) (HT' i) + 1 = d' k + 1)) → pc I' J' LP' P' := by
    intro hno
    have hx1 : x1 = (-1) := by
      rcases hF with ⟨e, _⟩ | ⟨i, hi, _, z, _⟩
      · exact e
      · exact absurd z (hno i hi)
    obtain ⟨w1, w2, w3, w4, w5, w6⟩ := hH
    refine hpc I' J' fI fJ ⟨m, x1, M1, d', up', hd', HT', hC, by rw [hx1]; decide, fM, hT, ⟨w1, w2, w3, w4, fun i hi => ?_, w6⟩, hCt⟩
    obtain ⟨b1, b2⟩ := w5 i hi
    by_cases q : K (HT' i) = k
    · have := hno i hi
      rw [q] at b1 this ⊢
      rcases Nat.lt_or_ge (d' k) (cnt K k (HT' i)) with y | y
      · exact y
      · exact absurd ⟨rfl, by omega⟩ this
    · exact b2 q
  rw [l8, le_ (by omega) (by omega)]
  refine ⟨fun hc => fin (fun i hi => by omega), fun hc => ⟨in_ hk (by omega), ?_⟩⟩
  rw [cl_ (n := k) (by omega), i24, nI_1]
  have hH' := hH
  obtain ⟨w1, w2, w3, w4, w5, w6⟩ := hH
  refine fnd_cls hF w3 w1 w4 hL1 (by omega) (by omega) (fun e => ?_) (fun i hi e hm => ?_)
  · refine c_rat0 (s := hd') w3 (by show hd' ≤ 8; omega) (fun i hi z => absurd z.symm (nI_m9 (by omega))) ⟨fun _ => fin ?_, fun a z => (by cases z)⟩
    rcases hF with ⟨_, z⟩ | ⟨i, hi, z, _⟩
    · exact z
    · rw [e] at z; exact absurd z.symm (m1_ne (by omega))
  · obtain ⟨r1, r2, r3, r4, r5, r6⟩ := w4 i hi
    obtain ⟨y1, y2, y3, y4, a, y5, y6, -⟩ := hL1.2.2.1 (HT' i) (by have := hL.1; omega)
    have ja : J' (14 + 4) i = some a := by show J' 18 i = some a; rw [r6]; exact y5
    refine c_rat1 (s := hd') w3 (by show hd' ≤ 8; omega) hi ja ⟨fun z => (by cases z), fun b z => ?_⟩
    cases z
    refine c_remove (s := hd') w3 (by show hd' ≤ 8; omega) hi (fun x hx => ?_) (fun g hg => ?_)
    · obtain ⟨t1, t2, t3, t4, t5, t6⟩ := w4 x hx
      obtain ⟨v1, v2, v3, v4, a', v5, v6, -⟩ := hL1.2.2.1 (HT' x) (by have := hL.1; omega)
      exact ⟨a', by show J' 18 x = some a'; rw [t6]; exact v5, v6⟩
    · have hcd : cnt K (K (HT' i)) (HT' i) = d' (K (HT' i)) := by
        have e2 := hm.2
        have e1 := hm.1
        rw [e1] at e2 ⊢
        omega
      refine c_doNow (K := K) (d := d') (en := en) (fl := fl) (up := up') (p := HT' i) (I := st I' 14 0 (nI (hd' - 1))) (J := va_up J' (14 + 4) g) hL1 ?_ (fun k' hk' => hT.db hfl k' hk') hT.2.2.1 hT.2.2.2.1 hT.2.2.2.2.1 r1 y5 hcd (fun u u1 u2 u3 => ?_)
      · show I' 1 1 = nI fl
        rw [fI 1 (by omega)]; exact i11
      · obtain ⟨M2, x2, hst, f2, hW2, hF2⟩ := ref_step hL1 ⟨hT, hH', hCt⟩ hk hi hm hg u1 u2 u3
        refine ⟨n - 1, by omega, rfl, rfl, fun c hc' => ?_, fun c hc' => ?_, s + 1, by omega, nI_1 s, m + 1, x2, M2, _, _, _, _, hC.snoc (by rw [e]; exact hst), fM.tr f2, hW2, hF2, by omega⟩
        · rw [st_n _ _ _ (by omega), st_n _ _ _ (by omega), st_n _ _ _ (by omega), st_n _ _ _ (by omega), st_n _ _ _ (by omega)]; exact fI c hc'
        · show va_up J' 18 g c = _
          rw [up_n _ _ hc']; exact fJ c hc'
/-- a letter reaches the target: class and reference alike -/
theorem take_sim {K : Nat → Nat} {en fl hd p a up : Nat} {d HT : Nat → Nat} {M I : St} {J : Rf} {LP : List Nat} {P : St} (hL : LogOK K en fl (M 8) (M 9) (M 10) (M 11) (J 2) LP P) (i11 : I 1 1 = nI fl) (hS : TS K fl d up hd HT M I J) (hp : p < fl) (ha : J 2 p = some a) {pc : Int32 → St → Rf → List Nat → St → Prop} (hpc : ∀ r I' J', FrI I I' → FrJ J J' → (∃ M' d' up' hd' HT', (∀ post : Int32 → St → Prop, post r M' → wp_X8_hears M (M 8 p) (M 10 p) (M 9 p) (nI p) post) ∧ FrM M M' ∧ TS K fl d' up' hd' HT' M' I' J') → pc r I' J' LP P) : wp_X5_take I J LP P a pc := by
  obtain ⟨hT, hH, c1, c2, c3⟩ := hS
  have hfl : fl ≤ 400 := by have := hL.1; have := hL.2.1; omega
  have hL0 := hL
  obtain ⟨L1, L2, L3, L4, L5, L6⟩ := hL
  obtain ⟨x1, x2, x3, x4, a', x5, x6, x7, x8, x9, x10, x11⟩ := L3 p (by omega)
  rw [ha] at x5
  cases x5
  have hcb := cnt_le K (K p) p
  have hdb := hT.db hfl (K p) x1
  have m20 : M 20 (K p) = nI (d (K p)) := (hT.1 _ x1).1
  have hH0 := hH
  obtain ⟨w1, w2, w3, w4, w5, w6⟩ := hH
  have hlog : ∀ p, p < fl → K p < 6 ∧ M 8 p = nI (K p) ∧ M 10 p = nI (cnt K (K p) p + 1) := fun p hp => by
    obtain ⟨a1, a2, a3, -⟩ := L3 p (by omega)
    exact ⟨a1, a2, a3⟩
  have hvk : vp_in (nI (K p)) 6 := in_ x1 (by omega)
  -- TWICE
  have twice : (∀ post : Int32 → St → Prop, post 2 (st M 32 0 (M 32 0 + 1)) → wp_X8_hears M (M 8 p) (M 10 p) (M 9 p) (nI p) post) → pc 2 (st I 19 1 (I 19 1 + 1)) J LP P := fun hr => hpc 2 _ _ (fun c hc => st_n _ _ _ (by omega)) (fun _ _ => rfl) ⟨st M 32 0 (M 32 0 + 1), d, up, hd, HT, hr, fun c hc => st_n _ _ _ (by omega), hT, hH0, c1, by show M 32 0 + 1 = I 19 1 + 1; rw [c2], c3⟩
  unfold wp_X8_hears at twice hpc
  rw [x2, x3, cl_ (n := K p) (by omega), m20, lt_ (by omega) (by omega), nI_1, le_ (by omega) (by omega)] at twice hpc
  refine c_has (K := K) (d := d) (p := p) x1 hdb.1 hdb.2 (by omega) x6 x8 x10 (fun hy => nbr_t (by decide) ?_) (fun hy => nbr_f rfl ⟨x6, x6, ?_⟩)
  · rintro I6 rfl
    refine twice (fun post h => ⟨hvk, br_f (by unfold dn at hy; omega) ?_⟩)
    rintro I25 rfl
    exact h
  · rw [x8, x10]
    obtain ⟨x, hF⟩ := fnd_ex K (K p) (cnt K (K p) p + 1) hd HT
    have hge : d (K p) ≤ cnt K (K p) p := by unfold dn at hy; omega
    refine fnd_cls hF w3 w1 w4 hL0 (by omega) (by omega) (fun e => br_t rfl ⟨x6, x6, ?_⟩) (fun i hi e hm => br_f (nI_m9 (by omega)) ?_)
    · rw [x8, x10, cl_ (n := K p) (by omega), hdb.1, nI_1, eq_ (by omega) (by omega)]
      have hno : ∀ i, i < hd → ¬ (K (HT i) = K p ∧ cnt K (K (HT i)) (HT i) + 1 = cnt K (K p) p + 1) := by
        rcases hF with ⟨_, z⟩ | ⟨i, hi, z, _⟩
        · exact z
        · rw [e] at z; exact absurd z.symm (m1_ne (by omega))
      refine ⟨hvk, fun hgt => ?_, fun heq => ?_⟩
      · -- it is HELD, or LOST
        have rf : ∀ post : Int32 → St → Prop, ((¬ (M 25 0) = 8 → (vp_in (M 25 0) 8 ∧ ∀ I18 : St, I18 = st M 26 (M 25 0).toNatClampNeg (nI (K p)) → (vp_in (I18 25 0) 8 ∧ ∀ I19 : St, I19 = st I18 27 (I18 25 0).toNatClampNeg (nI (cnt K (K p) p + 1)) → (vp_in (I19 25 0) 8 ∧ ∀ I20 : St, I20 = st I19 28 (I19 25 0).toNatClampNeg (M 9 p) → (vp_in (I20 25 0) 8 ∧ ∀ I21 : St, I21 = st I20 29 (I20 25 0).toNatClampNeg (nI p) → (∀ I22 : St, I22 = st I21 25 0 ((I21 25 0) + 1) → (post 3 I22))))))) ∧ ((M 25 0) = 8 → (∀ I23 : St, I23 = st M 33 0 ((M 33 0) + 1) → (post 4 I23)))) → (vp_in (nI (K p)) 6 ∧ ((d (K p) < cnt K (K p) p + 1 → (vp_in (nI (K p)) 6 ∧ ((cnt K (K p) p + 1 ≤ d (K p) + 1 → (wp_X8_does M (nI (K p)) (M 9 p) (nI p) (fun I2 => (vp_in (nI (K p)) 6 ∧ (wp_X8_findHeld I2 (nI (K p)) ((I2 20 (K p)) + 1) (fun r3 I4 => (∃ V5 : Nat → Int32 → St → Prop, (∃ n6 : Nat, V5 n6 r3 I4) ∧ ∀ (n6 : Nat) (x7 : Int32) (I8 : St), V5 n6 x7 I8 → ((x7 < 0 → (post 1 I8)) ∧ (¬ x7 < 0 → (vp_in x7 8 ∧ (vp_in x7 8 ∧ (wp_X8_does I8 (nI (K p)) (I8 28 x7.toNatClampNeg) (I8 29 x7.toNatClampNeg) (fun I10 => (wp_X8_letsGo I10 x7 (fun I12 => (vp_in (nI (K p)) 6 ∧ (wp_X8_findHeld I12 (nI (K p)) ((I12 20 (K p)) + 1) (fun r13 I14 => (∃ n15 : Nat, n15 < n6 ∧ V5 n15 r13 I14))))))))))))))))))) ∧ (¬ cnt K (K p) p + 1 ≤ d (K p) + 1 → (wp_X8_findHeld M (nI (K p)) (nI (cnt K (K p) p + 1)) (fun r16 I17 => ((r16 < 0 → ((¬ (I17 25 0) = 8 → (vp_in (I17 25 0) 8 ∧ ∀ I18 : St, I18 = st I17 26 (I17 25 0).toNatClampNeg (nI (K p)) → (vp_in (I18 25 0) 8 ∧ ∀ I19 : St, I19 = st I18 27 (I18 25 0).toNatClampNeg (nI (cnt K (K p) p + 1)) → (vp_in (I19 25 0) 8 ∧ ∀ I20 : St, I20 = st I19 28 (I19 25 0).toNatClampNeg (M 9 p) → (vp_in (I20 25 0) 8 ∧ ∀ I21 : St, I21 = st I20 29 (I20 25 0).toNatClampNeg (nI p) → (∀ I22 : St, I22 = st I21 25 0 ((I21 25 0) + 1) → (post 3 I22))))))) ∧ ((I17 25 0) = 8 → (∀ I23 : St, I23 = st I17 33 0 ((I17 33 0) + 1) → (post 4 I23))))) ∧ (¬ r16 < 0 → (∀ I24 : St, I24 = st I17 32 0 ((I17 32 0) + 1) → (post 2 I24)))))))))) ∧ (¬ d (K p) < cnt K (K p) p + 1 → (∀ I25 : St, I25 = st M 32 0 ((M 32 0) + 1) → (post 2 I25))))) := by
          intro post h
          refine ⟨hvk, br_t (by omega) ⟨hvk, br_f (by omega) ?_⟩⟩
          exact fnd_ref hF w2 w1 hfl w4 hlog (by omega) (by omega) (br_t (by rw [e]; decide) h)
        unfold wp_X3_isFull
        rw [w3, show (Int32.ofNat (rlen 14)) = nI 8 from rfl, lt_ (by omega) (by omega)]
        refine ⟨fun hlt => br_t rfl ?_, fun hlt => br_f (by decide) ?_⟩
        · unfold wp_X3_add
          rw [w3, show (Int32.ofNat (rlen 14)) = nI 8 from rfl, le_ (by omega) (by omega), cl_ (n := hd) (by omega)]
          refine br_f (by omega) ⟨in_ (by show hd < 8; omega) (by show 8 ≤ 1000000; omega), x6, ?_⟩
          rintro J1 rfl
          rintro I3 rfl
          have hin : vp_in (M 25 0) 8 := by rw [w2]; exact in_ hlt (by omega)
          have hcl : (M 25 0).toNatClampNeg = hd := by rw [w2]; exact cl_ (by omega)
          obtain ⟨M', hM'⟩ : ∃ z : St, z = st (st (st (st (st M 26 hd (nI (K p))) 27 hd (nI (cnt K (K p) p + 1))) 28 hd (M 9 p)) 29 hd (nI p)) 25 0 (M 25 0 + 1) := ⟨_, rfl⟩
          refine hpc 3 _ _ (fun c hc => st_n _ _ _ (by omega)) (fun c hc => stJ_n _ _ _ hc) ⟨M', d, up, hd + 1, fun i => if i = hd then p else HT i, fun post h => rf post (nbr_t (by rw [w2, l8, eq_ (by omega) (by omega)]; omega) ⟨hin, ?_⟩), fun c hc => ?_, ?_, ⟨by omega, ?_, ?_, ?_, ?_, ?_⟩, ?_⟩
          · rintro I18 rfl
            refine ⟨hin, ?_⟩
            rintro I19 rfl
            refine ⟨hin, ?_⟩
            rintro I20 rfl
            refine ⟨hin, ?_⟩
            rintro I21 rfl
            rintro I22 rfl
            have : M' = st (st (st (st (st M 26 (M 25 0).toNatClampNeg (nI (K p))) 27 (M 25 0).toNatClampNeg (nI (cnt K (K p) p + 1))) 28 (M 25 0).toNatClampNeg (M 9 p)) 29 (M 25 0).toNatClampNeg (nI p)) 25 0 (M 25 0 + 1) := by rw [hM', hcl]
            rw [this] at h
            exact h
          · rw [hM', st_n _ _ _ (by omega), st_n _ _ _ (by omega), st_n _ _ _ (by omega), st_n _ _ _ (by omega), st_n _ _ _ (by omega)]
          · rw [hM']; exact hT
          · rw [hM']; show upd (M 25) 0 (M 25 0 + 1) 0 = _; rw [upd_s, w2, nI_1]
          · show upd (I 14) 0 (nI hd + 1) 0 = _; rw [upd_s, nI_1]
          · intro i hi
            rw [hM']
            show (if i = hd then p else HT i) < fl ∧ upd (M 29) hd (nI p) (0 + i) = _ ∧ upd (M 26) hd (nI (K p)) (0 + i) = _ ∧ upd (M 27) hd (nI (cnt K (K p) p + 1)) (0 + i) = _ ∧ upd (M 28) hd (M 9 p) (0 + i) = _ ∧ va_up (J 18) hd (some a) i = J 2 (if i = hd then p else HT i)
            rw [Nat.zero_add]
            by_cases q : i = hd
            · subst q
              simp only [if_true, eq_self_iff_true]
              rw [upd_s, upd_s, upd_s, upd_s, up_s]
              exact ⟨hp, rfl, x2.symm, x3.symm, rfl, ha.symm⟩
            · simp only [if_neg q]
              rw [upd_n _ _ q, upd_n _ _ q, upd_n _ _ q, upd_n _ _ q, up_n _ _ q]
              have := w4 i (by omega)
              rw [Nat.zero_add] at this; exact this
          · intro i hi
            show d (K (if i = hd then p else HT i)) < cnt K (K (if i = hd then p else HT i)) (if i = hd then p else HT i)
            by_cases q : i = hd
            · simp only [if_pos q]; omega
            · simp only [if_neg q]; exact w5 i (by omega)
          · intro i i' hii hi'
            show (if i = hd then p else HT i) ≠ (if i' = hd then p else HT i')
            rw [if_neg (show ¬ i = hd by omega)]
            by_cases q : i' = hd
            · rw [if_pos q]
              exact fun z => hno i (by omega) (by rw [z]; exact ⟨rfl, rfl⟩)
            · rw [if_neg q]; exact w6 i i' hii (by omega)
          · rw [hM']; exact ⟨c1, c2, c3⟩
        · rintro I26 rfl
          refine hpc 4 _ _ (fun c hc => st_n _ _ _ (by omega)) (fun _ _ => rfl) ⟨st M 33 0 (M 33 0 + 1), d, up, hd, HT, fun post h => rf post (nbr_f (by rw [w2, l8, eq_ (by omega) (by omega)]; omega) ?_), fun c hc => st_n _ _ _ (by omega), hT, hH0, c1, c2, ?_⟩
          · rintro I23 rfl
            exact h
          · show M 33 0 + 1 = I 9 3 + (I 19 2 + 1)
            rw [c3, Int32.add_assoc]
      · -- it is DONE, and what follows
        have hcd : cnt K (K p) p = d (K p) := by omega
        refine c_doNow (K := K) (d := d) (en := en) (fl := fl) (up := up) (p := p) hL0 i11 (fun k' hk' => hT.db hfl k' hk') hT.2.2.1 hT.2.2.2.1 hT.2.2.2.2.1 hp ha hcd (fun u u1 u2 u3 => ⟨x6, ?_⟩)
        rw [x8]
        obtain ⟨Md, hMd⟩ : ∃ z : St, z = st (st (st (st M 19 (K p) (M 9 p)) 20 (K p) (M 20 (K p) + 1)) 21 p 1) 31 0 (M 31 0 + 1) := ⟨_, rfl⟩
        have fr : FrM M Md := by
          intro c hc
          rw [hMd, st_n _ _ _ (by omega), st_n _ _ _ (by omega), st_n _ _ _ (by omega), st_n _ _ _ (by omega)]
        have hLd : LogOK K en fl (Md 8) (Md 9) (Md 10) (Md 11) (J 2) LP P := hL0.fr fr
        obtain ⟨xf, hFf⟩ := fnd_ex K (K p) (d1 K d p (K p) + 1) hd HT
        have a19 : Md 19 = upd (M 19) (K p) (M 9 p) := by rw [hMd]; rfl
        have a20 : Md 20 = upd (M 20) (K p) (nI (d (K p) + 1)) := by rw [hMd, ← nI_1, ← m20]; rfl
        have a21 : Md 21 = upd (M 21) p 1 := by rw [hMd]; rfl
        have hTd := hT.do (up' := u) hp x1 hcd u1 u2 u3
        have hrowd : RowOK fl hd HT 0 (Md 29) (Md 26) (Md 27) (Md 28) (Md 8) (Md 9) (Md 10) (J 18) (J 2) := by rw [hMd]; exact w4
        have hWd : TW K fl (d1 K d p) u hd (K p) HT Md (st (st (st (st I 22 (K p) (M 9 p)) 24 (K p) (nI (d (K p) + 1))) 20 0 (nI u)) 19 0 (I 19 0 + 1)) J := by
          refine ⟨?_, ⟨w1, by rw [hMd]; exact w2, w3, hrowd, fun i hi => ?_, w6⟩, ?_, ?_, ?_⟩
          · rw [a19, a20, a21, fr 9 (by omega)]; exact hTd
          · have := w5 i hi
            by_cases q : K (HT i) = K p
            · rw [q, d1_s]
              rw [q] at this
              exact ⟨by omega, fun z => absurd rfl z⟩
            · rw [d1_n q]; exact ⟨by omega, fun _ => this⟩
          · rw [hMd]; show M 31 0 + 1 = I 19 0 + 1; rw [c1]
          · rw [hMd]; exact c2
          · rw [hMd]; exact c3
        have m20d : Md 20 (K p) = nI (d1 K d p (K p)) := by rw [a20, upd_s, d1_s]
        refine follow_sim (I := st (st (st (st I 22 (K p) (M 9 p)) 24 (K p) (nI (d (K p) + 1))) 20 0 (nI u)) 19 0 (I 19 0 + 1)) hLd i11 x1 hWd hFf (fun I' J' e3 e4 hh => ?_)
        obtain ⟨m, xe, M', d', up', hd', HT', hC, hxe, fM', hTS⟩ := hh
        refine hpc 1 _ _ (fun c hc => ?_) e4 ⟨M', d', up', hd', HT', fun post h => ⟨hvk, br_t (by omega) ⟨hvk, br_t (by omega) ?_⟩⟩, fr.tr fM', hTS⟩
        · rw [e3 c hc, st_n _ _ _ (by omega), st_n _ _ _ (by omega), st_n _ _ _ (by omega), st_n _ _ _ (by omega)]
        · refine r_does x1 (by omega) ?_
          rw [← hMd]
          refine ⟨hvk, ?_⟩
          rw [m20d, nI_1]
          have d1b : d1 K d p (K p) + 1 < 1000 := by rw [d1_s]; omega
          refine fnd_ref hFf (by rw [hMd]; exact w2) w1 hfl hrowd (fun q hq => by obtain ⟨b1, b2, b3, -⟩ := hLd.2.2.1 q (by omega); exact ⟨b1, b2, b3⟩) (by omega) d1b ?_
          have := r_follow hC hxe h
          rw [cl_ (n := K p) (by omega)] at this
          exact this
    · rintro I38 rfl
      refine twice (fun post h => ⟨hvk, br_t (by omega) ⟨hvk, br_f ?_ ?_⟩⟩)
      · have := w5 i hi
        have e1 := hm.1
        have e2 := hm.2
        rw [e1] at this e2
        omega
      · refine fnd_ref hF w2 w1 hfl w4 hlog (by omega) (by omega) (br_f (by rw [e]; exact nI_nneg (by omega)) ?_)
        rintro I24 rfl
        exact h
