def cp (n : Nat) (a b : Nat → Int32) : Nat → Int32 := fun k => if k < n then b k else a k
theorem cp_0 (a b : Nat → Int32) : cp 0 a b = a := by funext k; rw [cp, if_neg (by omega)]
theorem cp_s (n : Nat) (a b : Nat → Int32) : upd (cp n a b) n (b n) = cp (n + 1) a b := by
  funext k
  by_cases q : k = n
  · subst q; rw [upd_s, cp, if_pos (by omega)]
  · rw [upd_n _ _ q, cp, cp]
    by_cases z : k < n
    · rw [if_pos z, if_pos (by omega)]
    · rw [if_neg z, if_neg (by omega)]
theorem cp_in {n k : Nat} {a b : Nat → Int32} (h : k < n) : cp n a b k = b k := by rw [cp, if_pos h]
def svS (M : St) : St := va_up (va_up (va_up M 22 (cp 6 (M 22) (M 19))) 23 (cp 6 (M 23) (M 20))) 24 (cp 400 (M 24) (M 21))
theorem r_savesX {M : St} {post : Int32 → St → Prop} (hb : ∀ p, p < 400 → M 21 p = 0 ∨ M 21 p = 1) (h : post (sm (fun k => M 20 k - M 23 k) 6) (svS M)) : wp_X8_saves M post := by
  refine ⟨fun n x y M' => ∃ i, i ≤ 6 ∧ n + i = 6 ∧ y = nI i ∧ x = sm (fun k => M 20 k - M 23 k) i ∧ M' = va_up (va_up M 22 (cp i (M 22) (M 19))) 23 (cp i (M 23) (M 20)), ⟨6, 0, by omega, by omega, rfl, rfl, by rw [cp_0, cp_0, up_id, up_id]⟩, ?_⟩
  rintro n x y M' ⟨i, hi, hn, rfl, rfl, rfl⟩
  rw [l6, le_ (by omega) (by omega), cl_ (n := i) (by omega)]
  refine ⟨fun hc => ?_, fun hc => ?_⟩
  · have : i = 6 := by omega
    subst this
    refine ⟨fun n x M' => ∃ i, i ≤ 400 ∧ n + i = 400 ∧ x = nI i ∧ M' = va_up (va_up (va_up M 22 (cp 6 (M 22) (M 19))) 23 (cp 6 (M 23) (M 20))) 24 (cp i (M 24) (M 21)), ⟨400, 0, by omega, by omega, rfl, ?_⟩, ?_⟩
    · rw [cp_0, show M 24 = (va_up (va_up M 22 (cp 6 (M 22) (M 19))) 23 (cp 6 (M 23) (M 20))) 24 from rfl, up_id]
    · rintro n x M' ⟨i, hi, hn, rfl, rfl⟩
      rw [l400, le_ (by omega) (by omega), cl_ (n := i) (by omega)]
      refine ⟨fun hc => ?_, fun hc => ⟨in_ (by omega) (by omega), in_ (by omega) (by omega), ?_⟩⟩
      · have : i = 400 := by omega
        subst this
        exact h
      · rintro I11 rfl
        refine ⟨n - 1, by omega, i + 1, by omega, by omega, nI_1 i, ?_⟩
        rw [st_up, ← cp_s i (M 24) (M 21)]
        refine congrArg (fun z => va_up (va_up (va_up M 22 (cp 6 (M 22) (M 19))) 23 (cp 6 (M 23) (M 20))) 24 (upd (cp i (M 24) (M 21)) i z)) ?_
        show vp_nar .boolean (M 21 i) = M 21 i
        rcases hb i (by omega) with z | z <;> rw [z] <;> rfl
  · have hv : vp_in (nI i) 6 := in_ (by omega) (by omega)
    refine ⟨hv, hv, hv, hv, ?_⟩
    rintro I10 rfl
    refine ⟨hv, hv, ?_⟩
    rintro I11 rfl
    refine ⟨n - 1, by omega, i + 1, by omega, by omega, nI_1 i, ?_, ?_⟩
    · show sm (fun k => M 20 k - M 23 k) i + (M 20 i - cp i (M 23) (M 20) i) = _
      rw [cp, if_neg (by omega)]; rfl
    · show st (st (va_up (va_up M 22 (cp i (M 22) (M 19))) 23 (cp i (M 23) (M 20))) 22 i (M 19 i)) 23 i (M 20 i) = _
      rw [st_upn _ _ _ _ (by decide), st_up, st_up, cp_s, cp_s]
def StepD (l : Nat) (M M1 : St) : Prop := (∃ s, M 14 l = nI s ∧ 0 < s ∧ s ≤ 40) ∧ ∃ r : Int32, ∀ post : Int32 → St → Prop, post r M1 → wp_X8_delivers M (nI l) 0 0 post
def LaneRun (l : Nat) (M M1 : St) : Prop := ∃ s, Ch (StepD l) s M M1 ∧ M1 14 l = nI 0
def LanesTo : Nat → St → St → Prop
  | 0, a, b => a = b
  | l + 1, a, b => ∃ c, LanesTo l a c ∧ LaneRun l c b
def StepRound (M Mr : St) : Prop := ∃ M1 Ms Ma, LanesTo 3 M M1 ∧ (∃ r : Int32, ∀ post : Int32 → St → Prop, post r Ms → wp_X8_saves M1 post) ∧ (∃ r : Int32, ∀ post : Int32 → St → Prop, post r Ma → wp_X8_acks Ms 1 post) ∧ (∃ r : Int32, ∀ post : Int32 → St → Prop, post r Mr → wp_X8_relays Ma 400 post)
/-- in lane l, i letters of s are delivered: the class still has them in its row -/
def Vir (l s i : Nat) (M I : St) (J : Rf) (LP : List Nat) (P : St) : Prop := I (11 + l) 0 = nI s ∧ s ≤ 40 ∧ i ≤ s ∧ ∃ K ow en fl fi po ma sz LT d dd up ud hd HT, sz l = s - i ∧ Sim K ow en fl fi po ma sz LT d dd up ud hd HT M (st I (11 + l) 0 (nI (s - i))) (va_up J (15 + l) (fun x => J (15 + l) (x + i))) LP P
theorem TS.cg {K : Nat → Nat} {fl : Nat} {d : Nat → Nat} {up hd : Nat} {HT : Nat → Nat} {M I I' : St} {J J' : Rf} (h : TS K fl d up hd HT M I J) (e22 : I' 22 = I 22) (e24 : I' 24 = I 24) (e20 : I' 20 = I 20) (e14 : I' 14 = I 14) (e19 : I' 19 = I 19) (e9 : I' 9 = I 9) (j18 : J' 18 = J 18) (j2 : J' 2 = J 2) : TS K fl d up hd HT M I' J' := by
  unfold TS HeldOK Ct at *
  rw [e22, e24, e20, e14, e19, e9, j18, j2]; exact h
theorem vir_step {l s i : Nat} {M I : St} {J : Rf} {LP : List Nat} {P : St} (hl : l < 3) (h : Vir l s i M I J LP P) (hi : i < s) {pc : Int32 → St → Rf → List Nat → St → Prop} (hpc : ∀ r M' I' J', StepD l M M' → Vir l s (i + 1) M' I' J' LP P → pc r I' J' LP P) : ∃ a, J (15 + l) i = some a ∧ wp_X5_take I J LP P a pc := by
  obtain ⟨v1, v2, v3, K, ow, en, fl, fi, po, ma, sz, LT, d, dd, up, ud, hd, HT, hsz, hS⟩ := h
  obtain ⟨h1, h2, h3, h4⟩ := hS.2.2.2.1 l hl
  obtain ⟨r1, r2, r3, r4, r5, r6⟩ := h4 0 (by omega)
  have jv2 : va_up J (15 + l) (fun x => J (15 + l) (x + i)) 2 = J 2 := up_n _ _ (by omega)
  rw [up_s, jv2, Nat.zero_add] at r6
  obtain ⟨x1, x2, x3, x4, a, x5, x6, -⟩ := hS.1.2.2.1 (LT l 0) (by have := hS.1.1; omega)
  rw [jv2] at x5
  refine ⟨a, by rw [r6]; exact x5, ?_⟩
  obtain ⟨f15, f16, f17, f18, z15, z16, z17, z18⟩ : ∃ f15 f16 f17 f18 : Nat → Int32, ShY (40 * l) 0 (sz l - 1) (M 15) f15 ∧ ShY (40 * l) 0 (sz l - 1) (M 16) f16 ∧ ShY (40 * l) 0 (sz l - 1) (M 17) f17 ∧ ShY (40 * l) 0 (sz l - 1) (M 18) f18 := ⟨_, _, _, _, ShY.mk _ _ _ _, ShY.mk _ _ _ _, ShY.mk _ _ _ _, ShY.mk _ _ _ _⟩
  have hS1 := hS.drop hl (show 0 < sz l by omega) z15 z16 z17 z18 (g := fun x => J (15 + l) (x + (i + 1))) (fun x hx => by rw [up_s, sh_ge (by omega)]; show J (15 + l) (x + (i + 1)) = J (15 + l) (x + 1 + i); rw [show x + 1 + i = x + (i + 1) by omega])
  rw [st_st, hsz, show s - i - 1 = s - (i + 1) by omega, show 11 + l + 4 = 15 + l by omega, bx_uu] at hS1
  obtain ⟨M1, hM1⟩ : ∃ z : St, z = va_up (va_up (va_up (va_up (st M 14 l (nI (s - (i + 1)))) 15 f15) 16 f16) 17 f17) 18 f18 := ⟨_, rfl⟩
  rw [← hM1] at hS1
  have ii : ∀ c, c ≠ 11 + l → st I (11 + l) 0 (nI (s - (i + 1))) c = I c := fun c hc => st_n _ _ _ hc
  have jj : ∀ c, c ≠ 15 + l → va_up J (15 + l) (fun x => J (15 + l) (x + (i + 1))) c = J c := fun c hc => up_n _ _ hc
  have hts : TS K fl d up hd HT M1 I J := hS1.ts.cg (ii 22 (by omega)).symm (ii 24 (by omega)).symm (ii 20 (by omega)).symm (ii 14 (by omega)).symm (ii 19 (by omega)).symm (ii 9 (by omega)).symm (jj 18 (by omega)).symm (jj 2 (by omega)).symm
  have hL1 := hS1.1
  rw [jj 2 (by omega)] at hL1
  have i11 := hS1.2.2.1.2.2.2.2.2.2.1
  rw [ii 1 (by omega)] at i11
  have e8 : M1 8 = M 8 := by rw [hM1]; rfl
  have e9 : M1 9 = M 9 := by rw [hM1]; rfl
  have e10 : M1 10 = M 10 := by rw [hM1]; rfl
  refine take_sim (p := LT l 0) hL1 i11 hts r1 x5 (fun r I' J' fI fJ hh => ?_)
  obtain ⟨M', d', up', hd', HT', run, fM, ht⟩ := hh
  refine hpc r M' I' J' ⟨⟨s - i, by rw [← hsz]; exact h2, by omega, by omega⟩, r, fun post hp => ?_⟩ ⟨by rw [fI _ (by omega)]; exact v1, v2, by omega, K, ow, en, fl, fi, po, ma, _, _, d', dd, up', ud, hd', HT', ?_, hS1.take fM (fun c hc => ?_) (fun c hc => ?_) (ht.cg ?_ ?_ ?_ ?_ ?_ ?_ ?_ ?_)⟩
  · unfold wp_X8_delivers
    have hv : vp_in (nI (40 * l + 0)) 120 := in_ (by omega) (by omega)
    rw [show (40 : Int32) * nI l + 0 = nI (40 * l + 0) from ix40 l 0, cl_ (n := 40 * l + 0) (by omega), r2, r3, r4, r5]
    refine ⟨hv, hv, hv, hv, nbr_f rfl ?_⟩
    show wp_X8_takesOut M (nI l) (nI 0) _
    rw [hsz] at z15 z16 z17 z18 h2
    refine r_takesOut hl h2 (by omega) (by omega) (fun g15 g16 g17 g18 w15 w16 w17 w18 => ?_)
    rw [w15.uq z15, w16.uq z16, w17.uq z17, w18.uq z18, show s - i - 1 = s - (i + 1) by omega, ← hM1]
    rw [e8, e9, e10] at run
    exact run _ hp
  · show (if l = l then s - (i + 1) else sz l) = s - (i + 1)
    rw [if_pos rfl]
  · by_cases q : c = 11 + l
    · subst q; rw [st_s, st_s, fI _ (by omega)]
    · rw [st_n _ _ _ q, ii c q]; exact fI c hc
  · by_cases q : c = 15 + l
    · subst q; rw [up_s, up_s, fJ _ (by omega)]
    · rw [up_n _ _ q, jj c q]; exact fJ c hc
  · exact st_n _ _ _ (by omega)
  · exact st_n _ _ _ (by omega)
  · exact st_n _ _ _ (by omega)
  · exact st_n _ _ _ (by omega)
  · exact st_n _ _ _ (by omega)
  · exact st_n _ _ _ (by omega)
  · exact up_n _ _ (by omega)
  · exact up_n _ _ (by omega)
theorem vir_0 {l : Nat} {M I : St} {J : Rf} {LP : List Nat} {P : St} (hl : l < 3) (hs : SimE M I J LP P) : ∃ s, Vir l s 0 M I J LP P := by
  obtain ⟨K, ow, en, fl, fi, po, ma, sz, LT, d, dd, up, ud, hd, HT, hS⟩ := hs
  obtain ⟨h1, h2, h3, h4⟩ := hS.2.2.2.1 l hl
  refine ⟨sz l, h3, h1, by omega, K, ow, en, fl, fi, po, ma, sz, LT, d, dd, up, ud, hd, HT, by omega, ?_⟩
  rw [st_id I (11 + l) 0 (by rw [h3]; rfl), show (fun x => J (15 + l) (x + 0)) = J (15 + l) from rfl, up_id]
  exact hS
theorem vir_end {l s : Nat} {M I : St} {J : Rf} {LP : List Nat} {P : St} (hl : l < 3) (h : Vir l s s M I J LP P) : M 14 l = nI 0 ∧ SimE M (st I (11 + l) 0 0) J LP P := by
  obtain ⟨v1, v2, v3, K, ow, en, fl, fi, po, ma, sz, LT, d, dd, up, ud, hd, HT, hsz, hS⟩ := h
  rw [Nat.sub_self] at hsz
  rw [Nat.sub_self] at hS
  have jj : ∀ c, c ≠ 15 + l → va_up J (15 + l) (fun x => J (15 + l) (x + s)) c = J c := fun c hc => up_n _ _ hc
  obtain ⟨hL, hc, hN, hR, hT, hTd, hH, hC⟩ := hS
  refine ⟨by rw [(hR l hl).2.1, hsz], K, ow, en, fl, fi, po, ma, sz, LT, d, dd, up, ud, hd, HT, ?_, hc, hN, fun n hn => ?_, hT, hTd, ?_, hC⟩
  · rw [jj 2 (by omega)] at hL; exact hL
  · obtain ⟨h1, h2, h3, h4⟩ := hR n hn
    refine ⟨h1, h2, h3, ?_⟩
    rw [jj 2 (by omega)] at h4
    by_cases q : n = l
    · subst q
      intro x hx; omega
    · rw [jj (15 + n) (by omega)] at h4; exact h4
  · unfold HeldOK at hH ⊢
    rw [jj 2 (by omega), jj 18 (by omega)] at hH; exact hH
theorem all_sim {M I : St} {J : Rf} {LP : List Nat} {P : St} {pc : St → Rf → List Nat → St → Prop} (hs : SimE M I J LP P) (hpc : ∀ M' I' J', LanesTo 3 M M' → SimE M' I' J' LP P → pc I' J' LP P) : wp_X7_deliverAll I J LP P pc := by
  refine ⟨fun n x I' J' LP' P' => LP' = LP ∧ P' = P ∧ ∃ l M', l ≤ 3 ∧ n + l = 3 ∧ x = nI l ∧ LanesTo l M M' ∧ SimE M' I' J' LP P, ⟨3, rfl, rfl, 0, M, by omega, by omega, rfl, rfl, hs⟩, ?_⟩
  rintro n x I' J' LP' P' ⟨rfl, rfl, l, M', hl, hn, rfl, hT, hs'⟩
  rw [l3, le_ (by omega) (by omega), cl_ (n := l) (by omega)]
  refine ⟨fun z => ?_, fun z => ⟨in_ (by omega) (by omega), ?_⟩⟩
  · have : l = 3 := by omega
    subst this; exact hpc M' I' J' hT hs'
  · rintro j rfl
    have hl3 : l < 3 := by omega
    obtain ⟨s, hV⟩ := vir_0 hl3 hs'
    refine ⟨fun n2 x I2 J2 LP2 P2 => LP2 = LP' ∧ P2 = P' ∧ ∃ i M2, n2 + i = s ∧ x = nI i ∧ Ch (StepD l) i M' M2 ∧ Vir l s i M2 I2 J2 LP' P', ⟨s, rfl, rfl, 0, M', by omega, rfl, rfl, hV⟩, ?_⟩
    rintro n2 x I2 J2 LP2 P2 ⟨rfl, rfl, i, M2, hi, rfl, hC, hV2⟩
    have v1 := hV2.1
    have v2 := hV2.2.1
    have fin : i = s → ∀ I1 : St, I1 = st I2 (11 + l) 0 0 → ∃ n21, n21 < n ∧ LP2 = LP2 ∧ P2 = P2 ∧ ∃ l' M3, l' ≤ 3 ∧ n21 + l' = 3 ∧ nI l + 1 = nI l' ∧ LanesTo l' M M3 ∧ SimE M3 I1 J2 LP2 P2 := by
      intro e
      subst e
      rintro I1 rfl
      obtain ⟨e1, e2⟩ := vir_end hl3 hV2
      exact ⟨n - 1, by omega, rfl, rfl, l + 1, M2, by omega, by omega, nI_1 l, ⟨M', hT, i, hC, e1⟩, e2⟩
    rw [l40, le_ (by omega) (by omega)]
    refine ⟨fun z => fin (by omega), fun z => ?_⟩
    rcases Nat.lt_or_ge i s with hlt | hge
    · obtain ⟨a, ha, hw⟩ := vir_step hl3 hV2 hlt (pc := fun r34 I35 J36 LP37 P38 => ∃ n39, n39 < n2 ∧ LP37 = LP2 ∧ P38 = P2 ∧ ∃ i' M3, n39 + i' = s ∧ nI i + 1 = nI i' ∧ Ch (StepD l) i' M' M3 ∧ Vir l s i' M3 I35 J36 LP2 P2) (fun r M3 I3 J3 hst hV3 => ⟨n2 - 1, by omega, rfl, rfl, i + 1, M3, by omega, nI_1 i, hC.snoc hst, hV3⟩)
      refine c_rat1 v1 (by rw [rl40 hl3]; exact v2) hlt (by rw [show 11 + l + 4 = 15 + l by omega]; exact ha) ⟨fun e => (by cases e), fun b e => ?_⟩
      cases e
      exact hw
    · refine c_rat0 v1 (by rw [rl40 hl3]; exact v2) (fun i' hi' e => ?_) ⟨fun _ => fin (by omega), fun b e => (by cases e)⟩
      rw [eq_ (by omega) (by omega)] at e; omega
theorem r_flow {M Me : St} {n : Nat} {post : Int32 → St → Prop} (h1 : 1 ≤ n) (h2 : n ≤ 10) (hC : Ch StepRound n M Me) (h : post (Me 31 0 - M 31 0) Me) : wp_X8_flow M (nI n) post := by
  refine r_in1 (by rw [l1, lt_ (by omega) (by omega)]; omega) (by rw [l10, lt_ (by omega) (by omega)]; omega) (nbr_t (by decide) ?_)
  refine ⟨fun n' x I => ∃ i, x = nI i ∧ i + n' = n ∧ Ch StepRound n' I Me, ⟨n, 0, rfl, by omega, hC⟩, ?_⟩
  rintro n' x I ⟨i, rfl, hi, hch⟩
  rw [le_ (by omega) (by omega)]
  cases n' with
  | zero =>
    cases hch
    exact br_t (by omega) h
  | succ n' =>
    obtain ⟨Mr, ⟨M1, Ms, Ma, hT, ⟨rs, hs⟩, ⟨ra, ha⟩, ⟨rr, hr⟩⟩, hch'⟩ := hch
    refine br_f (by omega) ?_
    obtain ⟨c2, ⟨c1, ⟨c0, e0, hl0⟩, hl1⟩, hl2⟩ := hT
    cases e0
    -- the states at the beginning of each lane
    refine ⟨fun n8 x9 I10 => (n8 = 3 ∧ x9 = nI 0 ∧ I10 = I) ∨ (n8 = 2 ∧ x9 = nI 1 ∧ I10 = c1) ∨ (n8 = 1 ∧ x9 = nI 2 ∧ I10 = c2) ∨ (n8 = 0 ∧ x9 = nI 3 ∧ I10 = M1), ⟨3, Or.inl ⟨rfl, rfl, rfl⟩⟩, ?_⟩
    intro n8 x9 I10 hst
    have lane : ∀ (l : Nat) (A B : St), l < 3 → LaneRun l A B → ∀ (Q : St → Prop), Q B → ∃ V18 : Nat → St → Prop, (∃ n19 : Nat, V18 n19 A) ∧ ∀ (n19 : Nat) (I20 : St), V18 n19 I20 → (vp_in (nI l) 3 ∧ (((I20 14 (nI l).toNatClampNeg) ≤ 0 → Q I20) ∧ (¬ (I20 14 (nI l).toNatClampNeg) ≤ 0 → (wp_X8_delivers I20 (nI l) 0 0 (fun r22 I23 => (∃ n24 : Nat, n24 < n19 ∧ V18 n24 I23)))))) := by
      intro l A B hl3 hrun Q hQ
      obtain ⟨s, hch, hend⟩ := hrun
      refine ⟨fun n I => Ch (StepD l) n I B, ⟨s, hch⟩, ?_⟩
      intro n19 I20 hI
      rw [cl_ (n := l) (by omega)]
      refine ⟨in_ hl3 (by omega), ?_⟩
      cases n19 with
      | zero =>
        cases hI
        exact br_t (by rw [hend]; decide) hQ
      | succ n19 =>
        obtain ⟨M3, ⟨⟨s3, q1, q2, q3⟩, r, hr3⟩, hch3⟩ := hI
        exact br_f (by rw [q1, l0, le_ (by omega) (by omega)]; omega) (hr3 _ ⟨n19, by omega, hch3⟩)
    rcases hst with ⟨rfl, rfl, rfl⟩ | ⟨rfl, rfl, rfl⟩ | ⟨rfl, rfl, rfl⟩ | ⟨rfl, rfl, rfl⟩
    · exact br_f (by decide) (lane 0 _ _ (by omega) hl0 _ ⟨2, by omega, Or.inr (Or.inl ⟨rfl, rfl, rfl⟩)⟩)
    · exact br_f (by decide) (lane 1 _ _ (by omega) hl1 _ ⟨1, by omega, Or.inr (Or.inr (Or.inl ⟨rfl, rfl, rfl⟩))⟩)
    · exact br_f (by decide) (lane 2 _ _ (by omega) hl2 _ ⟨0, by omega, Or.inr (Or.inr (Or.inr ⟨rfl, rfl, rfl⟩))⟩)
    · exact br_t (by decide) (hs _ (ha _ (hr _ ⟨n', by omega, i + 1, nI_1 i, by omega, hch'⟩)))
theorem o_flow {M I : St} {J : Rf} {LP : List Nat} {P : St} (hs : SimE M I J LP P) (p1 : Int32) : wp_X7_flow I J LP P p1 (fun r I' J' LP' P' => wp_X8_flow M p1 (fun r' M' => Same r I' J' LP' P' r' M')) := by
  rcases rng p1 1 10 (by omega) (by omega) with ⟨n, h1, h2, rfl⟩ | ho
  · refine br_f (by rw [l1, lt_ (by omega) (by omega)]; omega) (br_t (by rw [l10, le_ (by omega) (by omega)]; exact h2) ?_)
    refine ⟨fun n' x I' J' LP' P' => LP' = LP ∧ P' = P ∧ ∃ i M', n' + i = n ∧ x = nI i ∧ Ch StepRound i M M' ∧ SimE M' I' J' LP P, ⟨n, rfl, rfl, 0, M, by omega, rfl, rfl, hs⟩, ?_⟩
    rintro n' x I' J' LP' P' ⟨rfl, rfl, i, M', hi, rfl, hC, hs'⟩
    have k31 : ∀ {A B : St} {J'' : Rf}, SimE A B J'' LP' P' → A 31 0 = B 19 0 := fun h => by
      obtain ⟨K, ow, en, fl, fi, po, ma, sz, LT, d, dd, up, ud, hd, HT, hS⟩ := h
      exact hS.2.2.2.2.2.2.2.2.1
    rw [le_ (by omega) (by omega)]
    refine ⟨fun z => ?_, fun z => ?_⟩
    · have e : i = n := by omega
      subst e
      exact r_flow h1 h2 hC ⟨by rw [k31 hs', k31 hs], hs'⟩
    · refine all_sim hs' (fun M1 I1 J1 hT hs1 => ?_)
      obtain ⟨K, ow, en, fl, fi, po, ma, sz, LT, d, dd, up, ud, hd, HT, hS⟩ := hs1
      have hT1 := hS.2.2.2.2.1
      refine c_become (Or.inr ⟨rfl, rfl⟩) (fun f' g' z1 z2 => ?_)
      have hS2 := hS.save (f := cp 6 (M1 22) (M1 19)) (g := cp 6 (M1 23) (M1 20)) (e := cp 400 (M1 24) (M1 21)) (fun k hk => cp_in hk) (fun k hk => cp_in hk) (fun p hp => cp_in hp) z1 z2
      have hTd2 := hS2.2.2.2.2.2.1
      obtain ⟨n5, n6, n7, n12, n13, i12, i11, i10, i90, i91, o1, o2, o3⟩ := hS2.2.2.1
      have hfl : fl ≤ 400 := by have := hS.1.1; have := hS.1.2.1; omega
      have hu := hTd2.2.2.2.1
      have iu := hTd2.2.2.1
      show wp_X2_hear _ _ _ _ (st (va_up (va_up I1 23 f') 25 g') 21 0 (I1 20 0) 21 0) _
      rw [iu]
      refine c_hear i90 i91 (by omega) (by omega) (by omega) ?_
      refine read_sim (n := 400) (by omega) hS2.ack.E (fun m M3 I3 J3 hC3 hm _ _ hs3 => ⟨n' - 1, by omega, rfl, rfl, i + 1, M3, by omega, nI_1 i, hC.snoc ⟨M1, svS M1, _, hT, ⟨_, fun post h => r_savesX (fun p hp => hT1.bit p hp) h⟩, ⟨_, fun post h => r_acks1 hTd2 hfl (by decide) n12 n13 o2 o3 h⟩, ⟨_, fun post h => r_relays (n := 400) hC3 (by omega) hm h⟩⟩, hs3⟩)
  · have fin : wp_X8_flow M p1 (fun r' M' => Same (-1) I J LP P r' M') := r_in0 ho (nbr_f rfl ⟨rfl, hs⟩)
    exact ⟨fun _ => fin, fun h0 => br_f (ho.elim (fun z => absurd z h0) (fun z => Int32.not_le.mpr z)) fin⟩
