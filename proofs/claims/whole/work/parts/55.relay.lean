/-- the reference reads the change at place p into lane l, where s letters are -/
def rlS (M : St) (p l s : Nat) : St := st (st (st (st (st (st (st M 15 (40 * l + s) (M 12 0)) 16 (40 * l + s) (M 8 p)) 17 (40 * l + s) (M 10 p)) 18 (40 * l + s) (M 9 p)) 14 l (M 14 l + 1)) 30 0 (M 30 0 + 1)) 12 0 (M 12 0 + 1)
def StepR (M M1 : St) : Prop := ∃ p fl k s, M 12 0 = nI p ∧ M 6 0 = nI fl ∧ p < fl ∧ fl ≤ 400 ∧ M 8 p = nI k ∧ k < 6 ∧ M 14 (k % 3) = nI s ∧ s < 40 ∧ M1 = rlS M p (k % 3) s
def StopR (M : St) : Prop := ∃ p fl, M 12 0 = nI p ∧ M 6 0 = nI fl ∧ p ≤ fl ∧ fl ≤ 400 ∧ (p = fl ∨ ∃ k, M 8 p = nI k ∧ k < 6 ∧ M 14 (k % 3) = nI 40)
theorem rem3 {k : Nat} (hk : k < 6) : nI k - nI k / 3 * 3 = nI (k % 3) := by
  rw [l3]; exact pk_rem (by omega) (by omega) (by omega)
theorem r_relays {M Me : St} {m n : Nat} {post : Int32 → St → Prop} (hC : Ch StepR m M Me) (hn : n ≤ 400) (hm : m = n ∨ (m < n ∧ StopR Me)) (h : post (nI m) Me) : wp_X8_relays M (nI n) post := by
  refine ⟨fun n' x I => ∃ i, x = nI i ∧ i + n' = m ∧ Ch StepR n' I Me, ⟨m, 0, rfl, by omega, hC⟩, ?_⟩
  rintro n' x I ⟨i, rfl, hi, hch⟩
  rw [le_ (by omega) (by omega)]
  cases n' with
  | zero =>
    cases hch
    have e : i = m := by omega
    subst e
    refine ⟨fun _ => h, fun z => ?_⟩
    rcases hm with hm | ⟨_, p, fl, s1, s2, s3, s4, s5⟩
    · omega
    · rw [s1, s2, le_ (by omega) (by omega), cl_ (n := p) (by omega)]
      rcases s5 with s5 | ⟨k, k1, k2, k3⟩
      · exact br_t (by omega) h
      · refine ⟨fun _ => h, fun y => ?_⟩
        rw [k1, rem3 k2, cl_ (n := k % 3) (by omega), k3]
        exact ⟨in_ (by omega) (by omega), in_ (by omega) (by omega), br_t (by rw [l40, le_ (by omega) (by omega)]; omega) h⟩
  | succ n' =>
    obtain ⟨M1, ⟨p, fl, k, s, s1, s2, s3, s4, s5, s6, s7, s8, s9⟩, hch'⟩ := hch
    have hvp : vp_in (I 12 0) 400 := by rw [s1]; exact in_ (by omega) (by omega)
    have hcp : (I 12 0).toNatClampNeg = p := by rw [s1]; exact cl_ (by omega)
    have hke : I 8 (I 12 0).toNatClampNeg - I 8 (I 12 0).toNatClampNeg / 3 * 3 = nI (k % 3) := by rw [hcp, s5]; exact rem3 s6
    have hck : (I 8 (I 12 0).toNatClampNeg - I 8 (I 12 0).toNatClampNeg / 3 * 3).toNatClampNeg = k % 3 := by rw [hke]; exact cl_ (by omega)
    have hvk : vp_in (I 8 (I 12 0).toNatClampNeg - I 8 (I 12 0).toNatClampNeg / 3 * 3) 3 := by rw [hke]; exact in_ (by omega) (by omega)
    have hat : 40 * (I 8 (I 12 0).toNatClampNeg - I 8 (I 12 0).toNatClampNeg / 3 * 3) + I 14 (I 8 (I 12 0).toNatClampNeg - I 8 (I 12 0).toNatClampNeg / 3 * 3).toNatClampNeg = nI (40 * (k % 3) + s) := by rw [hck, hke, s7]; exact ix40 _ _
    have hva : vp_in (40 * (I 8 (I 12 0).toNatClampNeg - I 8 (I 12 0).toNatClampNeg / 3 * 3) + I 14 (I 8 (I 12 0).toNatClampNeg - I 8 (I 12 0).toNatClampNeg / 3 * 3).toNatClampNeg) 120 := by rw [hat]; exact in_ (by omega) (by omega)
    have hca : (40 * (I 8 (I 12 0).toNatClampNeg - I 8 (I 12 0).toNatClampNeg / 3 * 3) + I 14 (I 8 (I 12 0).toNatClampNeg - I 8 (I 12 0).toNatClampNeg / 3 * 3).toNatClampNeg).toNatClampNeg = 40 * (k % 3) + s := by rw [hat]; exact cl_ (by omega)
    refine br_f (by omega) (br_f (by rw [s1, s2, le_ (by omega) (by omega)]; omega) ⟨hvp, hvk, br_f (by rw [hck, s7, l40, le_ (by omega) (by omega)]; omega) ⟨hvp, hvk, hva, ?_⟩⟩)
    rintro I5 rfl
    refine ⟨hvp, hva, ?_⟩
    rintro I6 rfl
    refine ⟨hvp, hva, ?_⟩
    rintro I7 rfl
    refine ⟨hvp, hva, ?_⟩
    rintro I8 rfl
    refine ⟨hvk, hvk, ?_⟩
    rintro I9 rfl
    rintro I10 rfl
    rintro I11 rfl
    refine ⟨n', by omega, i + 1, nI_1 i, by omega, ?_⟩
    have e : M1 = st (st (st (st (st (st (st I 15 (40 * (I 8 (I 12 0).toNatClampNeg - I 8 (I 12 0).toNatClampNeg / 3 * 3) + I 14 (I 8 (I 12 0).toNatClampNeg - I 8 (I 12 0).toNatClampNeg / 3 * 3).toNatClampNeg).toNatClampNeg (I 12 0)) 16 (40 * (I 8 (I 12 0).toNatClampNeg - I 8 (I 12 0).toNatClampNeg / 3 * 3) + I 14 (I 8 (I 12 0).toNatClampNeg - I 8 (I 12 0).toNatClampNeg / 3 * 3).toNatClampNeg).toNatClampNeg (I 8 (I 12 0).toNatClampNeg)) 17 (40 * (I 8 (I 12 0).toNatClampNeg - I 8 (I 12 0).toNatClampNeg / 3 * 3) + I 14 (I 8 (I 12 0).toNatClampNeg - I 8 (I 12 0).toNatClampNeg / 3 * 3).toNatClampNeg).toNatClampNeg (I 10 (I 12 0).toNatClampNeg)) 18 (40 * (I 8 (I 12 0).toNatClampNeg - I 8 (I 12 0).toNatClampNeg / 3 * 3) + I 14 (I 8 (I 12 0).toNatClampNeg - I 8 (I 12 0).toNatClampNeg / 3 * 3).toNatClampNeg).toNatClampNeg (I 9 (I 12 0).toNatClampNeg)) 14 (I 8 (I 12 0).toNatClampNeg - I 8 (I 12 0).toNatClampNeg / 3 * 3).toNatClampNeg (I 14 (I 8 (I 12 0).toNatClampNeg - I 8 (I 12 0).toNatClampNeg / 3 * 3).toNatClampNeg + 1)) 30 0 (I 30 0 + 1)) 12 0 (I 12 0 + 1) := by
      rw [hca, hck, hcp, s9]; rfl
    rw [e] at hch'
    exact hch'
section SR
variable {K ow : Nat → Nat} {en fl fi po ma : Nat} {sz : Nat → Nat} {LT : Nat → Nat → Nat} {d dd : Nat → Nat} {up ud hd : Nat} {HT : Nat → Nat} {M I : St} {J : Rf} {LP : List Nat} {P : St}
/-- one change is read on, on both sides -/
theorem Sim.read (h : Sim K ow en fl fi po ma sz LT d dd up ud hd HT M I J LP P) (hp : po < fl) (hs : sz (K po % 3) < 40) {a : Nat} (ha : J 2 po = some a) : Sim K ow en fl fi (po + 1) ma (fun n => if n = K po % 3 then sz (K po % 3) + 1 else sz n) (fun n x => if n = K po % 3 ∧ x = sz (K po % 3) then po else LT n x) d dd up ud hd HT (rlS M po (K po % 3) (sz (K po % 3))) (st (st (st I (11 + K po % 3) 0 (nI (sz (K po % 3)) + 1)) 9 0 (nI po + 1)) 9 2 (I 9 2 + 1)) (stJ J (11 + K po % 3 + 4) (sz (K po % 3)) (some a)) LP P := by
  obtain ⟨hL, hc, hN, hR, hT, hTd, hH, hC⟩ := h
  obtain ⟨n5, n6, n7, n12, n13, i12, i11, i10, i90, i91, o1, o2, o3⟩ := hN
  obtain ⟨x1, x2, x3, x4, a', x5, x6, x7, x8, x9, x10, x11⟩ := hL.2.2.1 po (by have := hL.1; omega)
  obtain ⟨l, hl⟩ : ∃ l, l = K po % 3 := ⟨_, rfl⟩
  have hl3 : l < 3 := by omega
  rw [← hl] at hs ⊢
  have j2 : stJ J (11 + l + 4) (sz l) (some a) 2 = J 2 := stJ_n _ _ _ (by omega)
  have j18 : stJ J (11 + l + 4) (sz l) (some a) 18 = J 18 := stJ_n _ _ _ (by omega)
  have ii : ∀ c, c < 9 ∨ c = 10 ∨ 14 ≤ c → st (st (st I (11 + l) 0 (nI (sz l) + 1)) 9 0 (nI po + 1)) 9 2 (I 9 2 + 1) c = I c := fun c hc' => by rw [st_n _ _ _ (by omega), st_n _ _ _ (by omega), st_n _ _ _ (by omega)]
  have i9 : ∀ x, st (st (st I (11 + l) 0 (nI (sz l) + 1)) 9 0 (nI po + 1)) 9 2 (I 9 2 + 1) 9 x = upd (upd (I 9) 0 (nI po + 1)) 2 (I 9 2 + 1) x := fun x => by rw [st_s, st_s, st_n _ _ _ (by omega)]
  have mm : ∀ c, c ≠ 12 → c ≠ 30 → c ≠ 14 → c ≠ 15 → c ≠ 16 → c ≠ 17 → c ≠ 18 → rlS M po l (sz l) c = M c := fun c a1 a2 a3 a4 a5 a6 a7 => by rw [rlS, st_n _ _ _ a1, st_n _ _ _ a2, st_n _ _ _ a3, st_n _ _ _ a7, st_n _ _ _ a6, st_n _ _ _ a5, st_n _ _ _ a4]
  refine ⟨?_, ?_, ?_, ?_, ?_, ?_, ?_, ?_⟩
  · rw [j2]; exact hL
  · rw [ii 4 (by omega), ii 5 (by omega), ii 6 (by omega), ii 7 (by omega), ii 8 (by omega)]; exact hc
  · refine ⟨n5, n6, n7, ?_, n13, ?_, ?_, ?_, ?_, ?_, o1, by omega, by omega⟩
    · show upd (M 12) 0 (M 12 0 + 1) 0 = _
      rw [upd_s, n12, nI_1]
    · rw [ii 1 (by omega)]; exact i12
    · rw [ii 1 (by omega)]; exact i11
    · rw [ii 1 (by omega)]; exact i10
    · rw [i9, upd_n _ _ (by decide), upd_s, nI_1]
    · rw [i9, upd_n _ _ (by decide), upd_n _ _ (by decide)]; exact i91
  · intro n hn
    obtain ⟨h1, h2, h3, h4⟩ := hR n hn
    have m8 : rlS M po l (sz l) 8 = M 8 := rfl
    have m9 : rlS M po l (sz l) 9 = M 9 := rfl
    have m10 : rlS M po l (sz l) 10 = M 10 := rfl
    have m14 : rlS M po l (sz l) 14 = upd (M 14) l (M 14 l + 1) := rfl
    have m15 : rlS M po l (sz l) 15 = upd (M 15) (40 * l + sz l) (M 12 0) := rfl
    have m16 : rlS M po l (sz l) 16 = upd (M 16) (40 * l + sz l) (M 8 po) := rfl
    have m17 : rlS M po l (sz l) 17 = upd (M 17) (40 * l + sz l) (M 10 po) := rfl
    have m18 : rlS M po l (sz l) 18 = upd (M 18) (40 * l + sz l) (M 9 po) := rfl
    rw [m8, m9, m10, m14, m15, m16, m17, m18, j2]
    by_cases e : n = l
    · subst e
      simp only [if_true, eq_self_iff_true, true_and]
      refine ⟨by omega, by rw [upd_s, h2, nI_1], by rw [st_n _ _ _ (by omega), st_n _ _ _ (by omega), st_s, upd_s, nI_1], fun x hx => ?_⟩
      have jn : stJ J (11 + n + 4) (sz n) (some a) (15 + n) = va_up (J (15 + n)) (sz n) (some a) := by rw [show 11 + n + 4 = 15 + n by omega, stJ_s]
      rw [jn]
      by_cases q : x = sz n
      · subst q
        simp only [if_true, eq_self_iff_true]
        rw [upd_s, upd_s, upd_s, upd_s, up_s]
        exact ⟨hp, n12, rfl, rfl, rfl, ha.symm⟩
      · simp only [if_neg q]
        rw [upd_n _ _ (by omega), upd_n _ _ (by omega), upd_n _ _ (by omega), upd_n _ _ (by omega), up_n _ _ q]
        exact h4 x (by omega)
    · simp only [if_neg e, e, false_and, if_false]
      refine ⟨h1, by rw [upd_n _ _ e]; exact h2, by rw [st_n _ _ _ (by omega), st_n _ _ _ (by omega), st_n _ _ _ (by omega)]; exact h3, fun x hx => ?_⟩
      have jn : stJ J (11 + l + 4) (sz l) (some a) (15 + n) = J (15 + n) := stJ_n _ _ _ (by omega)
      rw [jn, upd_n _ _ (by omega), upd_n _ _ (by omega), upd_n _ _ (by omega), upd_n _ _ (by omega)]
      exact h4 x hx
  · rw [ii 22 (by omega), ii 24 (by omega), ii 20 (by omega)]; exact hT
  · rw [ii 23 (by omega), ii 25 (by omega), ii 21 (by omega)]; exact hTd
  · unfold HeldOK
    rw [ii 14 (by omega), j2, j18]; exact hH
  · obtain ⟨k30, k31, k32, k33, k34⟩ := hC
    refine ⟨?_, ?_, ?_, ?_, ?_⟩
    · rw [i9, upd_s]
      show M 30 0 + 1 = _
      rw [k30]
    · rw [ii 19 (by omega)]; exact k31
    · rw [ii 19 (by omega)]; exact k32
    · rw [ii 19 (by omega), i9, upd_n _ _ (by decide), upd_n _ _ (by decide)]; exact k33
    · rw [ii 0 (by omega)]; exact k34
end SR
/-- THE RELAY reads on: class and reference alike -/
theorem read_sim {M I : St} {J : Rf} {LP : List Nat} {P : St} {n : Nat} {pc : Int32 → St → Rf → List Nat → St → Prop} (hn : n ≤ 400) (hs : SimE M I J LP P) (hpc : ∀ m M' I' J', Ch StepR m M M' → (m = n ∨ (m < n ∧ StopR M')) → I' 19 0 = I 19 0 → M' 31 0 = M 31 0 → SimE M' I' J' LP P → pc (nI m) I' J' LP P) : wp_X2_readOn I J LP P (nI n) pc := by
  refine ⟨fun n' x I' J' LP' P' => LP' = LP ∧ P' = P ∧ ∃ m M', n' + m = n ∧ x = nI m ∧ Ch StepR m M M' ∧ I' 19 0 = I 19 0 ∧ M' 31 0 = M 31 0 ∧ SimE M' I' J' LP P, ⟨n, rfl, rfl, 0, M, by omega, rfl, rfl, rfl, rfl, hs⟩, ?_⟩
  rintro n' x I' J' LP' P' ⟨rfl, rfl, m, M', hm, rfl, hC, q19, q31, hs'⟩
  rw [le_ (by omega) (by omega)]
  refine ⟨fun z => hpc m M' I' J' hC (Or.inl (by omega)) q19 q31 hs', fun z => ?_⟩
  have hsE := hs'
  obtain ⟨K, ow, en, fl, fi, po, ma, sz, LT, d, dd, up, ud, hd, HT, hS⟩ := hs'
  have hL := hS.1
  obtain ⟨n5, n6, n7, n12, n13, i12, i11, i10, i90, i91, o1, o2, o3⟩ := hS.2.2.1
  have hfl : fl ≤ 400 := by have := hL.1; have := hL.2.1; omega
  unfold wp_X2_readOne
  rw [i90]
  rcases Nat.lt_or_ge po fl with hlt | hge
  · obtain ⟨x1, x2, x3, x4, a, x5, x6, x7, x8, x9, x10, x11⟩ := hL.2.2.1 po (by have := hL.1; omega)
    refine c_fat1 i11 hfl hlt x5 ⟨fun z => (by cases z), fun b e => ?_⟩
    cases e
    rw [x8, rem3 x1, cl_ (n := K po % 3) (by omega)]
    refine ⟨x6, in_ (by omega) (by omega), ?_⟩
    rintro j rfl
    have hl3 : K po % 3 < 3 := by omega
    obtain ⟨h1, h2, h3, h4⟩ := hS.2.2.2.1 (K po % 3) hl3
    have r40 : Int32.ofNat (rlen (11 + K po % 3)) = nI 40 := by rw [rl40 hl3]; rfl
    unfold wp_X3_isFull
    rw [h3, r40, lt_ (by omega) (by omega)]
    refine ⟨fun hlt4 => br_t rfl ?_, fun hge4 => br_f (by decide) ?_⟩
    · unfold wp_X3_add
      rw [h3, r40, le_ (by omega) (by omega), cl_ (n := sz (K po % 3)) (by omega)]
      refine br_f (by omega) ⟨in_ (by rw [rl40 hl3]; exact hlt4) (by rw [rl40 hl3]; omega), x6, ?_⟩
      rintro J1 rfl
      rintro I3 rfl
      have e90 : st I' (11 + K po % 3) 0 (nI (sz (K po % 3)) + 1) 9 = I' 9 := st_n _ _ _ (by omega)
      rintro I19 rfl
      rintro I20 rfl
      have e92 : st (st I' (11 + K po % 3) 0 (nI (sz (K po % 3)) + 1)) 9 0 (nI po + 1) 9 2 = I' 9 2 := by rw [st_s, upd_n _ _ (by decide), e90]
      rw [e90, i90, e92]
      refine br_f (by decide) ⟨n' - 1, by omega, rfl, rfl, m + 1, rlS M' po (K po % 3) (sz (K po % 3)), by omega, nI_1 m, hC.snoc ⟨po, fl, K po, sz (K po % 3), n12, n6, hlt, hfl, x2, x1, h2, hlt4, rfl⟩, ?_, ?_, (hS.read hlt hlt4 x5).E⟩
      · rw [st_n _ _ _ (by omega), st_n _ _ _ (by omega), st_n _ _ _ (by omega)]; exact q19
      · show M' 31 0 = _; exact q31
    · exact br_t rfl (hpc m M' I' J' hC (Or.inr ⟨by omega, po, fl, n12, n6, by omega, hfl, Or.inr ⟨K po, x2, x1, by rw [h2]; rw [show sz (K po % 3) = 40 by omega]⟩⟩) q19 q31 hsE)
  · exact c_fat0 i11 hfl hge (by omega) ⟨fun _ => br_t rfl (hpc m M' I' J' hC (Or.inr ⟨by omega, po, fl, n12, n6, by omega, hfl, Or.inl (by omega)⟩) q19 q31 hsE), fun b e => (by cases e)⟩
theorem rng (p : Int32) (lo hi : Nat) (h : lo ≤ hi) (hh : hi < 1000000) : (∃ n, lo ≤ n ∧ n ≤ hi ∧ p = nI n) ∨ (p < nI lo ∨ nI hi < p) := by
  by_cases h1 : p < nI lo
  · exact Or.inr (Or.inl h1)
  · by_cases h2 : nI hi < p
    · exact Or.inr (Or.inr h2)
    · by_cases h0 : p < 0
      · exact absurd (Int32.lt_of_lt_of_le h0 (nI_pos' (by omega))) h1
      · obtain ⟨j, hj, e⟩ := num_of h0 h2 hh
        subst e
        rw [lt_ (by omega) (by omega)] at h1
        exact Or.inl ⟨j, by omega, hj, rfl⟩
theorem o_relay {M I : St} {J : Rf} {LP : List Nat} {P : St} (hs : SimE M I J LP P) (p1 : Int32) : wp_X7_relay I J LP P p1 (fun r I' J' LP' P' => wp_X8_relay M p1 (fun r' M' => Same r I' J' LP' P' r' M')) := by
  rcases rng p1 1 20 (by omega) (by omega) with ⟨n, h1, h2, rfl⟩ | ho
  · refine br_f (by rw [l1, lt_ (by omega) (by omega)]; omega) (br_t (by rw [l20, le_ (by omega) (by omega)]; exact h2) ?_)
    refine read_sim (by omega) hs (fun m M' I' J' hC hm _ _ hs' => ?_)
    exact r_in1 (by rw [l1, lt_ (by omega) (by omega)]; omega) (by rw [l20, lt_ (by omega) (by omega)]; omega) (br_f (by decide) (r_relays hC (by omega) hm ⟨rfl, hs'⟩))
  · have fin : wp_X8_relay M p1 (fun r' M' => Same (-1) I J LP P r' M') := r_in0 ho (br_t rfl ⟨rfl, hs⟩)
    exact ⟨fun _ => fin, fun h0 => br_f (ho.elim (fun z => absurd z h0) (fun z => Int32.not_le.mpr z)) fin⟩
