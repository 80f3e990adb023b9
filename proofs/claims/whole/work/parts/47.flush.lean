/-- the values behind n more places flushed -/
def vfl (K : Nat → Nat) (m9 v0 : Nat → Int32) (fl : Nat) : Nat → Nat → Int32
  | 0 => v0
  | n + 1 => upd (vfl K m9 v0 fl n) (K (fl + n)) (m9 (fl + n))
theorem vfl_eq {K : Nat → Nat} {m9 v0 v1 : Nat → Int32} {fl : Nat} (h : ∀ k, k < 6 → v0 k = v1 k) (n : Nat) : ∀ k, k < 6 → vfl K m9 v0 fl n k = vfl K m9 v1 fl n k := by
  induction n with
  | zero => exact h
  | succ n ih =>
    intro k hk
    simp only [vfl, upd]
    rw [ih k hk]
def owf (K ow : Nat → Nat) (fl : Nat) : Nat → Nat → Nat
  | 0 => ow
  | n + 1 => fun k => if k = K (fl + n) then 5 else owf K ow fl n k
theorem owf_or (K ow : Nat → Nat) (fl n k : Nat) : owf K ow fl n k = 5 ∨ owf K ow fl n k = ow k := by
  induction n with
  | zero => exact Or.inr rfl
  | succ n ih =>
    simp only [owf]
    split
    · exact Or.inl rfl
    · exact ih
theorem owf_in {K ow : Nat → Nat} {fl n k p : Nat} (h1 : fl ≤ p) (h2 : p < fl + n) (hk : K p = k) : owf K ow fl n k = 5 := by
  induction n with
  | zero => omega
  | succ n ih =>
    simp only [owf]
    rcases Nat.lt_or_ge p (fl + n) with z | z
    · split
      · rfl
      · exact ih z
    · have : p = fl + n := by omega
      subst this
      rw [if_pos hk.symm]
theorem c_at1 {I : St} {J : Rf} {LP : List Nat} {P : St} {post : Option Nat → St → Rf → List Nat → St → Prop} {en p a : Nat} (he : I 1 2 = nI en) (h4 : en ≤ 400) (hp : p < en) (ha : J 2 p = some a) (h : post (some a) I J LP P) : wp_X1_at I J LP P (nI p) post := by
  unfold wp_X1_at
  rw [he, cl_ (n := p) (by omega), ha]
  refine br_f (nI_nneg (by omega)) (br_f (by rw [le_ (by omega) (by omega)]; omega) ⟨in_ (by omega) (by omega), fun z => (by cases z), fun b e => ?_⟩)
  cases e; exact h
theorem c_at0 {I : St} {J : Rf} {LP : List Nat} {P : St} {post : Option Nat → St → Rf → List Nat → St → Prop} {en : Nat} {p : Int32} (he : I 1 2 = nI en) (h4 : en ≤ 400) (hp : ∀ j, j < en → p ≠ nI j) (h : post none I J LP P) : wp_X1_at I J LP P p post := by
  unfold wp_X1_at
  rw [he]
  rcases ge_out (by omega) hp with z | z
  · exact br_t z h
  · exact ⟨fun _ => h, fun _ => br_t z h⟩
theorem c_fat1 {I : St} {J : Rf} {LP : List Nat} {P : St} {post : Option Nat → St → Rf → List Nat → St → Prop} {fl p a : Nat} (he : I 1 1 = nI fl) (h4 : fl ≤ 400) (hp : p < fl) (ha : J 2 p = some a) (h : post (some a) I J LP P) : wp_X1_flushedAt I J LP P (nI p) post := by
  unfold wp_X1_flushedAt
  rw [he, cl_ (n := p) (by omega), ha]
  refine br_f (nI_nneg (by omega)) (br_f (by rw [le_ (by omega) (by omega)]; omega) ⟨in_ (by omega) (by omega), fun z => (by cases z), fun b e => ?_⟩)
  cases e; exact h
theorem c_fat0 {I : St} {J : Rf} {LP : List Nat} {P : St} {post : Option Nat → St → Rf → List Nat → St → Prop} {fl p : Nat} (he : I 1 1 = nI fl) (h4 : fl ≤ 400) (hp : fl ≤ p) (hp4 : p < 1000000) (h : post none I J LP P) : wp_X1_flushedAt I J LP P (nI p) post := by
  unfold wp_X1_flushedAt
  rw [he]
  exact ⟨fun _ => h, fun _ => br_t (by rw [le_ (by omega) (by omega)]; exact hp) h⟩
theorem r_flush {M : St} {K : Nat → Nat} {en fl : Nat} {post : Int32 → St → Prop} (n5 : M 5 0 = nI en) (n6 : M 6 0 = nI fl) (h1 : fl ≤ en) (h4 : en ≤ 400) (hk : ∀ p, p < en → K p < 6 ∧ M 8 p = nI (K p)) (hc : ∀ k, k < 6 → M 4 k = nI (cnt K k fl)) (h : ∀ M', (∀ c, c ≠ 3 → c ≠ 4 → c ≠ 6 → M' c = M c) → M' 6 0 = nI en → M' 3 = vfl K (M 9) (M 3) fl (en - fl) → (∀ k, k < 6 → M' 4 k = nI (cnt K k en)) → post (nI en - nI fl) M') : wp_X8_flush M post := by
  refine ⟨fun n M' => ∃ j, fl + j ≤ en ∧ n + j = en - fl ∧ (∀ c, c ≠ 3 → c ≠ 4 → c ≠ 6 → M' c = M c) ∧ M' 6 0 = nI (fl + j) ∧ M' 3 = vfl K (M 9) (M 3) fl j ∧ (∀ k, k < 6 → M' 4 k = nI (cnt K k (fl + j))), ⟨en - fl, 0, by omega, by omega, fun _ _ _ _ => rfl, n6, rfl, hc⟩, ?_⟩
  rintro n M' ⟨j, hj, hn, a1, a2, a3, a4⟩
  have e5 : M' 5 0 = nI en := by rw [a1 5 (by decide) (by decide) (by decide)]; exact n5
  refine ⟨fun z => ?_, fun z => ?_⟩
  · rw [e5, a2, le_ (by omega) (by omega)] at z
    have : fl + j = en := by omega
    rw [n5, n6]
    rw [show j = en - fl by omega] at a3
    rw [this] at a2 a4
    exact h M' a1 a2 a3 a4
  · rw [e5, a2, le_ (by omega) (by omega)] at z
    obtain ⟨k1, k2⟩ := hk (fl + j) (by omega)
    have e8 : M' 8 = M 8 := a1 8 (by decide) (by decide) (by decide)
    have i6 : vp_in (M' 6 0) 400 := by rw [a2]; exact in_ (by omega) (by omega)
    have c6 : (M' 6 0).toNatClampNeg = fl + j := by rw [a2]; exact cl_ (by omega)
    have ik : vp_in (M' 8 (M' 6 0).toNatClampNeg) 6 := by rw [c6, e8, k2]; exact in_ k1 (by omega)
    have ck : (M' 8 (M' 6 0).toNatClampNeg).toNatClampNeg = K (fl + j) := by rw [c6, e8, k2]; exact cl_ (by omega)
    refine ⟨i6, i6, ik, ?_⟩
    rintro I4 rfl
    refine ⟨i6, ik, ik, ?_⟩
    rintro I5 rfl
    rintro I6 rfl
    refine ⟨n - 1, by omega, j + 1, by omega, by omega, fun c b1 b2 b3 => ?_, ?_, ?_, fun k hk' => ?_⟩
    · rw [st_n _ _ _ b3, st_n _ _ _ b2, st_n _ _ _ b1]; exact a1 c b1 b2 b3
    · show upd (M' 6) 0 (M' 6 0 + 1) 0 = _
      rw [upd_s, a2, nI_1]; rfl
    · show upd (M' 3) (M' 8 (M' 6 0).toNatClampNeg).toNatClampNeg (M' 9 (M' 6 0).toNatClampNeg) = _
      rw [ck, c6, a1 9 (by decide) (by decide) (by decide), a3]; rfl
    · show upd (M' 4) (M' 8 (M' 6 0).toNatClampNeg).toNatClampNeg (M' 4 (M' 8 (M' 6 0).toNatClampNeg).toNatClampNeg + 1) k = _
      rw [ck, ← Nat.add_assoc, cnt_s]
      by_cases q : k = K (fl + j)
      · subst q; rw [upd_s, a4 _ k1, nI_1, if_pos rfl]
      · rw [upd_n _ _ q, a4 k hk', if_neg (fun z => q z.symm)]; rfl
theorem c_flush {I : St} {J : Rf} {LP : List Nat} {P : St} {post : Int32 → St → Rf → List Nat → St → Prop} {K ow : Nat → Nat} {en fl : Nat} {m8 m9 m10 m11 : Nat → Int32} (hL : LogOK K en fl m8 m9 m10 m11 (J 2) LP P) (i12 : I 1 2 = nI en) (i11 : I 1 1 = nI fl) (hc : ∀ k, k < 6 → I 5 k = nI (cnt K k fl)) (ho : ∀ k, k < 6 → I 6 k = own32 (ow k)) (h : ∀ I', (∀ c, c ≠ 4 → c ≠ 5 → c ≠ 6 → I' c = I c) → I' 4 = vfl K m9 (I 4) fl (en - fl) → (∀ k, k < 6 → I' 5 k = nI (cnt K k en)) → (∀ k, k < 6 → I' 6 k = own32 (owf K ow fl (en - fl) k)) → post (nI en - nI fl) (st I' 1 1 (nI en)) J LP P) : wp_X7_flush I J LP P post := by
  obtain ⟨L1, L2, L3, -⟩ := hL
  refine ⟨fun n x I' J' LP' P' => ∃ j, fl + j ≤ en ∧ n + j = en - fl ∧ x = nI (fl + j) ∧ J' = J ∧ LP' = LP ∧ P' = P ∧ (∀ c, c ≠ 4 → c ≠ 5 → c ≠ 6 → I' c = I c) ∧ I' 4 = vfl K m9 (I 4) fl j ∧ (∀ k, k < 6 → I' 5 k = nI (cnt K k (fl + j))) ∧ (∀ k, k < 6 → I' 6 k = own32 (owf K ow fl j k)), ⟨en - fl, 0, by omega, by omega, i11, rfl, rfl, rfl, fun _ _ _ _ => rfl, rfl, hc, ho⟩, ?_⟩
  rintro n x I' J' LP' P' ⟨j, hj, hn, rfl, rfl, rfl, rfl, a1, a2, a3, a4⟩
  have e1 : I' 1 = I 1 := a1 1 (by decide) (by decide) (by decide)
  have fin : fl + j = en → ∀ I8 : St, I8 = st I' 1 1 (I' 1 2) → post (I8 1 1 - I 1 1) I8 J' LP' P' := by
    intro e
    rintro I8 rfl
    rw [st_s, upd_s, e1, i12, i11]
    rw [show j = en - fl by omega] at a2 a4
    rw [e] at a3
    exact h I' a1 a2 a3 a4
  rw [l400, le_ (by omega) (by omega)]
  refine ⟨fun z => fin (by omega), fun z => ?_⟩
  rcases Nat.lt_or_ge (fl + j) en with hlt | hge
  · obtain ⟨x1, x2, x3, x4, a, x5, x6, x7, x8, x9, x10, x11⟩ := L3 (fl + j) hlt
    refine c_at1 (en := en) (by rw [e1]; exact i12) L2 hlt x5 ⟨fun z => (by cases z), fun b e => ?_⟩
    cases e
    have ik : vp_in (P' a 1) 6 := by rw [x8]; exact in_ x1 (by omega)
    have ck : (P' a 1).toNatClampNeg = K (fl + j) := by rw [x8]; exact cl_ (by omega)
    refine ⟨x6, x6, ik, ?_⟩
    rintro I18 rfl
    refine ⟨x6, x6, ik, ?_⟩
    rintro I21 rfl
    refine ⟨x6, ik, ?_⟩
    rintro I23 rfl
    refine ⟨n - 1, by omega, j + 1, by omega, by omega, nI_1 _, rfl, rfl, rfl, fun c b1 b2 b3 => ?_, ?_, fun k hk => ?_, fun k hk => ?_⟩
    · rw [st_n _ _ _ b3, st_n _ _ _ b2, st_n _ _ _ b1]; exact a1 c b1 b2 b3
    · show upd (I' 4) (P' a 1).toNatClampNeg (P' a 2) = _
      rw [ck, x9, a2]; rfl
    · show upd (I' 5) (P' a 1).toNatClampNeg (P' a 3) k = _
      rw [ck, x10, ← Nat.add_assoc, cnt_s]
      by_cases q : k = K (fl + j)
      · subst q; rw [upd_s, if_pos rfl]
      · rw [upd_n _ _ q, a3 k hk, if_neg (fun z => q z.symm)]; rfl
    · show upd (I' 6) (P' a 1).toNatClampNeg (-1) k = own32 (if k = K (fl + j) then 5 else owf K ow fl j k)
      rw [ck]
      by_cases q : k = K (fl + j)
      · subst q; rw [upd_s, if_pos rfl]; rfl
      · rw [upd_n _ _ q, if_neg q]; exact a4 k hk
  · refine c_at0 (en := en) (by rw [e1]; exact i12) L2 (fun i hi e => ?_) ⟨fun _ => fin (by omega), fun b e => (by cases e)⟩
    rw [eq_ (by omega) (by omega)] at e; omega
theorem TgOK.fl {K : Nat → Nat} {fl fl' : Nat} {d : Nat → Nat} {up : Nat} {mv md mh m9 iv id : Nat → Int32} {iu : Int32} (h : TgOK K fl d up mv md mh m9 iv id iu) (hf : fl ≤ fl') (hk : ∀ p, p < fl' → K p < 6) : TgOK K fl' d up mv md mh m9 iv id iu := by
  obtain ⟨h1, h2, h3, h4, h5, h6⟩ := h
  have nd : ∀ p, fl ≤ p → p < fl' → ¬ dn K d p := fun p a b z => by
    have c1 := (h1 (K p) (hk p b)).2.2.2.1
    have c2 := cnt_mono K (K p) a
    unfold dn at z; omega
  refine ⟨fun k hk' => ?_, fun p hp => ?_, h3, by omega, h5, fun z => ?_⟩
  · obtain ⟨a1, a2, a3, a4, a5⟩ := h1 k hk'
    have := cnt_mono K k hf
    exact ⟨a1, a2, a3, by omega, a5.imp (fun z => z) fun ⟨p, b1, b2⟩ => ⟨p, by omega, b2⟩⟩
  · rcases h2 p hp with ⟨b1, b2, b3⟩ | ⟨b1, b2⟩
    · exact Or.inl ⟨by omega, b2, b3⟩
    · refine Or.inr ⟨fun z => ?_, b2⟩
      rcases Nat.lt_or_ge p fl with y | y
      · exact b1 ⟨y, z.2⟩
      · exact nd p y z.1 z.2
  · rcases Nat.lt_or_ge up fl with y | y
    · exact h6 ⟨y, z.2⟩
    · exact nd up y z.1 z.2
theorem HeldOK.fl {K : Nat → Nat} {fl fl' hd : Nat} {d : Nat → Nat} {HT : Nat → Nat} {M I : St} {J : Rf} (h : HeldOK K fl hd d HT M I J) (hf : fl ≤ fl') : HeldOK K fl' hd d HT M I J := by
  obtain ⟨h1, h2, h3, h4, h5, h6⟩ := h
  exact ⟨h1, h2, h3, h4.fp hf (fun _ _ => rfl) (fun _ _ => rfl) (fun _ _ => rfl) (fun _ _ => rfl), h5, h6⟩
section OPF
variable {M I : St} {J : Rf} {LP : List Nat} {P : St}
theorem o_flush (hs : SimE M I J LP P) : wp_X7_flush I J LP P (fun r I' J' LP' P' => wp_X8_flush M (fun r' M' => Same r I' J' LP' P' r' M')) := by
  obtain ⟨K, ow, en, fl, fi, po, ma, sz, LT, d, dd, up, ud, hd, HT, hS⟩ := hs
  obtain ⟨hL, hc, hN, hR, hT, hTd, hH, hC⟩ := hS
  have hN0 := hN
  obtain ⟨n5, n6, n7, n12, n13, i12, i11, i10, i90, i91, o1, o2, o3⟩ := hN
  have hL0 := hL
  obtain ⟨L1, L2, L3, L4, L5, L6⟩ := hL
  refine c_flush hL0 i12 i11 (fun k hk => (hc.2.1 k hk).2.1) (fun k hk => (hc.2.2 k hk).2.1) (fun I' b1 b2 b3 b4 => ?_)
  refine r_flush n5 n6 L1 L2 (fun p hp => ⟨(L3 p hp).1, (L3 p hp).2.1⟩) (fun k hk => (hc.2.1 k hk).2.2) (fun M' a1 a2 a3 a4 => ⟨rfl, ?_⟩)
  have m : ∀ c, c ≠ 3 → c ≠ 4 → c ≠ 6 → M' c = M c := a1
  have hk6 : ∀ p, p < en → K p < 6 := fun p hp => (L3 p hp).1
  refine ⟨K, owf K ow fl (en - fl), en, en, fi, po, ma, sz, LT, d, dd, up, ud, hd, HT, ?_, ?_, ?_, ?_, ?_, ?_, ?_, ?_⟩
  · rw [m 8 (by decide) (by decide) (by decide), m 9 (by decide) (by decide) (by decide), m 10 (by decide) (by decide) (by decide), m 11 (by decide) (by decide) (by decide)]
    exact ⟨Nat.le_refl _, L2, L3, fun p q a b c => by omega, L6, L6⟩
  · show SrcOK K _ en en (M' 0) (M' 1) (M' 2) (M' 3) (M' 4) (I' 4) (I' 5) (I' 6) (I' 7) (I' 8)
    rw [m 0 (by decide) (by decide) (by decide), m 1 (by decide) (by decide) (by decide), m 2 (by decide) (by decide) (by decide), b1 7 (by decide) (by decide) (by decide), b1 8 (by decide) (by decide) (by decide)]
    refine ⟨hc.1, fun k hk => ⟨?_, b3 k hk, a4 k hk⟩, fun k hk => ?_⟩
    · rw [a3, b2]; exact vfl_eq (fun k hk => (hc.2.1 k hk).1) _ k hk
    · obtain ⟨c1, c2, c3, c4, c5⟩ := hc.2.2 k hk
      have nouw : ¬ uw K en en k := fun ⟨p, x, y, _⟩ => by omega
      by_cases q : ow k = 4
      · obtain ⟨p, x, y, z⟩ := c5.mp q
        have e := owf_in (ow := ow) x (show p < fl + (en - fl) by omega) z
        refine ⟨by omega, b4 k hk, fun t ht => ?_, fun z => by omega, ⟨fun z => by omega, fun z => absurd z nouw⟩⟩
        rw [c3 t ht, e, if_neg (by omega), if_neg (by omega)]
      · rcases owf_or K ow fl (en - fl) k with e | e
        · have e5 : ow k = 5 ∨ ow k ≠ 5 := by omega
          -- a place of this key would make it belong to changes
          have : ow k = 5 := by
            by_cases z : ow k = 5
            · exact z
            · exfalso
              have no : ∀ n, n ≤ en - fl → owf K ow fl n k = ow k := by
                intro n
                induction n with
                | zero => intro _; rfl
                | succ n ih =>
                  intro hn
                  simp only [owf]
                  rw [if_neg (fun y => q (c5.mpr ⟨fl + n, by omega, by omega, y.symm⟩))]
                  exact ih (by omega)
              rw [no _ (Nat.le_refl _)] at e
              exact z e
          refine ⟨by omega, b4 k hk, fun t ht => ?_, fun z => by omega, ⟨fun z => by omega, fun z => absurd z nouw⟩⟩
          rw [c3 t ht, e, this]
        · rw [b4 k hk, e]
          exact ⟨c1, rfl, c3, c4, ⟨fun z => absurd z q, fun z => absurd z nouw⟩⟩
  · refine ⟨?_, a2, ?_, ?_, ?_, ?_, rfl, ?_, ?_, ?_, o1, o2, by omega⟩
    · rw [m 5 (by decide) (by decide) (by decide)]; exact n5
    · rw [m 7 (by decide) (by decide) (by decide)]; exact n7
    · rw [m 12 (by decide) (by decide) (by decide)]; exact n12
    · rw [m 13 (by decide) (by decide) (by decide)]; exact n13
    · show I' 1 2 = _; rw [b1 1 (by decide) (by decide) (by decide)]; exact i12
    · show I' 1 0 = _; rw [b1 1 (by decide) (by decide) (by decide)]; exact i10
    · show I' 9 0 = _; rw [b1 9 (by decide) (by decide) (by decide)]; exact i90
    · show I' 9 1 = _; rw [b1 9 (by decide) (by decide) (by decide)]; exact i91
  · refine hR.fp L1 (fun p _ => by rw [m 8 (by decide) (by decide) (by decide)]) (fun p _ => by rw [m 9 (by decide) (by decide) (by decide)]) (fun p _ => by rw [m 10 (by decide) (by decide) (by decide)]) (fun _ _ => rfl) (m 14 (by decide) (by decide) (by decide)) (m 15 (by decide) (by decide) (by decide)) (m 16 (by decide) (by decide) (by decide)) (m 17 (by decide) (by decide) (by decide)) (m 18 (by decide) (by decide) (by decide)) (fun n hn => ?_) (fun _ _ => rfl)
    rw [st_n _ _ _ (by omega), b1 _ (by omega) (by omega) (by omega)]
  · show TgOK K en d up (M' 19) (M' 20) (M' 21) (M' 9) (I' 22) (I' 24) (I' 20 0)
    rw [m 19 (by decide) (by decide) (by decide), m 20 (by decide) (by decide) (by decide), m 21 (by decide) (by decide) (by decide), m 9 (by decide) (by decide) (by decide), b1 22 (by decide) (by decide) (by decide), b1 24 (by decide) (by decide) (by decide), b1 20 (by decide) (by decide) (by decide)]
    exact hT.fl L1 hk6
  · show TgOK K en dd ud (M' 22) (M' 23) (M' 24) (M' 9) (I' 23) (I' 25) (I' 21 0)
    rw [m 22 (by decide) (by decide) (by decide), m 23 (by decide) (by decide) (by decide), m 24 (by decide) (by decide) (by decide), m 9 (by decide) (by decide) (by decide), b1 23 (by decide) (by decide) (by decide), b1 25 (by decide) (by decide) (by decide), b1 21 (by decide) (by decide) (by decide)]
    exact hTd.fl L1 hk6
  · refine HeldOK.fl (fl := fl) ?_ L1
    refine hH.fr (fun _ _ => rfl) (fun p _ => by rw [m 8 (by decide) (by decide) (by decide)]) (fun p _ => by rw [m 9 (by decide) (by decide) (by decide)]) (fun p _ => by rw [m 10 (by decide) (by decide) (by decide)]) (fun _ _ => rfl) (m 25 (by decide) (by decide) (by decide)) (m 26 (by decide) (by decide) (by decide)) (m 27 (by decide) (by decide) (by decide)) (m 28 (by decide) (by decide) (by decide)) (m 29 (by decide) (by decide) (by decide)) ?_ rfl
    show I' 14 0 = _
    rw [b1 14 (by decide) (by decide) (by decide)]
  · show M' 30 0 = I' 9 2 ∧ M' 31 0 = I' 19 0 ∧ M' 32 0 = I' 19 1 ∧ M' 33 0 = I' 9 3 + I' 19 2 ∧ M' 34 0 = I' 0 0
    rw [m 30 (by decide) (by decide) (by decide), m 31 (by decide) (by decide) (by decide), m 32 (by decide) (by decide) (by decide), m 33 (by decide) (by decide) (by decide), m 34 (by decide) (by decide) (by decide), b1 9 (by decide) (by decide) (by decide), b1 19 (by decide) (by decide) (by decide), b1 0 (by decide) (by decide) (by decide)]
    exact hC
end OPF
