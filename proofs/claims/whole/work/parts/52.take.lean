/-- one more change of p's key is done -/
def d1 (K d : Nat → Nat) (p : Nat) : Nat → Nat := fun x => if x = K p then d (K p) + 1 else d x
theorem d1_s (K d : Nat → Nat) (p : Nat) : d1 K d p (K p) = d (K p) + 1 := by rw [d1, if_pos rfl]
theorem d1_n {K d : Nat → Nat} {p x : Nat} (h : x ≠ K p) : d1 K d p x = d x := by rw [d1, if_neg h]
theorem dn1 {K d : Nat → Nat} {p : Nat} (hc : cnt K (K p) p = d (K p)) (q : Nat) : dn K (d1 K d p) q ↔ (dn K d q ∨ q = p) := by
  unfold dn
  by_cases h : K q = K p
  · rw [h, d1_s]
    refine ⟨fun z => ?_, fun z => ?_⟩
    · rcases Nat.lt_or_ge (cnt K (K p) q) (d (K p)) with y | y
      · exact Or.inl y
      · exact Or.inr (cnt_inj K h rfl (by omega))
    · rcases z with z | z
      · omega
      · subst z; omega
  · rw [d1_n h]
    exact ⟨Or.inl, fun z => z.elim (fun y => y) (fun y => absurd (by rw [y]) h)⟩
theorem TgOK.do {K : Nat → Nat} {fl : Nat} {d : Nat → Nat} {up up' p : Nat} {mv md mh m9 iv id : Nat → Int32} {iu : Int32} (h : TgOK K fl d up mv md mh m9 iv id iu) (hp : p < fl) (hk : K p < 6) (hc : cnt K (K p) p = d (K p)) (u1 : up' ≤ fl) (u2 : ∀ q, q < up' → dn K (d1 K d p) q) (u3 : ¬ (up' < fl ∧ dn K (d1 K d p) up')) : TgOK K fl (d1 K d p) up' (upd mv (K p) (m9 p)) (upd md (K p) (nI (d (K p) + 1))) (upd mh p 1) m9 (upd iv (K p) (m9 p)) (upd id (K p) (nI (d (K p) + 1))) (nI up') := by
  obtain ⟨h1, h2, h3, h4, h5, h6⟩ := h
  refine ⟨fun k hk' => ?_, fun q hq => ?_, rfl, u1, u2, u3⟩
  · by_cases e : k = K p
    · subst e
      have := cnt_lt K (k := K p) rfl hp
      rw [upd_s, upd_s, upd_s, upd_s, d1_s]
      exact ⟨rfl, rfl, rfl, by omega, Or.inr ⟨p, hp, rfl, by omega, rfl⟩⟩
    · rw [upd_n _ _ e, upd_n _ _ e, upd_n _ _ e, upd_n _ _ e, d1_n e]; exact h1 k hk'
  · rw [dn1 hc q]
    by_cases e : q = p
    · subst e
      rw [upd_s]; exact Or.inl ⟨hp, Or.inr rfl, rfl⟩
    · rw [upd_n _ _ e]
      rcases h2 q hq with ⟨b1, b2, b3⟩ | ⟨b1, b2⟩
      · exact Or.inl ⟨b1, Or.inl b2, b3⟩
      · exact Or.inr ⟨fun z => z.2.elim (fun y => b1 ⟨z.1, y⟩) (fun y => e y), b2⟩
theorem c_doNow {I : St} {J : Rf} {LP : List Nat} {P : St} {post : St → Rf → List Nat → St → Prop} {K d : Nat → Nat} {en fl up p a : Nat} {m8 m9 m10 m11 : Nat → Int32} (hL : LogOK K en fl m8 m9 m10 m11 (J 2) LP P) (i11 : I 1 1 = nI fl) (hd : ∀ k, k < 6 → I 24 k = nI (d k) ∧ d k ≤ 400) (hu : I 20 0 = nI up) (hu1 : up ≤ fl) (hu2 : ∀ q, q < up → dn K d q) (hp : p < fl) (ha : J 2 p = some a) (hc : cnt K (K p) p = d (K p)) (h : ∀ up', up' ≤ fl → (∀ q, q < up' → dn K (d1 K d p) q) → ¬ (up' < fl ∧ dn K (d1 K d p) up') → post (st (st (st (st I 22 (K p) (m9 p)) 24 (K p) (nI (d (K p) + 1))) 20 0 (nI up')) 19 0 (I 19 0 + 1)) J LP P) : wp_X5_doNow I J LP P a post := by
  obtain ⟨L1, L2, L3, L4, L5, L6⟩ := hL
  obtain ⟨x1, x2, x3, x4, a', x5, x6, x7, x8, x9, x10, x11⟩ := L3 p (by omega)
  rw [ha] at x5
  cases x5
  have hcb := cnt_le K (K p) p
  have hv : vp_in (P a 1) 6 := by rw [x8]; exact in_ x1 (by omega)
  refine ⟨x6, x6, hv, ?_⟩
  rintro I3 rfl
  refine ⟨x6, x6, hv, ?_⟩
  rintro I6 rfl
  rw [x8, x9, x10, cl_ (n := K p) (by omega), hc]
  obtain ⟨X, hX⟩ : ∃ X : St, X = st (st I (20 + 2) (K p) (m9 p)) (20 + 4) (K p) (nI (d (K p) + 1)) := ⟨_, rfl⟩
  rw [← hX]
  have X20 : X 20 = I 20 := by rw [hX]; rfl
  have X1 : X 1 = I 1 := by rw [hX]; rfl
  have X24 : ∀ k, k < 6 → X 24 k = nI (d1 K d p k) ∧ d1 K d p k ≤ 400 := by
    intro k hk
    rw [hX]
    show upd (I 24) (K p) (nI (d (K p) + 1)) k = _ ∧ _
    by_cases e : k = K p
    · subst e; rw [upd_s, d1_s]; exact ⟨rfl, by omega⟩
    · rw [upd_n _ _ e, d1_n e]; exact hd k hk
  have up1 : ∀ q, q < up → dn K (d1 K d p) q := fun q hq => (dn1 hc q).mpr (Or.inl (hu2 q hq))
  refine ⟨fun n x I' J' LP' P' => J' = J ∧ LP' = LP ∧ P' = P ∧ ∃ i, up + i ≤ fl ∧ n + i = fl ∧ x = nI i ∧ I' = st X 20 0 (nI (up + i)) ∧ ∀ q, q < up + i → dn K (d1 K d p) q, ⟨fl, rfl, rfl, rfl, 0, by omega, by omega, rfl, (st_id X 20 0 (by rw [X20]; exact hu)).symm, up1⟩, ?_⟩
  rintro n x I' J' LP' P' ⟨rfl, rfl, rfl, i, hi, hn, rfl, rfl, hall⟩
  have e20 : st X 20 0 (nI (up + i)) 20 0 = nI (up + i) := by rw [st_s, upd_s]
  have e1 : st X 20 0 (nI (up + i)) 1 = I 1 := X1
  have fin : ¬ (up + i < fl ∧ dn K (d1 K d p) (up + i)) → (∀ I6' : St, I6' = st (st X 20 0 (nI (up + i))) 19 0 ((st X 20 0 (nI (up + i))) 19 0 + 1) → post I6' J' LP' P') := by
    intro hno
    rintro I6' rfl
    have := h (up + i) hi hall hno
    rw [hX]
    exact this
  rw [l400, le_ (by omega) (by omega), e20]
  refine ⟨fun hc' => fin (fun z => by omega), fun hc' => ?_⟩
  rcases Nat.lt_or_ge (up + i) fl with hlt | hge
  · obtain ⟨y1, y2, y3, y4, b, y5, y6, y7, y8, y9, y10, y11⟩ := L3 (up + i) (by omega)
    refine c_fat1 (fl := fl) (by rw [e1]; exact i11) (by omega) hlt y5 ⟨fun z => (by cases z), fun b' e => ?_⟩
    cases e
    refine c_has (K := K) (d := d1 K d p) (p := up + i) y1 (X24 _ y1).1 (X24 _ y1).2 (by omega) y6 y8 y10 (fun hy => br_f (by decide) ?_) (fun hy => br_t rfl (fin (fun z => hy z.2)))
    rintro I32 rfl
    refine ⟨n - 1, by omega, rfl, rfl, rfl, i + 1, by omega, by omega, nI_1 i, by rw [st_st, e20, nI_1]; rfl, fun q hq => ?_⟩
    rcases Nat.lt_or_ge q (up + i) with z | z
    · exact hall q z
    · rw [show q = up + i by omega]; exact hy
  · refine c_fat0 (fl := fl) (by rw [e1]; exact i11) (by omega) hge (by omega) ⟨fun _ => ⟨fun _ => br_t rfl (fin (fun z => by omega)), fun a0 e => (by cases e)⟩, fun b' e => (by cases e)⟩
theorem r_does {M : St} {k p : Nat} {v : Int32} {post : St → Prop} (hk : k < 6) (hp : p < 400) (h : post (st (st (st (st M 19 k v) 20 k (M 20 k + 1)) 21 p 1) 31 0 (M 31 0 + 1))) : wp_X8_does M (nI k) v (nI p) post := by
  unfold wp_X8_does
  rw [cl_ (n := k) (by omega), cl_ (n := p) (by omega), nb1]
  refine ⟨in_ hk (by omega), ?_⟩
  rintro I1 rfl
  refine ⟨in_ hk (by omega), in_ hk (by omega), ?_⟩
  rintro I2 rfl
  refine ⟨in_ hp (by omega), ?_⟩
  rintro I3 rfl
  rintro I4 rfl
  exact h
def HeldW (K : Nat → Nat) (fl hd : Nat) (d : Nat → Nat) (k : Nat) (HT : Nat → Nat) (M I : St) (J : Rf) : Prop :=
  hd ≤ 8 ∧ M 25 0 = nI hd ∧ I 14 0 = nI hd ∧ RowOK fl hd HT 0 (M 29) (M 26) (M 27) (M 28) (M 8) (M 9) (M 10) (J 18) (J 2) ∧
  (∀ i, i < hd → d (K (HT i)) ≤ cnt K (K (HT i)) (HT i) ∧ (K (HT i) ≠ k → d (K (HT i)) < cnt K (K (HT i)) (HT i))) ∧ ∀ i i', i < i' → i' < hd → HT i ≠ HT i'
def Ct (M I : St) : Prop := M 31 0 = I 19 0 ∧ M 32 0 = I 19 1 ∧ M 33 0 = I 9 3 + I 19 2
def TS (K : Nat → Nat) (fl : Nat) (d : Nat → Nat) (up hd : Nat) (HT : Nat → Nat) (M I : St) (J : Rf) : Prop := TgOK K fl d up (M 19) (M 20) (M 21) (M 9) (I 22) (I 24) (I 20 0) ∧ HeldOK K fl hd d HT M I J ∧ Ct M I
def TW (K : Nat → Nat) (fl : Nat) (d : Nat → Nat) (up hd k : Nat) (HT : Nat → Nat) (M I : St) (J : Rf) : Prop := TgOK K fl d up (M 19) (M 20) (M 21) (M 9) (I 22) (I 24) (I 20 0) ∧ HeldW K fl hd d k HT M I J ∧ Ct M I
def FrM (M M' : St) : Prop := ∀ c, (c < 19 ∨ (22 ≤ c ∧ c < 25) ∨ c = 30 ∨ 34 ≤ c) → M' c = M c
def FrI (I I' : St) : Prop := ∀ c, (c < 14 ∨ (15 ≤ c ∧ c < 19) ∨ c = 21 ∨ c = 23 ∨ 25 ≤ c) → I' c = I c
def FrJ (J J' : Rf) : Prop := ∀ c, c ≠ 18 → J' c = J c
/-- the first held change of key k and order o: its number, or -1 -/
def Fnd (K : Nat → Nat) (k o hd : Nat) (HT : Nat → Nat) (x : Int32) : Prop := (x = (-1) ∧ ∀ i, i < hd → ¬ (K (HT i) = k ∧ cnt K (K (HT i)) (HT i) + 1 = o)) ∨ ∃ i, i < hd ∧ x = nI i ∧ (K (HT i) = k ∧ cnt K (K (HT i)) (HT i) + 1 = o) ∧ ∀ i', i' < i → ¬ (K (HT i') = k ∧ cnt K (K (HT i')) (HT i') + 1 = o)
theorem fnd_ex (K : Nat → Nat) (k o hd : Nat) (HT : Nat → Nat) : ∃ x, Fnd K k o hd HT x := by
  by_cases h : ∃ i, i < hd ∧ (K (HT i) = k ∧ cnt K (K (HT i)) (HT i) + 1 = o)
  · obtain ⟨i, ⟨h1, h2⟩, h3⟩ := pk_least _ h
    exact ⟨nI i, Or.inr ⟨i, h1, rfl, h2, fun i' hi' z => h3 i' hi' ⟨by omega, z⟩⟩⟩
  · exact ⟨-1, Or.inl ⟨rfl, fun i hi z => h ⟨i, hi, z⟩⟩⟩
theorem fnd_ref {K : Nat → Nat} {fl k o hd : Nat} {HT : Nat → Nat} {M : St} {j : Nat → Option Nat} {j2 : Nat → Option Nat} {x : Int32} {post : Int32 → St → Prop} (hF : Fnd K k o hd HT x) (h25 : M 25 0 = nI hd) (h8 : hd ≤ 8) (h4 : fl ≤ 400) (hrow : RowOK fl hd HT 0 (M 29) (M 26) (M 27) (M 28) (M 8) (M 9) (M 10) j j2) (hlog : ∀ p, p < fl → K p < 6 ∧ M 8 p = nI (K p) ∧ M 10 p = nI (cnt K (K p) p + 1)) (hk : k < 1000) (ho : o < 1000) (h : post x M) : wp_X8_findHeld M (nI k) (nI o) post := by
  refine r_findHeld (kk := fun i => K (HT i)) (oo := fun i => cnt K (K (HT i)) (HT i) + 1) h25 h8 (fun i hi => ?_) hk ho (fun hno => ?_) (fun i hi e1 e2 hno => ?_)
  · obtain ⟨r1, r2, r3, r4, r5, r6⟩ := hrow i hi
    rw [Nat.zero_add] at r3 r4
    obtain ⟨l1, l2, l3⟩ := hlog _ r1
    have := cnt_le K (K (HT i)) (HT i)
    exact ⟨by rw [r3, l2], by rw [r4, l3], by omega, by show cnt K (K (HT i)) (HT i) + 1 < 1000; omega⟩
  · rcases hF with ⟨rfl, _⟩ | ⟨i, hi, _, z, _⟩
    · exact h
    · exact absurd z (hno i hi)
  · rcases hF with ⟨_, z⟩ | ⟨i', hi', rfl, z, zl⟩
    · exact absurd ⟨e1, e2⟩ (z i hi)
    · rcases Nat.lt_trichotomy i i' with y | y | y
      · exact absurd ⟨e1, e2⟩ (zl i y)
      · subst y; exact h
      · exact absurd z (hno i' y)
theorem fnd_cls {K : Nat → Nat} {en fl k o hd : Nat} {HT : Nat → Nat} {I : St} {J : Rf} {LP : List Nat} {P : St} {a b c e m8 m9 m10 m11 : Nat → Int32} {x : Int32} {post : Int32 → St → Rf → List Nat → St → Prop} (hF : Fnd K k o hd HT x) (h14 : I 14 0 = nI hd) (h8 : hd ≤ 8) (hrow : RowOK fl hd HT 0 a b c e m8 m9 m10 (J 18) (J 2)) (hL : LogOK K en fl m8 m9 m10 m11 (J 2) LP P) (hk : k < 1000) (ho : o < 1000) (h0 : x = (-1) → post (-9) I J LP P) (h1 : ∀ i, i < hd → x = nI i → (K (HT i) = k ∧ cnt K (K (HT i)) (HT i) + 1 = o) → post (nI i) I J LP P) : wp_X3_find I J LP P 14 (nI k) (nI o) post := by
  obtain ⟨L1, L2, L3, -⟩ := hL
  refine c_find (kk := fun i => K (HT i)) (oo := fun i => cnt K (K (HT i)) (HT i) + 1) h14 h8 (fun i hi => ?_) hk ho (fun hno => ?_) (fun i hi e1 e2 hno => ?_)
  · obtain ⟨r1, r2, r3, r4, r5, r6⟩ := hrow i hi
    obtain ⟨x1, x2, x3, x4, a', x5, x6, x7, x8, x9, x10, x11⟩ := L3 (HT i) (by omega)
    have := cnt_le K (K (HT i)) (HT i)
    exact ⟨a', by rw [r6]; exact x5, x6, x8, x10, by show K (HT i) < 1000; omega, by show cnt K (K (HT i)) (HT i) + 1 < 1000; omega⟩
  · rcases hF with ⟨z, _⟩ | ⟨i, hi, _, z, _⟩
    · exact h0 z
    · exact absurd z (hno i hi)
  · rcases hF with ⟨_, z⟩ | ⟨i', hi', e, z, zl⟩
    · exact absurd ⟨e1, e2⟩ (z i hi)
    · rcases Nat.lt_trichotomy i i' with y | y | y
      · exact absurd ⟨e1, e2⟩ (zl i y)
      · subst y; exact h1 i hi e ⟨e1, e2⟩
      · exact absurd z (hno i' y)
/-- a chain of steps -/
def Ch {S : Type} (Step : S → S → Prop) : Nat → S → S → Prop
  | 0, a, b => a = b
  | n + 1, a, b => ∃ c, Step a c ∧ Ch Step n c b
theorem Ch.snoc {S : Type} {Step : S → S → Prop} {n : Nat} : ∀ {a b c : S}, Ch Step n a b → Step b c → Ch Step (n + 1) a c := by
  induction n with
  | zero => intro a b c h hs; cases h; exact ⟨c, hs, rfl⟩
  | succ n ih => intro a b c h hs; obtain ⟨x, h1, h2⟩ := h; exact ⟨x, h1, ih h2 hs⟩
def StepF (k : Nat) (s t : Int32 × St) : Prop := ¬ s.1 < 0 ∧ vp_in s.1 8 ∧ ∀ post : Int32 → St → Prop, post t.1 t.2 → wp_X8_does s.2 (nI k) (s.2 28 s.1.toNatClampNeg) (s.2 29 s.1.toNatClampNeg) (fun I10 => wp_X8_letsGo I10 s.1 (fun I12 => vp_in (nI k) 6 ∧ wp_X8_findHeld I12 (nI k) ((I12 20 (nI k).toNatClampNeg) + 1) post))
theorem r_follow {k m : Nat} {x0 xe : Int32} {M0 Me : St} {post : Int32 → St → Prop} (hC : Ch (StepF k) m (x0, M0) (xe, Me)) (he : xe < 0) (h : post 1 Me) : ∃ V5 : Nat → Int32 → St → Prop, (∃ n6 : Nat, V5 n6 x0 M0) ∧ ∀ (n6 : Nat) (x7 : Int32) (I8 : St), V5 n6 x7 I8 → ((x7 < 0 → (post 1 I8)) ∧ (¬ x7 < 0 → (vp_in x7 8 ∧ (vp_in x7 8 ∧ (wp_X8_does I8 (nI k) (I8 28 x7.toNatClampNeg) (I8 29 x7.toNatClampNeg) (fun I10 => (wp_X8_letsGo I10 x7 (fun I12 => (vp_in (nI k) 6 ∧ (wp_X8_findHeld I12 (nI k) ((I12 20 (nI k).toNatClampNeg) + 1) (fun r13 I14 => (∃ n15 : Nat, n15 < n6 ∧ V5 n15 r13 I14)))))))))))) := by
  refine ⟨fun n x M => Ch (StepF k) n (x, M) (xe, Me), ⟨m, hC⟩, ?_⟩
  intro n x M hch
  cases n with
  | zero =>
    cases hch
    exact br_t he h
  | succ n =>
    obtain ⟨⟨x1, M1⟩, ⟨s1, s2, s3⟩, hch'⟩ := hch
    exact br_f s1 ⟨s2, s2, s3 _ ⟨n, by omega, hch'⟩⟩
theorem ne_of {HT : Nat → Nat} {hd : Nat} (h : ∀ i i', i < i' → i' < hd → HT i ≠ HT i') {a b : Nat} (ha : a < hd) (hb : b < hd) (hab : a ≠ b) : HT a ≠ HT b := by
  rcases Nat.lt_or_ge a b with z | z
  · exact h a b z hb
  · exact fun e => h b a (by omega) ha e.symm
theorem sh_ne (i x : Nat) : sh i x ≠ i := by rw [sh]; split <;> omega
/-- a held change is done and let go: what becomes of the reference -/
theorem ref_step {K : Nat → Nat} {en fl hd k i up : Nat} {d HT : Nat → Nat} {M I : St} {J : Rf} {LP : List Nat} {P : St} (hL : LogOK K en fl (M 8) (M 9) (M 10) (M 11) (J 2) LP P) (hW : TW K fl d up hd k HT M I J) (hk : k < 6) (hi : i < hd) (hm : K (HT i) = k ∧ cnt K (K (HT i)) (HT i) + 1 = d k + 1) {g : Nat → Option Nat} (hg : ∀ x, x + 1 < hd → g x = J 18 (sh i x)) {up' : Nat} (u1 : up' ≤ fl) (u2 : ∀ q, q < up' → dn K (d1 K d (HT i)) q) (u3 : ¬ (up' < fl ∧ dn K (d1 K d (HT i)) up')) : ∃ (M' : St) (x' : Int32), StepF k (nI i, M) (x', M') ∧ FrM M M' ∧ TW K fl (d1 K d (HT i)) up' (hd - 1) k (fun x => HT (sh i x)) M' (st (st (st (st (st I 14 0 (nI (hd - 1))) 22 (K (HT i)) (M 9 (HT i))) 24 (K (HT i)) (nI (d (K (HT i)) + 1))) 20 0 (nI up')) 19 0 (I 19 0 + 1)) (va_up J 18 g) ∧ Fnd K k (d1 K d (HT i) k + 1) (hd - 1) (fun x => HT (sh i x)) x' := by
  obtain ⟨hT, ⟨w1, w2, w3, w4, w5, w6⟩, c1, c2, c3⟩ := hW
  obtain ⟨L1, L2, L3, L4, L5, L6⟩ := hL
  obtain ⟨r1, r2, r3, r4, r5, r6⟩ := w4 i hi
  rw [Nat.zero_add] at r2 r3 r4 r5
  obtain ⟨x1, x2, x3, x4, -⟩ := L3 (HT i) (by omega)
  have hcd : cnt K (K (HT i)) (HT i) = d (K (HT i)) := by
    have e2 := hm.2
    have e1 := hm.1
    rw [e1] at e2 ⊢
    omega
  have hcb := cnt_le K (K (HT i)) (HT i)
  obtain ⟨x', hx'⟩ := fnd_ex K k (d1 K d (HT i) k + 1) (hd - 1) (fun x => HT (sh i x))
  have m20 : M 20 k = nI (d k) := (hT.1 k hk).1
  obtain ⟨Md, hMd⟩ : ∃ z : St, z = st (st (st (st M 19 k (M 9 (HT i))) 20 k (M 20 k + 1)) 21 (HT i) 1) 31 0 (M 31 0 + 1) := ⟨_, rfl⟩
  -- the rows behind letsGo
  obtain ⟨f26, f27, f28, f29, z26, z27, z28, z29⟩ : ∃ f26 f27 f28 f29 : Nat → Int32, (∀ x, f26 x = if x < hd - 1 then M 26 (sh i x) else M 26 x) ∧ (∀ x, f27 x = if x < hd - 1 then M 27 (sh i x) else M 27 x) ∧ (∀ x, f28 x = if x < hd - 1 then M 28 (sh i x) else M 28 x) ∧ (∀ x, f29 x = if x < hd - 1 then M 29 (sh i x) else M 29 x) := ⟨_, _, _, _, fun _ => rfl, fun _ => rfl, fun _ => rfl, fun _ => rfl⟩
  have same : ∀ {m f f' : Nat → Int32}, ShY 0 i (hd - 1) m f → (∀ x, f' x = if x < hd - 1 then m (sh i x) else m x) → f = f' := by
    intro m f f' h h'
    funext x
    rw [h' x]
    by_cases q : x < hd - 1
    · rw [if_pos q]
      have := h.1 x q
      rw [Nat.zero_add, Nat.zero_add] at this; exact this
    · rw [if_neg q]; exact h.2 x (by omega)
  have Md26 : Md 26 = M 26 := by rw [hMd]; rfl
  have Md27 : Md 27 = M 27 := by rw [hMd]; rfl
  have Md28 : Md 28 = M 28 := by rw [hMd]; rfl
  have Md29 : Md 29 = M 29 := by rw [hMd]; rfl
  have Md25 : Md 25 0 = nI hd := by rw [hMd]; exact w2
  obtain ⟨M', hM'⟩ : ∃ z : St, z = va_up (va_up (va_up (va_up (st Md 25 0 (nI (hd - 1))) 26 f26) 27 f27) 28 f28) 29 f29 := ⟨_, rfl⟩
  have fr : FrM M M' := by
    intro c hc
    rw [hM', up_n _ _ (by omega), up_n _ _ (by omega), up_n _ _ (by omega), up_n _ _ (by omega), st_n _ _ _ (by omega), hMd, st_n _ _ _ (by omega), st_n _ _ _ (by omega), st_n _ _ _ (by omega), st_n _ _ _ (by omega)]
  have e8 : M' 8 = M 8 := fr 8 (by omega)
  have e9 : M' 9 = M 9 := fr 9 (by omega)
  have e10 : M' 10 = M 10 := fr 10 (by omega)
  have row : RowOK fl (hd - 1) (fun x => HT (sh i x)) 0 (M' 29) (M' 26) (M' 27) (M' 28) (M' 8) (M' 9) (M' 10) (va_up J 18 g 18) (va_up J 18 g 2) := by
    intro x hx
    have hb := sh_bd (i := i) (show x + 1 < hd by omega)
    obtain ⟨t1, t2, t3, t4, t5, t6⟩ := w4 (sh i x) hb
    rw [Nat.zero_add] at t2 t3 t4 t5
    rw [e8, e9, e10, Nat.zero_add]
    refine ⟨t1, ?_, ?_, ?_, ?_, ?_⟩
    · rw [hM']; show f29 x = _; rw [z29, if_pos hx]; exact t2
    · rw [hM']; show f26 x = _; rw [z26, if_pos hx]; exact t3
    · rw [hM']; show f27 x = _; rw [z27, if_pos hx]; exact t4
    · rw [hM']; show f28 x = _; rw [z28, if_pos hx]; exact t5
    · show g x = J 2 (HT (sh i x))
      rw [hg x (by omega)]; exact t6
  have hlog : ∀ p, p < fl → K p < 6 ∧ M' 8 p = nI (K p) ∧ M' 10 p = nI (cnt K (K p) p + 1) := fun p hp => by
    obtain ⟨a1, a2, a3, -⟩ := L3 p (by omega)
    rw [e8, e10]; exact ⟨a1, a2, a3⟩
  have dk1 : d1 K d (HT i) k = d k + 1 := by rw [← hm.1, d1_s]
  have dk4 : d k ≤ 400 := (hT.db (by omega) k hk).2
  refine ⟨M', x', ⟨nI_nneg (by omega), in_ (by omega) (by omega), fun post hpost => ?_⟩, fr, ⟨?_, ⟨by omega, ?_, rfl, row, fun x hx => ?_, fun a b hab hb => ?_⟩, ?_, ?_, ?_⟩, hx'⟩
  · show wp_X8_does M (nI k) (M 28 (nI i).toNatClampNeg) (M 29 (nI i).toNatClampNeg) _
    rw [cl_ (n := i) (by omega), r5, r2]
    refine r_does hk (by omega) ?_
    rw [← hMd]
    refine r_letsGo Md25 w1 hi (fun g26 g27 g28 g29 y26 y27 y28 y29 => ⟨in_ hk (by omega), ?_⟩)
    rw [Md26] at y26; rw [Md27] at y27; rw [Md28] at y28; rw [Md29] at y29
    rw [same y26 z26, same y27 z27, same y28 z28, same y29 z29, ← hM', cl_ (n := k) (by omega)]
    have m20' : M' 20 k = nI (d k + 1) := by
      rw [hM', hMd]
      show upd (M 20) k (M 20 k + 1) k = _
      rw [upd_s, m20, nI_1]
    rw [m20', nI_1]
    rw [dk1] at hx'
    exact fnd_ref (fl := fl) hx' (by rw [hM']; show upd (Md 25) 0 (nI (hd - 1)) 0 = _; rw [upd_s]) (by omega) (by omega) row hlog (by omega) (by omega) hpost
  · have := hT.do (up' := up') r1 x1 hcd u1 u2 u3
    rw [e9]
    have a19 : M' 19 = upd (M 19) (K (HT i)) (M 9 (HT i)) := by rw [hM', hMd, hm.1]; rfl
    have a20 : M' 20 = upd (M 20) (K (HT i)) (nI (d (K (HT i)) + 1)) := by rw [hM', hMd, hm.1, ← nI_1, ← m20]; rfl
    have a21 : M' 21 = upd (M 21) (HT i) 1 := by rw [hM', hMd]; rfl
    rw [a19, a20, a21]
    exact this
  · rw [hM']; show upd (Md 25) 0 (nI (hd - 1)) 0 = _; rw [upd_s]
  · have hb := sh_bd (i := i) (show x + 1 < hd by omega)
    obtain ⟨b1, b2⟩ := w5 (sh i x) hb
    have hne : HT (sh i x) ≠ HT i := ne_of w6 hb hi (sh_ne i x)
    show d1 K d (HT i) (K (HT (sh i x))) ≤ cnt K (K (HT (sh i x))) (HT (sh i x)) ∧ (K (HT (sh i x)) ≠ k → d1 K d (HT i) (K (HT (sh i x))) < cnt K (K (HT (sh i x))) (HT (sh i x)))
    by_cases q : K (HT (sh i x)) = K (HT i)
    · rw [q, d1_s]
      rw [q] at b1
      refine ⟨?_, fun z => absurd hm.1 z⟩
      rcases Nat.lt_or_ge (d (K (HT i))) (cnt K (K (HT i)) (HT (sh i x))) with y | y
      · exact y
      · exact absurd (cnt_inj K q rfl (by omega)) hne
    · rw [d1_n q]; exact ⟨b1, b2⟩
  · exact ne_of w6 (sh_bd (by omega)) (sh_bd (by omega)) (by have := sh_inj (i := i) hab; omega)
  · show M' 31 0 = I 19 0 + 1
    rw [hM', hMd]
    show M 31 0 + 1 = _
    rw [c1]
  · show M' 32 0 = I 19 1
    rw [hM', hMd]; exact c2
  · show M' 33 0 = I 9 3 + I 19 2
    rw [hM', hMd]; exact c3
