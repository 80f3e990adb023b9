/-- does the target's state j have the change at place p -/
theorem c_has {I : St} {J : Rf} {LP : List Nat} {P : St} {post : Int32 → St → Rf → List Nat → St → Prop} {K d : Nat → Nat} {j a p : Nat} (hk : K p < 6) (hd : I (j + 4) (K p) = nI (d (K p))) (hb : d (K p) ≤ 400) (hp : p < 400) (ha : a ∈ LP) (x1 : P a 1 = nI (K p)) (x3 : P a 3 = nI (cnt K (K p) p + 1)) (h1 : dn K d p → post 1 I J LP P) (h0 : ¬ dn K d p → post 0 I J LP P) : wp_X6_has I J LP P j (some a) post := by
  have hc := cnt_le K (K p) p
  refine ⟨fun z => (by cases z), fun b e => ?_⟩
  cases e
  rw [x1, x3, cl_ (n := K p) (by omega), hd, lt_ (by omega) (by omega)]
  refine ⟨ha, ha, in_ hk (by omega), fun z => h0 (fun y => ?_), fun z => h1 ?_⟩
  · unfold dn at y; omega
  · unfold dn; omega
/-- no two places of one commit, below n, are done the one and not done the other -/
def Wb (K d : Nat → Nat) (m11 : Nat → Int32) (n : Nat) : Prop := ∀ a b, a < b → b < n → (∀ r, a ≤ r → r < b → m11 r = 0) → (dn K d a ↔ dn K d b)
theorem Wb.grow {K d : Nat → Nat} {m11 : Nat → Int32} {s p : Nat} (h : Wb K d m11 p) (hsp : s ≤ p) (hs : s = 0 ∨ m11 (s - 1) = 1) (hall : ∀ q, s ≤ q → q < p → (dn K d q ↔ dn K d p)) : Wb K d m11 (p + 1) := by
  intro a b hab hb hr
  rcases Nat.lt_or_ge b p with z | z
  · exact h a b hab z hr
  · have e : b = p := by omega
    subst e
    rcases Nat.lt_or_ge a s with y | y
    · rcases hs with x | x
      · omega
      · have := hr (s - 1) (by omega) (by omega)
        rw [this] at x; exact absurd x (by decide)
    · exact hall a y hab
theorem c_whole {I : St} {J : Rf} {LP : List Nat} {P : St} {post : Int32 → St → Rf → List Nat → St → Prop} {K dd : Nat → Nat} {en fl : Nat} {m8 m9 m10 m11 : Nat → Int32} (hL : LogOK K en fl m8 m9 m10 m11 (J 2) LP P) (i11 : I 1 1 = nI fl) (hd : ∀ k, k < 6 → I 25 k = nI (dd k) ∧ dd k ≤ 400) (h1 : Wb K dd m11 fl → post 1 I J LP P) (h0 : ¬ Wb K dd m11 fl → post 0 I J LP P) : wp_X5_diskIsWhole I J LP P post := by
  obtain ⟨L1, L2, L3, L4, L5, L6⟩ := hL
  refine ⟨fun n x y z I' J' LP' P' => ∃ p s, p ≤ fl ∧ n + p = fl ∧ z = nI p ∧ I' = I ∧ J' = J ∧ LP' = LP ∧ P' = P ∧ s ≤ p ∧ (s = 0 ∨ m11 (s - 1) = 1) ∧ (∀ r, s ≤ r → r < p → m11 r = 0) ∧ Wb K dd m11 p ∧ ((x = 0 ∧ y = 0 ∧ s = p) ∨ (x = 1 ∧ y = 0 ∧ s < p ∧ ∀ q, s ≤ q → q < p → dn K dd q) ∨ (x = 0 ∧ y = 1 ∧ s < p ∧ ∀ q, s ≤ q → q < p → ¬ dn K dd q)), ⟨fl, 0, 0, by omega, by omega, rfl, rfl, rfl, rfl, rfl, by omega, Or.inl rfl, fun r a b => by omega, fun a b x y => by omega, Or.inl ⟨rfl, rfl, rfl⟩⟩, ?_⟩
  rintro n x y z I' J' LP' P' ⟨p, s, hp, hn, rfl, rfl, rfl, rfl, rfl, hsp, hs, hno, hW, hst⟩
  rw [l400, le_ (by omega) (by omega)]
  have fin : p = fl → post 1 I' J' LP' P' := fun e => h1 (by rw [← e]; exact hW)
  refine ⟨fun hc => fin (by omega), fun hc => ?_⟩
  rcases Nat.lt_or_ge p fl with hlt | hge
  · obtain ⟨x1, x2, x3, x4, a, x5, x6, x7, x8, x9, x10, x11⟩ := L3 p (by omega)
    refine c_fat1 i11 (by omega) hlt x5 ⟨fun z => (by cases z), fun b e => ?_⟩
    cases e
    refine c_has (K := K) (d := dd) (p := p) x1 (hd _ x1).1 (hd _ x1).2 (by omega) x6 x8 x10 (fun hy => br_f (by decide) ?_) (fun hy => br_t rfl ?_)
    · rw [x11]
      refine ⟨fun y0 => ⟨x6, ?_⟩, fun y1 => h0 (fun w => ?_)⟩
      · have hall : ∀ q, s ≤ q → q < p → dn K dd q := fun q a b => by
          rcases hst with ⟨_, _, e⟩ | ⟨_, _, _, e⟩ | ⟨_, e, _⟩
          · omega
          · exact e q a b
          · rw [e] at y0; exact absurd y0 (by decide)
        have hW' : Wb K dd m11 (p + 1) := hW.grow hsp hs (fun q a b => ⟨fun _ => hy, fun _ => hall q a b⟩)
        refine ⟨fun z => ⟨n - 1, by omega, p + 1, s, by omega, by omega, nI_1 p, rfl, rfl, rfl, rfl, by omega, hs, fun r a b => ?_, hW', Or.inr (Or.inl ⟨rfl, y0, by omega, fun q a b => ?_⟩)⟩, fun z => ⟨n - 1, by omega, p + 1, p + 1, by omega, by omega, nI_1 p, rfl, rfl, rfl, rfl, by omega, Or.inr (x4.elim (fun e => absurd e z) (fun e => e)), fun r a b => by omega, hW', Or.inl ⟨rfl, rfl, rfl⟩⟩⟩
        · rcases Nat.lt_or_ge r p with w | w
          · exact hno r a w
          · rw [show r = p by omega]; exact z
        · rcases Nat.lt_or_ge q p with w | w
          · exact hall q a w
          · rw [show q = p by omega]; exact hy
      · rcases hst with ⟨_, e, _⟩ | ⟨_, e, _⟩ | ⟨_, _, e1, e2⟩
        · exact y1 e
        · exact y1 e
        · exact e2 s (Nat.le_refl _) e1 ((w s p e1 hlt hno).mpr hy)
    · rw [x11]
      refine ⟨fun y0 => ⟨x6, ?_⟩, fun y1 => h0 (fun w => ?_)⟩
      · have hall : ∀ q, s ≤ q → q < p → ¬ dn K dd q := fun q a b => by
          rcases hst with ⟨_, _, e⟩ | ⟨e, _⟩ | ⟨_, _, _, e⟩
          · omega
          · rw [e] at y0; exact absurd y0 (by decide)
          · exact e q a b
        have hW' : Wb K dd m11 (p + 1) := hW.grow hsp hs (fun q a b => ⟨fun e => absurd e (hall q a b), fun e => absurd e hy⟩)
        refine ⟨fun z => ⟨n - 1, by omega, p + 1, s, by omega, by omega, nI_1 p, rfl, rfl, rfl, rfl, by omega, hs, fun r a b => ?_, hW', Or.inr (Or.inr ⟨y0, rfl, by omega, fun q a b => ?_⟩)⟩, fun z => ⟨n - 1, by omega, p + 1, p + 1, by omega, by omega, nI_1 p, rfl, rfl, rfl, rfl, by omega, Or.inr (x4.elim (fun e => absurd e z) (fun e => e)), fun r a b => by omega, hW', Or.inl ⟨rfl, rfl, rfl⟩⟩⟩
        · rcases Nat.lt_or_ge r p with w | w
          · exact hno r a w
          · rw [show r = p by omega]; exact z
        · rcases Nat.lt_or_ge q p with w | w
          · exact hall q a w
          · rw [show q = p by omega]; exact hy
      · rcases hst with ⟨e, _⟩ | ⟨_, _, e1, e2⟩ | ⟨e, _⟩
        · exact y1 e
        · exact hy ((w s p e1 hlt hno).mp (e2 s (Nat.le_refl _) e1))
        · exact y1 e
  · exact c_fat0 i11 (by omega) hge (by omega) ⟨fun _ => fin (by omega), fun b e => (by cases e)⟩
theorem r_whole {M : St} {post : Int32 → St → Prop} {K dd : Nat → Nat} {fl : Nat} (n6 : M 6 0 = nI fl) (h4 : fl ≤ 400) (hbit : ∀ p, p < fl → M 11 p = 0 ∨ M 11 p = 1) (hlast : fl = 0 ∨ M 11 (fl - 1) = 1) (hh : ∀ p, p < fl → (dn K dd p ∧ M 24 p = 1) ∨ (¬ dn K dd p ∧ M 24 p = 0)) (h1 : Wb K dd (M 11) fl → post 1 M) (h0 : ¬ Wb K dd (M 11) fl → post 0 M) : wp_X8_whole M post := by
  refine ⟨fun n x y z M' => M' = M ∧ ∃ p s, p ≤ fl ∧ n + p = fl ∧ z = nI p ∧ y = nI s ∧ s ≤ p ∧ (s = 0 ∨ M 11 (s - 1) = 1) ∧ (∀ r, s ≤ r → r < p → M 11 r = 0) ∧ ((x = 1 ∧ Wb K dd (M 11) s) ∨ (x = 0 ∧ ¬ Wb K dd (M 11) fl)), ⟨fl, rfl, 0, 0, by omega, by omega, rfl, rfl, by omega, Or.inl rfl, fun r a b => by omega, Or.inl ⟨rfl, fun a b x y => by omega⟩⟩, ?_⟩
  rintro n x y z M' ⟨rfl, p, s, hp, hn, rfl, rfl, hsp, hs, hno, hx⟩
  rw [n6, le_ (by omega) (by omega), cl_ (n := p) (by omega)]
  refine ⟨fun hc => ?_, fun hc => ⟨in_ (by omega) (by omega), fun z => ?_, fun z => ?_⟩⟩
  · have e : s = fl := by
      rcases hlast with e | e
      · omega
      · rcases Nat.lt_or_ge s fl with y | y
        · have := hno (fl - 1) (by omega) (by omega)
          rw [this] at e; exact absurd e (by decide)
        · omega
    rcases hx with ⟨rfl, hw⟩ | ⟨rfl, hw⟩
    · exact br_f (by decide) (h1 (by rw [← e]; exact hw))
    · exact br_t rfl (h0 hw)
  · refine ⟨n - 1, by omega, rfl, p + 1, s, by omega, by omega, nI_1 p, rfl, by omega, hs, fun r a b => ?_, hx⟩
    rcases Nat.lt_or_ge r p with w | w
    · exact hno r a w
    · rw [show r = p by omega]; exact z
  · have zz : M' 11 p = 1 := (hbit p (by omega)).elim (fun e => absurd e z) (fun e => e)
    refine ⟨fun n' x y M'' => M'' = M' ∧ ∃ q, s ≤ q ∧ q ≤ p + 1 ∧ n' + q = p + 1 ∧ y = nI q ∧ ((x = 1 ∧ Wb K dd (M' 11) s ∧ ∀ r, s ≤ r → r < q → (dn K dd r ↔ dn K dd p)) ∨ (x = 0 ∧ ¬ Wb K dd (M' 11) fl)), ⟨p + 1 - s, rfl, s, by omega, by omega, by omega, rfl, ?_⟩, ?_⟩
    · rcases hx with ⟨e, w⟩ | ⟨e, w⟩
      · exact Or.inl ⟨e, w, fun r a b => by omega⟩
      · exact Or.inr ⟨e, w⟩
    rintro n' x y M'' ⟨rfl, q, q1, q2, q3, rfl, hxx⟩
    rw [lt_ (by omega) (by omega), cl_ (n := q) (by omega)]
    refine ⟨fun w => ?_, fun w => ⟨fun e => ?_, fun e => ?_⟩⟩
    · refine ⟨n - 1, by omega, rfl, p + 1, p + 1, by omega, by omega, nI_1 p, nI_1 p, by omega, Or.inr zz, fun r a b => by omega, ?_⟩
      rcases hxx with ⟨e, w1, w2⟩ | ⟨e, w1⟩
      · refine Or.inl ⟨e, fun a b hab hb hr => ?_⟩
        rcases Nat.lt_or_ge b s with y | y
        · exact w1 a b hab y hr
        · have has : s ≤ a := by
            rcases Nat.lt_or_ge a s with y2 | y2
            · rcases hs with x | x
              · omega
              · have := hr (s - 1) (by omega) (by omega)
                rw [this] at x; exact absurd x (by decide)
            · exact y2
          exact (w2 a has (by omega)).trans (w2 b y (by omega)).symm
      · exact Or.inr ⟨e, w1⟩
    · rcases hxx with ⟨e2, _⟩ | ⟨e2, w1⟩
      · rw [e2] at e; exact absurd e (by decide)
      · exact ⟨n' - 1, by omega, rfl, q + 1, by omega, by omega, by omega, nI_1 q, Or.inr ⟨rfl, w1⟩⟩
    · rcases hxx with ⟨e2, w1, w2⟩ | ⟨e2, _⟩
      · have iff : M'' 24 q = M'' 24 p ↔ (dn K dd q ↔ dn K dd p) := by
          rcases hh q (by omega) with ⟨a1, a2⟩ | ⟨a1, a2⟩ <;> rcases hh p (by omega) with ⟨b1, b2⟩ | ⟨b1, b2⟩ <;> rw [a2, b2]
          · exact ⟨fun _ => ⟨fun _ => b1, fun _ => a1⟩, fun _ => rfl⟩
          · exact ⟨fun z => absurd z (by decide), fun z => absurd (z.mp a1) b1⟩
          · exact ⟨fun z => absurd z (by decide), fun z => absurd (z.mpr b1) a1⟩
          · exact ⟨fun _ => ⟨fun z => absurd z a1, fun z => absurd z b1⟩, fun _ => rfl⟩
        refine ⟨in_ (by omega) (by omega), in_ (by omega) (by omega), fun v => ?_, fun v => ?_⟩
        · refine ⟨n' - 1, by omega, rfl, q + 1, by omega, by omega, by omega, nI_1 q, Or.inr ⟨rfl, fun w3 => v (iff.mpr ?_)⟩⟩
          rcases Nat.lt_or_ge q p with y | y
          · exact w3 q p y (by omega) (fun r a b => hno r (by omega) b)
          · rw [show q = p by omega]
        · refine ⟨n' - 1, by omega, rfl, q + 1, by omega, by omega, by omega, nI_1 q, Or.inl ⟨rfl, w1, fun r a b => ?_⟩⟩
          rcases Nat.lt_or_ge r q with y | y
          · exact w2 r a y
          · rw [show r = q by omega]; exact iff.mp v
      · exact absurd e2 e
theorem TgOK.h {K : Nat → Nat} {fl : Nat} {d : Nat → Nat} {up : Nat} {mv md mh m9 iv id : Nat → Int32} {iu : Int32} (h : TgOK K fl d up mv md mh m9 iv id iu) (h4 : fl ≤ 400) (p : Nat) (hp : p < fl) : (dn K d p ∧ mh p = 1) ∨ (¬ dn K d p ∧ mh p = 0) := by
  rcases h.2.1 p (by omega) with ⟨_, b, c⟩ | ⟨b, c⟩
  · exact Or.inl ⟨b, c⟩
  · exact Or.inr ⟨fun z => b ⟨hp, z⟩, c⟩
theorem TgOK.db {K : Nat → Nat} {fl : Nat} {d : Nat → Nat} {up : Nat} {mv md mh m9 iv id : Nat → Int32} {iu : Int32} (h : TgOK K fl d up mv md mh m9 iv id iu) (h4 : fl ≤ 400) (k : Nat) (hk : k < 6) : id k = nI (d k) ∧ d k ≤ 400 := by
  have := cnt_le K k fl
  have := (h.1 k hk).2.2.2.1
  exact ⟨(h.1 k hk).2.1, by omega⟩
theorem c_prefix {I : St} {J : Rf} {LP : List Nat} {P : St} {post : Int32 → St → Rf → List Nat → St → Prop} {K d : Nat → Nat} {en fl up j : Nat} {m8 m9 m10 m11 mv md mh : Nat → Int32} {iu : Int32} (hL : LogOK K en fl m8 m9 m10 m11 (J 2) LP P) (i11 : I 1 1 = nI fl) (hT : TgOK K fl d up mv md mh m9 (I (j + 2)) (I (j + 4)) iu) (h : post 1 I J LP P) : wp_X6_isAsFlushed I J LP P j post := by
  obtain ⟨L1, L2, L3, L4, L5, L6⟩ := hL
  refine ⟨fun n x I' J' LP' P' => ∃ p, p ≤ fl ∧ n + p = fl ∧ x = nI p ∧ I' = I ∧ J' = J ∧ LP' = LP ∧ P' = P, ⟨fl, 0, by omega, by omega, rfl, rfl, rfl, rfl, rfl⟩, ?_⟩
  rintro n x I' J' LP' P' ⟨p, hp, hn, rfl, rfl, rfl, rfl, rfl⟩
  rw [l400, le_ (by omega) (by omega)]
  refine ⟨fun _ => h, fun hc => ?_⟩
  rcases Nat.lt_or_ge p fl with hlt | hge
  · obtain ⟨x1, x2, x3, x4, a, x5, x6, x7, x8, x9, x10, x11⟩ := L3 p (by omega)
    refine c_fat1 i11 (by omega) hlt x5 ⟨fun z => (by cases z), fun b e => ?_⟩
    cases e
    have hc1 := cnt_le K (K p) p
    obtain ⟨t1, t2, t3, t4, t5⟩ := hT.1 (K p) x1
    have hdb := hT.db (by omega) (K p) x1
    have go : ∃ n1, n1 < n ∧ ∃ p', p' ≤ fl ∧ n1 + p' = fl ∧ nI p + 1 = nI p' ∧ I' = I' ∧ J' = J' ∧ LP' = LP' ∧ P' = P' := ⟨n - 1, by omega, p + 1, by omega, by omega, nI_1 p, rfl, rfl, rfl, rfl⟩
    rw [x8, x9, x10, cl_ (n := K p) (by omega), t2, t3, eq_ (by omega) (by omega)]
    refine ⟨x6, x6, in_ x1 (by omega), fun _ => go, fun e => ⟨x6, x6, in_ x1 (by omega), fun _ => go, fun z => absurd ?_ z⟩⟩
    rcases t5 with ⟨t6, _⟩ | ⟨p', u1, u2, u3, u4⟩
    · omega
    · have : p' = p := cnt_inj K u2 rfl (by omega)
      subst this; exact u4
  · exact c_fat0 i11 (by omega) hge (by omega) ⟨fun _ => h, fun b e => (by cases e)⟩
theorem r_hasPrefix {M : St} {post : Int32 → St → Prop} {K d : Nat → Nat} {fl up k : Nat} {mv md mh iv id : Nat → Int32} {iu : Int32} (n6 : M 6 0 = nI fl) (h4 : fl ≤ 400) (hk : k < 6) (hlog : ∀ p, p < fl → K p < 6 ∧ M 8 p = nI (K p) ∧ M 10 p = nI (cnt K (K p) p + 1)) (hT : TgOK K fl d up mv md mh (M 9) iv id iu) (h : post 1 M) : wp_X8_hasPrefix M (nI k) (nI (d k)) (mv k) post := by
  obtain ⟨t1, t2, t3, t4, t5⟩ := hT.1 k hk
  have hdb := (hT.db h4 k hk).2
  refine ⟨fun n x y M' => M' = M ∧ ∃ p, p ≤ fl ∧ n + p = fl ∧ y = nI p ∧ ((x = 0 ∧ ∀ q, q < p → K q = k → cnt K k q + 1 ≠ d k) ∨ ∃ q, q < p ∧ K q = k ∧ cnt K k q + 1 = d k ∧ x = M 9 q), ⟨fl, rfl, 0, by omega, by omega, rfl, Or.inl ⟨rfl, fun q hq => by omega⟩⟩, ?_⟩
  rintro n x y M' ⟨rfl, p, hp, hn, rfl, hx⟩
  rw [n6, le_ (by omega) (by omega), cl_ (n := p) (by omega)]
  refine ⟨fun hc => ?_, fun hc => ⟨in_ (by omega) (by omega), ?_⟩⟩
  · have e : p = fl := by omega
    subst e
    refine nbr_f ?_ h
    rcases hx with ⟨rfl, hx⟩ | ⟨q, q1, q2, q3, rfl⟩
    · rcases t5 with ⟨_, t7⟩ | ⟨p', u1, u2, u3, u4⟩
      · exact t7.symm
      · exact absurd u3 (hx p' u1 u2)
    · rcases t5 with ⟨t6, _⟩ | ⟨p', u1, u2, u3, u4⟩
      · omega
      · have : q = p' := cnt_inj K q2 u2 (by omega)
        subst this; exact u4
  · obtain ⟨k1, k2, k3⟩ := hlog p (by omega)
    have hc1 := cnt_le K (K p) p
    rw [k2, k3, eq_ (by omega) (by omega), eq_ (by omega) (by omega)]
    have keep : (K p = k → cnt K (K p) p + 1 ≠ d k) → ∃ n1, n1 < n ∧ M' = M' ∧ ∃ p', p' ≤ fl ∧ n1 + p' = fl ∧ nI p + 1 = nI p' ∧ ((x = 0 ∧ ∀ q, q < p' → K q = k → cnt K k q + 1 ≠ d k) ∨ ∃ q, q < p' ∧ K q = k ∧ cnt K k q + 1 = d k ∧ x = M' 9 q) := by
      intro hne
      refine ⟨n - 1, by omega, rfl, p + 1, by omega, by omega, nI_1 p, ?_⟩
      rcases hx with ⟨e, hx⟩ | ⟨q, q1, q2, q3, e⟩
      · refine Or.inl ⟨e, fun q hq hkq => ?_⟩
        rcases Nat.lt_or_ge q p with y | y
        · exact hx q y hkq
        · have : q = p := by omega
          subst this
          have := hne hkq
          rw [hkq] at this; exact this
      · exact Or.inr ⟨q, by omega, q2, q3, e⟩
    refine ⟨fun z => keep (fun e => absurd e z), fun z => ⟨in_ (by omega) (by omega), fun w => keep (fun _ => w), fun w => ⟨in_ (by omega) (by omega), n - 1, by omega, rfl, p + 1, by omega, by omega, nI_1 p, Or.inr ⟨p, by omega, z, by rw [z] at w; exact w, rfl⟩⟩⟩⟩
section OPP
variable {M I : St} {J : Rf} {LP : List Nat} {P : St}
theorem o_whole (hs : SimE M I J LP P) : wp_X7_whole I J LP P (fun r I' J' LP' P' => wp_X8_whole M (fun r' M' => Same r I' J' LP' P' r' M')) := by
  obtain ⟨K, ow, en, fl, fi, po, ma, sz, LT, d, dd, up, ud, hd, HT, hS⟩ := hs
  have hL := hS.1
  have hTd := hS.2.2.2.2.2.1
  obtain ⟨n5, n6, n7, n12, n13, i12, i11, i10, i90, i91, o1, o2, o3⟩ := hS.2.2.1
  have h4 : fl ≤ 400 := by have := hL.1; have := hL.2.1; omega
  have ref : ∀ v : Int32, (Wb K dd (M 11) fl → v = 1) → (¬ Wb K dd (M 11) fl → v = 0) → wp_X8_whole M (fun r' M' => Same v I J LP P r' M') := fun v v1 v0 => r_whole n6 h4 (fun p hp => (hL.2.2.1 p (by have := hL.1; omega)).2.2.2.1) hL.2.2.2.2.1 (fun p hp => hTd.h h4 p hp) (fun w => ⟨v1 w, hS.E⟩) (fun w => ⟨v0 w, hS.E⟩)
  exact c_whole hL i11 (fun k hk => hTd.db h4 k hk) (fun w => br_f (by decide) (ref 1 (fun _ => rfl) (fun z => absurd w z))) (fun w => br_t rfl (ref 0 (fun z => absurd z w) (fun _ => rfl)))
theorem o_prefix (hs : SimE M I J LP P) (p1 : Int32) : wp_X7_prefix I J LP P p1 (fun r I' J' LP' P' => wp_X8_prefix M p1 (fun r' M' => Same r I' J' LP' P' r' M')) := by
  obtain ⟨K, ow, en, fl, fi, po, ma, sz, LT, d, dd, up, ud, hd, HT, hS⟩ := hs
  have hL := hS.1
  have hT := hS.2.2.2.2.1
  have hTd := hS.2.2.2.2.2.1
  obtain ⟨n5, n6, n7, n12, n13, i12, i11, i10, i90, i91, o1, o2, o3⟩ := hS.2.2.1
  have h4 : fl ≤ 400 := by have := hL.1; have := hL.2.1; omega
  have hlog : ∀ p, p < fl → K p < 6 ∧ M 8 p = nI (K p) ∧ M 10 p = nI (cnt K (K p) p + 1) := fun p hp => by
    have := hL.2.2.1 p (by have := hL.1; omega)
    exact ⟨this.1, this.2.1, this.2.2.1⟩
  by_cases hp : ∃ j, j ≤ 1 ∧ p1 = nI j
  · obtain ⟨j, hj, rfl⟩ := hp
    have ref : wp_X8_prefix M (nI j) (fun r' M' => Same 1 I J LP P r' M') := by
      refine r_in1 (nI_nneg (by omega)) (by rw [l1, lt_ (by omega) (by omega)]; omega) (nbr_t (by decide) ?_)
      refine ⟨fun n x y M' => M' = M ∧ x = 1 ∧ ∃ i, i ≤ 6 ∧ n + i = 6 ∧ y = nI i, ⟨6, rfl, rfl, 0, by omega, by omega, rfl⟩, ?_⟩
      rintro n x y M' ⟨rfl, rfl, i, hi, hn, rfl⟩
      rw [l6, le_ (by omega) (by omega), cl_ (n := i) (by omega), show (0 : Int32) = nI 0 from rfl, eq_ (a := j) (b := 0) (by omega) (by omega)]
      refine ⟨fun _ => br_f (by decide) ⟨rfl, hS.E⟩, fun hc => br_f (by decide) ?_⟩
      have hv : vp_in (nI i) 6 := in_ (by omega) (by omega)
      have nx : ∃ n1, n1 < n ∧ M' = M' ∧ (1 : Int32) = 1 ∧ ∃ i', i' ≤ 6 ∧ n1 + i' = 6 ∧ nI i + 1 = nI i' := ⟨n - 1, by omega, rfl, rfl, i + 1, by omega, by omega, nI_1 i⟩
      refine ⟨fun _ => ⟨hv, hv, ?_⟩, fun _ => ⟨hv, hv, ?_⟩⟩
      · rw [(hTd.1 i (by omega)).1]
        exact r_hasPrefix n6 h4 (by omega) hlog hTd (br_f (by decide) nx)
      · rw [(hT.1 i (by omega)).1]
        exact r_hasPrefix n6 h4 (by omega) hlog hT (br_f (by decide) nx)
    refine br_f (nI_nneg (by omega)) (br_t (by rw [l1, le_ (by omega) (by omega)]; exact hj) ⟨fun _ => c_prefix (j := 21) hL i11 hTd (br_f (by decide) ref), fun _ => c_prefix (j := 20) hL i11 hT (br_f (by decide) ref)⟩)
  · have ho := out_of (p := p1) (N := 1) (by omega) (fun j hj e => hp ⟨j, hj, e⟩)
    have fin : wp_X8_prefix M p1 (fun r' M' => Same (-1) I J LP P r' M') := r_in0 ho (nbr_f rfl ⟨rfl, hS.E⟩)
    exact ⟨fun _ => fin, fun h0 => br_f (ho.elim (fun z => absurd z h0) (fun z => Int32.not_le.mpr z)) fin⟩
end OPP
