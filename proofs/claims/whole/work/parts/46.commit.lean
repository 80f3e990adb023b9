theorem TgOK.z {K : Nat → Nat} {fl : Nat} {d : Nat → Nat} {up : Nat} {mv md mh m9 iv id : Nat → Int32} {iu : Int32} (h : TgOK K fl d up mv md mh m9 iv id iu) {p : Nat} (h1 : fl ≤ p) (h2 : p < 400) : mh p = 0 := by
  rcases h.2.1 p h2 with ⟨b1, _⟩ | ⟨_, b2⟩
  · omega
  · exact b2
section OPC
variable {M I : St} {J : Rf} {LP : List Nat} {P : St}
theorem o_commit (hs : SimE M I J LP P) (p1 : Int32) : wp_X7_commit I J LP P p1 (fun r I' J' LP' P' => wp_X8_commit M p1 (fun r' M' => Same r I' J' LP' P' r' M')) := by
  obtain ⟨K, ow, en, fl, fi, po, ma, sz, LT, d, dd, up, ud, hd, HT, hS⟩ := hs
  have hS0 := hS
  obtain ⟨hL, hc, hN, hR, hT, hTd, hH, hC⟩ := hS
  obtain ⟨n5, n6, n7, n12, n13, i12, i11, i10, i90, i91, o1, o2, o3⟩ := hN
  obtain ⟨L1, L2, L3, L4, L5, L6⟩ := hL
  rcases tr_cases (M 0) p1 with hn | ⟨t, ht, rfl, h0⟩
  · exact c_isOpen0 (hc.tr hn) (nbr_f rfl (r_isTr0 hn (nbr_f rfl ⟨rfl, hS0.E⟩)))
  · have ho : ∀ k, k < 6 → I 6 k = own32 (ow k) ∧ ow k ≤ 5 := fun k hk => ⟨(hc.2.2 k hk).2.1, (hc.2.2 k hk).1⟩
    have hw : ∀ k, k < 6 → M 1 (6 * t + k) = if ow k = t then 1 else 0 := fun k hk => (hc.2.2 k hk).2.2.1 t ht
    have hle := cnt_le ow t 6
    refine c_isOpen1 ht (by rw [(hc.1 t ht).1]; exact h0) (nbr_t (by decide) (c_lockedKeys ht ho ?_))
    unfold wp_X1_hasRoomFor
    rw [i12, l400, pk_sub L2, lt_ (by omega) (by omega)]
    refine ⟨fun hr => nbr_f rfl (r_commit0 ht h0 hw n5 L2 (by omega) ⟨rfl, hS0.E⟩), fun hr => nbr_t (by decide) (c_put ht ho i12 (by omega) ?_)⟩
    intro g LP' P' hg
    have hroom : en + cnt ow t 6 ≤ 400 := by omega
    refine c_finish (I := st I 1 2 (nI (en + cnt ow t 6))) (nx := 4) ht (Or.inl rfl) ho (fun f hf => ?_)
    refine r_commit1 ht h0 hw n5 hroom (fun p a b => hT.z (by omega) b) (fun p a b => hTd.z (by omega) b) (fun M' hM => ⟨rfl, ?_⟩)
    obtain ⟨g1, g2, g3⟩ := hg
    obtain ⟨q1, q2, q3, q4⟩ := hM
    obtain ⟨w, hw6⟩ : ∃ w, w = cnt ow t 6 := ⟨_, rfl⟩
    rw [← hw6] at q2 q4 g3 hroom hle ⊢
    -- the keys of the places, now
    obtain ⟨K', hK'⟩ : ∃ K' : Nat → Nat, K' = fun p => if p < en then K p else (M' 8 p).toNatClampNeg := ⟨_, rfl⟩
    have kl : ∀ p, p < en → K' p = K p := fun p hp => by rw [hK']; simp only [if_pos hp]
    have kn : ∀ j, j < 6 → ow j = t → K' (en + cnt ow t j) = j := fun j hj hoj => by
      rw [hK']
      simp only [if_neg (show ¬ en + cnt ow t j < en by omega)]
      rw [(q4 j hj hoj).1]; exact cl_ (by omega)
    have new : ∀ p, en ≤ p → p < en + w → ∃ j, j < 6 ∧ ow j = t ∧ p = en + cnt ow t j := fun p h1 h2 => by
      obtain ⟨j, a, b, c⟩ := cnt_ex (K := ow) (k := t) (d := p - en) (n := 6) (by omega)
      exact ⟨j, a, b, by omega⟩
    have klf : ∀ p, p < fl → K' p = K p := fun p hp => kl p (by omega)
    have notuw : ∀ j, j < 6 → ow j = t → ∀ p, fl ≤ p → p < en → K p ≠ j := fun j hj hoj p a b e => by
      have := (hc.2.2 j hj).2.2.2.2.mpr ⟨p, a, b, e⟩
      omega
    have ord : ∀ j, j < 6 → ow j = t → cnt K' j (en + cnt ow t j) = cnt K j fl := fun j hj hoj => by
      rw [cnt_none (a := fl) (b := en + cnt ow t j) (by omega) (fun p a b e => ?_), cnt_fr klf (Nat.le_refl _)]
      rcases Nat.lt_or_ge p en with z | z
      · rw [kl p z] at e; exact notuw j hj hoj p a z e
      · obtain ⟨j', c1, c2, c3⟩ := new p z (by have := cnt_lt ow hoj (show j < 6 from hj); omega)
        rw [c3, kn j' c1 c2] at e
        subst e; omega
    have hct : ∀ k, k < 6 → cnt K' k fl = cnt K k fl := fun k _ => cnt_fr klf (Nat.le_refl _) k
    refine ⟨K', fin ow t 4 6, en + w, fl, fi, po, ma, sz, LT, d, dd, up, ud, hd, HT, ?_, ?_, ?_, ?_, ?_, ?_, ?_, ?_⟩
    · -- the log
      show LogOK K' (en + w) fl (M' 8) (M' 9) (M' 10) (M' 11) g LP' P'
      refine ⟨by omega, by omega, fun p hp => ?_, fun p q a b c e => ?_, ?_, ?_⟩
      · rcases Nat.lt_or_ge p en with z | z
        · obtain ⟨x1, x2, x3, x4, a, x5, x6, x7, x8, x9, x10, x11⟩ := L3 p z
          obtain ⟨y1, y2, y3, y4⟩ := q3 p z
          have cc : cnt K' (K p) p = cnt K (K p) p := cnt_congr (fun q hq => kl q (by omega))
          rw [kl p z, y1, y2, y3, y4, cc, g1 p z]
          obtain ⟨g21, g22⟩ := g2 a x6
          exact ⟨x1, x2, x3, x4, a, x5, g21, by rw [g22]; exact x7, by rw [g22]; exact x8, by rw [g22]; exact x9, by rw [g22]; exact x10, by rw [g22]; exact x11⟩
        · obtain ⟨j, c1, c2, rfl⟩ := new p z hp
          obtain ⟨y1, y2, y3, y4⟩ := q4 j c1 c2
          obtain ⟨a, b1, b2, b3⟩ := g3 j c1 c2
          have hk := hc.2.1 j c1
          have hv := ((hc.2.2 j c1).2.2.2.1 (by omega)).2
          rw [kn j c1 c2, ord j c1 c2, y1, y2, y3, y4, b1]
          refine ⟨c1, rfl, by rw [hk.2.2, nI_1], ?_, a, rfl, b2, ?_, ?_, ?_, ?_, ?_⟩
          · split
            · exact Or.inr rfl
            · exact Or.inl rfl
          · rw [b3]; rfl
          · rw [b3]; rfl
          · rw [b3]; show I 7 j = _; rw [hv, c2]
          · rw [b3]; show I 5 j + 1 = _; rw [hk.2.1, nI_1]
          · rw [b3]; rfl
      · rcases Nat.lt_or_ge q en with z | z
        · rw [kl p (by omega), kl q z] at e; exact L4 p q a b z e
        · obtain ⟨j, c1, c2, rfl⟩ := new q z c
          rw [kn j c1 c2] at e
          rcases Nat.lt_or_ge p en with z2 | z2
          · rw [kl p z2] at e; exact notuw j c1 c2 p a z2 e
          · obtain ⟨j', c3, c4, rfl⟩ := new p z2 (by omega)
            rw [kn j' c3 c4] at e
            subst e; omega
      · rcases Nat.eq_zero_or_pos fl with z | z
        · exact Or.inl z
        · right
          rw [(q3 (fl - 1) (by omega)).2.2.2]
          exact L5.elim (fun y => by omega) (fun y => y)
      · rcases Nat.eq_zero_or_pos w with z | z
        · rw [z, Nat.add_zero]
          rcases Nat.eq_zero_or_pos en with z2 | z2
          · exact Or.inl z2
          · right
            rw [(q3 (en - 1) (by omega)).2.2.2]
            exact L6.elim (fun y => by omega) (fun y => y)
        · right
          obtain ⟨j, c1, c2, c3⟩ := new (en + w - 1) (by omega) (by omega)
          rw [c3, (q4 j c1 c2).2.2.2, if_pos]
          rw [cnt_s, if_pos c2]; omega
    · -- the source
      have base := src_fin (K' := K') (en' := en + w) hc ht (Or.inl rfl) hf (fun k hk => ⟨?_, ?_⟩) hct
      · have m1 : M' 1 = M 1 := q1 1 (by decide) (by decide) (by decide) (by decide) (by decide)
        have m0 : M' 0 = M 0 := q1 0 (by decide) (by decide) (by decide) (by decide) (by decide)
        have m2 : M' 2 = M 2 := q1 2 (by decide) (by decide) (by decide) (by decide) (by decide)
        have m3 : M' 3 = M 3 := q1 3 (by decide) (by decide) (by decide) (by decide) (by decide)
        have m4 : M' 4 = M 4 := q1 4 (by decide) (by decide) (by decide) (by decide) (by decide)
        show SrcOK K' (fin ow t 4 6) (en + w) fl (upd (M' 0) t 0) (clr (M' 1) t 6) (M' 2) (M' 3) (M' 4) (I 4) (I 5) f (I 7) (upd (I 8) t 0)
        rw [m0, m1, m2, m3, m4]; exact base
      · rintro ⟨p, a, b, e⟩
        rcases Nat.lt_or_ge p en with z | z
        · rw [kl p z] at e; exact Or.inl ⟨p, a, z, e⟩
        · obtain ⟨j, c1, c2, rfl⟩ := new p z b
          rw [kn j c1 c2] at e
          subst e; exact Or.inr ⟨rfl, c2⟩
      · rintro (⟨p, a, b, e⟩ | ⟨-, e⟩)
        · exact ⟨p, a, by omega, by rw [kl p b]; exact e⟩
        · have := cnt_lt ow e (show k < 6 from hk)
          exact ⟨en + cnt ow t k, by omega, by omega, kn k hk e⟩
    · -- the numbers
      have m6 : M' 6 = M 6 := q1 6 (by decide) (by decide) (by decide) (by decide) (by decide)
      have m7 : M' 7 = M 7 := q1 7 (by decide) (by decide) (by decide) (by decide) (by decide)
      have m12 : M' 12 = M 12 := q1 12 (by decide) (by decide) (by decide) (by decide) (by decide)
      have m13 : M' 13 = M 13 := q1 13 (by decide) (by decide) (by decide) (by decide) (by decide)
      refine ⟨q2, ?_, ?_, ?_, ?_, rfl, i11, i10, i90, i91, o1, o2, o3⟩
      · show M' 6 0 = _; rw [m6]; exact n6
      · show M' 7 0 = _; rw [m7]; exact n7
      · show M' 12 0 = _; rw [m12]; exact n12
      · show M' 13 0 = _; rw [m13]; exact n13
    · refine hR.fp (Nat.le_refl _) (fun p hp => (q3 p (by omega)).1) (fun p hp => (q3 p (by omega)).2.1) (fun p hp => (q3 p (by omega)).2.2.1) (fun p hp => g1 p (by omega)) (q1 14 (by decide) (by decide) (by decide) (by decide) (by decide)) (q1 15 (by decide) (by decide) (by decide) (by decide) (by decide)) (q1 16 (by decide) (by decide) (by decide) (by decide) (by decide)) (q1 17 (by decide) (by decide) (by decide) (by decide) (by decide)) (q1 18 (by decide) (by decide) (by decide) (by decide) (by decide)) (fun n hn => ?_) (fun n hn => ?_)
      · rw [st_n _ _ _ (by omega), up_n _ _ (by omega), st_n _ _ _ (by omega)]
      · rw [up_n _ _ (by omega)]
    · have m19 : M' 19 = M 19 := q1 19 (by decide) (by decide) (by decide) (by decide) (by decide)
      have m20 : M' 20 = M 20 := q1 20 (by decide) (by decide) (by decide) (by decide) (by decide)
      have m21 : M' 21 = M 21 := q1 21 (by decide) (by decide) (by decide) (by decide) (by decide)
      show TgOK K' fl d up (M' 19) (M' 20) (M' 21) (M' 9) (I 22) (I 24) (I 20 0)
      rw [m19, m20, m21]
      exact hT.fr klf (fun p hp => (q3 p (by omega)).2.1)
    · have m22 : M' 22 = M 22 := q1 22 (by decide) (by decide) (by decide) (by decide) (by decide)
      have m23 : M' 23 = M 23 := q1 23 (by decide) (by decide) (by decide) (by decide) (by decide)
      have m24 : M' 24 = M 24 := q1 24 (by decide) (by decide) (by decide) (by decide) (by decide)
      show TgOK K' fl dd ud (M' 22) (M' 23) (M' 24) (M' 9) (I 23) (I 25) (I 21 0)
      rw [m22, m23, m24]
      exact hTd.fr klf (fun p hp => (q3 p (by omega)).2.1)
    · exact hH.fr klf (fun p hp => (q3 p (by omega)).1) (fun p hp => (q3 p (by omega)).2.1) (fun p hp => (q3 p (by omega)).2.2.1) (fun p hp => g1 p (by omega)) (q1 25 (by decide) (by decide) (by decide) (by decide) (by decide)) (q1 26 (by decide) (by decide) (by decide) (by decide) (by decide)) (q1 27 (by decide) (by decide) (by decide) (by decide) (by decide)) (q1 28 (by decide) (by decide) (by decide) (by decide) (by decide)) (q1 29 (by decide) (by decide) (by decide) (by decide) (by decide)) rfl rfl
    · have m30 : M' 30 = M 30 := q1 30 (by decide) (by decide) (by decide) (by decide) (by decide)
      have m31 : M' 31 = M 31 := q1 31 (by decide) (by decide) (by decide) (by decide) (by decide)
      have m32 : M' 32 = M 32 := q1 32 (by decide) (by decide) (by decide) (by decide) (by decide)
      have m33 : M' 33 = M 33 := q1 33 (by decide) (by decide) (by decide) (by decide) (by decide)
      have m34 : M' 34 = M 34 := q1 34 (by decide) (by decide) (by decide) (by decide) (by decide)
      show M' 30 0 = I 9 2 ∧ M' 31 0 = I 19 0 ∧ M' 32 0 = I 19 1 ∧ M' 33 0 = I 9 3 + I 19 2 ∧ M' 34 0 = I 0 0
      rw [m30, m31, m32, m33, m34]; exact hC
end OPC
