theorem st_id (I : St) (c k : Nat) {v : Int32} (h : I c k = v) : st I c k v = I := by
  funext x y
  rw [st_at]
  by_cases q : x = c ∧ y = k
  · rw [if_pos q, q.1, q.2, h]
  · rw [if_neg q]
theorem st_st (I : St) (c k : Nat) (v w : Int32) : st (st I c k v) c k w = st I c k w := by
  funext x y
  rw [st_at, st_at, st_at]
  by_cases q : x = c ∧ y = k
  · rw [if_pos q, if_pos q]
  · rw [if_neg q, if_neg q, if_neg q]
theorem stJ_up (J : Rf) (c : Nat) (g : Nat → Option Nat) (k : Nat) (r : Option Nat) : stJ (va_up J c g) c k r = va_up J c (va_up g k r) := by
  funext j
  by_cases h : j = c
  · subst h; simp [stJ, va_up]
  · simp [stJ, va_up, h]
theorem upd_id (f : Nat → Int32) (k : Nat) {v : Int32} (h : f k = v) : upd f k v = f := by
  funext j
  by_cases q : j = k
  · subst q; rw [upd_s, h]
  · rw [upd_n _ _ q]
-- nothing that was flushed has changed: what lies over it stays
theorem RowOK.fp {fl n : Nat} {LT : Nat → Nat} {off : Nat} {a b c e m8 m9 m10 m8' m9' m10' : Nat → Int32} {j j2 j2' : Nat → Option Nat} (h : RowOK fl n LT off a b c e m8 m9 m10 j j2) {fl' : Nat} (hf : fl ≤ fl') (e8 : ∀ p, p < fl → m8' p = m8 p) (e9 : ∀ p, p < fl → m9' p = m9 p) (e10 : ∀ p, p < fl → m10' p = m10 p) (e2 : ∀ p, p < fl → j2' p = j2 p) : RowOK fl' n LT off a b c e m8' m9' m10' j j2' := by
  intro i hi
  obtain ⟨h1, h2, h3, h4, h5, h6⟩ := h i hi
  exact ⟨by omega, h2, by rw [e8 _ h1]; exact h3, by rw [e10 _ h1]; exact h4, by rw [e9 _ h1]; exact h5, by rw [e2 _ h1]; exact h6⟩
theorem RelOK.fp {fl : Nat} {sz : Nat → Nat} {LT : Nat → Nat → Nat} {M I M' I' : St} {J J' : Rf} (h : RelOK fl sz LT M I J) {fl' : Nat} (hf : fl ≤ fl') (e8 : ∀ p, p < fl → M' 8 p = M 8 p) (e9 : ∀ p, p < fl → M' 9 p = M 9 p) (e10 : ∀ p, p < fl → M' 10 p = M 10 p) (e2 : ∀ p, p < fl → J' 2 p = J 2 p) (e14 : M' 14 = M 14) (e15 : M' 15 = M 15) (e16 : M' 16 = M 16) (e17 : M' 17 = M 17) (e18 : M' 18 = M 18) (eI : ∀ n, n < 3 → I' (11 + n) 0 = I (11 + n) 0) (eJ : ∀ n, n < 3 → J' (15 + n) = J (15 + n)) : RelOK fl' sz LT M' I' J' := by
  intro n hn
  rw [e14, e15, e16, e17, e18, eI n hn, eJ n hn]
  obtain ⟨h1, h2, h3, h4⟩ := h n hn
  exact ⟨h1, h2, h3, h4.fp hf e8 e9 e10 e2⟩
theorem cnt_fr {K K' : Nat → Nat} {fl p : Nat} (hK : ∀ p, p < fl → K' p = K p) (hp : p ≤ fl) (k : Nat) : cnt K' k p = cnt K k p := cnt_congr (fun q hq => hK q (by omega))
theorem dn_fr {K K' d : Nat → Nat} {fl p : Nat} (hK : ∀ p, p < fl → K' p = K p) (hp : p < fl) : dn K' d p ↔ dn K d p := by
  rw [dn, dn, hK p hp, cnt_fr hK (by omega)]
theorem TgOK.fr {K K' : Nat → Nat} {fl : Nat} {d : Nat → Nat} {up : Nat} {mv md mh m9 m9' iv id : Nat → Int32} {iu : Int32} (h : TgOK K fl d up mv md mh m9 iv id iu) (hK : ∀ p, p < fl → K' p = K p) (h9 : ∀ p, p < fl → m9' p = m9 p) : TgOK K' fl d up mv md mh m9' iv id iu := by
  obtain ⟨h1, h2, h3, h4, h5, h6⟩ := h
  refine ⟨fun k hk => ?_, fun p hp => ?_, h3, h4, fun p hp => (dn_fr hK (by omega)).mpr (h5 p hp), fun z => h6 ⟨z.1, (dn_fr hK z.1).mp z.2⟩⟩
  · obtain ⟨a1, a2, a3, a4, a5⟩ := h1 k hk
    refine ⟨a1, a2, a3, by rw [cnt_fr hK (Nat.le_refl _)]; exact a4, a5.imp (fun z => z) fun ⟨p, b1, b2, b3, b4⟩ => ⟨p, b1, by rw [hK p b1]; exact b2, by rw [cnt_fr hK (by omega)]; exact b3, by rw [h9 p b1]; exact b4⟩⟩
  · rcases h2 p hp with ⟨b1, b2, b3⟩ | ⟨b1, b2⟩
    · exact Or.inl ⟨b1, (dn_fr hK b1).mpr b2, b3⟩
    · exact Or.inr ⟨fun z => b1 ⟨z.1, (dn_fr hK z.1).mp z.2⟩, b2⟩
theorem HeldOK.fr {K K' : Nat → Nat} {fl hd : Nat} {d : Nat → Nat} {HT : Nat → Nat} {M I M' I' : St} {J J' : Rf} (h : HeldOK K fl hd d HT M I J) (hK : ∀ p, p < fl → K' p = K p) (e8 : ∀ p, p < fl → M' 8 p = M 8 p) (e9 : ∀ p, p < fl → M' 9 p = M 9 p) (e10 : ∀ p, p < fl → M' 10 p = M 10 p) (e2 : ∀ p, p < fl → J' 2 p = J 2 p) (e25 : M' 25 = M 25) (e26 : M' 26 = M 26) (e27 : M' 27 = M 27) (e28 : M' 28 = M 28) (e29 : M' 29 = M 29) (eI : I' 14 0 = I 14 0) (eJ : J' 18 = J 18) : HeldOK K' fl hd d HT M' I' J' := by
  obtain ⟨h1, h2, h3, h4, h5, h6⟩ := h
  refine ⟨h1, by rw [e25]; exact h2, by rw [eI]; exact h3, ?_, fun i hi => ?_, h6⟩
  · rw [e26, e27, e28, e29, eJ]; exact h4.fp (Nat.le_refl _) e8 e9 e10 e2
  · have hp := (h4 i hi).1
    rw [hK _ hp, cnt_fr hK (by omega)]; exact h5 i hi
/-- what putIntoLog has done for the keys below i -/
def PutJ (ow : Nat → Nat) (t en i : Nat) (i7 i5 : Nat → Int32) (j2 : Nat → Option Nat) (LP : List Nat) (P : St) (g : Nat → Option Nat) (LP' : List Nat) (P' : St) : Prop :=
  (∀ p, p < en → g p = j2 p) ∧ (∀ a, a ∈ LP → a ∈ LP' ∧ P' a = P a) ∧
  ∀ j, j < i → ow j = t → ∃ a, g (en + cnt ow t j) = some a ∧ a ∈ LP' ∧ P' a = chg (nI (en + cnt ow t j)) (nI j) (i7 j) (i5 j + 1) (if cnt ow t (j + 1) = cnt ow t 6 then 1 else 0)
theorem PutJ.step {ow : Nat → Nat} {t en i : Nat} {i7 i5 : Nat → Int32} {j2 : Nat → Option Nat} {LP : List Nat} {P : St} {g : Nat → Option Nat} {LP' : List Nat} {P' : St} (h : PutJ ow t en i i7 i5 j2 LP P g LP' P') (hi : ow i = t) {q : Nat} (hq : q ∉ LP') {b : Int32} (hb : b = if cnt ow t (i + 1) = cnt ow t 6 then 1 else 0) : PutJ ow t en (i + 1) i7 i5 j2 LP P (va_up g (en + cnt ow t i) (some q)) (LP' ++ [q]) (va_up P' q (chg (nI (en + cnt ow t i)) (nI i) (i7 i) (i5 i + 1) b)) := by
  obtain ⟨h1, h2, h3⟩ := h
  have old : ∀ a, a ∈ LP' → a ∈ LP' ++ [q] ∧ va_up P' q (chg (nI (en + cnt ow t i)) (nI i) (i7 i) (i5 i + 1) b) a = P' a := fun a ha => ⟨List.mem_append_left _ ha, up_n _ _ (fun e => hq (e ▸ ha))⟩
  refine ⟨fun p hp => ?_, fun a ha => ?_, fun j hj ho => ?_⟩
  · rw [up_n _ _ (by omega)]; exact h1 p hp
  · obtain ⟨a1, a2⟩ := h2 a ha
    exact ⟨(old a a1).1, (old a a1).2.trans a2⟩
  · by_cases z : j = i
    · subst z
      exact ⟨q, up_s _ _ _, List.mem_append_right _ List.mem_cons_self, by rw [up_s, hb]⟩
    · obtain ⟨a, b1, b2, b3⟩ := h3 j (by omega) ho
      have := cnt_lt ow ho (show j < i by omega)
      exact ⟨a, by rw [up_n _ _ (by omega)]; exact b1, (old a b2).1, (old a b2).2.trans b3⟩
theorem PutJ.skip {ow : Nat → Nat} {t en i : Nat} {i7 i5 : Nat → Int32} {j2 : Nat → Option Nat} {LP : List Nat} {P : St} {g : Nat → Option Nat} {LP' : List Nat} {P' : St} (h : PutJ ow t en i i7 i5 j2 LP P g LP' P') (hi : ow i ≠ t) : PutJ ow t en (i + 1) i7 i5 j2 LP P g LP' P' := ⟨h.1, h.2.1, fun j hj ho => h.2.2 j (by
  rcases Nat.lt_or_ge j i with z | z
  · exact z
  · have : j = i := by omega
    subst this; exact absurd ho hi) ho⟩
theorem c_put {I : St} {J : Rf} {LP : List Nat} {P : St} {postv : St → Rf → List Nat → St → Prop} {ow : Nat → Nat} {t en : Nat} (ht : t < 4) (ho : ∀ k, k < 6 → I 6 k = own32 (ow k) ∧ ow k ≤ 5) (hen : I 1 2 = nI en) (hroom : en + cnt ow t 6 ≤ 400) (h : ∀ g LP' P', PutJ ow t en 6 (I 7) (I 5) (J 2) LP P g LP' P' → wp_X4_finish (st I 1 2 (nI (en + cnt ow t 6))) (va_up J 2 g) LP' P' (nI t) 4 postv) : wp_X4_putIntoLog I J LP P (nI t) (nI (cnt ow t 6)) postv := by
  refine ⟨fun n x y I' J' LP' P' => ∃ i, i ≤ 6 ∧ n + i = 6 ∧ y = nI i ∧ x = nI (cnt ow t i) ∧ I' = st I 1 2 (nI (en + cnt ow t i)) ∧ ∃ g, J' = va_up J 2 g ∧ PutJ ow t en i (I 7) (I 5) (J 2) LP P g LP' P', ⟨6, ⟨0, by omega, by omega, rfl, rfl, (st_id I 1 2 (by rw [hen]; rfl)).symm, J 2, (up_id J 2).symm, fun _ _ => rfl, fun a ha => ⟨ha, rfl⟩, fun j hj => by omega⟩, by omega⟩, ?_⟩
  rintro n x y I' J' LP' P' ⟨i, hi, hn, rfl, rfl, rfl, g, rfl, hp⟩
  rw [l6, le_ (by omega) (by omega), cl_ (n := i) (by omega)]
  refine ⟨fun hc => ?_, fun hc => ⟨in_ (by omega) (by omega), ?_⟩⟩
  · have : i = 6 := by omega
    subst this; exact h g LP' P' hp
  · obtain ⟨o1, o2⟩ := ho i (by omega)
    rw [st_n I _ _ (show (6 : Nat) ≠ 1 by decide), st_n I _ _ (show (7 : Nat) ≠ 1 by decide), st_n I _ _ (show (5 : Nat) ≠ 1 by decide), o1, own_eq o2 ht]
    refine ⟨fun q => ⟨n - 1, by omega, i + 1, by omega, by omega, nI_1 i, by rw [cnt_s, if_neg q]; rfl, by rw [cnt_s, if_neg q]; rfl, g, rfl, hp.skip q⟩, fun q => ⟨in_ (by omega) (by omega), in_ (by omega) (by omega), ?_⟩⟩
    have hlt : cnt ow t i < cnt ow t 6 := cnt_lt ow q (by omega)
    have hle := cnt_le ow t 6
    have e12 : st I 1 2 (nI (en + cnt ow t i)) 1 2 = nI (en + cnt ow t i) := by rw [st_s, upd_s]
    have s1 : cnt ow t (i + 1) = cnt ow t i + 1 := by rw [cnt_s, if_pos q]
    have app : ∀ b : Int32, (narrow .boolean (.int b) = .int b ∧ fits .boolean (.int b) = true) → (b = if cnt ow t (i + 1) = cnt ow t 6 then 1 else 0) → ∀ post : St → Rf → List Nat → St → Prop, (∀ g LP'' P'', PutJ ow t en (i + 1) (I 7) (I 5) (J 2) LP P g LP'' P'' → post (st I 1 2 (nI (en + cnt ow t (i + 1)))) (va_up J 2 g) LP'' P'') → wp_X1_append (st I 1 2 (nI (en + cnt ow t i))) (va_up J 2 g) LP' P' (nI i) (I 7 i) (I 5 i + 1) b post := by
      intro b hz hb post hpost
      unfold wp_X1_append
      rw [e12]
      refine br_f (by rw [l400, le_ (by omega) (by omega)]; omega) ⟨hz, in_ (by omega) (by omega), ?_⟩
      intro q' hq' P1 e1 J1 e2 I1 e3
      subst e1; subst e2; subst e3
      rw [cl_ (n := en + cnt ow t i) (by omega), stJ_up, st_st, nI_1]
      have := hpost _ _ _ (hp.step q hq' hb)
      rw [s1, ← Nat.add_assoc] at this
      exact this
    rw [nI_1, eq_ (by omega) (by omega)]
    have goal : ∀ g LP'' P'', PutJ ow t en (i + 1) (I 7) (I 5) (J 2) LP P g LP'' P'' → ∃ n1, n1 < n ∧ ∃ i', i' ≤ 6 ∧ n1 + i' = 6 ∧ nI i + 1 = nI i' ∧ nI (cnt ow t i + 1) = nI (cnt ow t i') ∧ st I 1 2 (nI (en + cnt ow t (i + 1))) = st I 1 2 (nI (en + cnt ow t i')) ∧ ∃ g', va_up J 2 g = va_up J 2 g' ∧ PutJ ow t en i' (I 7) (I 5) (J 2) LP P g' LP'' P'' := fun g LP'' P'' hp' => ⟨n - 1, by omega, i + 1, by omega, by omega, nI_1 i, by rw [s1], rfl, g, rfl, hp'⟩
    refine ⟨fun z => app 0 ⟨rfl, rfl⟩ (by rw [s1, if_neg z]) _ (fun g LP'' P'' hp' => goal g LP'' P'' hp'), fun z => app 1 ⟨rfl, rfl⟩ (by rw [s1, if_pos z]) _ (fun g LP'' P'' hp' => goal g LP'' P'' hp')⟩
/-- what the reference's commit has done for the keys below i -/
def PutM (ow : Nat → Nat) (t en i : Nat) (M M' : St) : Prop :=
  (∀ c, c ≠ 5 → c ≠ 8 → c ≠ 9 → c ≠ 10 → c ≠ 11 → M' c = M c) ∧ M' 5 0 = nI (en + cnt ow t i) ∧
  (∀ p, p < en → M' 8 p = M 8 p ∧ M' 9 p = M 9 p ∧ M' 10 p = M 10 p ∧ M' 11 p = M 11 p) ∧
  ∀ j, j < i → ow j = t → M' 8 (en + cnt ow t j) = nI j ∧ M' 9 (en + cnt ow t j) = M 2 (6 * t + j) ∧ M' 10 (en + cnt ow t j) = M 4 j + 1 ∧ M' 11 (en + cnt ow t j) = if cnt ow t (j + 1) = cnt ow t 6 then 1 else 0
theorem PutM.step {ow : Nat → Nat} {t en i e : Nat} {M M' M'' : St} {b : Int32} (h : PutM ow t en i M M') (hi : ow i = t) (he : e = en + cnt ow t i) (h21 : M 21 e = 0) (h24 : M 24 e = 0) (hM : M'' = st (st (st (st (st (st (st M' 8 e (nI i)) 9 e (M' 2 (6 * t + i))) 10 e (M' 4 i + 1)) 11 e b) 21 e 0) 24 e 0) 5 0 (M' 5 0 + 1)) (hb : b = if cnt ow t (i + 1) = cnt ow t 6 then 1 else 0) : PutM ow t en (i + 1) M M'' := by
  obtain ⟨h1, h2, h3, h4⟩ := h
  subst hM
  have e2 := h1 2 (by decide) (by decide) (by decide) (by decide) (by decide)
  have e4 := h1 4 (by decide) (by decide) (by decide) (by decide) (by decide)
  have e21 := h1 21 (by decide) (by decide) (by decide) (by decide) (by decide)
  have e24 := h1 24 (by decide) (by decide) (by decide) (by decide) (by decide)
  refine ⟨fun c a1 a2 a3 a4 a5 => ?_, ?_, fun p hp => ?_, fun j hj ho => ?_⟩
  · by_cases z1 : c = 21
    · subst z1
      show upd (M' 21) e 0 = M 21
      rw [e21]; exact upd_id _ _ h21
    · by_cases z2 : c = 24
      · subst z2
        show upd (M' 24) e 0 = M 24
        rw [e24]; exact upd_id _ _ h24
      · rw [st_n _ _ _ a1, st_n _ _ _ z2, st_n _ _ _ z1, st_n _ _ _ a5, st_n _ _ _ a4, st_n _ _ _ a3, st_n _ _ _ a2]
        exact h1 c a1 a2 a3 a4 a5
  · show upd (M' 5) 0 (M' 5 0 + 1) 0 = _
    rw [upd_s, h2, nI_1, cnt_s, if_pos hi, ← Nat.add_assoc]
  · show upd (M' 8) e (nI i) p = _ ∧ upd (M' 9) e (M' 2 (6 * t + i)) p = _ ∧ upd (M' 10) e (M' 4 i + 1) p = _ ∧ upd (M' 11) e b p = _
    have : p ≠ e := by omega
    rw [upd_n _ _ this, upd_n _ _ this, upd_n _ _ this, upd_n _ _ this]
    exact h3 p hp
  · show upd (M' 8) e (nI i) (en + cnt ow t j) = _ ∧ upd (M' 9) e (M' 2 (6 * t + i)) (en + cnt ow t j) = _ ∧ upd (M' 10) e (M' 4 i + 1) (en + cnt ow t j) = _ ∧ upd (M' 11) e b (en + cnt ow t j) = _
    by_cases z : j = i
    · subst z
      rw [← he, upd_s, upd_s, upd_s, upd_s, e2, e4]
      exact ⟨rfl, rfl, rfl, hb⟩
    · have := cnt_lt ow ho (show j < i by omega)
      have : en + cnt ow t j ≠ e := by omega
      rw [upd_n _ _ this, upd_n _ _ this, upd_n _ _ this, upd_n _ _ this]
      exact h4 j (by omega) ho
theorem r_commit1 {M : St} {ow : Nat → Nat} {t en : Nat} {post : Int32 → St → Prop} (ht : t < 4) (h0 : M 0 t ≠ 0) (hw : ∀ k, k < 6 → M 1 (6 * t + k) = if ow k = t then 1 else 0) (hen : M 5 0 = nI en) (hroom : en + cnt ow t 6 ≤ 400) (h21 : ∀ p, en ≤ p → p < 400 → M 21 p = 0) (h24 : ∀ p, en ≤ p → p < 400 → M 24 p = 0) (h : ∀ M', PutM ow t en 6 M M' → post (nI (cnt ow t 6)) (va_up (st M' 0 t 0) 1 (clr (M' 1) t 6))) : wp_X8_commit M (nI t) post := by
  have hle := cnt_le ow t 6
  refine r_isTr1 ht h0 (nbr_t (by decide) (r_writtenBy ht hw (br_t (by rw [hen, nI_add, l400, le_ (by omega) (by omega)]; exact hroom) ?_)))
  refine ⟨fun n x y M' => ∃ i, i ≤ 6 ∧ n + i = 6 ∧ y = nI i ∧ x = nI (cnt ow t 6 - cnt ow t i) ∧ PutM ow t en i M M', ⟨6, 0, by omega, by omega, rfl, rfl, fun _ _ _ _ _ _ => rfl, hen, fun _ _ => ⟨rfl, rfl, rfl, rfl⟩, fun j hj => by omega⟩, ?_⟩
  rintro n x y M' ⟨i, hi, hn, rfl, rfl, hp⟩
  have e1 := hp.1 1 (by decide) (by decide) (by decide) (by decide) (by decide)
  rw [l6, le_ (by omega) (by omega), ← l6, ix6, cl_ (n := 6 * t + i) (by omega), cl_ (n := t) (by omega)]
  refine ⟨fun hc => ⟨in_ ht (by omega), ?_⟩, fun hc => ⟨in_ (by omega) (by omega), ?_⟩⟩
  · have : i = 6 := by omega
    subst this
    rintro I10 rfl
    rw [nb0]
    exact r_clears ht (h M' hp)
  · rw [e1, hw i (by omega)]
    by_cases q : ow i = t
    · rw [if_pos q]
      have hlt : cnt ow t i < cnt ow t 6 := cnt_lt ow q (by omega)
      have s1 : cnt ow t (i + 1) = cnt ow t i + 1 := by rw [cnt_s, if_pos q]
      have hin : vp_in (M' 5 0) 400 := by rw [hp.2.1]; exact in_ (by omega) (by omega)
      have he : (M' 5 0).toNatClampNeg = en + cnt ow t i := by rw [hp.2.1]; exact cl_ (by omega)
      have z21 : M 21 (M' 5 0).toNatClampNeg = 0 := by rw [he]; exact h21 _ (by omega) (by omega)
      have z24 : M 24 (M' 5 0).toNatClampNeg = 0 := by rw [he]; exact h24 _ (by omega) (by omega)
      have lf : nI (cnt ow t 6 - cnt ow t i) + (-1) = nI (cnt ow t 6 - cnt ow t (i + 1)) := by
        rw [show cnt ow t 6 - cnt ow t i = (cnt ow t 6 - cnt ow t (i + 1)) + 1 by omega]; exact pk_m1 _
      rw [lf, cl_ (n := i) (by omega)]
      refine br_f (by decide) ⟨hin, ?_⟩
      rintro I14 rfl
      refine ⟨in_ (by omega) (by omega), hin, ?_⟩
      rintro I15 rfl
      refine ⟨in_ (by omega) (by omega), hin, ?_⟩
      rintro I16 rfl
      have lf0 : nI (cnt ow t 6 - cnt ow t (i + 1)) = 0 ↔ cnt ow t (i + 1) = cnt ow t 6 := by
        rw [l0, eq_ (by omega) (by omega)]
        have := cnt_mono ow t (show i + 1 ≤ 6 by omega)
        omega
      rw [lf0]
      refine ⟨fun z => ⟨hin, ?_⟩, fun z => ⟨hin, ?_⟩⟩
      · rintro I17 rfl
        refine ⟨hin, ?_⟩
        rintro I18 rfl
        refine ⟨hin, ?_⟩
        rintro I19 rfl
        rintro I20 rfl
        exact ⟨n - 1, by omega, i + 1, by omega, by omega, nI_1 i, rfl, hp.step q he z21 z24 rfl (by rw [if_neg z]; rfl)⟩
      · rintro I17 rfl
        refine ⟨hin, ?_⟩
        rintro I18 rfl
        refine ⟨hin, ?_⟩
        rintro I19 rfl
        rintro I20 rfl
        exact ⟨n - 1, by omega, i + 1, by omega, by omega, nI_1 i, rfl, hp.step q he z21 z24 rfl (by rw [if_pos z]; rfl)⟩
    · rw [if_neg q]
      have s1 : cnt ow t (i + 1) = cnt ow t i := by rw [cnt_s, if_neg q]; rfl
      refine br_t rfl ⟨n - 1, by omega, i + 1, by omega, by omega, nI_1 i, by rw [s1], hp.1, by rw [s1]; exact hp.2.1, hp.2.2.1, fun j hj ho => ?_⟩
      rcases Nat.lt_or_ge j i with z | z
      · exact hp.2.2.2 j z ho
      · have : j = i := by omega
        subst this; exact absurd ho q
theorem r_commit0 {M : St} {ow : Nat → Nat} {t en : Nat} {post : Int32 → St → Prop} (ht : t < 4) (h0 : M 0 t ≠ 0) (hw : ∀ k, k < 6 → M 1 (6 * t + k) = if ow k = t then 1 else 0) (hen : M 5 0 = nI en) (h4 : en ≤ 400) (hroom : 400 < en + cnt ow t 6) (h : post (-3) M) : wp_X8_commit M (nI t) post := by
  have hle := cnt_le ow t 6
  exact r_isTr1 ht h0 (nbr_t (by decide) (r_writtenBy ht hw (br_f (by rw [hen, nI_add, l400, le_ (by omega) (by omega)]; omega) h)))
