/-- a row without its element i: where each of the others was -/
def sh (i x : Nat) : Nat := if x < i then x else x + 1
theorem sh_lt {i x : Nat} (h : x < i) : sh i x = x := by rw [sh, if_pos h]
theorem sh_ge {i x : Nat} (h : i ≤ x) : sh i x = x + 1 := by rw [sh, if_neg (by omega)]
theorem sh_bd {i x s : Nat} (h : x + 1 < s) : sh i x < s := by rw [sh]; split <;> omega
theorem sh_inj {i x y : Nat} (h : x < y) : sh i x < sh i y := by rw [sh, sh]; split <;> split <;> omega
theorem rlen_le (j : Nat) : rlen j ≤ 40 := by rw [rlen]; split <;> omega
/-- y elements from off on have moved down by one, from i on -/
def ShY (off i y : Nat) (m f : Nat → Int32) : Prop := (∀ x, x < y → f (off + x) = m (off + sh i x)) ∧ ∀ z, (z < off ∨ off + y ≤ z) → f z = m z
theorem ShY.z {off i : Nat} {m : Nat → Int32} : ShY off i i m m := ⟨fun x hx => by rw [sh_lt hx], fun _ _ => rfl⟩
theorem ShY.s {off i y : Nat} {m f : Nat → Int32} (h : ShY off i y m f) (hi : i ≤ y) : ShY off i (y + 1) m (upd f (off + y) (f (off + y + 1))) := by
  refine ⟨fun x hx => ?_, fun z hz => ?_⟩
  · by_cases q : x = y
    · subst q
      rw [upd_s, h.2 _ (by omega), sh_ge hi, Nat.add_assoc]
    · rw [upd_n _ _ (by omega)]; exact h.1 x (by omega)
  · rw [upd_n _ _ (by omega)]; exact h.2 z (by omega)
theorem st4 (X : St) (c1 c2 c3 c4 : Nat) (f g h k : Nat → Int32) (e : Nat) (a b c d : Int32) (h12 : c1 ≠ c2) (h13 : c1 ≠ c3) (h14 : c1 ≠ c4) (h23 : c2 ≠ c3) (h24 : c2 ≠ c4) (h34 : c3 ≠ c4) : st (st (st (st (va_up (va_up (va_up (va_up X c1 f) c2 g) c3 h) c4 k) c1 e a) c2 e b) c3 e c) c4 e d = va_up (va_up (va_up (va_up X c1 (upd f e a)) c2 (upd g e b)) c3 (upd h e c)) c4 (upd k e d) := by
  rw [st_upn _ _ _ _ h14, st_upn _ _ _ _ h13, st_upn _ _ _ _ h12, st_up, st_upn _ _ _ _ h24, st_upn _ _ _ _ h23, st_up, st_upn _ _ _ _ h34, st_up, st_up]
theorem r_takesOut {M : St} {l i s : Nat} {post : St → Prop} (hl : l < 3) (hs : M 14 l = nI s) (hs4 : s ≤ 40) (hi : i < s) (h : ∀ f15 f16 f17 f18 : Nat → Int32, ShY (40 * l) i (s - 1) (M 15) f15 → ShY (40 * l) i (s - 1) (M 16) f16 → ShY (40 * l) i (s - 1) (M 17) f17 → ShY (40 * l) i (s - 1) (M 18) f18 → post (va_up (va_up (va_up (va_up (st M 14 l (nI (s - 1))) 15 f15) 16 f16) 17 f17) 18 f18)) : wp_X8_takesOut M (nI l) (nI i) post := by
  have hv : vp_in (nI l) 3 := in_ hl (by omega)
  unfold wp_X8_takesOut
  rw [cl_ (n := l) (by omega), hs, ix40, show nI s - 1 = nI (s - 1) by rw [l1, pk_sub (by omega)]]
  refine ⟨hv, hv, ?_⟩
  rintro I1 rfl
  refine ⟨fun n x M' => ∃ y, i ≤ y ∧ y ≤ s - 1 ∧ n + y = s - 1 ∧ x = nI (40 * l + y) ∧ ∃ f15 f16 f17 f18 : Nat → Int32, M' = va_up (va_up (va_up (va_up (st M 14 l (nI (s - 1))) 15 f15) 16 f16) 17 f17) 18 f18 ∧ ShY (40 * l) i y (M 15) f15 ∧ ShY (40 * l) i y (M 16) f16 ∧ ShY (40 * l) i y (M 17) f17 ∧ ShY (40 * l) i y (M 18) f18, ⟨s - 1 - i, i, by omega, by omega, by omega, rfl, M 15, M 16, M 17, M 18, ?_, ShY.z, ShY.z, ShY.z, ShY.z⟩, ?_⟩
  · rw [show M 15 = (st M 14 l (nI (s - 1))) 15 from rfl, up_id, show M 16 = (st M 14 l (nI (s - 1))) 16 from rfl, up_id, show M 17 = (st M 14 l (nI (s - 1))) 17 from rfl, up_id, show M 18 = (st M 14 l (nI (s - 1))) 18 from rfl, up_id]
  rintro n x M' ⟨y, y1, y2, y3, rfl, f15, f16, f17, f18, rfl, z15, z16, z17, z18⟩
  have e14 : va_up (va_up (va_up (va_up (st M 14 l (nI (s - 1))) 15 f15) 16 f16) 17 f17) 18 f18 14 l = nI (s - 1) := by
    show upd (M 14) l (nI (s - 1)) l = _
    rw [upd_s]
  rw [e14, l40, pk_mul, nI_add, le_ (by omega) (by omega), nI_1, cl_ (n := 40 * l + y) (by omega), cl_ (n := 40 * l + y + 1) (by omega)]
  refine ⟨hv, fun hc => ?_, fun hc => ?_⟩
  · have : y = s - 1 := by omega
    subst this
    exact h f15 f16 f17 f18 z15 z16 z17 z18
  · have v1 : vp_in (nI (40 * l + y + 1)) 120 := in_ (by omega) (by omega)
    have v0 : vp_in (nI (40 * l + y)) 120 := in_ (by omega) (by omega)
    refine ⟨v1, v0, ?_⟩
    rintro I6 rfl
    refine ⟨v1, v0, ?_⟩
    rintro I7 rfl
    refine ⟨v1, v0, ?_⟩
    rintro I8 rfl
    refine ⟨v1, v0, ?_⟩
    rintro I9 rfl
    exact ⟨n - 1, by omega, y + 1, by omega, by omega, by omega, by rw [Nat.add_assoc], _, _, _, _, st4 (st M 14 l (nI (s - 1))) 15 16 17 18 f15 f16 f17 f18 (40 * l + y) (f15 (40 * l + y + 1)) (f16 (40 * l + y + 1)) (f17 (40 * l + y + 1)) (f18 (40 * l + y + 1)) (by decide) (by decide) (by decide) (by decide) (by decide) (by decide), z15.s y1, z16.s y1, z17.s y1, z18.s y1⟩
theorem r_letsGo {M : St} {i s : Nat} {post : St → Prop} (hs : M 25 0 = nI s) (hs4 : s ≤ 8) (hi : i < s) (h : ∀ f26 f27 f28 f29 : Nat → Int32, ShY 0 i (s - 1) (M 26) f26 → ShY 0 i (s - 1) (M 27) f27 → ShY 0 i (s - 1) (M 28) f28 → ShY 0 i (s - 1) (M 29) f29 → post (va_up (va_up (va_up (va_up (st M 25 0 (nI (s - 1))) 26 f26) 27 f27) 28 f28) 29 f29)) : wp_X8_letsGo M (nI i) post := by
  unfold wp_X8_letsGo
  rw [hs, show nI s - 1 = nI (s - 1) by rw [l1, pk_sub (by omega)]]
  rintro I1 rfl
  refine ⟨fun n x M' => ∃ y, i ≤ y ∧ y ≤ s - 1 ∧ n + y = s - 1 ∧ x = nI (0 + y) ∧ ∃ f26 f27 f28 f29 : Nat → Int32, M' = va_up (va_up (va_up (va_up (st M 25 0 (nI (s - 1))) 26 f26) 27 f27) 28 f28) 29 f29 ∧ ShY 0 i y (M 26) f26 ∧ ShY 0 i y (M 27) f27 ∧ ShY 0 i y (M 28) f28 ∧ ShY 0 i y (M 29) f29, ⟨s - 1 - i, i, by omega, by omega, by omega, by rw [Nat.zero_add], M 26, M 27, M 28, M 29, ?_, ShY.z, ShY.z, ShY.z, ShY.z⟩, ?_⟩
  · rw [show M 26 = (st M 25 0 (nI (s - 1))) 26 from rfl, up_id, show M 27 = (st M 25 0 (nI (s - 1))) 27 from rfl, up_id, show M 28 = (st M 25 0 (nI (s - 1))) 28 from rfl, up_id, show M 29 = (st M 25 0 (nI (s - 1))) 29 from rfl, up_id]
  rintro n x M' ⟨y, y1, y2, y3, rfl, f26, f27, f28, f29, rfl, z26, z27, z28, z29⟩
  have e25 : va_up (va_up (va_up (va_up (st M 25 0 (nI (s - 1))) 26 f26) 27 f27) 28 f28) 29 f29 25 0 = nI (s - 1) := by
    show upd (M 25) 0 (nI (s - 1)) 0 = _
    rw [upd_s]
  rw [e25, le_ (by omega) (by omega), nI_1, cl_ (n := 0 + y) (by omega), cl_ (n := 0 + y + 1) (by omega)]
  refine ⟨fun hc => ?_, fun hc => ?_⟩
  · have : y = s - 1 := by omega
    subst this
    exact h f26 f27 f28 f29 z26 z27 z28 z29
  · have v1 : vp_in (nI (0 + y + 1)) 8 := in_ (by omega) (by omega)
    have v0 : vp_in (nI (0 + y)) 8 := in_ (by omega) (by omega)
    refine ⟨v1, v0, ?_⟩
    rintro I6 rfl
    refine ⟨v1, v0, ?_⟩
    rintro I7 rfl
    refine ⟨v1, v0, ?_⟩
    rintro I8 rfl
    refine ⟨v1, v0, ?_⟩
    rintro I9 rfl
    exact ⟨n - 1, by omega, y + 1, by omega, by omega, by omega, by rw [Nat.add_assoc], _, _, _, _, st4 (st M 25 0 (nI (s - 1))) 26 27 28 29 f26 f27 f28 f29 (0 + y) (f26 (0 + y + 1)) (f27 (0 + y + 1)) (f28 (0 + y + 1)) (f29 (0 + y + 1)) (by decide) (by decide) (by decide) (by decide) (by decide) (by decide), z26.s y1, z27.s y1, z28.s y1, z29.s y1⟩
theorem c_remove {I : St} {J : Rf} {LP : List Nat} {P : St} {post : St → Rf → List Nat → St → Prop} {j i s : Nat} (hs : I j 0 = nI s) (hsr : s ≤ rlen j) (hi : i < s) (hm : ∀ x, x < s → ∃ a, J (j + 4) x = some a ∧ a ∈ LP) (h : ∀ g : Nat → Option Nat, (∀ x, x + 1 < s → g x = J (j + 4) (sh i x)) → post (st I j 0 (nI (s - 1))) (va_up J (j + 4) g) LP P) : wp_X3_remove I J LP P j (nI i) post := by
  have hr := rlen_le j
  unfold wp_X3_remove
  rw [hs, nI_1]
  refine br_f (nI_nneg (by omega)) (br_t (by rw [lt_ (by omega) (by omega)]; exact hi) ?_)
  refine ⟨fun n x I' J' LP' P' => I' = I ∧ LP' = LP ∧ P' = P ∧ ∃ y, i + 1 ≤ y ∧ y ≤ s ∧ n + y = s ∧ x = nI y ∧ ∃ g, J' = va_up J (j + 4) g ∧ (∀ x, x + 1 < y → g x = J (j + 4) (sh i x)) ∧ (∀ x, y ≤ x + 1 → g x = J (j + 4) x), ⟨s - (i + 1), rfl, rfl, rfl, i + 1, by omega, by omega, by omega, rfl, J (j + 4), (up_id J (j + 4)).symm, fun x hx => by rw [sh_lt (by omega)], fun _ _ => rfl⟩, ?_⟩
  rintro n x I' J' LP' P' ⟨rfl, rfl, rfl, y, y1, y2, y3, rfl, g, rfl, g1, g2⟩
  rw [hs, le_ (by omega) (by omega), show nI y - 1 = nI (y - 1) by rw [l1, pk_sub (by omega)], cl_ (n := y) (by omega), cl_ (n := y - 1) (by omega), up_s, g2 y (by omega)]
  refine ⟨fun hc => ?_, fun hc => ⟨in_ (by omega) (by omega), fun z => ?_, fun a z => ⟨in_ (by omega) (by omega), ?_, ?_⟩⟩⟩
  · have : y = s := by omega
    subst this
    rintro I8 rfl
    rw [show nI y - 1 = nI (y - 1) by rw [l1, pk_sub (by omega)]]
    exact h g g1
  · obtain ⟨a, e, _⟩ := hm y (by omega)
    rw [e] at z; cases z
  · obtain ⟨b, e, hb⟩ := hm y (by omega)
    rw [e] at z; cases z; exact hb
  · rintro J12 rfl
    refine ⟨n - 1, by omega, rfl, rfl, rfl, y + 1, by omega, by omega, by omega, nI_1 y, va_up g (y - 1) (some a), stJ_up _ _ _ _ _, fun x hx => ?_, fun x hx => ?_⟩
    · by_cases q : x = y - 1
      · subst q
        rw [up_s, sh_ge (by omega), show y - 1 + 1 = y by omega, z]
      · rw [up_n _ _ q]; exact g1 x (by omega)
    · rw [up_n _ _ (by omega)]; exact g2 x (by omega)
theorem c_find {I : St} {J : Rf} {LP : List Nat} {P : St} {post : Int32 → St → Rf → List Nat → St → Prop} {hd k o : Nat} {kk oo : Nat → Nat} (h14 : I 14 0 = nI hd) (h8 : hd ≤ 8) (hrow : ∀ i, i < hd → ∃ a, J 18 i = some a ∧ a ∈ LP ∧ P a 1 = nI (kk i) ∧ P a 3 = nI (oo i) ∧ kk i < 1000 ∧ oo i < 1000) (hk : k < 1000) (ho : o < 1000) (h0 : (∀ i, i < hd → ¬ (kk i = k ∧ oo i = o)) → post (-9) I J LP P) (h1 : ∀ i, i < hd → kk i = k → oo i = o → (∀ i', i' < i → ¬ (kk i' = k ∧ oo i' = o)) → post (nI i) I J LP P) : wp_X3_find I J LP P 14 (nI k) (nI o) post := by
  refine ⟨fun n x I' J' LP' P' => I' = I ∧ J' = J ∧ LP' = LP ∧ P' = P ∧ ∃ i, i ≤ hd ∧ n + i = hd ∧ x = nI i ∧ ∀ i', i' < i → ¬ (kk i' = k ∧ oo i' = o), ⟨hd, rfl, rfl, rfl, rfl, 0, by omega, by omega, rfl, fun i' h => by omega⟩, ?_⟩
  rintro n x I' J' LP' P' ⟨rfl, rfl, rfl, rfl, i, hi, hn, rfl, hno⟩
  rw [h14, le_ (by omega) (by omega), cl_ (n := i) (by omega)]
  refine ⟨fun hc => ?_, fun hc => ?_⟩
  · have : i = hd := by omega
    subst this; exact h0 hno
  · obtain ⟨a, e1, e2, e3, e4, b1, b2⟩ := hrow i (by omega)
    have keep : ¬ (kk i = k ∧ oo i = o) → ∃ n1, n1 < n ∧ I' = I' ∧ J' = J' ∧ LP' = LP' ∧ P' = P' ∧ ∃ i', i' ≤ hd ∧ n1 + i' = hd ∧ nI i + 1 = nI i' ∧ ∀ i'', i'' < i' → ¬ (kk i'' = k ∧ oo i'' = o) := fun hne => ⟨n - 1, by omega, rfl, rfl, rfl, rfl, i + 1, by omega, by omega, nI_1 i, fun i'' hi'' => by
      rcases Nat.lt_or_ge i'' i with z | z
      · exact hno i'' z
      · rw [show i'' = i by omega]; exact hne⟩
    refine ⟨in_ (by show i < 8; omega) (by show 8 ≤ 1000000; omega), fun z => ?_, fun b z => ?_⟩
    · rw [e1] at z; cases z
    · rw [e1] at z; cases z
      rw [e3, e4, eq_ (by omega) (by omega), eq_ (by omega) (by omega)]
      exact ⟨e2, fun z => keep (fun y => z y.1), fun z => ⟨e2, fun w => keep (fun y => w y.2), fun w => h1 i (by omega) z w hno⟩⟩
theorem r_findHeld {M : St} {post : Int32 → St → Prop} {hd k o : Nat} {kk oo : Nat → Nat} (h25 : M 25 0 = nI hd) (h8 : hd ≤ 8) (hrow : ∀ i, i < hd → M 26 i = nI (kk i) ∧ M 27 i = nI (oo i) ∧ kk i < 1000 ∧ oo i < 1000) (hk : k < 1000) (ho : o < 1000) (h0 : (∀ i, i < hd → ¬ (kk i = k ∧ oo i = o)) → post (-1) M) (h1 : ∀ i, i < hd → kk i = k → oo i = o → (∀ i', i' < i → ¬ (kk i' = k ∧ oo i' = o)) → post (nI i) M) : wp_X8_findHeld M (nI k) (nI o) post := by
  refine ⟨fun n x M' => M' = M ∧ ∃ i, i ≤ hd ∧ n + i = hd ∧ x = nI i ∧ ∀ i', i' < i → ¬ (kk i' = k ∧ oo i' = o), ⟨hd, rfl, 0, by omega, by omega, rfl, fun i' h => by omega⟩, ?_⟩
  rintro n x M' ⟨rfl, i, hi, hn, rfl, hno⟩
  rw [h25, le_ (by omega) (by omega), cl_ (n := i) (by omega)]
  refine ⟨fun hc => ?_, fun hc => ?_⟩
  · have : i = hd := by omega
    subst this; exact h0 hno
  · obtain ⟨e3, e4, b1, b2⟩ := hrow i (by omega)
    have keep : ¬ (kk i = k ∧ oo i = o) → ∃ n1, n1 < n ∧ M' = M' ∧ ∃ i', i' ≤ hd ∧ n1 + i' = hd ∧ nI i + 1 = nI i' ∧ ∀ i'', i'' < i' → ¬ (kk i'' = k ∧ oo i'' = o) := fun hne => ⟨n - 1, by omega, rfl, i + 1, by omega, by omega, nI_1 i, fun i'' hi'' => by
      rcases Nat.lt_or_ge i'' i with z | z
      · exact hno i'' z
      · rw [show i'' = i by omega]; exact hne⟩
    have hv : vp_in (nI i) 8 := in_ (by omega) (by omega)
    rw [e3, e4, eq_ (by omega) (by omega), eq_ (by omega) (by omega)]
    exact ⟨hv, fun z => keep (fun y => z y.1), fun z => ⟨hv, fun w => keep (fun y => w y.2), fun w => h1 i (by omega) z w hno⟩⟩
theorem c_rat1 {I : St} {J : Rf} {LP : List Nat} {P : St} {post : Option Nat → St → Rf → List Nat → St → Prop} {j i s a : Nat} (hs : I j 0 = nI s) (hsr : s ≤ rlen j) (hi : i < s) (ha : J (j + 4) i = some a) (h : post (some a) I J LP P) : wp_X3_at I J LP P j (nI i) post := by
  have hr := rlen_le j
  unfold wp_X3_at
  rw [hs, cl_ (n := i) (by omega), ha]
  refine br_f (nI_nneg (by omega)) (br_f (by rw [le_ (by omega) (by omega)]; omega) ⟨in_ (by omega) (by omega), fun z => (by cases z), fun b e => ?_⟩)
  cases e; exact h
theorem c_rat0 {I : St} {J : Rf} {LP : List Nat} {P : St} {post : Option Nat → St → Rf → List Nat → St → Prop} {j s : Nat} {p : Int32} (hs : I j 0 = nI s) (hsr : s ≤ rlen j) (hi : ∀ i, i < s → p ≠ nI i) (h : post none I J LP P) : wp_X3_at I J LP P j p post := by
  have hr := rlen_le j
  unfold wp_X3_at
  rw [hs]
  rcases ge_out (by omega) hi with z | z
  · exact br_t z h
  · exact ⟨fun _ => h, fun _ => br_t z h⟩
theorem nI_m9 {i : Nat} (h : i < 1000000) : nI i ≠ (-9) := fun e => absurd (show nI i < 0 by rw [e]; decide) (nI_nneg h)
