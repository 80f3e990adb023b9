/-- a sum of n numbers -/
def sm (f : Nat → Int32) : Nat → Int32
  | 0 => 0
  | n + 1 => sm f n + f n
theorem sm_congr {f g : Nat → Int32} {n : Nat} (h : ∀ k, k < n → f k = g k) : sm f n = sm g n := by
  induction n with
  | zero => rfl
  | succ n ih => simp only [sm]; rw [ih (fun k hk => h k (by omega)), h n (by omega)]
theorem sm_neg (a b : Nat → Int32) (n : Nat) : -(sm (fun k => a k - b k) n) = sm (fun k => b k - a k) n := by
  induction n with
  | zero => exact Int32.neg_zero
  | succ n ih =>
    simp only [sm]
    rw [Int32.neg_add, ih, Int32.sub_eq_add_neg, Int32.neg_sub]
theorem st_upn (M : St) {c d : Nat} (f : Nat → Int32) (k : Nat) (v : Int32) (h : d ≠ c) : st (va_up M c f) d k v = va_up (st M d k v) c f := by
  funext j
  by_cases h1 : j = c
  · subst h1; rw [st_n _ _ _ (fun e => h e.symm), up_s, up_s]
  · by_cases h2 : j = d
    · subst h2; rw [st_s, up_n _ _ h1, up_n _ _ h1, st_s]
    · rw [st_n _ _ _ h2, up_n _ _ h1, up_n _ _ h1, st_n _ _ _ h2]
theorem st_mk (M : St) (c k : Nat) (v : Int32) : st M c k v = va_up M c (upd (M c) k v) := rfl
theorem r_crashS {M : St} {post : Int32 → St → Prop} (h : ∀ f0 f1 : Nat → Int32, (∀ t, t < 4 → f0 t = 0) → (∀ i, i < 24 → f1 i = 0) → post (M 5 0 - M 6 0) (va_up (va_up (st M 5 0 (M 6 0)) 0 f0) 1 f1)) : wp_X8_crashSource M post := by
  rintro I1 rfl
  refine ⟨fun n x M' => ∃ i, i ≤ 4 ∧ n + i = 4 ∧ x = nI i ∧ ∃ f0 f1 : Nat → Int32, M' = va_up (va_up (st M 5 0 (M 6 0)) 0 f0) 1 f1 ∧ (∀ t, t < i → f0 t = 0) ∧ (∀ j, j < 6 * i → f1 j = 0), ⟨4, 0, by omega, by omega, rfl, M 0, M 1, ?_, fun t ht => by omega, fun t ht => by omega⟩, ?_⟩
  · funext c
    by_cases h1 : c = 1
    · subst h1; rw [up_s, st_n _ _ _ (by decide)]
    · rw [up_n _ _ h1]
      by_cases h0 : c = 0
      · subst h0; rw [up_s, st_n _ _ _ (by decide)]
      · rw [up_n _ _ h0]
  rintro n x M' ⟨i, hi, hn, rfl, f0, f1, rfl, z0, z1⟩
  rw [l4, le_ (by omega) (by omega), cl_ (n := i) (by omega), nb0]
  refine ⟨fun hc => ?_, fun hc => ⟨in_ (by omega) (by omega), ?_⟩⟩
  · have : i = 4 := by omega
    subst this; exact h f0 f1 z0 z1
  · rintro I6 rfl
    refine r_clears (by omega) ⟨n - 1, by omega, i + 1, by omega, by omega, nI_1 i, upd f0 i 0, clr f1 i 6, ?_, fun t ht => ?_, fun j hj => ?_⟩
    · rw [st_upn _ _ _ _ (by decide), st_up, bx_uu, up_s]
    · by_cases q : t = i
      · subst q; rw [upd_s]
      · rw [upd_n _ _ q]; exact z0 t (by omega)
    · simp only [clr]
      split
      · rfl
      · exact z1 j (by omega)
theorem c_crashS {I : St} {J : Rf} {LP : List Nat} {P : St} {post : Int32 → St → Rf → List Nat → St → Prop} (h : ∀ f8 f6 : Nat → Int32, (∀ t, t < 4 → f8 t = 0) → (∀ k, k < 6 → f6 k = (-1)) → post (I 1 2 - I 1 1) (st (va_up (va_up I 8 f8) 6 f6) 1 2 (I 1 1)) J LP P) : wp_X4_restart I J LP P post := by
  refine ⟨fun n x I' J' LP' P' => ∃ i, i ≤ 4 ∧ n + i = 4 ∧ x = nI i ∧ J' = J ∧ LP' = LP ∧ P' = P ∧ ∃ f8 : Nat → Int32, I' = va_up I 8 f8 ∧ (∀ t, t < i → f8 t = 0), ⟨4, 0, by omega, by omega, rfl, rfl, rfl, rfl, I 8, (up_id I 8).symm, fun t ht => by omega⟩, ?_⟩
  rintro n x I' J' LP' P' ⟨i, hi, hn, rfl, rfl, rfl, rfl, f8, rfl, z8⟩
  rw [l4, le_ (by omega) (by omega), cl_ (n := i) (by omega), nb0]
  refine ⟨fun hc => ?_, fun hc => ⟨in_ (by omega) (by omega), ?_⟩⟩
  · have : i = 4 := by omega
    subst this
    refine ⟨fun n x I' J'' LP'' P'' => ∃ i, i ≤ 6 ∧ n + i = 6 ∧ x = nI i ∧ J'' = J' ∧ LP'' = LP' ∧ P'' = P' ∧ ∃ f6 : Nat → Int32, I' = va_up (va_up I 8 f8) 6 f6 ∧ (∀ t, t < i → f6 t = (-1)), ⟨6, 0, by omega, by omega, rfl, rfl, rfl, rfl, I 6, ?_, fun t ht => by omega⟩, ?_⟩
    · rw [show I 6 = (va_up I 8 f8) 6 from rfl, up_id]
    · rintro n x I' J'' LP'' P'' ⟨i, hi, hn, rfl, rfl, rfl, rfl, f6, rfl, z6⟩
      rw [l6, le_ (by omega) (by omega), cl_ (n := i) (by omega)]
      refine ⟨fun hc => ?_, fun hc => ⟨in_ (by omega) (by omega), ?_⟩⟩
      · have : i = 6 := by omega
        subst this
        rintro I1 rfl
        exact h f8 f6 z8 z6
      · rintro I8 rfl
        refine ⟨n - 1, by omega, i + 1, by omega, by omega, nI_1 i, rfl, rfl, rfl, upd f6 i (-1), by rw [st_up], fun t ht => ?_⟩
        by_cases q : t = i
        · subst q; rw [upd_s]
        · rw [upd_n _ _ q]; exact z6 t (by omega)
  · rintro I18 rfl
    refine ⟨n - 1, by omega, i + 1, by omega, by omega, nI_1 i, rfl, rfl, rfl, upd f8 i 0, by rw [st_up], fun t ht => ?_⟩
    by_cases q : t = i
    · subst q; rw [upd_s]
    · rw [upd_n _ _ q]; exact z8 t (by omega)
/-- one state of the target becomes the other -/
theorem c_become {I : St} {J : Rf} {LP : List Nat} {P : St} {post : Int32 → St → Rf → List Nat → St → Prop} {j j2 : Nat} (hj : (j = 20 ∧ j2 = 21) ∨ (j = 21 ∧ j2 = 20)) (h : ∀ f g : Nat → Int32, (∀ k, k < 6 → f k = I (j2 + 2) k) → (∀ k, k < 6 → g k = I (j2 + 4) k) → post (sm (fun k => I (j2 + 4) k - I (j + 4) k) 6) (st (va_up (va_up I (j + 2) f) (j + 4) g) j 0 (I j2 0)) J LP P) : wp_X6_become I J LP P j j2 post := by
  refine ⟨fun n x y I' J' LP' P' => ∃ i, i ≤ 6 ∧ n + i = 6 ∧ y = nI i ∧ x = sm (fun k => I (j2 + 4) k - I (j + 4) k) i ∧ J' = J ∧ LP' = LP ∧ P' = P ∧ ∃ f g : Nat → Int32, I' = va_up (va_up I (j + 2) f) (j + 4) g ∧ (∀ k, k < i → f k = I (j2 + 2) k) ∧ (∀ k, k < i → g k = I (j2 + 4) k) ∧ (∀ k, i ≤ k → g k = I (j + 4) k), ⟨6, 0, by omega, by omega, rfl, rfl, rfl, rfl, rfl, I (j + 2), I (j + 4), by rw [up_id, up_id], fun k hk => by omega, fun k hk => by omega, fun _ _ => rfl⟩, ?_⟩
  rintro n x y I' J' LP' P' ⟨i, hi, hn, rfl, rfl, rfl, rfl, rfl, f, g, rfl, z1, z2, z3⟩
  have e2 : (va_up (va_up I (j + 2) f) (j + 4) g) (j2 + 2) = I (j2 + 2) := by rw [up_n _ _ (by omega), up_n _ _ (by omega)]
  have e4 : (va_up (va_up I (j + 2) f) (j + 4) g) (j2 + 4) = I (j2 + 4) := by rw [up_n _ _ (by omega), up_n _ _ (by omega)]
  have e0 : (va_up (va_up I (j + 2) f) (j + 4) g) j2 = I j2 := by rw [up_n _ _ (by omega), up_n _ _ (by omega)]
  rw [l6, le_ (by omega) (by omega), cl_ (n := i) (by omega), e2, e4, e0, up_s]
  refine ⟨fun hc => ?_, fun hc => ?_⟩
  · have : i = 6 := by omega
    subst this
    rintro I9 rfl
    exact h f g z1 z2
  · have hv : vp_in (nI i) 6 := in_ (by omega) (by omega)
    refine ⟨hv, hv, hv, hv, ?_⟩
    rintro I10 rfl
    refine ⟨hv, hv, ?_⟩
    rintro I11 rfl
    refine ⟨n - 1, by omega, i + 1, by omega, by omega, nI_1 i, ?_, rfl, rfl, rfl, upd f i (I (j2 + 2) i), upd g i (I (j2 + 4) i), ?_, fun k hk => ?_, fun k hk => ?_, fun k hk => ?_⟩
    · rw [z3 i (Nat.le_refl _)]; rfl
    · rw [st_n _ _ _ (show j2 + 4 ≠ j + 2 by omega), e4, st_upn _ _ _ _ (by omega), st_up, st_up]
    · by_cases q : k = i
      · subst q; rw [upd_s]
      · rw [upd_n _ _ q]; exact z1 k (by omega)
    · by_cases q : k = i
      · subst q; rw [upd_s]
      · rw [upd_n _ _ q]; exact z2 k (by omega)
    · rw [upd_n _ _ (by omega)]; exact z3 k (by omega)
/-- the reference's copy of a target's state, as far as crashTarget and saves have it in common -/
theorem r_crashT {M : St} {post : Int32 → St → Prop} (hb : ∀ p, p < 400 → M 24 p = 0 ∨ M 24 p = 1) (h : ∀ f g e : Nat → Int32, (∀ k, k < 6 → f k = M 22 k) → (∀ k, k < 6 → g k = M 23 k) → (∀ p, p < 400 → e p = M 24 p) → post (sm (fun k => M 20 k - M 23 k) 6) (st (va_up (va_up (va_up M 19 f) 20 g) 21 e) 25 0 0)) : wp_X8_crashTarget M post := by
  refine ⟨fun n x y M' => ∃ i, i ≤ 6 ∧ n + i = 6 ∧ y = nI i ∧ x = sm (fun k => M 20 k - M 23 k) i ∧ ∃ f g : Nat → Int32, M' = va_up (va_up M 19 f) 20 g ∧ (∀ k, k < i → f k = M 22 k) ∧ (∀ k, k < i → g k = M 23 k) ∧ (∀ k, i ≤ k → g k = M 20 k), ⟨6, 0, by omega, by omega, rfl, rfl, M 19, M 20, by rw [up_id, up_id], fun k hk => by omega, fun k hk => by omega, fun _ _ => rfl⟩, ?_⟩
  rintro n x y M' ⟨i, hi, hn, rfl, rfl, f, g, rfl, z1, z2, z3⟩
  rw [l6, le_ (by omega) (by omega), cl_ (n := i) (by omega)]
  refine ⟨fun hc => ?_, fun hc => ?_⟩
  · have : i = 6 := by omega
    subst this
    refine ⟨fun n x M' => ∃ i, i ≤ 400 ∧ n + i = 400 ∧ x = nI i ∧ ∃ e : Nat → Int32, M' = va_up (va_up (va_up M 19 f) 20 g) 21 e ∧ (∀ p, p < i → e p = M 24 p), ⟨400, 0, by omega, by omega, rfl, M 21, ?_, fun k hk => by omega⟩, ?_⟩
    · rw [show M 21 = (va_up (va_up M 19 f) 20 g) 21 from rfl, up_id]
    · rintro n x M' ⟨i, hi, hn, rfl, e, rfl, ze⟩
      rw [l400, le_ (by omega) (by omega), cl_ (n := i) (by omega)]
      refine ⟨fun hc => ?_, fun hc => ⟨in_ (by omega) (by omega), in_ (by omega) (by omega), ?_⟩⟩
      · have : i = 400 := by omega
        subst this
        rintro I10 rfl
        exact h f g e z1 z2 ze
      · rintro I11 rfl
        refine ⟨n - 1, by omega, i + 1, by omega, by omega, nI_1 i, upd e i (M 24 i), ?_, fun k hk => ?_⟩
        · rw [st_up]
          refine congrArg (fun z => va_up (va_up (va_up M 19 f) 20 g) 21 (upd e i z)) ?_
          show vp_nar .boolean (M 24 i) = M 24 i
          rcases hb i (by omega) with z | z <;> rw [z] <;> rfl
        · by_cases q : k = i
          · subst q; rw [upd_s]
          · rw [upd_n _ _ q]; exact ze k (by omega)
  · have hv : vp_in (nI i) 6 := in_ (by omega) (by omega)
    refine ⟨hv, hv, hv, hv, ?_⟩
    rintro I10 rfl
    refine ⟨hv, hv, ?_⟩
    rintro I11 rfl
    refine ⟨n - 1, by omega, i + 1, by omega, by omega, nI_1 i, ?_, upd f i (M 22 i), upd g i (M 23 i), ?_, fun k hk => ?_, fun k hk => ?_, fun k hk => ?_⟩
    · show sm (fun k => M 20 k - M 23 k) i + (g i - M 23 i) = _
      rw [z3 i (Nat.le_refl _)]; rfl
    · show st (st (va_up (va_up M 19 f) 20 g) 19 i (M 22 i)) 20 i (M 23 i) = _
      rw [st_upn _ _ _ _ (by decide), st_up, st_up]
    · by_cases q : k = i
      · subst q; rw [upd_s]
      · rw [upd_n _ _ q]; exact z1 k (by omega)
    · by_cases q : k = i
      · subst q; rw [upd_s]
      · rw [upd_n _ _ q]; exact z2 k (by omega)
    · rw [upd_n _ _ (by omega)]; exact z3 k (by omega)
theorem r_saves {M : St} {post : Int32 → St → Prop} (hb : ∀ p, p < 400 → M 21 p = 0 ∨ M 21 p = 1) (h : ∀ f g e : Nat → Int32, (∀ k, k < 6 → f k = M 19 k) → (∀ k, k < 6 → g k = M 20 k) → (∀ p, p < 400 → e p = M 21 p) → post (sm (fun k => M 20 k - M 23 k) 6) (va_up (va_up (va_up M 22 f) 23 g) 24 e)) : wp_X8_saves M post := by
  refine ⟨fun n x y M' => ∃ i, i ≤ 6 ∧ n + i = 6 ∧ y = nI i ∧ x = sm (fun k => M 20 k - M 23 k) i ∧ ∃ f g : Nat → Int32, M' = va_up (va_up M 22 f) 23 g ∧ (∀ k, k < i → f k = M 19 k) ∧ (∀ k, k < i → g k = M 20 k) ∧ (∀ k, i ≤ k → g k = M 23 k), ⟨6, 0, by omega, by omega, rfl, rfl, M 22, M 23, by rw [up_id, up_id], fun k hk => by omega, fun k hk => by omega, fun _ _ => rfl⟩, ?_⟩
  rintro n x y M' ⟨i, hi, hn, rfl, rfl, f, g, rfl, z1, z2, z3⟩
  rw [l6, le_ (by omega) (by omega), cl_ (n := i) (by omega)]
  refine ⟨fun hc => ?_, fun hc => ?_⟩
  · have : i = 6 := by omega
    subst this
    refine ⟨fun n x M' => ∃ i, i ≤ 400 ∧ n + i = 400 ∧ x = nI i ∧ ∃ e : Nat → Int32, M' = va_up (va_up (va_up M 22 f) 23 g) 24 e ∧ (∀ p, p < i → e p = M 21 p), ⟨400, 0, by omega, by omega, rfl, M 24, ?_, fun k hk => by omega⟩, ?_⟩
    · rw [show M 24 = (va_up (va_up M 22 f) 23 g) 24 from rfl, up_id]
    · rintro n x M' ⟨i, hi, hn, rfl, e, rfl, ze⟩
      rw [l400, le_ (by omega) (by omega), cl_ (n := i) (by omega)]
      refine ⟨fun hc => ?_, fun hc => ⟨in_ (by omega) (by omega), in_ (by omega) (by omega), ?_⟩⟩
      · have : i = 400 := by omega
        subst this
        exact h f g e z1 z2 ze
      · rintro I11 rfl
        refine ⟨n - 1, by omega, i + 1, by omega, by omega, nI_1 i, upd e i (M 21 i), ?_, fun k hk => ?_⟩
        · rw [st_up]
          refine congrArg (fun z => va_up (va_up (va_up M 22 f) 23 g) 24 (upd e i z)) ?_
          show vp_nar .boolean (M 21 i) = M 21 i
          rcases hb i (by omega) with z | z <;> rw [z] <;> rfl
        · by_cases q : k = i
          · subst q; rw [upd_s]
          · rw [upd_n _ _ q]; exact ze k (by omega)
  · have hv : vp_in (nI i) 6 := in_ (by omega) (by omega)
    refine ⟨hv, hv, hv, hv, ?_⟩
    rintro I10 rfl
    refine ⟨hv, hv, ?_⟩
    rintro I11 rfl
    refine ⟨n - 1, by omega, i + 1, by omega, by omega, nI_1 i, ?_, upd f i (M 19 i), upd g i (M 20 i), ?_, fun k hk => ?_, fun k hk => ?_, fun k hk => ?_⟩
    · show sm (fun k => M 20 k - M 23 k) i + (M 20 i - g i) = _
      rw [z3 i (Nat.le_refl _)]; rfl
    · show st (st (va_up (va_up M 22 f) 23 g) 22 i (M 19 i)) 23 i (M 20 i) = _
      rw [st_upn _ _ _ _ (by decide), st_up, st_up]
    · by_cases q : k = i
      · subst q; rw [upd_s]
      · rw [upd_n _ _ q]; exact z1 k (by omega)
    · by_cases q : k = i
      · subst q; rw [upd_s]
      · rw [upd_n _ _ q]; exact z2 k (by omega)
    · rw [upd_n _ _ (by omega)]; exact z3 k (by omega)
theorem TgOK.bit {K : Nat → Nat} {fl : Nat} {d : Nat → Nat} {up : Nat} {mv md mh m9 iv id : Nat → Int32} {iu : Int32} (h : TgOK K fl d up mv md mh m9 iv id iu) (p : Nat) (hp : p < 400) : mh p = 0 ∨ mh p = 1 := by
  rcases h.2.1 p hp with ⟨_, _, b⟩ | ⟨_, b⟩
  · exact Or.inr b
  · exact Or.inl b
theorem TgOK.cp {K : Nat → Nat} {fl : Nat} {d : Nat → Nat} {up : Nat} {mv md mh m9 iv id mv' md' mh' iv' id' : Nat → Int32} {iu : Int32} (h : TgOK K fl d up mv md mh m9 iv id iu) (e1 : ∀ k, k < 6 → mv' k = mv k) (e2 : ∀ k, k < 6 → md' k = md k) (e3 : ∀ p, p < 400 → mh' p = mh p) (e4 : ∀ k, k < 6 → iv' k = iv k) (e5 : ∀ k, k < 6 → id' k = id k) : TgOK K fl d up mv' md' mh' m9 iv' id' iu := by
  obtain ⟨h1, h2, h3, h4, h5, h6⟩ := h
  refine ⟨fun k hk => ?_, fun p hp => ?_, h3, h4, h5, h6⟩
  · rw [e1 k hk, e2 k hk, e4 k hk, e5 k hk]; exact h1 k hk
  · rw [e3 p hp]; exact h2 p hp
section OPK
variable {M I : St} {J : Rf} {LP : List Nat} {P : St}
theorem o_crash (hs : SimE M I J LP P) (p1 : Int32) : wp_X7_crash I J LP P p1 (fun r I' J' LP' P' => wp_X8_crash M p1 (fun r' M' => Same r I' J' LP' P' r' M')) := by
  obtain ⟨K, ow, en, fl, fi, po, ma, sz, LT, d, dd, up, ud, hd, HT, hS⟩ := hs
  have hS0 := hS
  obtain ⟨hL, hc, hN, hR, hT, hTd, hH, hC⟩ := hS
  obtain ⟨n5, n6, n7, n12, n13, i12, i11, i10, i90, i91, o1, o2, o3⟩ := hN
  obtain ⟨L1, L2, L3, L4, L5, L6⟩ := hL
  obtain ⟨k30, k31, k32, k33, k34⟩ := hC
  by_cases hp : ∃ j, j ≤ 2 ∧ p1 = nI j
  · obtain ⟨j, hj, rfl⟩ := hp
    refine br_f (nI_nneg (by omega)) (br_t (by rw [l2, le_ (by omega) (by omega)]; exact hj) ?_)
    rintro I1 rfl
    rw [show (0 : Int32) = nI 0 from rfl, show (1 : Int32) = nI 1 from rfl, eq_ (by omega) (by omega), eq_ (by omega) (by omega)]
    have ref : ∀ post : Int32 → St → Prop, ((¬ j = 0 → ((¬ j = 1 → (wp_X8_crashTarget (st M 34 0 (M 34 0 + 1)) (fun r4 I5 => (post r4 I5)))) ∧ (j = 1 → (∀ I6 : St, I6 = st (st M 34 0 (M 34 0 + 1)) 12 0 ((st M 34 0 (M 34 0 + 1)) 13 0) → (post (((st M 34 0 (M 34 0 + 1)) 12 0) - ((st M 34 0 (M 34 0 + 1)) 13 0)) I6))))) ∧ (j = 0 → (wp_X8_crashSource (st M 34 0 (M 34 0 + 1)) (fun r7 I8 => (post r7 I8))))) → wp_X8_crash M (nI j) post := by
      intro post h
      refine r_in1 (nI_nneg (by omega)) (by rw [l2, lt_ (by omega) (by omega)]; omega) (nbr_t (by decide) ?_)
      rintro I3 rfl
      rw [show (0 : Int32) = nI 0 from rfl, show (1 : Int32) = nI 1 from rfl, eq_ (by omega) (by omega), eq_ (by omega) (by omega)]
      exact h
    refine ⟨fun e => ?_, fun e => ?_, fun e => ?_⟩
    · -- the source
      refine c_crashS (fun f8 f6 z8 z6 => ref _ (nbr_f e (r_crashS (fun f0 f1 z0 z1 => ⟨?_, ?_⟩))))
      · show I 1 2 - I 1 1 = M 5 0 - M 6 0
        rw [i12, i11, n5, n6]
      · refine ⟨K, fun _ => 5, fl, fl, fi, po, ma, sz, LT, d, dd, up, ud, hd, HT, ?_, ?_, ?_, ?_, hT, hTd, hH, ?_⟩
        · exact ⟨Nat.le_refl _, by omega, fun p hp => L3 p (by omega), fun p q a b c => by omega, L5, L5⟩
        · refine ⟨fun t ht => ?_, hc.2.1, fun k hk => ⟨show (5 : Nat) ≤ 5 by omega, z6 k hk, fun t ht => ?_, fun z => absurd (show (5 : Nat) < 4 from z) (by omega), ⟨fun z => absurd (show (5 : Nat) = 4 from z) (by omega), fun ⟨p, x, y, _⟩ => by omega⟩⟩⟩
          · show f8 t = f0 t ∧ (f0 t = 0 ∨ f0 t = 1)
            rw [z8 t ht, z0 t ht]; exact ⟨rfl, Or.inl rfl⟩
          · show f1 (6 * t + k) = _
            rw [z1 _ (by omega), if_neg (show ¬ (5 : Nat) = t by omega)]
        · exact ⟨n6, n6, n7, n12, n13, i11, i11, i10, i90, i91, o1, o2, o3⟩
        · refine hR.fr rfl rfl rfl rfl rfl rfl rfl rfl (fun n hn => ?_) (fun _ _ => rfl) rfl
          rw [st_n _ _ _ (by omega), up_n _ _ (by omega), up_n _ _ (by omega), st_n _ _ _ (by omega)]
        · refine ⟨k30, k31, k32, k33, ?_⟩
          show M 34 0 + 1 = I 0 0 + 1
          rw [k34]
    · -- the relay
      rintro I8 rfl
      refine ref _ (nbr_t (by omega) (nbr_f e ?_))
      rintro I6 rfl
      refine ⟨?_, K, ow, en, fl, fi, ma, ma, sz, LT, d, dd, up, ud, hd, HT, ⟨L1, L2, L3, L4, L5, L6⟩, hc, ?_, ?_, hT, hTd, hH, ?_⟩
      · show I 9 0 - I 9 1 = M 12 0 - M 13 0
        rw [i90, i91, n12, n13]
      · exact ⟨n5, n6, n7, n13, n13, i12, i11, i10, i91, i91, o1, Nat.le_refl _, by omega⟩
      · refine hR.fr rfl rfl rfl rfl rfl rfl rfl rfl (fun n hn => ?_) (fun _ _ => rfl) rfl
        rw [st_n _ _ _ (by omega), st_n _ _ _ (by omega)]
      · refine ⟨k30, k31, k32, k33, ?_⟩
        show M 34 0 + 1 = I 0 0 + 1
        rw [k34]
    · -- the target
      rintro I1 rfl
      refine c_become (Or.inl ⟨rfl, rfl⟩) (fun f g z1 z2 => ref _ (nbr_t e.1 (nbr_t e.2 (r_crashT (fun p hp => hTd.bit p hp) (fun f' g' e' y1 y2 y3 => ⟨?_, ?_⟩)))))
      · show -(sm (fun k => I 25 k - I 24 k) 6) = sm (fun k => M 20 k - M 23 k) 6
        rw [sm_neg]
        refine sm_congr (fun k hk => ?_)
        rw [(hT.1 k hk).1, (hT.1 k hk).2.1, (hTd.1 k hk).1, (hTd.1 k hk).2.1]
      · refine ⟨K, ow, en, fl, fi, po, ma, sz, LT, dd, dd, ud, ud, 0, HT, ⟨L1, L2, L3, L4, L5, L6⟩, hc, ?_, ?_, ?_, hTd, ?_, ?_⟩
        · exact ⟨n5, n6, n7, n12, n13, i12, i11, i10, i90, i91, o1, o2, o3⟩
        · refine hR.fr rfl rfl rfl rfl rfl rfl rfl rfl (fun n hn => ?_) (fun _ _ => rfl) rfl
          rw [st_n _ _ _ (by omega), up_n _ _ (by omega), up_n _ _ (by omega), st_n _ _ _ (by omega), st_n _ _ _ (by omega)]
        · exact hTd.cp y1 y2 y3 z1 z2
        · exact ⟨by omega, rfl, rfl, fun i hi => by omega, fun i hi => by omega, fun i i' a b => by omega⟩
        · refine ⟨k30, k31, k32, k33, ?_⟩
          show M 34 0 + 1 = I 0 0 + 1
          rw [k34]
  · have ho := out_of (p := p1) (N := 2) (by omega) (fun j hj e => hp ⟨j, hj, e⟩)
    have fin : wp_X8_crash M p1 (fun r' M' => Same (-1) I J LP P r' M') := r_in0 ho (nbr_f rfl ⟨rfl, hS0.E⟩)
    exact ⟨fun _ => fin, fun h0 => br_f (ho.elim (fun z => absurd z h0) (fun z => Int32.not_le.mpr z)) fin⟩
end OPK
