-- functions and counting, no machine
theorem nbr_t {c A B : Prop} (h : ¬ c) (a : A) : (¬ c → A) ∧ (c → B) := ⟨fun _ => a, fun q => absurd q h⟩
theorem nbr_f {c A B : Prop} (h : c) (b : B) : (¬ c → A) ∧ (c → B) := ⟨fun q => absurd h q, fun _ => b⟩
theorem st_s (I : St) (c k : Nat) (v : Int32) : st I c k v c = upd (I c) k v := by simp [st, va_up]
theorem st_n (I : St) {c d : Nat} (k : Nat) (v : Int32) (h : d ≠ c) : st I c k v d = I d := by simp [st, va_up, h]
theorem st_at (I : St) (c k : Nat) (v : Int32) (d i : Nat) : st I c k v d i = if d = c ∧ i = k then v else I d i := by
  by_cases h : d = c
  · subst h; simp [st, va_up, upd]
  · simp [st, va_up, h]
theorem stJ_s (J : Rf) (c k : Nat) (r : Option Nat) : stJ J c k r c = va_up (J c) k r := by simp [stJ, va_up]
theorem stJ_n (J : Rf) {c d : Nat} (k : Nat) (r : Option Nat) (h : d ≠ c) : stJ J c k r d = J d := by simp [stJ, va_up, h]
theorem upd_s (f : Nat → Int32) (k : Nat) (v : Int32) : upd f k v k = v := by simp [upd]
theorem upd_n (f : Nat → Int32) {k j : Nat} (v : Int32) (h : j ≠ k) : upd f k v j = f j := by simp [upd, h]
theorem up_s {α : Type} (f : Nat → α) (k : Nat) (v : α) : va_up f k v k = v := by simp [va_up]
theorem up_n {α : Type} (f : Nat → α) {k j : Nat} (v : α) (h : j ≠ k) : va_up f k v j = f j := by simp [va_up, h]
theorem up_id {α : Type} (f : Nat → α) (k : Nat) : va_up f k (f k) = f := by
  funext j
  by_cases h : j = k
  · subst h; simp [va_up]
  · simp [va_up, h]
theorem st_up (M : St) (c : Nat) (f : Nat → Int32) (k : Nat) (v : Int32) : st (va_up M c f) c k v = va_up M c (upd f k v) := by
  funext j
  by_cases h : j = c
  · subst h; simp [st, va_up]
  · simp [st, va_up, h]
theorem up_cm {α : Type} (M : Nat → α) {c d : Nat} (f g : α) (h : c ≠ d) : va_up (va_up M c f) d g = va_up (va_up M d g) c f := by
  funext j
  by_cases h1 : j = c
  · subst h1; simp [va_up, h]
  · by_cases h2 : j = d
    · subst h2; simp [va_up, h1]
    · simp [va_up, h1, h2]
theorem nb0 : vp_nar .boolean 0 = 0 := rfl
theorem nb1 : vp_nar .boolean 1 = 1 := rfl
theorem cl_ {n : Nat} (h : n < 1000000) : (nI n).toNatClampNeg = n := nI_clamp (by omega)
theorem in_ {n N : Nat} (h : n < N) (hN : N ≤ 1000000) : vp_in (nI n) N := vp_in_nI h (by omega)
theorem le_ {a b : Nat} (ha : a < 1000000) (hb : b < 1000000) : nI a ≤ nI b ↔ a ≤ b := nI_leI (by omega) (by omega)
theorem lt_ {a b : Nat} (ha : a < 1000000) (hb : b < 1000000) : nI a < nI b ↔ a < b := nI_ltI (by omega) (by omega)
theorem eq_ {a b : Nat} (ha : a < 1000000) (hb : b < 1000000) : nI a = nI b ↔ a = b := nI_eq (by omega) (by omega)
theorem l0 : (0 : Int32) = nI 0 := rfl
theorem l1 : (1 : Int32) = nI 1 := rfl
theorem l2 : (2 : Int32) = nI 2 := rfl
theorem l3 : (3 : Int32) = nI 3 := rfl
theorem l4 : (4 : Int32) = nI 4 := rfl
theorem l5 : (5 : Int32) = nI 5 := rfl
theorem l6 : (6 : Int32) = nI 6 := rfl
theorem l8 : (8 : Int32) = nI 8 := rfl
theorem l10 : (10 : Int32) = nI 10 := rfl
theorem l20 : (20 : Int32) = nI 20 := rfl
theorem l40 : (40 : Int32) = nI 40 := rfl
theorem l400 : (400 : Int32) = nI 400 := rfl
theorem ix6 (t k : Nat) : (6 : Int32) * nI t + nI k = nI (6 * t + k) := by rw [l6, pk_mul, nI_add]
theorem ix40 (t k : Nat) : (40 : Int32) * nI t + nI k = nI (40 * t + k) := by rw [l40, pk_mul, nI_add]
/-- a number between 0 and N - 1 -/
theorem num_of {x : Int32} {N : Nat} (h0 : ¬ x < 0) (h1 : ¬ nI N < x) (hN : N < 1000000) : ∃ j, j ≤ N ∧ x = nI j := by
  obtain ⟨j, hj, rfl⟩ := nI_of h0
  refine ⟨j, ?_, rfl⟩
  rcases Nat.lt_or_ge N j with q | q
  · exact absurd (nI_lt q hj) h1
  · exact q
theorem nI_nneg {n : Nat} (h : n < 1000000) : ¬ nI n < 0 := nI_pos (by omega)
theorem m1_ne {n : Nat} (h : n < 1000000) : ¬ nI n = (-1) := by
  intro q
  exact absurd (show nI n < 0 by rw [q]; decide) (nI_nneg h)
/-- how many places below n have key k -/
def cnt (K : Nat → Nat) (k : Nat) : Nat → Nat
  | 0 => 0
  | n + 1 => cnt K k n + (if K n = k then 1 else 0)
theorem cnt_s (K : Nat → Nat) (k n : Nat) : cnt K k (n + 1) = cnt K k n + (if K n = k then 1 else 0) := rfl
theorem cnt_mono (K : Nat → Nat) (k : Nat) {a b : Nat} (h : a ≤ b) : cnt K k a ≤ cnt K k b := by
  induction b with
  | zero => have : a = 0 := by omega
            subst this; exact Nat.le_refl _
  | succ b ih =>
    rcases Nat.lt_or_ge b a with q | q
    · have : a = b + 1 := by omega
      subst this; exact Nat.le_refl _
    · have := ih q
      rw [cnt_s]; omega
theorem cnt_lt (K : Nat → Nat) {k p q : Nat} (hk : K p = k) (h : p < q) : cnt K k p < cnt K k q := by
  have h1 : cnt K k (p + 1) = cnt K k p + 1 := by rw [cnt_s, if_pos hk]
  have h2 := cnt_mono K k (show p + 1 ≤ q from h)
  omega
theorem cnt_inj (K : Nat → Nat) {k p q : Nat} (hp : K p = k) (hq : K q = k) (h : cnt K k p = cnt K k q) : p = q := by
  rcases Nat.lt_trichotomy p q with x | x | x
  · have := cnt_lt K hp x; omega
  · exact x
  · have := cnt_lt K hq x; omega
theorem cnt_le (K : Nat → Nat) (k n : Nat) : cnt K k n ≤ n := by
  induction n with
  | zero => exact Nat.le_refl _
  | succ n ih => rw [cnt_s]; split <;> omega
theorem cnt_congr {K K' : Nat → Nat} {k n : Nat} (h : ∀ p, p < n → K p = K' p) : cnt K k n = cnt K' k n := by
  induction n with
  | zero => rfl
  | succ n ih => rw [cnt_s, cnt_s, ih (fun p hp => h p (by omega)), h n (by omega)]
theorem cnt_none {K : Nat → Nat} {k a b : Nat} (hab : a ≤ b) (h : ∀ p, a ≤ p → p < b → K p ≠ k) : cnt K k b = cnt K k a := by
  induction b with
  | zero => have : a = 0 := by omega
            subst this; rfl
  | succ b ih =>
    rcases Nat.lt_or_ge b a with q | q
    · have : a = b + 1 := by omega
      subst this; rfl
    · rw [cnt_s, if_neg (h b q (by omega)), ih q (fun p h1 h2 => h p h1 (by omega)), Nat.add_zero]
theorem cnt_ex {K : Nat → Nat} {k d n : Nat} (h : d < cnt K k n) : ∃ p, p < n ∧ K p = k ∧ cnt K k p = d := by
  induction n with
  | zero => exact absurd h (Nat.not_lt_zero _)
  | succ n ih =>
    rcases Nat.lt_or_ge d (cnt K k n) with q | q
    · obtain ⟨p, h1, h2, h3⟩ := ih q
      exact ⟨p, by omega, h2, h3⟩
    · rw [cnt_s] at h
      by_cases hk : K n = k
      · rw [if_pos hk] at h
        exact ⟨n, by omega, hk, by omega⟩
      · rw [if_neg hk] at h; omega
