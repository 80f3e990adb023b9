-- the reference's own methods: the source
theorem r_in1 {M : St} {v lo hi : Int32} {post : Int32 → St → Prop} (h1 : ¬ v < lo) (h2 : ¬ hi < v) (h : post 1 M) : wp_X8_in M v lo hi post := br_f h1 (br_f h2 h)
theorem r_in0 {M : St} {v lo hi : Int32} {post : Int32 → St → Prop} (h1 : v < lo ∨ hi < v) (h : post 0 M) : wp_X8_in M v lo hi post := ⟨fun _ => h, fun _ => ⟨fun _ => h, fun q => (h1.elim (fun a => absurd a (by assumption)) (fun a => absurd a q))⟩⟩
/-- p is no open transaction's number -/
def noTr (m0 : Nat → Int32) (p : Int32) : Prop := ∀ t, t < 4 → p = nI t → m0 t = 0
def noKey (p : Int32) : Prop := ∀ k, k < 6 → p ≠ nI k
theorem tr_cases (m0 : Nat → Int32) (p : Int32) : noTr m0 p ∨ ∃ t, t < 4 ∧ p = nI t ∧ m0 t ≠ 0 := by
  by_cases h : ∃ t, t < 4 ∧ p = nI t ∧ m0 t ≠ 0
  · exact Or.inr h
  · refine Or.inl fun t ht hp => ?_
    by_cases q : m0 t = 0
    · exact q
    · exact absurd ⟨t, ht, hp, q⟩ h
theorem key_cases (p : Int32) : noKey p ∨ ∃ k, k < 6 ∧ p = nI k := by
  by_cases h : ∃ k, k < 6 ∧ p = nI k
  · exact Or.inr h
  · exact Or.inl fun k hk hp => h ⟨k, hk, hp⟩
theorem out_of {p : Int32} {N : Nat} (hN : N < 1000000) (h : ∀ j, j ≤ N → p ≠ nI j) : p < 0 ∨ nI N < p := by
  by_cases h0 : p < 0
  · exact Or.inl h0
  · by_cases h1 : nI N < p
    · exact Or.inr h1
    · obtain ⟨j, hj, e⟩ := num_of h0 h1 hN
      exact absurd e (h j hj)
theorem r_isTr1 {M : St} {t : Nat} {post : Int32 → St → Prop} (ht : t < 4) (h0 : M 0 t ≠ 0) (h : post 1 M) : wp_X8_isTransaction M (nI t) post := by
  refine r_in1 (nI_nneg (by omega)) (by rw [l3, lt_ (by omega) (by omega)]; omega) ?_
  refine ⟨fun q => absurd q (by decide), fun _ => ⟨in_ ht (by omega), ?_⟩⟩
  rw [cl_ (by omega)]
  exact br_f h0 h
theorem r_isTr0 {M : St} {p : Int32} {post : Int32 → St → Prop} (hn : noTr (M 0) p) (h : post 0 M) : wp_X8_isTransaction M p post := by
  by_cases hp : ∃ t, t < 4 ∧ p = nI t
  · obtain ⟨t, ht, rfl⟩ := hp
    refine r_in1 (nI_nneg (by omega)) (by rw [l3, lt_ (by omega) (by omega)]; omega) ?_
    refine ⟨fun q => absurd q (by decide), fun _ => ⟨in_ ht (by omega), ?_⟩⟩
    rw [cl_ (by omega)]
    exact br_t (hn t ht rfl) h
  · refine r_in0 (by rw [l3]; exact out_of (by omega) (fun j hj e => hp ⟨j, by omega, e⟩)) ?_
    exact br_t rfl h
theorem r_isKey1 {M : St} {k : Nat} {post : Int32 → St → Prop} (hk : k < 6) (h : post 1 M) : wp_X8_isKey M (nI k) post :=
  r_in1 (nI_nneg (by omega)) (by rw [l5, lt_ (by omega) (by omega)]; omega) ⟨rfl, h⟩
theorem r_isKey0 {M : St} {p : Int32} {post : Int32 → St → Prop} (hn : noKey p) (h : post 0 M) : wp_X8_isKey M p post :=
  r_in0 (by rw [l5]; exact out_of (by omega) (fun j hj e => hn j (by omega) e)) ⟨rfl, h⟩
/-- wrote[6 * t + ..] = 0 -/
def clr (m1 : Nat → Int32) (t n : Nat) : Nat → Int32 := fun i => if 6 * t ≤ i ∧ i < 6 * t + n then 0 else m1 i
theorem clr_0 (m1 : Nat → Int32) (t : Nat) : clr m1 t 0 = m1 := by funext i; simp [clr]; omega
theorem clr_s (m1 : Nat → Int32) (t n : Nat) : upd (clr m1 t n) (6 * t + n) 0 = clr m1 t (n + 1) := by
  funext i
  simp only [upd, clr]
  by_cases h : i = 6 * t + n
  · subst h; simp
  · rw [if_neg h]
    by_cases h2 : 6 * t ≤ i ∧ i < 6 * t + n
    · rw [if_pos h2, if_pos (by omega)]
    · rw [if_neg h2, if_neg (by omega)]
theorem r_clears {M : St} {t : Nat} {post : St → Prop} (ht : t < 4) (h : post (va_up M 1 (clr (M 1) t 6))) : wp_X8_clears M (nI t) post := by
  refine ⟨fun n x M' => ∃ i, i ≤ 6 ∧ n + i = 6 ∧ x = nI i ∧ M' = va_up M 1 (clr (M 1) t i), ⟨6, 0, by omega, by omega, rfl, by rw [clr_0, up_id]⟩, ?_⟩
  rintro n x M' ⟨i, hi, hn, rfl, rfl⟩
  rw [l6, le_ (by omega) (by omega), ← l6, ix6, cl_ (by omega)]
  refine ⟨fun hc => ?_, fun hc => ⟨in_ (by omega) (by omega), ?_⟩⟩
  · have : i = 6 := by omega
    subst this; exact h
  · rintro I5 rfl
    exact ⟨n - 1, by omega, i + 1, by omega, by omega, nI_1 i, by rw [st_up, nb0, clr_s]⟩
theorem r_begin1 {M : St} {t : Nat} {post : Int32 → St → Prop} (ht : t < 4) (h0 : M 0 t = 0) (hlt : ∀ t', t' < t → M 0 t' ≠ 0) (h : post (nI t) (va_up (st M 0 t 1) 1 (clr (M 1) t 6))) : wp_X8_begin M post := by
  refine ⟨fun n x M' => ∃ i, i ≤ t ∧ n + i = 4 ∧ x = nI i ∧ M' = M, ⟨4, 0, by omega, by omega, rfl, rfl⟩, ?_⟩
  rintro n x M' ⟨i, hi, hn, rfl, rfl⟩
  rw [l4, le_ (by omega) (by omega), cl_ (by omega)]
  refine br_f (by omega) ⟨in_ (by omega) (by omega), fun hc => ⟨n - 1, by omega, i + 1, ?_, by omega, nI_1 i, rfl⟩, fun hc => ⟨in_ (by omega) (by omega), ?_⟩⟩
  · rcases Nat.lt_or_ge i t with q | q
    · omega
    · have : i = t := by omega
      subst this; exact absurd h0 hc
  · have : i = t := by
      rcases Nat.lt_or_ge i t with q | q
      · exact absurd hc (hlt i q)
      · omega
    subst this
    rintro I6 rfl
    refine r_clears ht ?_
    rw [nb1, st_n _ _ _ (by decide)]
    exact h
theorem r_begin0 {M : St} {post : Int32 → St → Prop} (hall : ∀ t', t' < 4 → M 0 t' ≠ 0) (h : post (-3) M) : wp_X8_begin M post := by
  refine ⟨fun n x M' => ∃ i, i ≤ 4 ∧ n + i = 4 ∧ x = nI i ∧ M' = M, ⟨4, 0, by omega, by omega, rfl, rfl⟩, ?_⟩
  rintro n x M' ⟨i, hi, hn, rfl, rfl⟩
  rw [l4, le_ (by omega) (by omega), cl_ (by omega)]
  refine ⟨fun _ => h, fun hc => ⟨in_ (by omega) (by omega), fun _ => ⟨n - 1, by omega, i + 1, by omega, by omega, nI_1 i, rfl⟩, fun q => absurd q (hall i (by omega))⟩⟩
/-- some place from fl on, below en, has key k -/
def uw (K : Nat → Nat) (fl en k : Nat) : Prop := ∃ p, fl ≤ p ∧ p < en ∧ K p = k
theorem r_isUW {M : St} {K : Nat → Nat} {fl en k : Nat} {post : Int32 → St → Prop} (hfl : M 6 0 = nI fl) (hen : M 5 0 = nI en) (h4 : en ≤ 400) (hle : fl ≤ en) (hk : k < 6) (hK : ∀ p, p < en → M 8 p = nI (K p) ∧ K p < 6) (h1 : uw K fl en k → post 1 M) (h0 : ¬ uw K fl en k → post 0 M) : wp_X8_isUnderWay M (nI k) post := by
  refine ⟨fun n x y M' => M' = M ∧ ∃ i, fl ≤ i ∧ i ≤ en ∧ n + i = en ∧ y = nI i ∧ ((x = 1 ∧ uw K fl i k) ∨ (x = 0 ∧ ¬ uw K fl i k)), ⟨en - fl, rfl, fl, by omega, hle, by omega, hfl, Or.inr ⟨rfl, fun ⟨p, a, b, _⟩ => by omega⟩⟩, ?_⟩
  rintro n x y M' ⟨rfl, i, hi1, hi2, hn, rfl, hx⟩
  rw [hen, le_ (by omega) (by omega), cl_ (by omega)]
  refine ⟨fun hc => ?_, fun hc => ?_⟩
  · have : i = en := by omega
    subst this
    rcases hx with ⟨rfl, hu⟩ | ⟨rfl, hu⟩
    · exact ⟨rfl, h1 hu⟩
    · exact ⟨rfl, h0 hu⟩
  · obtain ⟨hk1, hk2⟩ := hK i (by omega)
    have up : uw K fl i k → uw K fl (i + 1) k := fun ⟨p, a, b, c⟩ => ⟨p, a, by omega, c⟩
    have dn : K i ≠ k → ¬ uw K fl i k → ¬ uw K fl (i + 1) k := fun hne hu ⟨p, a, b, c⟩ => by
      rcases Nat.lt_or_ge p i with q | q
      · exact hu ⟨p, a, q, c⟩
      · have : p = i := by omega
        subst this; exact hne c
    refine ⟨fun hx1 => ?_, fun hx0 => ⟨in_ (by omega) (by omega), ?_⟩⟩
    · rcases hx with ⟨-, hu⟩ | ⟨q, -⟩
      · exact ⟨n - 1, by omega, rfl, i + 1, by omega, by omega, by omega, nI_1 i, Or.inl ⟨rfl, up hu⟩⟩
      · exact absurd q hx1
    · rcases hx with ⟨q, -⟩ | ⟨-, hu⟩
      · rw [q] at hx0; exact absurd hx0 (by decide)
      · rw [hk1, eq_ (by omega) (by omega)]
        exact ⟨fun hne => ⟨n - 1, by omega, rfl, i + 1, by omega, by omega, by omega, nI_1 i, Or.inr ⟨rfl, dn hne hu⟩⟩, fun he => ⟨n - 1, by omega, rfl, i + 1, by omega, by omega, by omega, nI_1 i, Or.inl ⟨rfl, ⟨i, hi1, by omega, he⟩⟩⟩⟩
