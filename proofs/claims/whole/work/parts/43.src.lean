-- the source: begin, write, read, abort
theorem RelOK.fr {fl : Nat} {sz : Nat → Nat} {LT : Nat → Nat → Nat} {M I M' I' : St} {J J' : Rf} (h : RelOK fl sz LT M I J) (e8 : M' 8 = M 8) (e9 : M' 9 = M 9) (e10 : M' 10 = M 10) (e14 : M' 14 = M 14) (e15 : M' 15 = M 15) (e16 : M' 16 = M 16) (e17 : M' 17 = M 17) (e18 : M' 18 = M 18) (eI : ∀ n, n < 3 → I' (11 + n) 0 = I (11 + n) 0) (eJ : ∀ n, n < 3 → J' (15 + n) = J (15 + n)) (e2 : J' 2 = J 2) : RelOK fl sz LT M' I' J' := by
  intro n hn
  rw [e8, e9, e10, e14, e15, e16, e17, e18, eI n hn, eJ n hn, e2]
  exact h n hn
section SX
variable {K ow ow' : Nat → Nat} {en fl fi po ma : Nat} {sz : Nat → Nat} {LT : Nat → Nat → Nat} {d dd : Nat → Nat} {up ud hd : Nat} {HT : Nat → Nat} {M I M' I' : St} {J : Rf} {LP : List Nat} {P : St}
theorem Sim.src (h : Sim K ow en fl fi po ma sz LT d dd up ud hd HT M I J LP P) (eM : ∀ c, 5 ≤ c → M' c = M c) (eI : ∀ c, c < 4 ∨ 9 ≤ c → I' c = I c) (hs : SrcOK K ow' en fl (M' 0) (M' 1) (M' 2) (M' 3) (M' 4) (I' 4) (I' 5) (I' 6) (I' 7) (I' 8)) : Sim K ow' en fl fi po ma sz LT d dd up ud hd HT M' I' J LP P := by
  obtain ⟨hL, -, hN, hR, hT, hTd, hH, hC⟩ := h
  refine ⟨?_, hs, ?_, ?_, ?_, ?_, ?_, ?_⟩
  · rw [eM 8 (by omega), eM 9 (by omega), eM 10 (by omega), eM 11 (by omega)]; exact hL
  · unfold NumOK
    rw [eM 5 (by omega), eM 6 (by omega), eM 7 (by omega), eM 12 (by omega), eM 13 (by omega), eI 1 (by omega), eI 9 (by omega)]; exact hN
  · exact hR.fr (eM 8 (by omega)) (eM 9 (by omega)) (eM 10 (by omega)) (eM 14 (by omega)) (eM 15 (by omega)) (eM 16 (by omega)) (eM 17 (by omega)) (eM 18 (by omega)) (fun n hn => by rw [eI _ (by omega)]) (fun _ _ => rfl) rfl
  · rw [eM 19 (by omega), eM 20 (by omega), eM 21 (by omega), eM 9 (by omega), eI 22 (by omega), eI 24 (by omega), eI 20 (by omega)]; exact hT
  · rw [eM 22 (by omega), eM 23 (by omega), eM 24 (by omega), eM 9 (by omega), eI 23 (by omega), eI 25 (by omega), eI 21 (by omega)]; exact hTd
  · unfold HeldOK
    rw [eM 25 (by omega), eM 26 (by omega), eM 27 (by omega), eM 28 (by omega), eM 29 (by omega), eM 8 (by omega), eM 9 (by omega), eM 10 (by omega), eI 14 (by omega)]; exact hH
  · unfold CtrOK
    rw [eM 30 (by omega), eM 31 (by omega), eM 32 (by omega), eM 33 (by omega), eM 34 (by omega), eI 9 (by omega), eI 19 (by omega), eI 0 (by omega)]; exact hC
theorem Sim.E (h : Sim K ow en fl fi po ma sz LT d dd up ud hd HT M I J LP P) : SimE M I J LP P := ⟨_, _, _, _, _, _, _, _, _, _, _, _, _, _, _, h⟩
end SX
section CSRC
variable {I : St} {J : Rf} {LP : List Nat} {P : St} {post : Int32 → St → Rf → List Nat → St → Prop} {postv : St → Rf → List Nat → St → Prop}
theorem ge_out {p : Int32} {N : Nat} (hN : N < 1000000) (h : ∀ j, j < N → p ≠ nI j) : p < 0 ∨ nI N ≤ p := by
  by_cases h0 : p < 0
  · exact Or.inl h0
  · obtain ⟨j, hj, e⟩ := nI_of h0
    subst e
    rcases Nat.lt_or_ge j N with q | q
    · exact absurd rfl (h j q)
    · exact Or.inr (nI_le q hj)
theorem c_isOpen1 {t : Nat} (ht : t < 4) (h0 : I 8 t ≠ 0) (h : post 1 I J LP P) : wp_X4_isOpen I J LP P (nI t) post := by
  refine br_f (nI_nneg (by omega)) (br_f (by rw [l4, le_ (by omega) (by omega)]; omega) ⟨in_ ht (by omega), ?_⟩)
  rw [cl_ (by omega)]
  exact br_f h0 h
theorem c_isOpen0 {p : Int32} (hn : noTr (I 8) p) (h : post 0 I J LP P) : wp_X4_isOpen I J LP P p post := by
  by_cases hp : ∃ t, t < 4 ∧ p = nI t
  · obtain ⟨t, ht, rfl⟩ := hp
    refine br_f (nI_nneg (by omega)) (br_f (by rw [l4, le_ (by omega) (by omega)]; omega) ⟨in_ ht (by omega), ?_⟩)
    rw [cl_ (by omega)]
    exact br_t (hn t ht rfl) h
  · rcases ge_out (p := p) (N := 4) (by omega) (fun j hj e => hp ⟨j, hj, e⟩) with q | q
    · exact br_t q h
    · exact ⟨fun _ => h, fun _ => br_t q h⟩
theorem c_isKey1 {k : Nat} (hk : k < 6) (h : post 1 I J LP P) : wp_X7_isKey I J LP P (nI k) post :=
  br_f (nI_nneg (by omega)) (br_f (by rw [l6, le_ (by omega) (by omega)]; omega) h)
theorem c_isKey0 {p : Int32} (hn : noKey p) (h : post 0 I J LP P) : wp_X7_isKey I J LP P p post := by
  rcases ge_out (p := p) (N := 6) (by omega) hn with q | q
  · exact br_t q h
  · exact ⟨fun _ => h, fun _ => br_t q h⟩
theorem c_open1 {t : Nat} (ht : t < 4) (h0 : I 8 t = 0) (hlt : ∀ t', t' < t → I 8 t' ≠ 0) (h : post (nI t) (st I 8 t 1) J LP P) : wp_X4_openFirstFree I J LP P post := by
  refine ⟨fun n x I' J' LP' P' => ∃ i, i ≤ t ∧ n + i = 4 ∧ x = nI i ∧ I' = I ∧ J' = J ∧ LP' = LP ∧ P' = P, ⟨4, 0, by omega, by omega, rfl, rfl, rfl, rfl, rfl⟩, ?_⟩
  rintro n x I' J' LP' P' ⟨i, hi, hn, rfl, rfl, rfl, rfl, rfl⟩
  rw [l4, le_ (by omega) (by omega), cl_ (by omega)]
  refine br_f (by omega) ⟨in_ (by omega) (by omega), fun hc => ⟨n - 1, by omega, i + 1, ?_, by omega, nI_1 i, rfl, rfl, rfl, rfl⟩, fun hc => ⟨in_ (by omega) (by omega), ?_⟩⟩
  · rcases Nat.lt_or_ge i t with q | q
    · omega
    · have : i = t := by omega
      subst this; exact absurd h0 hc
  · have : i = t := by
      rcases Nat.lt_or_ge i t with q | q
      · exact absurd hc (hlt i q)
      · omega
    subst this
    rintro I6 rfl
    exact h
theorem c_open0 (hall : ∀ t', t' < 4 → I 8 t' ≠ 0) (h : post (-3) I J LP P) : wp_X4_openFirstFree I J LP P post := by
  refine ⟨fun n x I' J' LP' P' => ∃ i, i ≤ 4 ∧ n + i = 4 ∧ x = nI i ∧ I' = I ∧ J' = J ∧ LP' = LP ∧ P' = P, ⟨4, 0, by omega, by omega, rfl, rfl, rfl, rfl, rfl⟩, ?_⟩
  rintro n x I' J' LP' P' ⟨i, hi, hn, rfl, rfl, rfl, rfl, rfl⟩
  rw [l4, le_ (by omega) (by omega), cl_ (by omega)]
  exact ⟨fun _ => h, fun hc => ⟨in_ (by omega) (by omega), fun _ => ⟨n - 1, by omega, i + 1, by omega, by omega, nI_1 i, rfl, rfl, rfl, rfl⟩, fun q => absurd q (hall i (by omega))⟩⟩
theorem c_lockedKeys {ow : Nat → Nat} {t : Nat} (ht : t < 4) (ho : ∀ k, k < 6 → I 6 k = own32 (ow k) ∧ ow k ≤ 5) (h : post (nI (cnt ow t 6)) I J LP P) : wp_X4_lockedKeys I J LP P (nI t) post := by
  refine ⟨fun n x y I' J' LP' P' => ∃ i, i ≤ 6 ∧ n + i = 6 ∧ y = nI i ∧ x = nI (cnt ow t i) ∧ I' = I ∧ J' = J ∧ LP' = LP ∧ P' = P, ⟨6, 0, by omega, by omega, rfl, rfl, rfl, rfl, rfl, rfl⟩, ?_⟩
  rintro n x y I' J' LP' P' ⟨i, hi, hn, rfl, rfl, rfl, rfl, rfl, rfl⟩
  rw [l6, le_ (by omega) (by omega), cl_ (by omega)]
  refine ⟨fun hc => ?_, fun hc => ⟨in_ (by omega) (by omega), ?_⟩⟩
  · have : i = 6 := by omega
    subst this; exact h
  · obtain ⟨h1, h2⟩ := ho i (by omega)
    have key : I' 6 i = nI t ↔ ow i = t := by
      rw [h1, own32]
      by_cases q : ow i = 5
      · rw [if_pos q]
        exact ⟨fun z => absurd z.symm (m1_ne (by omega)), fun z => by omega⟩
      · rw [if_neg q, eq_ (by omega) (by omega)]
    rw [key]
    exact ⟨fun q => ⟨n - 1, by omega, i + 1, by omega, by omega, nI_1 i, by rw [cnt_s, if_neg q]; rfl, rfl, rfl, rfl, rfl⟩, fun q => ⟨n - 1, by omega, i + 1, by omega, by omega, nI_1 i, by rw [cnt_s, if_pos q, nI_1], rfl, rfl, rfl, rfl⟩⟩
/-- the owners behind finish: t's keys belong to nx -/
def fin (ow : Nat → Nat) (t nx n : Nat) : Nat → Nat := fun k => if k < n ∧ ow k = t then nx else ow k
theorem c_finish {ow : Nat → Nat} {t nx : Nat} (ht : t < 4) (hx : nx = 4 ∨ nx = 5) (ho : ∀ k, k < 6 → I 6 k = own32 (ow k) ∧ ow k ≤ 5) (h : ∀ f : Nat → Int32, (∀ k, k < 6 → f k = own32 (fin ow t nx 6 k)) → postv (st (va_up I 6 f) 8 t 0) J LP P) : wp_X4_finish I J LP P (nI t) (own32 nx) postv := by
  refine ⟨fun n x I' J' LP' P' => ∃ i, i ≤ 6 ∧ n + i = 6 ∧ x = nI i ∧ (∃ f : Nat → Int32, I' = va_up I 6 f ∧ ∀ k, k < 6 → f k = own32 (fin ow t nx i k)) ∧ J' = J ∧ LP' = LP ∧ P' = P, ⟨6, 0, by omega, by omega, rfl, ⟨I 6, (up_id I 6).symm, fun k hk => by rw [(ho k hk).1, fin, if_neg (by omega)]⟩, rfl, rfl, rfl⟩, ?_⟩
  rintro n x I' J' LP' P' ⟨i, hi, hn, rfl, ⟨f, rfl, hf⟩, rfl, rfl, rfl⟩
  rw [l6, le_ (by omega) (by omega), cl_ (n := t) (by omega), cl_ (n := i) (by omega), up_s]
  refine ⟨fun hc => ⟨in_ ht (by omega), ?_⟩, fun hc => ⟨in_ (by omega) (by omega), ?_⟩⟩
  · have : i = 6 := by omega
    subst this
    rintro I8 rfl
    rw [nb0]
    exact h f hf
  · have h1 : f i = own32 (ow i) := by rw [hf i (by omega), fin, if_neg (by omega)]
    have h2 := (ho i (by omega)).2
    have key : f i = nI t ↔ ow i = t := by
      rw [h1, own32]
      by_cases q : ow i = 5
      · rw [if_pos q]
        exact ⟨fun z => absurd z.symm (m1_ne (by omega)), fun z => by omega⟩
      · rw [if_neg q, eq_ (by omega) (by omega)]
    rw [key]
    refine ⟨fun q => ⟨n - 1, by omega, i + 1, by omega, by omega, nI_1 i, ⟨f, rfl, fun k hk => ?_⟩, rfl, rfl, rfl⟩, fun q => ⟨in_ (by omega) (by omega), ?_⟩⟩
    · rw [hf k hk, fin, fin]
      by_cases z : k < i ∧ ow k = t
      · rw [if_pos z, if_pos (by omega)]
      · by_cases z2 : k < i + 1 ∧ ow k = t
        · have : k = i := by omega
          subst this; exact absurd z2.2 q
        · rw [if_neg z, if_neg z2]
    · rintro I10 rfl
      refine ⟨n - 1, by omega, i + 1, by omega, by omega, nI_1 i, ⟨upd f i (own32 nx), by rw [st_up], fun k hk => ?_⟩, rfl, rfl, rfl⟩
      by_cases z : k = i
      · subst z; rw [upd_s, fin, if_pos (by omega)]
      · rw [upd_n _ _ z, hf k hk, fin, fin]
        by_cases z2 : k < i ∧ ow k = t
        · rw [if_pos z2, if_pos (by omega)]
        · rw [if_neg z2, if_neg (by omega)]
end CSRC
theorem r_writer0 {M : St} {k : Nat} {post : Int32 → St → Prop} (hk : k < 6) (hall : ∀ t, t < 4 → M 0 t = 0 ∨ M 1 (6 * t + k) = 0) (h : post (-1) M) : wp_X8_writer M (nI k) post := by
  refine ⟨fun n x M' => ∃ i, i ≤ 4 ∧ n + i = 4 ∧ x = nI i ∧ M' = M, ⟨4, 0, by omega, by omega, rfl, rfl⟩, ?_⟩
  rintro n x M' ⟨i, hi, hn, rfl, rfl⟩
  rw [l4, le_ (by omega) (by omega), cl_ (by omega)]
  refine ⟨fun _ => h, fun hc => ⟨in_ (by omega) (by omega), fun _ => ⟨n - 1, by omega, i + 1, by omega, by omega, nI_1 i, rfl⟩, fun q => ?_⟩⟩
  rw [ix6, cl_ (by omega)]
  exact ⟨in_ (by omega) (by omega), fun _ => ⟨n - 1, by omega, i + 1, by omega, by omega, nI_1 i, rfl⟩, fun q2 => ((hall i (by omega)).elim (fun z => absurd z q) (fun z => absurd z q2))⟩
theorem r_writer1 {M : St} {k t : Nat} {post : Int32 → St → Prop} (hk : k < 6) (ht : t < 4) (h0 : M 0 t ≠ 0) (h1 : M 1 (6 * t + k) ≠ 0) (hlt : ∀ t', t' < t → M 0 t' = 0 ∨ M 1 (6 * t' + k) = 0) (h : post (nI t) M) : wp_X8_writer M (nI k) post := by
  refine ⟨fun n x M' => ∃ i, i ≤ t ∧ n + i = 4 ∧ x = nI i ∧ M' = M, ⟨4, 0, by omega, by omega, rfl, rfl⟩, ?_⟩
  rintro n x M' ⟨i, hi, hn, rfl, rfl⟩
  rw [l4, le_ (by omega) (by omega), cl_ (by omega)]
  have go : i ≠ t → i + 1 ≤ t := by omega
  refine br_f (by omega) ⟨in_ (by omega) (by omega), fun q => ⟨n - 1, by omega, i + 1, go (fun z => by subst z; exact h0 q), by omega, nI_1 i, rfl⟩, fun q => ?_⟩
  rw [ix6, cl_ (by omega)]
  refine ⟨in_ (by omega) (by omega), fun q2 => ⟨n - 1, by omega, i + 1, go (fun z => by subst z; exact h1 q2), by omega, nI_1 i, rfl⟩, fun q2 => ?_⟩
  have : i = t := by
    rcases Nat.lt_or_ge i t with z | z
    · exact ((hlt i z).elim (fun a => absurd a q) (fun a => absurd a q2))
    · omega
  subst this; exact h
theorem r_writtenBy {M : St} {ow : Nat → Nat} {t : Nat} {post : Int32 → St → Prop} (ht : t < 4) (hw : ∀ k, k < 6 → M 1 (6 * t + k) = if ow k = t then 1 else 0) (h : post (nI (cnt ow t 6)) M) : wp_X8_writtenBy M (nI t) post := by
  refine ⟨fun n x y M' => ∃ i, i ≤ 6 ∧ n + i = 6 ∧ y = nI i ∧ x = nI (cnt ow t i) ∧ M' = M, ⟨6, 0, by omega, by omega, rfl, rfl, rfl⟩, ?_⟩
  rintro n x y M' ⟨i, hi, hn, rfl, rfl, rfl⟩
  rw [l6, le_ (by omega) (by omega), ← l6, ix6, cl_ (by omega)]
  refine ⟨fun hc => ?_, fun hc => ⟨in_ (by omega) (by omega), ?_⟩⟩
  · have : i = 6 := by omega
    subst this; exact h
  · rw [hw i (by omega)]
    by_cases q : ow i = t
    · rw [if_pos q]
      exact br_f (by decide) ⟨n - 1, by omega, i + 1, by omega, by omega, nI_1 i, by rw [cnt_s, if_pos q, nI_1], rfl⟩
    · rw [if_neg q]
      exact br_t rfl ⟨n - 1, by omega, i + 1, by omega, by omega, nI_1 i, by rw [cnt_s, if_neg q, l0, nI_add], rfl⟩

theorem SrcOK.tr {K ow : Nat → Nat} {en fl : Nat} {m0 m1 m2 m3 m4 i4 i5 i6 i7 i8 : Nat → Int32} (h : SrcOK K ow en fl m0 m1 m2 m3 m4 i4 i5 i6 i7 i8) {p : Int32} (hn : noTr m0 p) : noTr i8 p := fun t ht e => by rw [(h.1 t ht).1]; exact hn t ht e
theorem SrcOK.free {K ow : Nat → Nat} {en fl : Nat} {m0 m1 m2 m3 m4 i4 i5 i6 i7 i8 : Nat → Int32} (h : SrcOK K ow en fl m0 m1 m2 m3 m4 i4 i5 i6 i7 i8) {t k : Nat} (ht : t < 4) (h0 : m0 t = 0) (hk : k < 6) : ow k ≠ t := by
  intro e
  have := (h.2.2 k hk).2.2.2.1 (by omega)
  rw [e, h0] at this
  exact absurd this.1 (by decide)
/-- the first free transaction, or none -/
theorem first_free (m0 : Nat → Int32) : (∀ t, t < 4 → m0 t ≠ 0) ∨ ∃ t, t < 4 ∧ m0 t = 0 ∧ ∀ t', t' < t → m0 t' ≠ 0 := by
  by_cases h0 : m0 0 = 0
  · exact Or.inr ⟨0, by omega, h0, fun t' h => by omega⟩
  by_cases h1 : m0 1 = 0
  · exact Or.inr ⟨1, by omega, h1, fun t' h => by have : t' = 0 := by omega
                                                  subst this; exact h0⟩
  by_cases h2 : m0 2 = 0
  · exact Or.inr ⟨2, by omega, h2, fun t' h => by rcases (show t' = 0 ∨ t' = 1 by omega) with rfl | rfl <;> assumption⟩
  by_cases h3 : m0 3 = 0
  · exact Or.inr ⟨3, by omega, h3, fun t' h => by rcases (show t' = 0 ∨ t' = 1 ∨ t' = 2 by omega) with rfl | rfl | rfl <;> assumption⟩
  · exact Or.inl fun t h => by rcases (show t = 0 ∨ t = 1 ∨ t = 2 ∨ t = 3 by omega) with rfl | rfl | rfl | rfl <;> assumption
theorem clr_at {m1 : Nat → Int32} {t t' k : Nat} (ht : t < 4) (ht' : t' < 4) (hk : k < 6) : clr m1 t 6 (6 * t' + k) = if t' = t then 0 else m1 (6 * t' + k) := by
  simp only [clr]
  by_cases q : t' = t
  · rw [if_pos q, if_pos (by omega)]
  · rw [if_neg q, if_neg (by omega)]
section OPS
variable {M I : St} {J : Rf} {LP : List Nat} {P : St}
theorem o_begin (hs : SimE M I J LP P) : wp_X7_begin I J LP P (fun r I' J' LP' P' => wp_X8_begin M (fun r' M' => Same r I' J' LP' P' r' M')) := by
  obtain ⟨K, ow, en, fl, fi, po, ma, sz, LT, d, dd, up, ud, hd, HT, hS⟩ := hs
  have hc := hS.2.1
  rcases first_free (M 0) with hall | ⟨t, ht, h0, hlt⟩
  · exact c_open0 (fun t ht => by rw [(hc.1 t ht).1]; exact hall t ht) (r_begin0 hall ⟨rfl, hS.E⟩)
  · refine c_open1 ht (by rw [(hc.1 t ht).1]; exact h0) (fun t' h' => by rw [(hc.1 t' (by omega)).1]; exact hlt t' h') (r_begin1 ht h0 hlt ⟨rfl, Sim.E (hS.src (ow' := ow) (fun c h5 => ?_) (fun c h5 => ?_) ?_)⟩)
    · rw [up_n _ _ (by omega), st_n _ _ _ (by omega)]
    · rw [st_n _ _ _ (by omega)]
    · refine ⟨fun t' ht' => ?_, hc.2.1, fun k hk => ?_⟩
      · show upd (I 8) t 1 t' = upd (M 0) t 1 t' ∧ (upd (M 0) t 1 t' = 0 ∨ upd (M 0) t 1 t' = 1)
        by_cases q : t' = t
        · subst q; rw [upd_s, upd_s]; exact ⟨rfl, Or.inr rfl⟩
        · rw [upd_n _ _ q, upd_n _ _ q]; exact hc.1 t' ht'
      · obtain ⟨a1, a2, a3, a4, a5⟩ := hc.2.2 k hk
        have hf := hc.free ht h0 hk
        refine ⟨a1, a2, fun t' ht' => ?_, fun hlt4 => ?_, a5⟩
        · show clr (M 1) t 6 (6 * t' + k) = _
          rw [clr_at ht ht' hk]
          by_cases q : t' = t
          · rw [if_pos q, if_neg (by omega)]
          · rw [if_neg q]; exact a3 t' ht'
        · obtain ⟨b1, b2⟩ := a4 hlt4
          refine ⟨?_, b2⟩
          show upd (M 0) t 1 (ow k) = 1
          rw [upd_n _ _ hf]; exact b1
theorem o_read (hs : SimE M I J LP P) (p1 p2 : Int32) : wp_X7_read I J LP P p1 p2 (fun r I' J' LP' P' => wp_X8_read M p1 p2 (fun r' M' => Same r I' J' LP' P' r' M')) := by
  obtain ⟨K, ow, en, fl, fi, po, ma, sz, LT, d, dd, up, ud, hd, HT, hS⟩ := hs
  have hc := hS.2.1
  rcases tr_cases (M 0) p1 with hn | ⟨t, ht, rfl, h0⟩
  · exact c_isOpen0 (hc.tr hn) (br_t rfl (r_isTr0 hn (br_t rfl ⟨rfl, hS.E⟩)))
  · refine c_isOpen1 ht (by rw [(hc.1 t ht).1]; exact h0) (br_f (by decide) ?_)
    rcases key_cases p2 with hn | ⟨k, hk, rfl⟩
    · exact c_isKey0 hn (nbr_f rfl (r_isTr1 ht h0 (br_f (by decide) (r_isKey0 hn (nbr_f rfl ⟨rfl, hS.E⟩)))))
    · obtain ⟨a1, a2, a3, a4, a5⟩ := hc.2.2 k hk
      refine c_isKey1 hk (nbr_t (by decide) ⟨in_ hk (by omega), ?_⟩)
      rw [cl_ (n := k) (by omega), a2]
      have key : own32 (ow k) = nI t ↔ ow k = t := by
        rw [own32]
        by_cases q : ow k = 5
        · rw [if_pos q]
          exact ⟨fun z => absurd z.symm (m1_ne (by omega)), fun z => by omega⟩
        · rw [if_neg q, eq_ (by omega) (by omega)]
      rw [key]
      have rr : wp_X8_read M (nI t) (nI k) (fun r' M' => Same (if ow k = t then I 7 k else I 4 k) I J LP P r' M') := by
        refine r_isTr1 ht h0 (br_f (by decide) (r_isKey1 hk (nbr_t (by decide) ?_)))
        rw [ix6, cl_ (n := 6 * t + k) (by omega), cl_ (n := k) (by omega), a3 t ht]
        refine ⟨in_ (by omega) (by omega), ?_⟩
        by_cases q : ow k = t
        · rw [if_pos q]
          refine br_f (by decide) ⟨in_ (by omega) (by omega), ?_, hS.E⟩
          rw [if_pos q, (a4 (by omega)).2, q]
        · rw [if_neg q]
          refine br_t rfl ⟨in_ hk (by omega), ?_, hS.E⟩
          rw [if_neg q, (hc.2.1 k hk).1]
      refine ⟨fun q => ⟨in_ hk (by omega), ?_⟩, fun q => ⟨in_ hk (by omega), ?_⟩⟩
      · rw [if_neg q] at rr; exact rr
      · rw [if_pos q] at rr; exact rr
end OPS
