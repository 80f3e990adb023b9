theorem own_eq {n t : Nat} (hn : n ≤ 5) (ht : t < 4) : own32 n = nI t ↔ n = t := by
  rw [own32]
  by_cases q : n = 5
  · rw [if_pos q]
    exact ⟨fun z => absurd z.symm (m1_ne (by omega)), fun z => by omega⟩
  · rw [if_neg q, eq_ (by omega) (by omega)]
theorem own_m1 {n : Nat} (hn : n ≤ 5) : own32 n = (-1) ↔ n = 5 := by
  rw [own32]
  by_cases q : n = 5
  · rw [if_pos q]; exact ⟨fun _ => q, fun _ => rfl⟩
  · rw [if_neg q]; exact ⟨fun z => absurd z (m1_ne (by omega)), fun z => absurd z q⟩
theorem src_write {K ow : Nat → Nat} {en fl t k : Nat} {v : Int32} {m0 m1 m2 m3 m4 i4 i5 i6 i7 i8 : Nat → Int32} (h : SrcOK K ow en fl m0 m1 m2 m3 m4 i4 i5 i6 i7 i8) (ht : t < 4) (hk : k < 6) (h0 : m0 t = 1) (ho : ow k = 5 ∨ ow k = t) : SrcOK K (fun x => if x = k then t else ow x) en fl m0 (upd m1 (6 * t + k) 1) (upd m2 (6 * t + k) v) m3 m4 i4 i5 (upd i6 k (nI t)) (upd i7 k v) i8 := by
  refine ⟨h.1, h.2.1, fun k' hk' => ?_⟩
  obtain ⟨a1, a2, a3, a4, a5⟩ := h.2.2 k' hk'
  by_cases q : k' = k
  · subst q
    simp only [if_true, eq_self_iff_true]
    refine ⟨by omega, by rw [upd_s, own32, if_neg (by omega)], fun t' ht' => ?_, fun _ => ⟨h0, by rw [upd_s, upd_s]⟩, ?_⟩
    · by_cases z : t = t'
      · subst z; rw [upd_s, if_pos rfl]
      · rw [upd_n _ _ (by omega), if_neg z, a3 t' ht', if_neg (by omega)]
    · rw [← a5]; omega
  · simp only [if_neg q]
    refine ⟨a1, by rw [upd_n _ _ q]; exact a2, fun t' ht' => ?_, fun z => ⟨(a4 z).1, ?_⟩, a5⟩
    · rw [upd_n _ _ (by omega)]; exact a3 t' ht'
    · rw [upd_n _ _ q, upd_n _ _ (by omega)]; exact (a4 z).2
theorem src_fin {K K' ow : Nat → Nat} {en fl en' t nx : Nat} {m0 m1 m2 m3 m4 i4 i5 i6 i7 i8 f : Nat → Int32} (h : SrcOK K ow en fl m0 m1 m2 m3 m4 i4 i5 i6 i7 i8) (ht : t < 4) (hx : nx = 4 ∨ nx = 5) (hf : ∀ k, k < 6 → f k = own32 (fin ow t nx 6 k)) (hu : ∀ k, k < 6 → (uw K' fl en' k ↔ (uw K fl en k ∨ (nx = 4 ∧ ow k = t)))) (hct : ∀ k, k < 6 → cnt K' k fl = cnt K k fl) : SrcOK K' (fin ow t nx 6) en' fl (upd m0 t 0) (clr m1 t 6) m2 m3 m4 i4 i5 f i7 (upd i8 t 0) := by
  refine ⟨fun t' ht' => ?_, fun k hk => ?_, fun k hk => ?_⟩
  · by_cases q : t' = t
    · subst q; rw [upd_s, upd_s]; exact ⟨rfl, Or.inl rfl⟩
    · rw [upd_n _ _ q, upd_n _ _ q]; exact h.1 t' ht'
  · rw [hct k hk]; exact h.2.1 k hk
  · obtain ⟨a1, a2, a3, a4, a5⟩ := h.2.2 k hk
    have hu := hu k hk
    rw [hf k hk]
    by_cases q : ow k = t
    · have e : fin ow t nx 6 k = nx := by rw [fin, if_pos ⟨hk, q⟩]
      rw [e]
      refine ⟨by omega, rfl, fun t' ht' => ?_, fun z => by omega, ?_⟩
      · rw [clr_at ht ht' hk, a3 t' ht']
        by_cases z : t' = t
        · rw [if_pos z, if_neg (by omega)]
        · rw [if_neg z, if_neg (by omega), if_neg (by omega)]
      · rw [hu]
        refine ⟨fun z => Or.inr ⟨z, q⟩, fun z => z.elim (fun y => ?_) (fun y => y.1)⟩
        have := a5.mpr y; omega
    · have e : fin ow t nx 6 k = ow k := by rw [fin, if_neg (fun z => q z.2)]
      rw [e]
      refine ⟨a1, rfl, fun t' ht' => ?_, fun z => ⟨by rw [upd_n _ _ q]; exact (a4 z).1, (a4 z).2⟩, ?_⟩
      · rw [clr_at ht ht' hk, a3 t' ht']
        by_cases z : t' = t
        · rw [if_pos z, if_neg (by omega)]
        · rw [if_neg z]
      · rw [hu, a5]
        exact ⟨Or.inl, fun z => z.elim id (fun y => absurd y.2 q)⟩
section OPW
variable {M I : St} {J : Rf} {LP : List Nat} {P : St}
theorem o_write (hs : SimE M I J LP P) (p1 p2 v : Int32) : wp_X7_write I J LP P p1 p2 v (fun r I' J' LP' P' => wp_X8_write M p1 p2 v (fun r' M' => Same r I' J' LP' P' r' M')) := by
  obtain ⟨K, ow, en, fl, fi, po, ma, sz, LT, d, dd, up, ud, hd, HT, hS⟩ := hs
  have hc := hS.2.1
  have hL := hS.1
  have hN := hS.2.2.1
  rcases tr_cases (M 0) p1 with hn | ⟨t, ht, rfl, h0⟩
  · exact c_isOpen0 (hc.tr hn) (br_t rfl (r_isTr0 hn (br_t rfl ⟨rfl, hS.E⟩)))
  · refine c_isOpen1 ht (by rw [(hc.1 t ht).1]; exact h0) (br_f (by decide) ?_)
    have h01 : M 0 t = 1 := (hc.1 t ht).2.elim (fun q => absurd q h0) id
    rcases key_cases p2 with hn | ⟨k, hk, rfl⟩
    · exact c_isKey0 hn (nbr_f rfl (r_isTr1 ht h0 (br_f (by decide) (r_isKey0 hn (nbr_f rfl ⟨rfl, hS.E⟩)))))
    · obtain ⟨a1, a2, a3, a4, a5⟩ := hc.2.2 k hk
      refine c_isKey1 hk (nbr_t (by decide) ⟨in_ hk (by omega), ?_⟩)
      rw [cl_ (n := k) (by omega), a2, own_eq a1 ht, own_m1 a1]
      have uwr : ∀ {post : Int32 → St → Prop}, (ow k = 4 → post 1 M) → (ow k ≠ 4 → post 0 M) → wp_X8_isUnderWay M (nI k) post := fun {post} g1 g0 => r_isUW hN.2.1 hN.1 hL.2.1 hL.1 hk (fun p hp => ⟨(hL.2.2.1 p hp).2.1, (hL.2.2.1 p hp).1⟩) (fun u => g1 (a5.mpr u)) (fun u => g0 (fun z => u (a5.mp z)))
      have set1 : (ow k = 5 ∨ ow k = t) → Same 1 (st (st I 6 k (nI t)) 7 k v) J LP P 1 (st (st M 1 (6 * t + k) 1) 2 (6 * t + k) v) := by
        intro ho
        refine ⟨rfl, Sim.E (hS.src (ow' := fun x => if x = k then t else ow x) (fun c h5 => ?_) (fun c h5 => ?_) ?_)⟩
        · rw [st_n _ _ _ (by omega), st_n _ _ _ (by omega)]
        · rw [st_n _ _ _ (by omega), st_n _ _ _ (by omega)]
        · exact src_write hc ht hk h01 ho
      have put : (ow k = 5 ∨ ow k = t) → (vp_in (nI k) 6 ∧ ∀ I1 : St, I1 = st I 6 k (nI t) → (vp_in (nI k) 6 ∧ ∀ I2 : St, I2 = st I1 7 k v → wp_X8_write M (nI t) (nI k) v (fun r' M' => Same 1 I2 J LP P r' M'))) := by
        intro ho
        refine ⟨in_ hk (by omega), ?_⟩
        rintro I1 rfl
        refine ⟨in_ hk (by omega), ?_⟩
        rintro I2 rfl
        refine r_isTr1 ht h0 (br_f (by decide) (r_isKey1 hk (nbr_t (by decide) ?_)))
        rw [ix6, cl_ (n := 6 * t + k) (by omega), nb1]
        have fin2 : (vp_in (nI (6 * t + k)) 24 ∧ ∀ I9 : St, I9 = st M 1 (6 * t + k) 1 → (vp_in (nI (6 * t + k)) 24 ∧ ∀ I10 : St, I10 = st I9 2 (6 * t + k) v → Same 1 (st (st I 6 k (nI t)) 7 k v) J LP P 1 I10)) := by
          refine ⟨in_ (by omega) (by omega), ?_⟩
          rintro I9 rfl
          refine ⟨in_ (by omega) (by omega), ?_⟩
          rintro I10 rfl
          exact set1 ho
        by_cases q : ow k = t
        · refine r_writer1 hk ht h0 (by rw [a3 t ht, if_pos q]; decide) (fun t' h' => Or.inr (by rw [a3 t' (by omega), if_neg (by omega)])) (uwr (fun z => by omega) (fun _ => nbr_f rfl (br_f (nI_nneg (by omega)) (br_t rfl fin2))))
        · have q5 : ow k = 5 := ho.elim id (fun z => absurd z q)
          refine r_writer0 hk (fun t' h' => Or.inr (by rw [a3 t' h', if_neg (by omega)])) (uwr (fun z => by omega) (fun _ => nbr_f rfl (br_t (by decide) fin2)))
      refine ⟨fun q => ?_, fun q => ⟨in_ hk (by omega), fun q2 => ?_, fun q2 => ?_⟩⟩
      · obtain ⟨b1, b2⟩ := put (Or.inl q)
        exact ⟨b1, fun I1 e1 => ⟨(b2 I1 e1).1, fun I2 e2 => br_f (by decide) ((b2 I1 e1).2 I2 e2)⟩⟩
      · obtain ⟨b1, b2⟩ := put (Or.inr q2)
        exact ⟨b1, fun I1 e1 => ⟨(b2 I1 e1).1, fun I2 e2 => br_f (by decide) ((b2 I1 e1).2 I2 e2)⟩⟩
      · refine br_t rfl (r_isTr1 ht h0 (br_f (by decide) (r_isKey1 hk (nbr_t (by decide) ?_))))
        by_cases q4 : ow k = 4
        · exact r_writer0 hk (fun t' h' => Or.inr (by rw [a3 t' h', if_neg (by omega)])) (uwr (fun _ => nbr_t (by decide) ⟨rfl, hS.E⟩) (fun z => absurd q4 z))
        · have hlt : ow k < 4 := by omega
          refine r_writer1 hk hlt (by rw [(a4 hlt).1]; decide) (by rw [a3 _ hlt, if_pos rfl]; decide) (fun t' h' => Or.inr (by rw [a3 t' (by omega), if_neg (by omega)])) (uwr (fun z => absurd z q4) (fun _ => nbr_f rfl (br_f (nI_nneg (by omega)) (br_f ?_ ⟨rfl, hS.E⟩))))
          rw [eq_ (by omega) (by omega)]; exact q2
theorem o_abort (hs : SimE M I J LP P) (p1 : Int32) : wp_X7_abort I J LP P p1 (fun r I' J' LP' P' => wp_X8_abort M p1 (fun r' M' => Same r I' J' LP' P' r' M')) := by
  obtain ⟨K, ow, en, fl, fi, po, ma, sz, LT, d, dd, up, ud, hd, HT, hS⟩ := hs
  have hc := hS.2.1
  rcases tr_cases (M 0) p1 with hn | ⟨t, ht, rfl, h0⟩
  · exact c_isOpen0 (hc.tr hn) (nbr_f rfl (r_isTr0 hn (nbr_f rfl ⟨rfl, hS.E⟩)))
  · have ho : ∀ k, k < 6 → I 6 k = own32 (ow k) ∧ ow k ≤ 5 := fun k hk => ⟨(hc.2.2 k hk).2.1, (hc.2.2 k hk).1⟩
    refine c_isOpen1 ht (by rw [(hc.1 t ht).1]; exact h0) (nbr_t (by decide) (c_lockedKeys ht ho ?_))
    refine c_finish (nx := 5) ht (Or.inr rfl) ho (fun f hf => ?_)
    refine r_isTr1 ht h0 (nbr_t (by decide) (r_writtenBy ht (fun k hk => (hc.2.2 k hk).2.2.1 t ht) ⟨in_ ht (by omega), ?_⟩))
    rintro I5 rfl
    rw [cl_ (n := t) (by omega), nb0]
    refine r_clears ht ⟨rfl, Sim.E (hS.src (ow' := fin ow t 5 6) (fun c h5 => ?_) (fun c h5 => ?_) ?_)⟩
    · rw [up_n _ _ (by omega), st_n _ _ _ (by omega)]
    · rw [st_n _ _ _ (by omega), up_n _ _ (by omega)]
    · exact src_fin hc ht (Or.inr rfl) hf (fun k hk => ⟨Or.inl, fun z => z.elim id (fun y => absurd y.1 (by decide))⟩) (fun _ _ => rfl)
end OPW
