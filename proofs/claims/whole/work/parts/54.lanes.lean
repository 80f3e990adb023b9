theorem ShY.uq {off i y : Nat} {m f f' : Nat → Int32} (h : ShY off i y m f) (h' : ShY off i y m f') : f = f' := by
  funext z
  by_cases q : z < off ∨ off + y ≤ z
  · rw [h.2 z q, h'.2 z q]
  · obtain ⟨x, rfl⟩ : ∃ x, z = off + x := ⟨z - off, by omega⟩
    rw [h.1 x (by omega), h'.1 x (by omega)]
theorem ShY.mk (off i y : Nat) (m : Nat → Int32) : ShY off i y m (fun z => if z < off ∨ off + y ≤ z then m z else m (off + sh i (z - off))) := by
  refine ⟨fun x hx => ?_, fun z hz => ?_⟩
  · show (if off + x < off ∨ off + y ≤ off + x then m (off + x) else m (off + sh i (off + x - off))) = _
    rw [if_neg (by omega), show off + x - off = x by omega]
  · show (if z < off ∨ off + y ≤ z then m z else m (off + sh i (z - off))) = _
    rw [if_pos hz]
theorem lane_cases (p : Int32) : (∀ l, l < 3 → p ≠ nI l) ∨ ∃ l, l < 3 ∧ p = nI l := by
  by_cases h : ∃ l, l < 3 ∧ p = nI l
  · exact Or.inr h
  · exact Or.inl fun l hl e => h ⟨l, hl, e⟩
theorem idx_cases (p : Int32) (s : Nat) : (∀ i, i < s → p ≠ nI i) ∨ ∃ i, i < s ∧ p = nI i := by
  by_cases h : ∃ i, i < s ∧ p = nI i
  · exact Or.inr h
  · exact Or.inl fun i hi e => h ⟨i, hi, e⟩
theorem pred_lt {s : Nat} {p : Int32} (hs : s < 1000000) (h : nI s ≤ p) : nI s - 1 < p := by
  rcases Nat.eq_zero_or_pos s with y | y
  · subst y
    exact Int32.lt_of_lt_of_le (by decide) h
  · rw [l1, pk_sub (by omega)]
    exact Int32.lt_of_lt_of_le (by rw [lt_ (by omega) (by omega)]; omega) h
section LN
variable {I M : St} {J : Rf} {LP : List Nat} {P : St} {post : Int32 → St → Rf → List Nat → St → Prop} {pr : Int32 → St → Prop}
theorem c_isLane1 {l : Nat} (hl : l < 3) (h : post 1 I J LP P) : wp_X7_isLane I J LP P (nI l) post :=
  br_f (nI_nneg (by omega)) (br_f (by rw [l3, le_ (by omega) (by omega)]; omega) h)
theorem c_isLane0 {p : Int32} (hn : ∀ l, l < 3 → p ≠ nI l) (h : post 0 I J LP P) : wp_X7_isLane I J LP P p post := by
  rcases ge_out (p := p) (N := 3) (by omega) hn with q | q
  · exact br_t q h
  · exact ⟨fun _ => h, fun _ => br_t q h⟩
theorem r_isLane1 {l : Nat} (hl : l < 3) (h : pr 1 M) : wp_X8_isLane M (nI l) pr :=
  r_in1 (nI_nneg (by omega)) (by rw [l2, lt_ (by omega) (by omega)]; omega) ⟨rfl, h⟩
theorem r_isLane0 {p : Int32} (hn : ∀ l, l < 3 → p ≠ nI l) (h : pr 0 M) : wp_X8_isLane M p pr :=
  r_in0 (by rw [l2]; exact out_of (by omega) (fun j hj e => hn j (by omega) e)) ⟨rfl, h⟩
theorem r_isLetter1 {l i s : Nat} (hl : l < 3) (hs : M 14 l = nI s) (hi : i < s) (h4 : s ≤ 40) (h : pr 1 M) : wp_X8_isLetter M (nI l) (nI i) pr := by
  refine r_isLane1 hl (br_f (by decide) ⟨in_ hl (by omega), ?_⟩)
  rw [cl_ (n := l) (by omega), hs]
  exact r_in1 (nI_nneg (by omega)) (by rw [l1, pk_sub (by omega), lt_ (by omega) (by omega)]; omega) (br_f (by decide) h)
theorem r_isLetter0 {l s : Nat} {p : Int32} (hl : l < 3) (hs : M 14 l = nI s) (hp : ∀ i, i < s → p ≠ nI i) (h4 : s ≤ 40) (h : pr 0 M) : wp_X8_isLetter M (nI l) p pr := by
  refine r_isLane1 hl (br_f (by decide) ⟨in_ hl (by omega), ?_⟩)
  rw [cl_ (n := l) (by omega), hs]
  refine r_in0 ?_ (br_t rfl h)
  rcases ge_out (by omega) hp with z | z
  · exact Or.inl z
  · exact Or.inr (pred_lt (by omega) z)
theorem r_isLetterN {p q : Int32} (hn : ∀ l, l < 3 → p ≠ nI l) (h : pr 0 M) : wp_X8_isLetter M p q pr := r_isLane0 hn (br_t rfl h)
theorem rl40 {l : Nat} (hl : l < 3) : rlen (11 + l) = 40 := by rw [rlen, if_neg (by omega)]
theorem c_letterAt1 {po : Option Nat → St → Rf → List Nat → St → Prop} {l i s a : Nat} (hl : l < 3) (hs : I (11 + l) 0 = nI s) (h4 : s ≤ 40) (hi : i < s) (ha : J (15 + l) i = some a) (h : po (some a) I J LP P) : wp_X2_letterAt I J LP P (nI l) (nI i) po := by
  refine c_isLane1 hl (br_f (by decide) ⟨in_ hl (by omega), ?_⟩)
  rw [cl_ (n := l) (by omega)]
  rintro j rfl
  exact c_rat1 hs (by rw [rl40 hl]; exact h4) hi (by rw [show 11 + l + 4 = 15 + l by omega]; exact ha) ⟨fun z => (by cases z), fun b e => (by cases e; exact h)⟩
theorem c_letterAt0 {po : Option Nat → St → Rf → List Nat → St → Prop} {l s : Nat} {p : Int32} (hl : l < 3) (hs : I (11 + l) 0 = nI s) (h4 : s ≤ 40) (hp : ∀ i, i < s → p ≠ nI i) (h : po none I J LP P) : wp_X2_letterAt I J LP P (nI l) p po := by
  refine c_isLane1 hl (br_f (by decide) ⟨in_ hl (by omega), ?_⟩)
  rw [cl_ (n := l) (by omega)]
  rintro j rfl
  exact c_rat0 hs (by rw [rl40 hl]; exact h4) hp ⟨fun _ => h, fun b e => (by cases e)⟩
theorem c_letterAtN {po : Option Nat → St → Rf → List Nat → St → Prop} {p q : Int32} (hn : ∀ l, l < 3 → p ≠ nI l) (h : po none I J LP P) : wp_X2_letterAt I J LP P p q po := c_isLane0 hn (br_t rfl h)
end LN
/-- a letter is gone from its lane -/
theorem RelOK.drop {fl : Nat} {sz : Nat → Nat} {LT : Nat → Nat → Nat} {M I : St} {J : Rf} {l i : Nat} (h : RelOK fl sz LT M I J) (hl : l < 3) (hi : i < sz l) {f15 f16 f17 f18 : Nat → Int32} (z15 : ShY (40 * l) i (sz l - 1) (M 15) f15) (z16 : ShY (40 * l) i (sz l - 1) (M 16) f16) (z17 : ShY (40 * l) i (sz l - 1) (M 17) f17) (z18 : ShY (40 * l) i (sz l - 1) (M 18) f18) {g : Nat → Option Nat} (hg : ∀ x, x + 1 < sz l → g x = J (15 + l) (sh i x)) : RelOK fl (fun n => if n = l then sz l - 1 else sz n) (fun n x => if n = l then LT l (sh i x) else LT n x) (va_up (va_up (va_up (va_up (st M 14 l (nI (sz l - 1))) 15 f15) 16 f16) 17 f17) 18 f18) (st I (11 + l) 0 (nI (sz l - 1))) (va_up J (11 + l + 4) g) := by
  intro n hn
  obtain ⟨h1, h2, h3, h4⟩ := h n hn
  by_cases e : n = l
  · subst e
    simp only [if_true, eq_self_iff_true]
    refine ⟨by omega, ?_, by rw [st_s, upd_s], fun x hx => ?_⟩
    · show upd (M 14) n (nI (sz n - 1)) n = _
      rw [upd_s]
    · have hx' : x < sz n - 1 := hx
      have hb := sh_bd (i := i) (show x + 1 < sz n by omega)
      obtain ⟨r1, r2, r3, r4, r5, r6⟩ := h4 (sh i x) hb
      show LT n (sh i x) < fl ∧ f15 (40 * n + x) = _ ∧ f16 (40 * n + x) = _ ∧ f17 (40 * n + x) = _ ∧ f18 (40 * n + x) = _ ∧ va_up J (11 + n + 4) g (15 + n) x = va_up J (11 + n + 4) g 2 (LT n (sh i x))
      have j2 : va_up J (11 + n + 4) g 2 = J 2 := up_n _ _ (by omega)
      have jn : va_up J (11 + n + 4) g (15 + n) = g := by rw [show 11 + n + 4 = 15 + n by omega, up_s]
      rw [z15.1 x hx', z16.1 x hx', z17.1 x hx', z18.1 x hx', jn, j2, hg x (by omega)]
      exact ⟨r1, r2, r3, r4, r5, r6⟩
  · simp only [if_neg e]
    refine ⟨h1, ?_, by rw [st_n _ _ _ (by omega)]; exact h3, fun x hx => ?_⟩
    · show upd (M 14) l (nI (sz l - 1)) n = _
      rw [upd_n _ _ e]; exact h2
    · obtain ⟨r1, r2, r3, r4, r5, r6⟩ := h4 x hx
      show LT n x < fl ∧ f15 (40 * n + x) = _ ∧ f16 (40 * n + x) = _ ∧ f17 (40 * n + x) = _ ∧ f18 (40 * n + x) = _ ∧ va_up J (11 + l + 4) g (15 + n) x = va_up J (11 + l + 4) g 2 (LT n x)
      have hx2 : x < sz n := hx
      have out : 40 * n + x < 40 * l ∨ 40 * l + (sz l - 1) ≤ 40 * n + x := by
        have := (h l hl).1
        omega
      have j2 : va_up J (11 + l + 4) g 2 = J 2 := up_n _ _ (by omega)
      have jn : va_up J (11 + l + 4) g (15 + n) = J (15 + n) := up_n _ _ (by omega)
      rw [z15.2 _ out, z16.2 _ out, z17.2 _ out, z18.2 _ out, jn, j2]
      exact ⟨r1, r2, r3, r4, r5, r6⟩
section SD
variable {K ow : Nat → Nat} {en fl fi po ma : Nat} {sz : Nat → Nat} {LT : Nat → Nat → Nat} {d dd d' : Nat → Nat} {up ud hd up' hd' : Nat} {HT HT' : Nat → Nat} {M I M' I' : St} {J J' : Rf} {LP : List Nat} {P : St}
theorem Sim.drop (h : Sim K ow en fl fi po ma sz LT d dd up ud hd HT M I J LP P) {l i : Nat} (hl : l < 3) (hi : i < sz l) {f15 f16 f17 f18 : Nat → Int32} (z15 : ShY (40 * l) i (sz l - 1) (M 15) f15) (z16 : ShY (40 * l) i (sz l - 1) (M 16) f16) (z17 : ShY (40 * l) i (sz l - 1) (M 17) f17) (z18 : ShY (40 * l) i (sz l - 1) (M 18) f18) {g : Nat → Option Nat} (hg : ∀ x, x + 1 < sz l → g x = J (15 + l) (sh i x)) : Sim K ow en fl fi po ma (fun n => if n = l then sz l - 1 else sz n) (fun n x => if n = l then LT l (sh i x) else LT n x) d dd up ud hd HT (va_up (va_up (va_up (va_up (st M 14 l (nI (sz l - 1))) 15 f15) 16 f16) 17 f17) 18 f18) (st I (11 + l) 0 (nI (sz l - 1))) (va_up J (11 + l + 4) g) LP P := by
  obtain ⟨hL, hc, hN, hR, hT, hTd, hH, hC⟩ := h
  have j2 : va_up J (11 + l + 4) g 2 = J 2 := up_n _ _ (by omega)
  have j18 : va_up J (11 + l + 4) g 18 = J 18 := up_n _ _ (by omega)
  have ii : ∀ c, c < 11 ∨ 14 ≤ c → st I (11 + l) 0 (nI (sz l - 1)) c = I c := fun c hc' => st_n _ _ _ (by omega)
  refine ⟨?_, ?_, ?_, hR.drop hl hi z15 z16 z17 z18 hg, ?_, ?_, ?_, ?_⟩
  · rw [j2]; exact hL
  · rw [ii 4 (by omega), ii 5 (by omega), ii 6 (by omega), ii 7 (by omega), ii 8 (by omega)]; exact hc
  · unfold NumOK
    rw [ii 1 (by omega), ii 9 (by omega)]; exact hN
  · rw [ii 22 (by omega), ii 24 (by omega), ii 20 (by omega)]; exact hT
  · rw [ii 23 (by omega), ii 25 (by omega), ii 21 (by omega)]; exact hTd
  · unfold HeldOK
    rw [ii 14 (by omega), j2, j18]; exact hH
  · unfold CtrOK
    rw [ii 9 (by omega), ii 19 (by omega), ii 0 (by omega)]; exact hC
theorem Sim.ts (h : Sim K ow en fl fi po ma sz LT d dd up ud hd HT M I J LP P) : TS K fl d up hd HT M I J := ⟨h.2.2.2.2.1, h.2.2.2.2.2.2.1, h.2.2.2.2.2.2.2.2.1, h.2.2.2.2.2.2.2.2.2.1, h.2.2.2.2.2.2.2.2.2.2.1⟩
theorem Sim.take (h : Sim K ow en fl fi po ma sz LT d dd up ud hd HT M I J LP P) (fM : FrM M M') (fI : FrI I I') (fJ : FrJ J J') (ht : TS K fl d' up' hd' HT' M' I' J') : Sim K ow en fl fi po ma sz LT d' dd up' ud hd' HT' M' I' J' LP P := by
  obtain ⟨hL, hc, hN, hR, hT, hTd, hH, hC⟩ := h
  obtain ⟨t1, t2, t3, t4, t5⟩ := ht
  refine ⟨?_, ?_, ?_, ?_, t1, ?_, t2, ?_⟩
  · rw [fJ 2 (by omega)]; exact hL.fr fM
  · rw [fM 0 (by omega), fM 1 (by omega), fM 2 (by omega), fM 3 (by omega), fM 4 (by omega), fI 4 (by omega), fI 5 (by omega), fI 6 (by omega), fI 7 (by omega), fI 8 (by omega)]; exact hc
  · unfold NumOK
    rw [fM 5 (by omega), fM 6 (by omega), fM 7 (by omega), fM 12 (by omega), fM 13 (by omega), fI 1 (by omega), fI 9 (by omega)]; exact hN
  · exact hR.fr (fM 8 (by omega)) (fM 9 (by omega)) (fM 10 (by omega)) (fM 14 (by omega)) (fM 15 (by omega)) (fM 16 (by omega)) (fM 17 (by omega)) (fM 18 (by omega)) (fun n hn => by rw [fI _ (by omega)]) (fun n hn => fJ _ (by omega)) (fJ 2 (by omega))
  · rw [fM 22 (by omega), fM 23 (by omega), fM 24 (by omega), fM 9 (by omega), fI 23 (by omega), fI 25 (by omega), fI 21 (by omega)]; exact hTd
  · obtain ⟨k30, k31, k32, k33, k34⟩ := hC
    exact ⟨by rw [fM 30 (by omega), fI 9 (by omega)]; exact k30, t3, t4, t5, by rw [fM 34 (by omega), fI 0 (by omega)]; exact k34⟩
end SD
section OPL
variable {M I : St} {J : Rf} {LP : List Nat} {P : St}
theorem o_lose (hs : SimE M I J LP P) (p1 p2 : Int32) : wp_X7_lose I J LP P p1 p2 (fun r I' J' LP' P' => wp_X8_lose M p1 p2 (fun r' M' => Same r I' J' LP' P' r' M')) := by
  obtain ⟨K, ow, en, fl, fi, po, ma, sz, LT, d, dd, up, ud, hd, HT, hS⟩ := hs
  have hR := hS.2.2.2.1
  have hL := hS.1
  rcases lane_cases p1 with hn | ⟨l, hl, rfl⟩
  · exact c_letterAtN hn ⟨fun _ => r_isLetterN hn (nbr_f rfl ⟨rfl, hS.E⟩), fun b e => (by cases e)⟩
  · obtain ⟨h1, h2, h3, h4⟩ := hR l hl
    rcases idx_cases p2 (sz l) with hn | ⟨i, hi, rfl⟩
    · exact c_letterAt0 hl h3 h1 hn ⟨fun _ => r_isLetter0 hl h2 hn h1 (nbr_f rfl ⟨rfl, hS.E⟩), fun b e => (by cases e)⟩
    · obtain ⟨r1, r2, r3, r4, r5, r6⟩ := h4 i hi
      obtain ⟨x1, x2, x3, x4, a, x5, x6, x7, x8, x9, x10, x11⟩ := hL.2.2.1 (LT l i) (by have := hL.1; omega)
      refine c_letterAt1 hl h3 h1 hi (by rw [r6]; exact x5) ⟨fun z => (by cases z), fun b e => ?_⟩
      cases e
      refine c_isLane1 hl (br_f (by decide) ⟨in_ hl (by omega), ?_⟩)
      rw [cl_ (n := l) (by omega)]
      rintro j rfl
      refine c_remove (s := sz l) h3 (by rw [rl40 hl]; exact h1) hi (fun x hx => ?_) (fun g hg => ?_)
      · obtain ⟨q1, q2, q3, q4, q5, q6⟩ := h4 x hx
        obtain ⟨y1, y2, y3, y4, a', y5, y6, -⟩ := hL.2.2.1 (LT l x) (by have := hL.1; omega)
        exact ⟨a', by rw [show 11 + l + 4 = 15 + l by omega, q6]; exact y5, y6⟩
      · rintro I12 rfl
        refine ⟨x6, ?_⟩
        rw [show 11 + l + 4 = 15 + l by omega] at hg
        have hv : vp_in (nI (40 * l + i)) 120 := in_ (by omega) (by omega)
        refine r_isLetter1 hl h2 hi h1 (nbr_t (by decide) ?_)
        rw [ix40, cl_ (n := 40 * l + i) (by omega)]
        refine ⟨hv, r_takesOut hl h2 h1 hi (fun f15 f16 f17 f18 z15 z16 z17 z18 => ?_)⟩
        rintro I5 rfl
        refine ⟨by rw [x7, r2], ?_⟩
        obtain ⟨sL, sc, sN, sR, sT, sTd, sH, k30, k31, k32, k33, k34⟩ := hS.drop hl hi z15 z16 z17 z18 hg
        have ii : ∀ c, c ≠ 9 → st (st I (11 + l) 0 (nI (sz l - 1))) 9 3 (st I (11 + l) 0 (nI (sz l - 1)) 9 3 + 1) c = st I (11 + l) 0 (nI (sz l - 1)) c := fun c hc' => st_n _ _ _ hc'
        refine ⟨K, ow, en, fl, fi, po, ma, (fun n => if n = l then sz l - 1 else sz n), (fun n x => if n = l then LT l (sh i x) else LT n x), d, dd, up, ud, hd, HT, sL, sc, sN, ?_, sT, sTd, sH, ?_, k31, k32, ?_, k34⟩
        · exact sR.fr rfl rfl rfl rfl rfl rfl rfl rfl (fun n hn => by rw [ii _ (by omega)]) (fun _ _ => rfl) rfl
        · exact k30
        · have e9 : st (st I (11 + l) 0 (nI (sz l - 1))) 9 3 (st I (11 + l) 0 (nI (sz l - 1)) 9 3 + 1) 9 3 = st I (11 + l) 0 (nI (sz l - 1)) 9 3 + 1 := by rw [st_s, upd_s]
          have e19 : st (st I (11 + l) 0 (nI (sz l - 1))) 9 3 (st I (11 + l) 0 (nI (sz l - 1)) 9 3 + 1) 19 2 = st I (11 + l) 0 (nI (sz l - 1)) 19 2 := by rw [ii 19 (by omega)]
          rw [e9, e19]
          show M 33 0 + 1 = _
          have : M 33 0 = st I (11 + l) 0 (nI (sz l - 1)) 9 3 + st I (11 + l) 0 (nI (sz l - 1)) 19 2 := k33
          rw [this, Int32.add_assoc, Int32.add_comm _ 1, ← Int32.add_assoc]
theorem o_letter (hs : SimE M I J LP P) (p1 p2 p3 : Int32) : wp_X7_letter I J LP P p1 p2 p3 (fun r I' J' LP' P' => wp_X8_letter M p1 p2 p3 (fun r' M' => Same r I' J' LP' P' r' M')) := by
  obtain ⟨K, ow, en, fl, fi, po, ma, sz, LT, d, dd, up, ud, hd, HT, hS⟩ := hs
  have hR := hS.2.2.2.1
  have hL := hS.1
  rcases lane_cases p1 with hn | ⟨l, hl, rfl⟩
  · exact c_isLane0 hn (br_t rfl (r_isLane0 hn (br_t rfl ⟨rfl, hS.E⟩)))
  · refine c_isLane1 hl (br_f (by decide) ?_)
    by_cases hp : ∃ j, j ≤ 3 ∧ p3 = nI j
    · obtain ⟨j, hj, rfl⟩ := hp
      have in3 : ∀ {post : Int32 → St → Prop}, post 1 M → wp_X8_in M (nI j) 0 3 post := fun h => r_in1 (nI_nneg (by omega)) (by rw [l3, lt_ (by omega) (by omega)]; omega) h
      refine br_f (nI_nneg (by omega)) (br_t (by rw [l3, le_ (by omega) (by omega)]; exact hj) ?_)
      obtain ⟨h1, h2, h3, h4⟩ := hR l hl
      rcases idx_cases p2 (sz l) with hn | ⟨i, hi, rfl⟩
      · exact c_letterAt0 hl h3 h1 hn ⟨fun _ => r_isLane1 hl (br_f (by decide) (in3 (nbr_t (by decide) (r_isLetter0 hl h2 hn h1 (nbr_f rfl ⟨rfl, hS.E⟩))))), fun b e => (by cases e)⟩
      · obtain ⟨r1, r2, r3, r4, r5, r6⟩ := h4 i hi
        obtain ⟨x1, x2, x3, x4, a, x5, x6, x7, x8, x9, x10, x11⟩ := hL.2.2.1 (LT l i) (by have := hL.1; omega)
        have hv : vp_in (nI (40 * l + i)) 120 := in_ (by omega) (by omega)
        refine c_letterAt1 hl h3 h1 hi (by rw [r6]; exact x5) ⟨fun z => (by cases z), fun b e => ?_⟩
        cases e
        have go : ∀ {post : Int32 → St → Prop}, ((¬ nI j = 0 → ((¬ nI j = 1 → ((¬ nI j = 2 → (post (M 18 (40 * l + i)) M)) ∧ (nI j = 2 → (post (M 17 (40 * l + i)) M)))) ∧ (nI j = 1 → (post (M 16 (40 * l + i)) M)))) ∧ (nI j = 0 → (post (M 15 (40 * l + i)) M))) → wp_X8_letter M (nI l) (nI i) (nI j) post := by
          intro post h
          refine r_isLane1 hl (br_f (by decide) (in3 (nbr_t (by decide) (r_isLetter1 hl h2 hi h1 (nbr_t (by decide) ?_)))))
          rw [ix40, cl_ (n := 40 * l + i) (by omega)]
          exact ⟨fun a0 => ⟨fun a1 => ⟨fun a2 => ⟨hv, ((h.1 a0).1 a1).1 a2⟩, fun a2 => ⟨hv, ((h.1 a0).1 a1).2 a2⟩⟩, fun a1 => ⟨hv, (h.1 a0).2 a1⟩⟩, fun a0 => ⟨hv, h.2 a0⟩⟩
        rcases (show j = 0 ∨ j = 1 ∨ j = 2 ∨ j = 3 by omega) with rfl | rfl | rfl | rfl
        · exact ⟨fun _ => ⟨x6, go (nbr_f rfl ⟨x7.trans r2.symm, hS.E⟩)⟩, fun h => absurd h (by decide), fun h => absurd h (by decide), fun h => absurd rfl h.1⟩
        · exact ⟨fun h => absurd h (by decide), fun _ => ⟨x6, go (nbr_t (by decide) (nbr_f rfl ⟨by rw [x8, r3, x2], hS.E⟩))⟩, fun h => absurd h (by decide), fun h => absurd rfl h.2.1⟩
        · exact ⟨fun h => absurd h (by decide), fun h => absurd h (by decide), fun _ => ⟨x6, go (nbr_t (by decide) (nbr_t (by decide) (nbr_f rfl ⟨by rw [x10, r4, x3], hS.E⟩)))⟩, fun h => absurd rfl h.2.2⟩
        · exact ⟨fun h => absurd h (by decide), fun h => absurd h (by decide), fun h => absurd h (by decide), fun _ => ⟨x6, go (nbr_t (by decide) (nbr_t (by decide) (nbr_t (by decide) ⟨by rw [x9, r5], hS.E⟩)))⟩⟩
    · have ho := out_of (p := p3) (N := 3) (by omega) (fun j hj e => hp ⟨j, hj, e⟩)
      have fin : wp_X8_letter M (nI l) p2 p3 (fun r' M' => Same (-1) I J LP P r' M') := r_isLane1 hl (br_f (by decide) (r_in0 ho (nbr_f rfl ⟨rfl, hS.E⟩)))
      exact ⟨fun _ => fin, fun h0 => br_f (ho.elim (fun z => absurd z h0) (fun z => Int32.not_le.mpr z)) fin⟩
theorem o_deliver (hs : SimE M I J LP P) (p1 p2 p3 : Int32) : wp_X7_deliver I J LP P p1 p2 p3 (fun r I' J' LP' P' => wp_X8_deliver M p1 p2 p3 (fun r' M' => Same r I' J' LP' P' r' M')) := by
  obtain ⟨K, ow, en, fl, fi, po, ma, sz, LT, d, dd, up, ud, hd, HT, hS⟩ := hs
  have hR := hS.2.2.2.1
  have hL := hS.1
  have i11 := hS.2.2.1.2.2.2.2.2.2.1
  rcases lane_cases p1 with hn | ⟨l, hl, rfl⟩
  · exact c_letterAtN hn ⟨fun _ => r_isLetterN hn (br_t rfl ⟨rfl, hS.E⟩), fun b e => (by cases e)⟩
  · obtain ⟨h1, h2, h3, h4⟩ := hR l hl
    rcases idx_cases p2 (sz l) with hn | ⟨i, hi, rfl⟩
    · exact c_letterAt0 hl h3 h1 hn ⟨fun _ => r_isLetter0 hl h2 hn h1 (br_t rfl ⟨rfl, hS.E⟩), fun b e => (by cases e)⟩
    · obtain ⟨r1, r2, r3, r4, r5, r6⟩ := h4 i hi
      obtain ⟨x1, x2, x3, x4, a, x5, x6, -⟩ := hL.2.2.1 (LT l i) (by have := hL.1; omega)
      have hv : vp_in (nI (40 * l + i)) 120 := in_ (by omega) (by omega)
      have go : ∀ {post : Int32 → St → Prop}, ((¬ p3 = 0 → (wp_X8_hears M (M 8 (LT l i)) (M 10 (LT l i)) (M 9 (LT l i)) (nI (LT l i)) (fun r1 I2 => (post r1 I2)))) ∧ (p3 = 0 → (wp_X8_takesOut M (nI l) (nI i) (fun I4 => (wp_X8_hears I4 (M 8 (LT l i)) (M 10 (LT l i)) (M 9 (LT l i)) (nI (LT l i)) (fun r5 I6 => (post r5 I6))))))) → wp_X8_deliver M (nI l) (nI i) p3 post := by
        intro post h
        refine r_isLetter1 hl h2 hi h1 (br_f (by decide) ?_)
        unfold wp_X8_delivers
        rw [ix40, cl_ (n := 40 * l + i) (by omega), r2, r3, r4, r5]
        exact ⟨hv, hv, hv, hv, h⟩
      refine c_letterAt1 hl h3 h1 hi (by rw [r6]; exact x5) ⟨fun z => (by cases z), fun b e => ?_⟩
      cases e
      refine ⟨fun hp => ?_, fun hp => ?_⟩
      · refine take_sim hL i11 hS.ts r1 x5 (fun r I' J' fI fJ hh => ?_)
        obtain ⟨M', d', up', hd', HT', run, fM, ht⟩ := hh
        exact go (nbr_t hp (run _ ⟨rfl, (hS.take fM fI fJ ht).E⟩))
      · refine c_isLane1 hl (br_f (by decide) ⟨in_ hl (by omega), ?_⟩)
        rw [cl_ (n := l) (by omega)]
        rintro j rfl
        refine c_remove (s := sz l) h3 (by rw [rl40 hl]; exact h1) hi (fun x hx => ?_) (fun g hg => ?_)
        · obtain ⟨q1, q2, q3, q4, q5, q6⟩ := h4 x hx
          obtain ⟨y1, y2, y3, y4, a', y5, y6, -⟩ := hL.2.2.1 (LT l x) (by have := hL.1; omega)
          exact ⟨a', by rw [show 11 + l + 4 = 15 + l by omega, q6]; exact y5, y6⟩
        · rw [show 11 + l + 4 = 15 + l by omega] at hg
          -- the reference's letter taken out, as one state
          obtain ⟨f15, f16, f17, f18, z15, z16, z17, z18⟩ : ∃ f15 f16 f17 f18 : Nat → Int32, ShY (40 * l) i (sz l - 1) (M 15) f15 ∧ ShY (40 * l) i (sz l - 1) (M 16) f16 ∧ ShY (40 * l) i (sz l - 1) (M 17) f17 ∧ ShY (40 * l) i (sz l - 1) (M 18) f18 := ⟨_, _, _, _, ShY.mk _ _ _ _, ShY.mk _ _ _ _, ShY.mk _ _ _ _, ShY.mk _ _ _ _⟩
          have hS1 := hS.drop hl hi z15 z16 z17 z18 hg
          refine take_sim (p := LT l i) hS1.1 hS1.2.2.1.2.2.2.2.2.2.1 hS1.ts r1 (by rw [up_n _ _ (by omega)]; exact x5) (fun r I' J' fI fJ hh => ?_)
          obtain ⟨M', d', up', hd', HT', run, fM, ht⟩ := hh
          refine go (nbr_f hp (r_takesOut hl h2 h1 hi (fun g15 g16 g17 g18 w15 w16 w17 w18 => ?_)))
          rw [w15.uq z15, w16.uq z16, w17.uq z17, w18.uq z18]
          exact run _ ⟨rfl, (hS1.take fM fI fJ ht).E⟩
end OPL
