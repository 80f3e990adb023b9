/-- the numbers of a new class object: all 0, no key has an owner -/
def I00 : St := va_up (fun _ _ => 0) 6 (upd (upd (upd (upd (upd (upd (fun _ => 0) 0 (-1)) 1 (-1)) 2 (-1)) 3 (-1)) 4 (-1)) 5 (-1))
theorem tg0 (K : Nat → Nat) : TgOK K 0 (fun _ => 0) 0 (fun _ => 0) (fun _ => 0) (fun _ => 0) (fun _ => 0) (fun _ => 0) (fun _ => 0) 0 := ⟨fun k hk => ⟨rfl, rfl, rfl, Nat.zero_le _, Or.inl ⟨rfl, rfl⟩⟩, fun p hp => Or.inr ⟨fun z => absurd z.1 (Nat.not_lt_zero _), rfl⟩, rfl, Nat.le_refl _, fun p hp => absurd hp (Nat.not_lt_zero _), fun z => absurd z.1 (Nat.not_lt_zero _)⟩
theorem sim0 : SimE (fun _ _ => 0) I00 (fun _ _ => none) [] (fun _ _ => 0) := by
  refine ⟨fun _ => 0, fun _ => 5, 0, 0, 0, 0, 0, fun _ => 0, fun _ _ => 0, fun _ => 0, fun _ => 0, 0, 0, 0, fun _ => 0, ⟨Nat.le_refl _, Nat.zero_le _, fun p hp => absurd hp (Nat.not_lt_zero _), fun p q a b c => absurd c (Nat.not_lt_zero _), Or.inl rfl, Or.inl rfl⟩, ⟨fun t ht => ⟨rfl, Or.inl rfl⟩, fun k hk => ⟨rfl, rfl, rfl⟩, fun k hk => ⟨Nat.le_refl 5, ?_, fun t ht => ?_, fun z => absurd (show (5 : Nat) < 4 from z) (by omega), ⟨fun z => absurd (show (5 : Nat) = 4 from z) (by omega), fun ⟨p, _, y, _⟩ => absurd y (Nat.not_lt_zero _)⟩⟩⟩, ⟨rfl, rfl, rfl, rfl, rfl, rfl, rfl, rfl, rfl, rfl, Nat.le_refl _, Nat.le_refl _, Nat.le_refl _⟩, fun n hn => ⟨Nat.zero_le _, rfl, ?_, fun i hi => absurd hi (Nat.not_lt_zero _)⟩, tg0 _, tg0 _, ⟨Nat.zero_le _, rfl, rfl, fun i hi => absurd hi (Nat.not_lt_zero _), fun i hi => absurd hi (Nat.not_lt_zero _), fun i i' a b => absurd b (Nat.not_lt_zero _)⟩, ⟨rfl, rfl, rfl, by decide, rfl⟩⟩
  · rcases (show k = 0 ∨ k = 1 ∨ k = 2 ∨ k = 3 ∨ k = 4 ∨ k = 5 by omega) with rfl | rfl | rfl | rfl | rfl | rfl <;> rfl
  · show (0 : Int32) = if (5 : Nat) = t then 1 else 0
    rw [if_neg (by omega)]
  · rw [I00, up_n _ _ (by omega)]; rfl
theorem arr_cg {cA : ClassId} {n : Nat} {f g : Nat → Option Nat} (h : ∀ j, j < n → f j = g j) : vp_cell cA (n, .inr (.inr (.inr (.inr f)))) = vp_cell cA (n, .inr (.inr (.inr (.inr g)))) := by
  rw [vp_cell_q, vp_cell_q]
  unfold arrV
  have : (Array.ofFn (n := n) fun j => va_rf (f j.val)) = (Array.ofFn (n := n) fun j => va_rf (g j.val)) := congrArg (fun z => Array.ofFn (n := n) z) (funext fun j => by rw [h j.val j.isLt])
  rw [this]
