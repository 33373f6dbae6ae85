
/-- how many layers of a field have states from a to b -/
def cntR (r : Int → Int) (f a b : Int) : Int := sumL (fun l => if a ≤ stR r f l ∧ stR r f l ≤ b then 1 else 0) (szR r f).toNat
theorem cnt_pos {r : Int → Int} {f a b : Int} : 0 ≤ cntR r f a b ∧ (0 < cntR r f a b ↔ ∃ l : Int, 0 ≤ l ∧ l < szR r f ∧ a ≤ stR r f l ∧ stR r f l ≤ b) := by
  have key : ∀ k : Nat, 0 ≤ sumL (fun l => if a ≤ stR r f l ∧ stR r f l ≤ b then 1 else 0) k ∧ (0 < sumL (fun l => if a ≤ stR r f l ∧ stR r f l ≤ b then 1 else 0) k ↔ ∃ l : Int, 0 ≤ l ∧ l < (k : Int) ∧ a ≤ stR r f l ∧ stR r f l ≤ b) := by
    intro k
    induction k with
    | zero => exact ⟨Int.le_refl _, ⟨fun z => absurd z (Int.lt_irrefl 0), fun ⟨l, p, q, _⟩ => by omega⟩⟩
    | succ k ih =>
      rw [sumL_succ]
      by_cases hc : a ≤ stR r f k ∧ stR r f k ≤ b
      · rw [if_pos hc]
        refine ⟨by omega, ⟨fun _ => ⟨k, by omega, by omega, hc⟩, fun _ => by omega⟩⟩
      · rw [if_neg hc, Int.add_zero]
        refine ⟨ih.1, ih.2.trans ⟨fun ⟨l, p, q, s⟩ => ⟨l, p, by omega, s⟩, fun ⟨l, p, q, s⟩ => ⟨l, p, ?_, s⟩⟩⟩
        rcases (by omega : l < (k : Int) ∨ l = (k : Int)) with z | z
        · exact z
        · rw [z] at s; exact absurd s hc
  have := key (szR r f).toNat
  refine ⟨this.1, this.2.trans ⟨fun ⟨l, p, q, s⟩ => ⟨l, p, by omega, s⟩, fun ⟨l, p, q, s⟩ => ⟨l, p, by omega, s⟩⟩⟩
