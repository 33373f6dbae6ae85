
/-! the model's wishes -/
def nxG (x : Int) : Int → Int → Int := fun f h => if bt x f = 1 then h + p4 f else h
theorem nx_6 (s x : Int) : accL (nxG x) s 6 = s + stp x := by
  have key : ∀ n : Nat, accL (nxG x) s n = s + accL (fun f h => h + bt x f * p4 f) 0 n := by
    intro n; induction n with
    | zero => show s = s + 0; omega
    | succ n ih =>
      rw [accL_succ, accL_succ, ih]
      simp only [nxG]
      rcases bt_bd x n with z | z
      · rw [if_neg (by omega), z]; omega
      · rw [if_pos z, z]; omega
  rw [key 6]
  show s + (0 + bt x 0 * 1 + bt x 1 * 4 + bt x 2 * 16 + bt x 3 * 64 + bt x 4 * 256 + bt x 5 * 1024) = s + stp x
  unfold stp; omega
