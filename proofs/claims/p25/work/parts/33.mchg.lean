
theorem am_kF {m : AM} {k k' : Nat} {i v : Int} (h : k' ≠ k) : am_up m k i v k' = m k' := funext fun _ => am_k h
