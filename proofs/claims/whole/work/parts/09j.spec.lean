/-! from night to night -/
theorem SWT_n {n : Nat} {G N T : Nat → Int} {night town : Int} : SWT n G N T night town = SWT n G N T (night - 1) town + WIN n G N T night town := by
  unfold SWT WIN
  induction n with
  | zero => rfl
  | succ n ih =>
    have key : (if T n = town ∧ N n ≤ night then G n else 0) = (if T n = town ∧ N n ≤ night - 1 then G n else 0) + (if N n = night ∧ T n = town then G n else 0) := by
      split <;> split <;> split <;> omega
    rw [sm_s, sm_s, sm_s, ih]
    omega
theorem LET_n {m : Nat} {K EN EX : Nat → Int} {b night town : Int} (h : b ≤ night) : LET m K EN EX b night town = LET m K EN EX b (night - 1) town + 3 * sm (fun e => b2 (K e = 2 ∧ EX e = town ∧ EN e = night)) m := by
  unfold LET
  induction m with
  | zero => rfl
  | succ m ih =>
    have key : (if K m = 2 ∧ EX m = town ∧ b ≤ EN m ∧ EN m ≤ night then (3 : Int) else 0) = (if K m = 2 ∧ EX m = town ∧ b ≤ EN m ∧ EN m ≤ night - 1 then 3 else 0) + 3 * b2 (K m = 2 ∧ EX m = town ∧ EN m = night) := by
      unfold b2
      split <;> split <;> split <;> omega
    rw [sm_s, sm_s, sm_s, ih]
    omega
