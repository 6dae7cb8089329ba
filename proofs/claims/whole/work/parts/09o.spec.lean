theorem up_id {N M' : Mem} {k j : Nat} {v : Int} (hM : M' = up N k j v) (hv : v = N k j) : M' = N := by
  rw [hM, hv]
  funext a b
  unfold up
  by_cases h : a = k ∧ b = j
  · rw [if_pos h, h.1, h.2]
  · rw [if_neg h]
theorem TRW_k {B N T W S N' T' W' S' : Nat → Int} {i : Nat} (h : TRW B N T W S i) (e : N' i = N i ∧ T' i = T i ∧ W' i = W i ∧ S' i = S i) : TRW B N' T' W' S' i := by
  unfold TRW at h ⊢
  rw [e.1, e.2.1, e.2.2.1, e.2.2.2]
  exact h
theorem CRW_k {B N T N' T' : Nat → Int} {i : Nat} (h : CRW B N T i) (e : N' i = N i ∧ T' i = T i) : CRW B N' T' i := by
  unfold CRW at h ⊢
  rw [e.1, e.2]
  exact h
theorem TRW_new {t : Int} {B N T W S : Nat → Int} {p : Int} {n : Nat} (hp : p = 5 * (n : Int)) (h : ∃ b0 b1 b2 b3, BA t B p b0 ∧ BA t B (p + 1) b1 ∧ BA t B (p + 2) b2 ∧ BA t B (p + 3) b3 ∧ ok0 b0 ∧ ok1 b1 ∧ ok2 b2 ∧ ok3 b3 ∧ N n = b0 - 97 ∧ T n = b1 - 48 ∧ W n = b2 - 48 ∧ S n = SRT b3) : TRW B N T W S n := by
  obtain ⟨b0, b1, b2, b3, h0, h1, h2, h3, o0, o1, o2, o3, e0, e1, e2, e3⟩ := h
  have f0 := BA_ok (j := 5 * n) h0 (by omega) (by omega)
  have f1 := BA_ok (j := 5 * n + 1) h1 (by omega) (by omega)
  have f2 := BA_ok (j := 5 * n + 2) h2 (by omega) (by omega)
  have f3 := BA_ok (j := 5 * n + 3) h3 (by omega) (by omega)
  unfold TRW
  rw [← f0, ← f1, ← f2, ← f3]
  exact ⟨e0, e1, e2, e3⟩
theorem CRW_new {t : Int} {B N T : Nat → Int} {p : Int} {n : Nat} (hp : p = 3 * (n : Int)) (h : ∃ b0 b1, BA t B p b0 ∧ BA t B (p + 1) b1 ∧ ok0 b0 ∧ ok1 b1 ∧ N n = b0 - 97 ∧ T n = b1 - 48) : CRW B N T n := by
  obtain ⟨b0, b1, h0, h1, o0, o1, e0, e1⟩ := h
  have f0 := BA_ok (j := 3 * n) h0 (by omega) (by omega)
  have f1 := BA_ok (j := 3 * n + 1) h1 (by omega) (by omega)
  unfold CRW
  rw [← f0, ← f1]
  exact ⟨e0, e1⟩
