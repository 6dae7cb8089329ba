/-! the start: what the two constructors leave -/
def M0 : Mem := fun a b => if a = 29 then -1 else if a = 0 then (if b = 12 then 6 else 0) else if a = 1 then (if b = 1 then 5 else 0) else if a = 3 then (if b = 1 then 3 else 0) else if a = 22 then (if b = 6 then 5 else 0) else if a = 32 then (if b = 10 then 6 else 0) else 0
def cnc (ca : Nat → ClassId) (ad : Nat → Nat) (M : Mem) : Nat → List CD → va_W
  | _, [] => []
  | k, d :: ds => (ad k, ccell ca ad d (M k)) :: cnc ca ad M (k + 1) ds
theorem cnc_get (ca : Nat → ClassId) (ad : Nat → Nat) (M : Mem) : ∀ (L : List CD) (k i : Nat), (cnc ca ad M k L)[i]? = L[i]?.map (fun d => (ad (k + i), ccell ca ad d (M (k + i)))) := by
  intro L
  induction L with
  | nil => intro k i; simp [cnc]
  | cons d ds ih =>
    intro k i
    cases i with
    | zero => simp [cnc]
    | succ i =>
      simp only [cnc, List.getElem?_cons_succ]
      rw [ih (k + 1) i, show k + 1 + i = k + (i + 1) by omega]
theorem conc_cnc (ca : Nat → ClassId) (ad : Nat → Nat) (M : Mem) (L : List CD) : conc ca ad L M = cnc ca ad M 0 L := by
  apply List.ext_getElem?
  intro i
  rw [cnc_get]
  unfold conc
  rw [List.getElem?_mapIdx]
  simp only [Nat.zero_add]
def mpx (ad : Nat → Nat) (f : Nat → Int) : Nat → List FD → List Value
  | _, [] => []
  | k, fd :: fds => cfd ad fd (f k) :: mpx ad f (k + 1) fds
theorem mpx_get (ad : Nat → Nat) (f : Nat → Int) : ∀ (L : List FD) (k i : Nat), (mpx ad f k L)[i]? = L[i]?.map (fun d => cfd ad d (f (k + i))) := by
  intro L
  induction L with
  | nil => intro k i; simp [mpx]
  | cons d ds ih =>
    intro k i
    cases i with
    | zero => simp [mpx]
    | succ i =>
      simp only [mpx, List.getElem?_cons_succ]
      rw [ih (k + 1) i, show k + 1 + i = k + (i + 1) by omega]
theorem cc_obj {ca : Nat → ClassId} {ad : Nat → Nat} {ci : Nat} {fds : List FD} {f : Nat → Int} {vs : List Value} (h : mpx ad f 0 fds = vs) : ccell ca ad (.inl (ci, fds)) f = .inr (ci, vs) := by
  rw [← h]
  show Sum.inr (ci, _) = Sum.inr (ci, _)
  congr 2
  apply List.ext_getElem?
  intro i
  rw [mpx_get, List.getElem?_mapIdx]
  simp only [Nat.zero_add]
theorem mp1 {ad : Nat → Nat} {f : Nat → Int} {k : Nat} {fd : FD} {fds : List FD} {v : Value} {vs : List Value} (h : cfd ad fd (f k) = v) (h2 : mpx ad f (k + 1) fds = vs) : mpx ad f k (fd :: fds) = v :: vs := by rw [← h, ← h2]; rfl
theorem cf_r {ad : Nat → Nat} {f : Nat → Int} {k n : Nat} : cfd ad (1, (n : Int), 0) (f k) = .ref (ad n) := rfl
theorem cf_i {ad : Nat → Nat} {f : Nat → Int} {k : Nat} {lo hi v : Int} (h : f k = v) : cfd ad (0, lo, hi) (f k) = .int (i32 v) := by rw [h]; rfl
theorem cc_i {ca : Nat → ClassId} {ad : Nat → Nat} {n : Nat} {lo hi : Int} {f : Nat → Int} (h : f = fun _ => 0) : ccell ca ad (.inr (0, n, lo, hi)) f = .inl (ca 0, n, .inl (fun _ => i32 0)) := by rw [h]; rfl
theorem cc_b {ca : Nat → ClassId} {ad : Nat → Nat} {n : Nat} {lo hi : Int} {f : Nat → Int} (h : f = fun _ => 0) : ccell ca ad (.inr (1, n, lo, hi)) f = .inl (ca 1, n, .inl (fun _ => i32 0)) := by rw [h]; rfl
theorem cc_l {ca : Nat → ClassId} {ad : Nat → Nat} {n : Nat} {lo hi : Int} {f : Nat → Int} (h : f = fun _ => 0) : ccell ca ad (.inr (2, n, lo, hi)) f = .inl (ca 2, n, .inr (.inl (fun _ => i64 0))) := by rw [h]; rfl
theorem cc_q {ca : Nat → ClassId} {ad : Nat → Nat} {n : Nat} {lo hi : Int} {f : Nat → Int} (h : f = fun _ => -1) : ccell ca ad (.inr (3, n, lo, hi)) f = .inl (ca 3, n, .inr (.inr (.inr (.inr (fun _ => none))))) := by rw [h]; rfl
theorem cs1 {ca : Nat → ClassId} {ad : Nat → Nat} {M : Mem} {k : Nat} {d : CD} {ds : List CD} {e : va_E} {w : va_W} (h : ccell ca ad d (M k) = e) (h2 : cnc ca ad M (k + 1) ds = w) : cnc ca ad M k (d :: ds) = (ad k, e) :: w := by rw [← h, ← h2]; rfl

theorem cs_0 (ca : Nat → ClassId) (ad : Nat → Nat) : ccell ca ad (.inl (6, [(1, 1, 0), (1, 3, 0), (1, 5, 0), (1, 10, 0), (1, 15, 0), (1, 18, 0), (1, 22, 0), (1, 27, 0), (1, 28, 0), (1, 29, 0), (1, 30, 0), (1, 31, 0), (0, 1, 40), (0, 0, 8), (0, 0, 5)])) (M0 0) = .inr (6, [.ref (ad 1), .ref (ad 3), .ref (ad 5), .ref (ad 10), .ref (ad 15), .ref (ad 18), .ref (ad 22), .ref (ad 27), .ref (ad 28), .ref (ad 29), .ref (ad 30), .ref (ad 31), .int (i32 6), .int (i32 0), .int (i32 0)]) := cc_obj (mp1 (cf_r (f := M0 0) (k := 0) (n := 1)) (mp1 (cf_r (f := M0 0) (k := 1) (n := 3)) (mp1 (cf_r (f := M0 0) (k := 2) (n := 5)) (mp1 (cf_r (f := M0 0) (k := 3) (n := 10)) (mp1 (cf_r (f := M0 0) (k := 4) (n := 15)) (mp1 (cf_r (f := M0 0) (k := 5) (n := 18)) (mp1 (cf_r (f := M0 0) (k := 6) (n := 22)) (mp1 (cf_r (f := M0 0) (k := 7) (n := 27)) (mp1 (cf_r (f := M0 0) (k := 8) (n := 28)) (mp1 (cf_r (f := M0 0) (k := 9) (n := 29)) (mp1 (cf_r (f := M0 0) (k := 10) (n := 30)) (mp1 (cf_r (f := M0 0) (k := 11) (n := 31)) (mp1 (cf_i (f := M0 0) (k := 12) (v := 6) rfl) (mp1 (cf_i (f := M0 0) (k := 13) (v := 0) rfl) (mp1 (cf_i (f := M0 0) (k := 14) (v := 0) rfl) (rfl))))))))))))))))
theorem cs_1 (ca : Nat → ClassId) (ad : Nat → Nat) : ccell ca ad (.inl (5, [(1, 2, 0), (0, 5, 5), (0, 0, 59)])) (M0 1) = .inr (5, [.ref (ad 2), .int (i32 5), .int (i32 0)]) := cc_obj (mp1 (cf_r (f := M0 1) (k := 0) (n := 2)) (mp1 (cf_i (f := M0 1) (k := 1) (v := 5) rfl) (mp1 (cf_i (f := M0 1) (k := 2) (v := 0) rfl) (rfl))))
theorem cs_2 (ca : Nat → ClassId) (ad : Nat → Nat) : ccell ca ad (.inr (0, 59, 0, 255)) (M0 2) = .inl (ca 0, 59, .inl (fun _ => i32 0)) := cc_i rfl
theorem cs_3 (ca : Nat → ClassId) (ad : Nat → Nat) : ccell ca ad (.inl (5, [(1, 4, 0), (0, 3, 3), (0, 0, 23)])) (M0 3) = .inr (5, [.ref (ad 4), .int (i32 3), .int (i32 0)]) := cc_obj (mp1 (cf_r (f := M0 3) (k := 0) (n := 4)) (mp1 (cf_i (f := M0 3) (k := 1) (v := 3) rfl) (mp1 (cf_i (f := M0 3) (k := 2) (v := 0) rfl) (rfl))))
theorem cs_4 (ca : Nat → ClassId) (ad : Nat → Nat) : ccell ca ad (.inr (0, 23, 0, 255)) (M0 4) = .inl (ca 0, 23, .inl (fun _ => i32 0)) := cc_i rfl
theorem cs_5 (ca : Nat → ClassId) (ad : Nat → Nat) : ccell ca ad (.inl (4, [(1, 6, 0), (1, 7, 0), (1, 8, 0), (1, 9, 0), (0, 0, 12), (0, (-2147483648), 2147483647)])) (M0 5) = .inr (4, [.ref (ad 6), .ref (ad 7), .ref (ad 8), .ref (ad 9), .int (i32 0), .int (i32 0)]) := cc_obj (mp1 (cf_r (f := M0 5) (k := 0) (n := 6)) (mp1 (cf_r (f := M0 5) (k := 1) (n := 7)) (mp1 (cf_r (f := M0 5) (k := 2) (n := 8)) (mp1 (cf_r (f := M0 5) (k := 3) (n := 9)) (mp1 (cf_i (f := M0 5) (k := 4) (v := 0) rfl) (mp1 (cf_i (f := M0 5) (k := 5) (v := 0) rfl) (rfl)))))))
theorem cs_6 (ca : Nat → ClassId) (ad : Nat → Nat) : ccell ca ad (.inr (0, 12, 0, 23)) (M0 6) = .inl (ca 0, 12, .inl (fun _ => i32 0)) := cc_i rfl
theorem cs_7 (ca : Nat → ClassId) (ad : Nat → Nat) : ccell ca ad (.inr (0, 12, 0, 7)) (M0 7) = .inl (ca 0, 12, .inl (fun _ => i32 0)) := cc_i rfl
theorem cs_8 (ca : Nat → ClassId) (ad : Nat → Nat) : ccell ca ad (.inr (0, 12, 0, 9)) (M0 8) = .inl (ca 0, 12, .inl (fun _ => i32 0)) := cc_i rfl
theorem cs_9 (ca : Nat → ClassId) (ad : Nat → Nat) : ccell ca ad (.inr (0, 12, 0, 2)) (M0 9) = .inl (ca 0, 12, .inl (fun _ => i32 0)) := cc_i rfl
theorem cs_10 (ca : Nat → ClassId) (ad : Nat → Nat) : ccell ca ad (.inl (4, [(1, 11, 0), (1, 12, 0), (1, 13, 0), (1, 14, 0), (0, 0, 12), (0, (-2147483648), 2147483647)])) (M0 10) = .inr (4, [.ref (ad 11), .ref (ad 12), .ref (ad 13), .ref (ad 14), .int (i32 0), .int (i32 0)]) := cc_obj (mp1 (cf_r (f := M0 10) (k := 0) (n := 11)) (mp1 (cf_r (f := M0 10) (k := 1) (n := 12)) (mp1 (cf_r (f := M0 10) (k := 2) (n := 13)) (mp1 (cf_r (f := M0 10) (k := 3) (n := 14)) (mp1 (cf_i (f := M0 10) (k := 4) (v := 0) rfl) (mp1 (cf_i (f := M0 10) (k := 5) (v := 0) rfl) (rfl)))))))
theorem cs_11 (ca : Nat → ClassId) (ad : Nat → Nat) : ccell ca ad (.inr (0, 12, 0, 23)) (M0 11) = .inl (ca 0, 12, .inl (fun _ => i32 0)) := cc_i rfl
theorem cs_12 (ca : Nat → ClassId) (ad : Nat → Nat) : ccell ca ad (.inr (0, 12, 0, 7)) (M0 12) = .inl (ca 0, 12, .inl (fun _ => i32 0)) := cc_i rfl
theorem cs_13 (ca : Nat → ClassId) (ad : Nat → Nat) : ccell ca ad (.inr (0, 12, 0, 9)) (M0 13) = .inl (ca 0, 12, .inl (fun _ => i32 0)) := cc_i rfl
theorem cs_14 (ca : Nat → ClassId) (ad : Nat → Nat) : ccell ca ad (.inr (0, 12, 0, 2)) (M0 14) = .inl (ca 0, 12, .inl (fun _ => i32 0)) := cc_i rfl
theorem cs_15 (ca : Nat → ClassId) (ad : Nat → Nat) : ccell ca ad (.inl (1, [(1, 16, 0), (1, 17, 0), (0, 0, 8)])) (M0 15) = .inr (1, [.ref (ad 16), .ref (ad 17), .int (i32 0)]) := cc_obj (mp1 (cf_r (f := M0 15) (k := 0) (n := 16)) (mp1 (cf_r (f := M0 15) (k := 1) (n := 17)) (mp1 (cf_i (f := M0 15) (k := 2) (v := 0) rfl) (rfl))))
theorem cs_16 (ca : Nat → ClassId) (ad : Nat → Nat) : ccell ca ad (.inr (0, 8, 0, 23)) (M0 16) = .inl (ca 0, 8, .inl (fun _ => i32 0)) := cc_i rfl
theorem cs_17 (ca : Nat → ClassId) (ad : Nat → Nat) : ccell ca ad (.inr (0, 8, 0, 7)) (M0 17) = .inl (ca 0, 8, .inl (fun _ => i32 0)) := cc_i rfl
theorem cs_18 (ca : Nat → ClassId) (ad : Nat → Nat) : ccell ca ad (.inl (2, [(1, 19, 0), (1, 20, 0), (1, 21, 0), (0, 0, 8)])) (M0 18) = .inr (2, [.ref (ad 19), .ref (ad 20), .ref (ad 21), .int (i32 0)]) := cc_obj (mp1 (cf_r (f := M0 18) (k := 0) (n := 19)) (mp1 (cf_r (f := M0 18) (k := 1) (n := 20)) (mp1 (cf_r (f := M0 18) (k := 2) (n := 21)) (mp1 (cf_i (f := M0 18) (k := 3) (v := 0) rfl) (rfl)))))
theorem cs_19 (ca : Nat → ClassId) (ad : Nat → Nat) : ccell ca ad (.inr (0, 8, 0, 2)) (M0 19) = .inl (ca 0, 8, .inl (fun _ => i32 0)) := cc_i rfl
theorem cs_20 (ca : Nat → ClassId) (ad : Nat → Nat) : ccell ca ad (.inr (0, 8, 0, 23)) (M0 20) = .inl (ca 0, 8, .inl (fun _ => i32 0)) := cc_i rfl
theorem cs_21 (ca : Nat → ClassId) (ad : Nat → Nat) : ccell ca ad (.inr (0, 8, 0, 9)) (M0 21) = .inl (ca 0, 8, .inl (fun _ => i32 0)) := cc_i rfl
theorem cs_22 (ca : Nat → ClassId) (ad : Nat → Nat) : ccell ca ad (.inl (0, [(1, 23, 0), (1, 24, 0), (0, 0, 12), (1, 25, 0), (1, 26, 0), (1, 18, 0), (2, 5, 10)])) (M0 22) = .inr (0, [.ref (ad 23), .ref (ad 24), .int (i32 0), .ref (ad 25), .ref (ad 26), .ref (ad 18), .ref (ad 5)]) := cc_obj (mp1 (cf_r (f := M0 22) (k := 0) (n := 23)) (mp1 (cf_r (f := M0 22) (k := 1) (n := 24)) (mp1 (cf_i (f := M0 22) (k := 2) (v := 0) rfl) (mp1 (cf_r (f := M0 22) (k := 3) (n := 25)) (mp1 (cf_r (f := M0 22) (k := 4) (n := 26)) (mp1 (cf_r (f := M0 22) (k := 5) (n := 18)) (mp1 (rfl) (rfl))))))))
theorem cs_23 (ca : Nat → ClassId) (ad : Nat → Nat) : ccell ca ad (.inr (1, 12, 0, 1)) (M0 23) = .inl (ca 1, 12, .inl (fun _ => i32 0)) := cc_b rfl
theorem cs_24 (ca : Nat → ClassId) (ad : Nat → Nat) : ccell ca ad (.inr (0, 12, 0, 3)) (M0 24) = .inl (ca 0, 12, .inl (fun _ => i32 0)) := cc_i rfl
theorem cs_25 (ca : Nat → ClassId) (ad : Nat → Nat) : ccell ca ad (.inr (0, 8, (-1), 23)) (M0 25) = .inl (ca 0, 8, .inl (fun _ => i32 0)) := cc_i rfl
theorem cs_26 (ca : Nat → ClassId) (ad : Nat → Nat) : ccell ca ad (.inr (0, 8, (-1), 2)) (M0 26) = .inl (ca 0, 8, .inl (fun _ => i32 0)) := cc_i rfl
theorem cs_27 (ca : Nat → ClassId) (ad : Nat → Nat) : ccell ca ad (.inr (0, 8, 0, 7)) (M0 27) = .inl (ca 0, 8, .inl (fun _ => i32 0)) := cc_i rfl
theorem cs_28 (ca : Nat → ClassId) (ad : Nat → Nat) : ccell ca ad (.inr (0, 8, 0, 1)) (M0 28) = .inl (ca 0, 8, .inl (fun _ => i32 0)) := cc_i rfl
theorem cs_29 (ca : Nat → ClassId) (ad : Nat → Nat) : ccell ca ad (.inr (3, 4, (-1), 2147483647)) (M0 29) = .inl (ca 3, 4, .inr (.inr (.inr (.inr (fun _ => none))))) := cc_q rfl
theorem cs_30 (ca : Nat → ClassId) (ad : Nat → Nat) : ccell ca ad (.inr (0, 8, 0, 10)) (M0 30) = .inl (ca 0, 8, .inl (fun _ => i32 0)) := cc_i rfl
theorem cs_31 (ca : Nat → ClassId) (ad : Nat → Nat) : ccell ca ad (.inr (2, 8, 0, 1099511627776)) (M0 31) = .inl (ca 2, 8, .inr (.inl (fun _ => i64 0))) := cc_l rfl
theorem cs_32 (ca : Nat → ClassId) (ad : Nat → Nat) : ccell ca ad (.inl (7, [(1, 33, 0), (1, 34, 0), (0, 0, 12), (1, 35, 0), (1, 36, 0), (1, 37, 0), (1, 38, 0), (0, 0, 8), (1, 39, 0), (1, 40, 0), (0, 1, 40), (0, 0, 8), (1, 41, 0), (1, 42, 0), (1, 43, 0), (0, 0, 12), (1, 44, 0), (1, 45, 0), (1, 46, 0), (1, 47, 0), (0, (-1), 11), (0, 0, 255), (1, 48, 0), (1, 49, 0), (1, 50, 0), (1, 51, 0), (1, 52, 0), (1, 53, 0), (0, 0, 255), (1, 54, 0), (0, (-1), 11), (0, (-1), 8), (1, 55, 0), (1, 56, 0), (0, 0, 8), (1, 57, 0), (1, 58, 0), (1, 59, 0), (1, 60, 0), (1, 61, 0), (1, 62, 0), (1, 63, 0), (1, 64, 0), (0, 0, 5)])) (M0 32) = .inr (7, [.ref (ad 33), .ref (ad 34), .int (i32 0), .ref (ad 35), .ref (ad 36), .ref (ad 37), .ref (ad 38), .int (i32 0), .ref (ad 39), .ref (ad 40), .int (i32 6), .int (i32 0), .ref (ad 41), .ref (ad 42), .ref (ad 43), .int (i32 0), .ref (ad 44), .ref (ad 45), .ref (ad 46), .ref (ad 47), .int (i32 0), .int (i32 0), .ref (ad 48), .ref (ad 49), .ref (ad 50), .ref (ad 51), .ref (ad 52), .ref (ad 53), .int (i32 0), .ref (ad 54), .int (i32 0), .int (i32 0), .ref (ad 55), .ref (ad 56), .int (i32 0), .ref (ad 57), .ref (ad 58), .ref (ad 59), .ref (ad 60), .ref (ad 61), .ref (ad 62), .ref (ad 63), .ref (ad 64), .int (i32 0)]) := cc_obj (mp1 (cf_r (f := M0 32) (k := 0) (n := 33)) (mp1 (cf_r (f := M0 32) (k := 1) (n := 34)) (mp1 (cf_i (f := M0 32) (k := 2) (v := 0) rfl) (mp1 (cf_r (f := M0 32) (k := 3) (n := 35)) (mp1 (cf_r (f := M0 32) (k := 4) (n := 36)) (mp1 (cf_r (f := M0 32) (k := 5) (n := 37)) (mp1 (cf_r (f := M0 32) (k := 6) (n := 38)) (mp1 (cf_i (f := M0 32) (k := 7) (v := 0) rfl) (mp1 (cf_r (f := M0 32) (k := 8) (n := 39)) (mp1 (cf_r (f := M0 32) (k := 9) (n := 40)) (mp1 (cf_i (f := M0 32) (k := 10) (v := 6) rfl) (mp1 (cf_i (f := M0 32) (k := 11) (v := 0) rfl) (mp1 (cf_r (f := M0 32) (k := 12) (n := 41)) (mp1 (cf_r (f := M0 32) (k := 13) (n := 42)) (mp1 (cf_r (f := M0 32) (k := 14) (n := 43)) (mp1 (cf_i (f := M0 32) (k := 15) (v := 0) rfl) (mp1 (cf_r (f := M0 32) (k := 16) (n := 44)) (mp1 (cf_r (f := M0 32) (k := 17) (n := 45)) (mp1 (cf_r (f := M0 32) (k := 18) (n := 46)) (mp1 (cf_r (f := M0 32) (k := 19) (n := 47)) (mp1 (cf_i (f := M0 32) (k := 20) (v := 0) rfl) (mp1 (cf_i (f := M0 32) (k := 21) (v := 0) rfl) (mp1 (cf_r (f := M0 32) (k := 22) (n := 48)) (mp1 (cf_r (f := M0 32) (k := 23) (n := 49)) (mp1 (cf_r (f := M0 32) (k := 24) (n := 50)) (mp1 (cf_r (f := M0 32) (k := 25) (n := 51)) (mp1 (cf_r (f := M0 32) (k := 26) (n := 52)) (mp1 (cf_r (f := M0 32) (k := 27) (n := 53)) (mp1 (cf_i (f := M0 32) (k := 28) (v := 0) rfl) (mp1 (cf_r (f := M0 32) (k := 29) (n := 54)) (mp1 (cf_i (f := M0 32) (k := 30) (v := 0) rfl) (mp1 (cf_i (f := M0 32) (k := 31) (v := 0) rfl) (mp1 (cf_r (f := M0 32) (k := 32) (n := 55)) (mp1 (cf_r (f := M0 32) (k := 33) (n := 56)) (mp1 (cf_i (f := M0 32) (k := 34) (v := 0) rfl) (mp1 (cf_r (f := M0 32) (k := 35) (n := 57)) (mp1 (cf_r (f := M0 32) (k := 36) (n := 58)) (mp1 (cf_r (f := M0 32) (k := 37) (n := 59)) (mp1 (cf_r (f := M0 32) (k := 38) (n := 60)) (mp1 (cf_r (f := M0 32) (k := 39) (n := 61)) (mp1 (cf_r (f := M0 32) (k := 40) (n := 62)) (mp1 (cf_r (f := M0 32) (k := 41) (n := 63)) (mp1 (cf_r (f := M0 32) (k := 42) (n := 64)) (mp1 (cf_i (f := M0 32) (k := 43) (v := 0) rfl) (rfl)))))))))))))))))))))))))))))))))))))))))))))
theorem cs_33 (ca : Nat → ClassId) (ad : Nat → Nat) : ccell ca ad (.inr (0, 2, 0, 59)) (M0 33) = .inl (ca 0, 2, .inl (fun _ => i32 0)) := cc_i rfl
theorem cs_34 (ca : Nat → ClassId) (ad : Nat → Nat) : ccell ca ad (.inr (0, 118, 0, 255)) (M0 34) = .inl (ca 0, 118, .inl (fun _ => i32 0)) := cc_i rfl
theorem cs_35 (ca : Nat → ClassId) (ad : Nat → Nat) : ccell ca ad (.inr (0, 13, 0, 23)) (M0 35) = .inl (ca 0, 13, .inl (fun _ => i32 0)) := cc_i rfl
theorem cs_36 (ca : Nat → ClassId) (ad : Nat → Nat) : ccell ca ad (.inr (0, 13, 0, 7)) (M0 36) = .inl (ca 0, 13, .inl (fun _ => i32 0)) := cc_i rfl
theorem cs_37 (ca : Nat → ClassId) (ad : Nat → Nat) : ccell ca ad (.inr (0, 13, 0, 9)) (M0 37) = .inl (ca 0, 13, .inl (fun _ => i32 0)) := cc_i rfl
theorem cs_38 (ca : Nat → ClassId) (ad : Nat → Nat) : ccell ca ad (.inr (0, 13, 0, 2)) (M0 38) = .inl (ca 0, 13, .inl (fun _ => i32 0)) := cc_i rfl
theorem cs_39 (ca : Nat → ClassId) (ad : Nat → Nat) : ccell ca ad (.inr (0, 9, 0, 23)) (M0 39) = .inl (ca 0, 9, .inl (fun _ => i32 0)) := cc_i rfl
theorem cs_40 (ca : Nat → ClassId) (ad : Nat → Nat) : ccell ca ad (.inr (0, 9, 0, 7)) (M0 40) = .inl (ca 0, 9, .inl (fun _ => i32 0)) := cc_i rfl
theorem cs_41 (ca : Nat → ClassId) (ad : Nat → Nat) : ccell ca ad (.inr (0, 8, 0, 2)) (M0 41) = .inl (ca 0, 8, .inl (fun _ => i32 0)) := cc_i rfl
theorem cs_42 (ca : Nat → ClassId) (ad : Nat → Nat) : ccell ca ad (.inr (0, 8, 0, 23)) (M0 42) = .inl (ca 0, 8, .inl (fun _ => i32 0)) := cc_i rfl
theorem cs_43 (ca : Nat → ClassId) (ad : Nat → Nat) : ccell ca ad (.inr (0, 8, 0, 9)) (M0 43) = .inl (ca 0, 8, .inl (fun _ => i32 0)) := cc_i rfl
theorem cs_44 (ca : Nat → ClassId) (ad : Nat → Nat) : ccell ca ad (.inr (0, 12, 0, 23)) (M0 44) = .inl (ca 0, 12, .inl (fun _ => i32 0)) := cc_i rfl
theorem cs_45 (ca : Nat → ClassId) (ad : Nat → Nat) : ccell ca ad (.inr (0, 12, 0, 7)) (M0 45) = .inl (ca 0, 12, .inl (fun _ => i32 0)) := cc_i rfl
theorem cs_46 (ca : Nat → ClassId) (ad : Nat → Nat) : ccell ca ad (.inr (0, 12, 0, 9)) (M0 46) = .inl (ca 0, 12, .inl (fun _ => i32 0)) := cc_i rfl
theorem cs_47 (ca : Nat → ClassId) (ad : Nat → Nat) : ccell ca ad (.inr (0, 12, 0, 2)) (M0 47) = .inl (ca 0, 12, .inl (fun _ => i32 0)) := cc_i rfl
theorem cs_48 (ca : Nat → ClassId) (ad : Nat → Nat) : ccell ca ad (.inr (0, 12, 0, 1)) (M0 48) = .inl (ca 0, 12, .inl (fun _ => i32 0)) := cc_i rfl
theorem cs_49 (ca : Nat → ClassId) (ad : Nat → Nat) : ccell ca ad (.inr (0, 12, 0, 3)) (M0 49) = .inl (ca 0, 12, .inl (fun _ => i32 0)) := cc_i rfl
theorem cs_50 (ca : Nat → ClassId) (ad : Nat → Nat) : ccell ca ad (.inr (0, 12, (-1), 11)) (M0 50) = .inl (ca 0, 12, .inl (fun _ => i32 0)) := cc_i rfl
theorem cs_51 (ca : Nat → ClassId) (ad : Nat → Nat) : ccell ca ad (.inr (0, 192, 0, 36)) (M0 51) = .inl (ca 0, 192, .inl (fun _ => i32 0)) := cc_i rfl
theorem cs_52 (ca : Nat → ClassId) (ad : Nat → Nat) : ccell ca ad (.inr (0, 192, 0, 40)) (M0 52) = .inl (ca 0, 192, .inl (fun _ => i32 0)) := cc_i rfl
theorem cs_53 (ca : Nat → ClassId) (ad : Nat → Nat) : ccell ca ad (.inr (0, 192, 0, 3)) (M0 53) = .inl (ca 0, 192, .inl (fun _ => i32 0)) := cc_i rfl
theorem cs_54 (ca : Nat → ClassId) (ad : Nat → Nat) : ccell ca ad (.inr (0, 24, 0, 255)) (M0 54) = .inl (ca 0, 24, .inl (fun _ => i32 0)) := cc_i rfl
theorem cs_55 (ca : Nat → ClassId) (ad : Nat → Nat) : ccell ca ad (.inr (0, 12, 0, 4095)) (M0 55) = .inl (ca 0, 12, .inl (fun _ => i32 0)) := cc_i rfl
theorem cs_56 (ca : Nat → ClassId) (ad : Nat → Nat) : ccell ca ad (.inr (0, 2, 0, 7)) (M0 56) = .inl (ca 0, 2, .inl (fun _ => i32 0)) := cc_i rfl
theorem cs_57 (ca : Nat → ClassId) (ad : Nat → Nat) : ccell ca ad (.inr (0, 8, 0, 7)) (M0 57) = .inl (ca 0, 8, .inl (fun _ => i32 0)) := cc_i rfl
theorem cs_58 (ca : Nat → ClassId) (ad : Nat → Nat) : ccell ca ad (.inr (0, 8, 0, 1)) (M0 58) = .inl (ca 0, 8, .inl (fun _ => i32 0)) := cc_i rfl
theorem cs_59 (ca : Nat → ClassId) (ad : Nat → Nat) : ccell ca ad (.inr (0, 10, 0, 255)) (M0 59) = .inl (ca 0, 10, .inl (fun _ => i32 0)) := cc_i rfl
theorem cs_60 (ca : Nat → ClassId) (ad : Nat → Nat) : ccell ca ad (.inr (1, 4, 0, 1)) (M0 60) = .inl (ca 1, 4, .inl (fun _ => i32 0)) := cc_b rfl
theorem cs_61 (ca : Nat → ClassId) (ad : Nat → Nat) : ccell ca ad (.inr (0, 4, 0, 2)) (M0 61) = .inl (ca 0, 4, .inl (fun _ => i32 0)) := cc_i rfl
theorem cs_62 (ca : Nat → ClassId) (ad : Nat → Nat) : ccell ca ad (.inr (0, 4, 0, 60)) (M0 62) = .inl (ca 0, 4, .inl (fun _ => i32 0)) := cc_i rfl
theorem cs_63 (ca : Nat → ClassId) (ad : Nat → Nat) : ccell ca ad (.inr (0, 240, (-2147483648), 2147483647)) (M0 63) = .inl (ca 0, 240, .inl (fun _ => i32 0)) := cc_i rfl
theorem cs_64 (ca : Nat → ClassId) (ad : Nat → Nat) : ccell ca ad (.inr (0, 60, (-2147483648), 2147483647)) (M0 64) = .inl (ca 0, 60, .inl (fun _ => i32 0)) := cc_i rfl
set_option maxHeartbeats 4000000 in
set_option maxRecDepth 100000 in
theorem conc_start (ca : Nat → ClassId) (ad : Nat → Nat) : conc ca ad (LB ++ []) M0 = [((ad 0), .inr (6, [.ref (ad 1), .ref (ad 3), .ref (ad 5), .ref (ad 10), .ref (ad 15), .ref (ad 18), .ref (ad 22), .ref (ad 27), .ref (ad 28), .ref (ad 29), .ref (ad 30), .ref (ad 31), .int (i32 6), .int (i32 0), .int (i32 0)])), ((ad 1), .inr (5, [.ref (ad 2), .int (i32 5), .int (i32 0)])), ((ad 2), .inl (ca 0, 59, .inl (fun _ => i32 0))), ((ad 3), .inr (5, [.ref (ad 4), .int (i32 3), .int (i32 0)])), ((ad 4), .inl (ca 0, 23, .inl (fun _ => i32 0))), ((ad 5), .inr (4, [.ref (ad 6), .ref (ad 7), .ref (ad 8), .ref (ad 9), .int (i32 0), .int (i32 0)])), ((ad 6), .inl (ca 0, 12, .inl (fun _ => i32 0))), ((ad 7), .inl (ca 0, 12, .inl (fun _ => i32 0))), ((ad 8), .inl (ca 0, 12, .inl (fun _ => i32 0))), ((ad 9), .inl (ca 0, 12, .inl (fun _ => i32 0))), ((ad 10), .inr (4, [.ref (ad 11), .ref (ad 12), .ref (ad 13), .ref (ad 14), .int (i32 0), .int (i32 0)])), ((ad 11), .inl (ca 0, 12, .inl (fun _ => i32 0))), ((ad 12), .inl (ca 0, 12, .inl (fun _ => i32 0))), ((ad 13), .inl (ca 0, 12, .inl (fun _ => i32 0))), ((ad 14), .inl (ca 0, 12, .inl (fun _ => i32 0))), ((ad 15), .inr (1, [.ref (ad 16), .ref (ad 17), .int (i32 0)])), ((ad 16), .inl (ca 0, 8, .inl (fun _ => i32 0))), ((ad 17), .inl (ca 0, 8, .inl (fun _ => i32 0))), ((ad 18), .inr (2, [.ref (ad 19), .ref (ad 20), .ref (ad 21), .int (i32 0)])), ((ad 19), .inl (ca 0, 8, .inl (fun _ => i32 0))), ((ad 20), .inl (ca 0, 8, .inl (fun _ => i32 0))), ((ad 21), .inl (ca 0, 8, .inl (fun _ => i32 0))), ((ad 22), .inr (0, [.ref (ad 23), .ref (ad 24), .int (i32 0), .ref (ad 25), .ref (ad 26), .ref (ad 18), .ref (ad 5)])), ((ad 23), .inl (ca 1, 12, .inl (fun _ => i32 0))), ((ad 24), .inl (ca 0, 12, .inl (fun _ => i32 0))), ((ad 25), .inl (ca 0, 8, .inl (fun _ => i32 0))), ((ad 26), .inl (ca 0, 8, .inl (fun _ => i32 0))), ((ad 27), .inl (ca 0, 8, .inl (fun _ => i32 0))), ((ad 28), .inl (ca 0, 8, .inl (fun _ => i32 0))), ((ad 29), .inl (ca 3, 4, .inr (.inr (.inr (.inr (fun _ => none)))))), ((ad 30), .inl (ca 0, 8, .inl (fun _ => i32 0))), ((ad 31), .inl (ca 2, 8, .inr (.inl (fun _ => i64 0)))), ((ad 32), .inr (7, [.ref (ad 33), .ref (ad 34), .int (i32 0), .ref (ad 35), .ref (ad 36), .ref (ad 37), .ref (ad 38), .int (i32 0), .ref (ad 39), .ref (ad 40), .int (i32 6), .int (i32 0), .ref (ad 41), .ref (ad 42), .ref (ad 43), .int (i32 0), .ref (ad 44), .ref (ad 45), .ref (ad 46), .ref (ad 47), .int (i32 0), .int (i32 0), .ref (ad 48), .ref (ad 49), .ref (ad 50), .ref (ad 51), .ref (ad 52), .ref (ad 53), .int (i32 0), .ref (ad 54), .int (i32 0), .int (i32 0), .ref (ad 55), .ref (ad 56), .int (i32 0), .ref (ad 57), .ref (ad 58), .ref (ad 59), .ref (ad 60), .ref (ad 61), .ref (ad 62), .ref (ad 63), .ref (ad 64), .int (i32 0)])), ((ad 33), .inl (ca 0, 2, .inl (fun _ => i32 0))), ((ad 34), .inl (ca 0, 118, .inl (fun _ => i32 0))), ((ad 35), .inl (ca 0, 13, .inl (fun _ => i32 0))), ((ad 36), .inl (ca 0, 13, .inl (fun _ => i32 0))), ((ad 37), .inl (ca 0, 13, .inl (fun _ => i32 0))), ((ad 38), .inl (ca 0, 13, .inl (fun _ => i32 0))), ((ad 39), .inl (ca 0, 9, .inl (fun _ => i32 0))), ((ad 40), .inl (ca 0, 9, .inl (fun _ => i32 0))), ((ad 41), .inl (ca 0, 8, .inl (fun _ => i32 0))), ((ad 42), .inl (ca 0, 8, .inl (fun _ => i32 0))), ((ad 43), .inl (ca 0, 8, .inl (fun _ => i32 0))), ((ad 44), .inl (ca 0, 12, .inl (fun _ => i32 0))), ((ad 45), .inl (ca 0, 12, .inl (fun _ => i32 0))), ((ad 46), .inl (ca 0, 12, .inl (fun _ => i32 0))), ((ad 47), .inl (ca 0, 12, .inl (fun _ => i32 0))), ((ad 48), .inl (ca 0, 12, .inl (fun _ => i32 0))), ((ad 49), .inl (ca 0, 12, .inl (fun _ => i32 0))), ((ad 50), .inl (ca 0, 12, .inl (fun _ => i32 0))), ((ad 51), .inl (ca 0, 192, .inl (fun _ => i32 0))), ((ad 52), .inl (ca 0, 192, .inl (fun _ => i32 0))), ((ad 53), .inl (ca 0, 192, .inl (fun _ => i32 0))), ((ad 54), .inl (ca 0, 24, .inl (fun _ => i32 0))), ((ad 55), .inl (ca 0, 12, .inl (fun _ => i32 0))), ((ad 56), .inl (ca 0, 2, .inl (fun _ => i32 0))), ((ad 57), .inl (ca 0, 8, .inl (fun _ => i32 0))), ((ad 58), .inl (ca 0, 8, .inl (fun _ => i32 0))), ((ad 59), .inl (ca 0, 10, .inl (fun _ => i32 0))), ((ad 60), .inl (ca 1, 4, .inl (fun _ => i32 0))), ((ad 61), .inl (ca 0, 4, .inl (fun _ => i32 0))), ((ad 62), .inl (ca 0, 4, .inl (fun _ => i32 0))), ((ad 63), .inl (ca 0, 240, .inl (fun _ => i32 0))), ((ad 64), .inl (ca 0, 60, .inl (fun _ => i32 0)))] := by
  rw [conc_cnc]
  exact cs1 (k := 0) (cs_0 ca ad) (cs1 (k := 1) (cs_1 ca ad) (cs1 (k := 2) (cs_2 ca ad) (cs1 (k := 3) (cs_3 ca ad) (cs1 (k := 4) (cs_4 ca ad) (cs1 (k := 5) (cs_5 ca ad) (cs1 (k := 6) (cs_6 ca ad) (cs1 (k := 7) (cs_7 ca ad) (cs1 (k := 8) (cs_8 ca ad) (cs1 (k := 9) (cs_9 ca ad) (cs1 (k := 10) (cs_10 ca ad) (cs1 (k := 11) (cs_11 ca ad) (cs1 (k := 12) (cs_12 ca ad) (cs1 (k := 13) (cs_13 ca ad) (cs1 (k := 14) (cs_14 ca ad) (cs1 (k := 15) (cs_15 ca ad) (cs1 (k := 16) (cs_16 ca ad) (cs1 (k := 17) (cs_17 ca ad) (cs1 (k := 18) (cs_18 ca ad) (cs1 (k := 19) (cs_19 ca ad) (cs1 (k := 20) (cs_20 ca ad) (cs1 (k := 21) (cs_21 ca ad) (cs1 (k := 22) (cs_22 ca ad) (cs1 (k := 23) (cs_23 ca ad) (cs1 (k := 24) (cs_24 ca ad) (cs1 (k := 25) (cs_25 ca ad) (cs1 (k := 26) (cs_26 ca ad) (cs1 (k := 27) (cs_27 ca ad) (cs1 (k := 28) (cs_28 ca ad) (cs1 (k := 29) (cs_29 ca ad) (cs1 (k := 30) (cs_30 ca ad) (cs1 (k := 31) (cs_31 ca ad) (cs1 (k := 32) (cs_32 ca ad) (cs1 (k := 33) (cs_33 ca ad) (cs1 (k := 34) (cs_34 ca ad) (cs1 (k := 35) (cs_35 ca ad) (cs1 (k := 36) (cs_36 ca ad) (cs1 (k := 37) (cs_37 ca ad) (cs1 (k := 38) (cs_38 ca ad) (cs1 (k := 39) (cs_39 ca ad) (cs1 (k := 40) (cs_40 ca ad) (cs1 (k := 41) (cs_41 ca ad) (cs1 (k := 42) (cs_42 ca ad) (cs1 (k := 43) (cs_43 ca ad) (cs1 (k := 44) (cs_44 ca ad) (cs1 (k := 45) (cs_45 ca ad) (cs1 (k := 46) (cs_46 ca ad) (cs1 (k := 47) (cs_47 ca ad) (cs1 (k := 48) (cs_48 ca ad) (cs1 (k := 49) (cs_49 ca ad) (cs1 (k := 50) (cs_50 ca ad) (cs1 (k := 51) (cs_51 ca ad) (cs1 (k := 52) (cs_52 ca ad) (cs1 (k := 53) (cs_53 ca ad) (cs1 (k := 54) (cs_54 ca ad) (cs1 (k := 55) (cs_55 ca ad) (cs1 (k := 56) (cs_56 ca ad) (cs1 (k := 57) (cs_57 ca ad) (cs1 (k := 58) (cs_58 ca ad) (cs1 (k := 59) (cs_59 ca ad) (cs1 (k := 60) (cs_60 ca ad) (cs1 (k := 61) (cs_61 ca ad) (cs1 (k := 62) (cs_62 ca ad) (cs1 (k := 63) (cs_63 ca ad) (cs1 (k := 64) (cs_64 ca ad) (rfl)))))))))))))))))))))))))))))))))))))))))))))))))))))))))))))))))
def okL (M : Mem) : Nat → List CD → Prop
  | _, [] => True
  | k, d :: ds => (okD d ∧ okC d (M k)) ∧ okL M (k + 1) ds
theorem okL_get {M : Mem} : ∀ (L : List CD) (k : Nat), okL M k L → ∀ (i : Nat) (d : CD), L[i]? = some d → okD d ∧ okC d (M (k + i)) := by
  intro L
  induction L with
  | nil => intro k _ i d h; simp at h
  | cons a ds ih =>
    intro k h i d hd
    cases i with
    | zero =>
      simp at hd
      subst hd
      exact h.1
    | succ i =>
      rw [List.getElem?_cons_succ] at hd
      have := ih (k + 1) h.2 i d hd
      rw [show k + 1 + i = k + (i + 1) by omega] at this
      exact this
theorem okL0 {M : Mem} {k : Nat} : okL M k [] := trivial
theorem okL1 {M : Mem} {k : Nat} {d : CD} {ds : List CD} (h : okD d ∧ okC d (M k)) (h2 : okL M (k + 1) ds) : okL M k (d :: ds) := ⟨h, h2⟩
theorem okC_obj {ci : Nat} {fds : List FD} {f : Nat → Int} (h : ∀ j, j < fds.length → (fds[j]?).all (fun fd => fd.1 == 1 || (decide (fd.2.1 ≤ f j) && decide (f j ≤ fd.2.2))) = true) : okC (.inl (ci, fds)) f := by
  intro j fd hj hn
  have hl := (List.getElem?_eq_some_iff.mp hj).1
  have := h j hl
  rw [hj] at this
  simp only [Option.all_some, Bool.or_eq_true, beq_iff_eq, Bool.and_eq_true, decide_eq_true_eq] at this
  rcases this with q | q
  · exact absurd q hn
  · exact q
theorem okC_arr {t n : Nat} {lo hi v : Int} {f : Nat → Int} (h : ∀ j, f j = v) (h1 : lo ≤ v) (h2 : v ≤ hi) : okC (.inr (t, n, lo, hi)) f := by
  intro j
  rw [h j]
  exact ⟨h1, h2⟩
theorem okD_obj {ci : Nat} {fds : List FD} {r : vw_C} (h : ∀ fd ∈ fds, fd.1 = 0 → -2147483648 ≤ fd.2.1 ∧ fd.2.2 < 2147483648) (h1 : vwCl[ci]? = some r) (h2 : r.2.2 = fds.length) : okD (.inl (ci, fds)) := ⟨h, r, h1, h2⟩
theorem okD_arr {t n : Nat} {lo hi : Int} (ht : t ≠ 2) (h1 : -2147483648 ≤ lo ∧ hi < 2147483648) (h2 : t < 4) (h3 : n < 2147483648) : okD (.inr (t, n, lo, hi)) := by
  refine ⟨?_, h2, h3⟩
  rw [if_neg ht]; exact h1

theorem ok0_0 : okD (.inl (6, [(1, 1, 0), (1, 3, 0), (1, 5, 0), (1, 10, 0), (1, 15, 0), (1, 18, 0), (1, 22, 0), (1, 27, 0), (1, 28, 0), (1, 29, 0), (1, 30, 0), (1, 31, 0), (0, 1, 40), (0, 0, 8), (0, 0, 5)])) ∧ okC (.inl (6, [(1, 1, 0), (1, 3, 0), (1, 5, 0), (1, 10, 0), (1, 15, 0), (1, 18, 0), (1, 22, 0), (1, 27, 0), (1, 28, 0), (1, 29, 0), (1, 30, 0), (1, 31, 0), (0, 1, 40), (0, 0, 8), (0, 0, 5)])) (M0 0) := ⟨okD_obj (by decide +kernel) rfl rfl, okC_obj (by decide +kernel)⟩
theorem ok0_1 : okD (.inl (5, [(1, 2, 0), (0, 5, 5), (0, 0, 59)])) ∧ okC (.inl (5, [(1, 2, 0), (0, 5, 5), (0, 0, 59)])) (M0 1) := ⟨okD_obj (by decide +kernel) rfl rfl, okC_obj (by decide +kernel)⟩
theorem ok0_2 : okD (.inr (0, 59, 0, 255)) ∧ okC (.inr (0, 59, 0, 255)) (M0 2) := ⟨okD_arr (by decide) (by decide +kernel) (by decide) (by decide +kernel), okC_arr (v := 0) (fun _ => rfl) (by decide +kernel) (by decide +kernel)⟩
theorem ok0_3 : okD (.inl (5, [(1, 4, 0), (0, 3, 3), (0, 0, 23)])) ∧ okC (.inl (5, [(1, 4, 0), (0, 3, 3), (0, 0, 23)])) (M0 3) := ⟨okD_obj (by decide +kernel) rfl rfl, okC_obj (by decide +kernel)⟩
theorem ok0_4 : okD (.inr (0, 23, 0, 255)) ∧ okC (.inr (0, 23, 0, 255)) (M0 4) := ⟨okD_arr (by decide) (by decide +kernel) (by decide) (by decide +kernel), okC_arr (v := 0) (fun _ => rfl) (by decide +kernel) (by decide +kernel)⟩
theorem ok0_5 : okD (.inl (4, [(1, 6, 0), (1, 7, 0), (1, 8, 0), (1, 9, 0), (0, 0, 12), (0, (-2147483648), 2147483647)])) ∧ okC (.inl (4, [(1, 6, 0), (1, 7, 0), (1, 8, 0), (1, 9, 0), (0, 0, 12), (0, (-2147483648), 2147483647)])) (M0 5) := ⟨okD_obj (by decide +kernel) rfl rfl, okC_obj (by decide +kernel)⟩
theorem ok0_6 : okD (.inr (0, 12, 0, 23)) ∧ okC (.inr (0, 12, 0, 23)) (M0 6) := ⟨okD_arr (by decide) (by decide +kernel) (by decide) (by decide +kernel), okC_arr (v := 0) (fun _ => rfl) (by decide +kernel) (by decide +kernel)⟩
theorem ok0_7 : okD (.inr (0, 12, 0, 7)) ∧ okC (.inr (0, 12, 0, 7)) (M0 7) := ⟨okD_arr (by decide) (by decide +kernel) (by decide) (by decide +kernel), okC_arr (v := 0) (fun _ => rfl) (by decide +kernel) (by decide +kernel)⟩
theorem ok0_8 : okD (.inr (0, 12, 0, 9)) ∧ okC (.inr (0, 12, 0, 9)) (M0 8) := ⟨okD_arr (by decide) (by decide +kernel) (by decide) (by decide +kernel), okC_arr (v := 0) (fun _ => rfl) (by decide +kernel) (by decide +kernel)⟩
theorem ok0_9 : okD (.inr (0, 12, 0, 2)) ∧ okC (.inr (0, 12, 0, 2)) (M0 9) := ⟨okD_arr (by decide) (by decide +kernel) (by decide) (by decide +kernel), okC_arr (v := 0) (fun _ => rfl) (by decide +kernel) (by decide +kernel)⟩
theorem ok0_10 : okD (.inl (4, [(1, 11, 0), (1, 12, 0), (1, 13, 0), (1, 14, 0), (0, 0, 12), (0, (-2147483648), 2147483647)])) ∧ okC (.inl (4, [(1, 11, 0), (1, 12, 0), (1, 13, 0), (1, 14, 0), (0, 0, 12), (0, (-2147483648), 2147483647)])) (M0 10) := ⟨okD_obj (by decide +kernel) rfl rfl, okC_obj (by decide +kernel)⟩
theorem ok0_11 : okD (.inr (0, 12, 0, 23)) ∧ okC (.inr (0, 12, 0, 23)) (M0 11) := ⟨okD_arr (by decide) (by decide +kernel) (by decide) (by decide +kernel), okC_arr (v := 0) (fun _ => rfl) (by decide +kernel) (by decide +kernel)⟩
theorem ok0_12 : okD (.inr (0, 12, 0, 7)) ∧ okC (.inr (0, 12, 0, 7)) (M0 12) := ⟨okD_arr (by decide) (by decide +kernel) (by decide) (by decide +kernel), okC_arr (v := 0) (fun _ => rfl) (by decide +kernel) (by decide +kernel)⟩
theorem ok0_13 : okD (.inr (0, 12, 0, 9)) ∧ okC (.inr (0, 12, 0, 9)) (M0 13) := ⟨okD_arr (by decide) (by decide +kernel) (by decide) (by decide +kernel), okC_arr (v := 0) (fun _ => rfl) (by decide +kernel) (by decide +kernel)⟩
theorem ok0_14 : okD (.inr (0, 12, 0, 2)) ∧ okC (.inr (0, 12, 0, 2)) (M0 14) := ⟨okD_arr (by decide) (by decide +kernel) (by decide) (by decide +kernel), okC_arr (v := 0) (fun _ => rfl) (by decide +kernel) (by decide +kernel)⟩
theorem ok0_15 : okD (.inl (1, [(1, 16, 0), (1, 17, 0), (0, 0, 8)])) ∧ okC (.inl (1, [(1, 16, 0), (1, 17, 0), (0, 0, 8)])) (M0 15) := ⟨okD_obj (by decide +kernel) rfl rfl, okC_obj (by decide +kernel)⟩
theorem ok0_16 : okD (.inr (0, 8, 0, 23)) ∧ okC (.inr (0, 8, 0, 23)) (M0 16) := ⟨okD_arr (by decide) (by decide +kernel) (by decide) (by decide +kernel), okC_arr (v := 0) (fun _ => rfl) (by decide +kernel) (by decide +kernel)⟩
theorem ok0_17 : okD (.inr (0, 8, 0, 7)) ∧ okC (.inr (0, 8, 0, 7)) (M0 17) := ⟨okD_arr (by decide) (by decide +kernel) (by decide) (by decide +kernel), okC_arr (v := 0) (fun _ => rfl) (by decide +kernel) (by decide +kernel)⟩
theorem ok0_18 : okD (.inl (2, [(1, 19, 0), (1, 20, 0), (1, 21, 0), (0, 0, 8)])) ∧ okC (.inl (2, [(1, 19, 0), (1, 20, 0), (1, 21, 0), (0, 0, 8)])) (M0 18) := ⟨okD_obj (by decide +kernel) rfl rfl, okC_obj (by decide +kernel)⟩
theorem ok0_19 : okD (.inr (0, 8, 0, 2)) ∧ okC (.inr (0, 8, 0, 2)) (M0 19) := ⟨okD_arr (by decide) (by decide +kernel) (by decide) (by decide +kernel), okC_arr (v := 0) (fun _ => rfl) (by decide +kernel) (by decide +kernel)⟩
theorem ok0_20 : okD (.inr (0, 8, 0, 23)) ∧ okC (.inr (0, 8, 0, 23)) (M0 20) := ⟨okD_arr (by decide) (by decide +kernel) (by decide) (by decide +kernel), okC_arr (v := 0) (fun _ => rfl) (by decide +kernel) (by decide +kernel)⟩
theorem ok0_21 : okD (.inr (0, 8, 0, 9)) ∧ okC (.inr (0, 8, 0, 9)) (M0 21) := ⟨okD_arr (by decide) (by decide +kernel) (by decide) (by decide +kernel), okC_arr (v := 0) (fun _ => rfl) (by decide +kernel) (by decide +kernel)⟩
theorem ok0_22 : okD (.inl (0, [(1, 23, 0), (1, 24, 0), (0, 0, 12), (1, 25, 0), (1, 26, 0), (1, 18, 0), (2, 5, 10)])) ∧ okC (.inl (0, [(1, 23, 0), (1, 24, 0), (0, 0, 12), (1, 25, 0), (1, 26, 0), (1, 18, 0), (2, 5, 10)])) (M0 22) := ⟨okD_obj (by decide +kernel) rfl rfl, okC_obj (by decide +kernel)⟩
theorem ok0_23 : okD (.inr (1, 12, 0, 1)) ∧ okC (.inr (1, 12, 0, 1)) (M0 23) := ⟨okD_arr (by decide) (by decide +kernel) (by decide) (by decide +kernel), okC_arr (v := 0) (fun _ => rfl) (by decide +kernel) (by decide +kernel)⟩
theorem ok0_24 : okD (.inr (0, 12, 0, 3)) ∧ okC (.inr (0, 12, 0, 3)) (M0 24) := ⟨okD_arr (by decide) (by decide +kernel) (by decide) (by decide +kernel), okC_arr (v := 0) (fun _ => rfl) (by decide +kernel) (by decide +kernel)⟩
theorem ok0_25 : okD (.inr (0, 8, (-1), 23)) ∧ okC (.inr (0, 8, (-1), 23)) (M0 25) := ⟨okD_arr (by decide) (by decide +kernel) (by decide) (by decide +kernel), okC_arr (v := 0) (fun _ => rfl) (by decide +kernel) (by decide +kernel)⟩
theorem ok0_26 : okD (.inr (0, 8, (-1), 2)) ∧ okC (.inr (0, 8, (-1), 2)) (M0 26) := ⟨okD_arr (by decide) (by decide +kernel) (by decide) (by decide +kernel), okC_arr (v := 0) (fun _ => rfl) (by decide +kernel) (by decide +kernel)⟩
theorem ok0_27 : okD (.inr (0, 8, 0, 7)) ∧ okC (.inr (0, 8, 0, 7)) (M0 27) := ⟨okD_arr (by decide) (by decide +kernel) (by decide) (by decide +kernel), okC_arr (v := 0) (fun _ => rfl) (by decide +kernel) (by decide +kernel)⟩
theorem ok0_28 : okD (.inr (0, 8, 0, 1)) ∧ okC (.inr (0, 8, 0, 1)) (M0 28) := ⟨okD_arr (by decide) (by decide +kernel) (by decide) (by decide +kernel), okC_arr (v := 0) (fun _ => rfl) (by decide +kernel) (by decide +kernel)⟩
theorem ok0_29 : okD (.inr (3, 4, (-1), 2147483647)) ∧ okC (.inr (3, 4, (-1), 2147483647)) (M0 29) := ⟨okD_arr (by decide) (by decide +kernel) (by decide) (by decide +kernel), okC_arr (v := (-1)) (fun _ => rfl) (by decide +kernel) (by decide +kernel)⟩
theorem ok0_30 : okD (.inr (0, 8, 0, 10)) ∧ okC (.inr (0, 8, 0, 10)) (M0 30) := ⟨okD_arr (by decide) (by decide +kernel) (by decide) (by decide +kernel), okC_arr (v := 0) (fun _ => rfl) (by decide +kernel) (by decide +kernel)⟩
theorem ok0_31 : okD (.inr (2, 8, 0, 1099511627776)) ∧ okC (.inr (2, 8, 0, 1099511627776)) (M0 31) := ⟨⟨show (-9223372036854775808 : Int) ≤ 0 ∧ (1099511627776 : Int) < 9223372036854775808 by decide +kernel, by decide, by decide +kernel⟩, okC_arr (v := 0) (fun _ => rfl) (by decide +kernel) (by decide +kernel)⟩
theorem ok0_32 : okD (.inl (7, [(1, 33, 0), (1, 34, 0), (0, 0, 12), (1, 35, 0), (1, 36, 0), (1, 37, 0), (1, 38, 0), (0, 0, 8), (1, 39, 0), (1, 40, 0), (0, 1, 40), (0, 0, 8), (1, 41, 0), (1, 42, 0), (1, 43, 0), (0, 0, 12), (1, 44, 0), (1, 45, 0), (1, 46, 0), (1, 47, 0), (0, (-1), 11), (0, 0, 255), (1, 48, 0), (1, 49, 0), (1, 50, 0), (1, 51, 0), (1, 52, 0), (1, 53, 0), (0, 0, 255), (1, 54, 0), (0, (-1), 11), (0, (-1), 8), (1, 55, 0), (1, 56, 0), (0, 0, 8), (1, 57, 0), (1, 58, 0), (1, 59, 0), (1, 60, 0), (1, 61, 0), (1, 62, 0), (1, 63, 0), (1, 64, 0), (0, 0, 5)])) ∧ okC (.inl (7, [(1, 33, 0), (1, 34, 0), (0, 0, 12), (1, 35, 0), (1, 36, 0), (1, 37, 0), (1, 38, 0), (0, 0, 8), (1, 39, 0), (1, 40, 0), (0, 1, 40), (0, 0, 8), (1, 41, 0), (1, 42, 0), (1, 43, 0), (0, 0, 12), (1, 44, 0), (1, 45, 0), (1, 46, 0), (1, 47, 0), (0, (-1), 11), (0, 0, 255), (1, 48, 0), (1, 49, 0), (1, 50, 0), (1, 51, 0), (1, 52, 0), (1, 53, 0), (0, 0, 255), (1, 54, 0), (0, (-1), 11), (0, (-1), 8), (1, 55, 0), (1, 56, 0), (0, 0, 8), (1, 57, 0), (1, 58, 0), (1, 59, 0), (1, 60, 0), (1, 61, 0), (1, 62, 0), (1, 63, 0), (1, 64, 0), (0, 0, 5)])) (M0 32) := ⟨okD_obj (by decide +kernel) rfl rfl, okC_obj (by decide +kernel)⟩
theorem ok0_33 : okD (.inr (0, 2, 0, 59)) ∧ okC (.inr (0, 2, 0, 59)) (M0 33) := ⟨okD_arr (by decide) (by decide +kernel) (by decide) (by decide +kernel), okC_arr (v := 0) (fun _ => rfl) (by decide +kernel) (by decide +kernel)⟩
theorem ok0_34 : okD (.inr (0, 118, 0, 255)) ∧ okC (.inr (0, 118, 0, 255)) (M0 34) := ⟨okD_arr (by decide) (by decide +kernel) (by decide) (by decide +kernel), okC_arr (v := 0) (fun _ => rfl) (by decide +kernel) (by decide +kernel)⟩
theorem ok0_35 : okD (.inr (0, 13, 0, 23)) ∧ okC (.inr (0, 13, 0, 23)) (M0 35) := ⟨okD_arr (by decide) (by decide +kernel) (by decide) (by decide +kernel), okC_arr (v := 0) (fun _ => rfl) (by decide +kernel) (by decide +kernel)⟩
theorem ok0_36 : okD (.inr (0, 13, 0, 7)) ∧ okC (.inr (0, 13, 0, 7)) (M0 36) := ⟨okD_arr (by decide) (by decide +kernel) (by decide) (by decide +kernel), okC_arr (v := 0) (fun _ => rfl) (by decide +kernel) (by decide +kernel)⟩
theorem ok0_37 : okD (.inr (0, 13, 0, 9)) ∧ okC (.inr (0, 13, 0, 9)) (M0 37) := ⟨okD_arr (by decide) (by decide +kernel) (by decide) (by decide +kernel), okC_arr (v := 0) (fun _ => rfl) (by decide +kernel) (by decide +kernel)⟩
theorem ok0_38 : okD (.inr (0, 13, 0, 2)) ∧ okC (.inr (0, 13, 0, 2)) (M0 38) := ⟨okD_arr (by decide) (by decide +kernel) (by decide) (by decide +kernel), okC_arr (v := 0) (fun _ => rfl) (by decide +kernel) (by decide +kernel)⟩
theorem ok0_39 : okD (.inr (0, 9, 0, 23)) ∧ okC (.inr (0, 9, 0, 23)) (M0 39) := ⟨okD_arr (by decide) (by decide +kernel) (by decide) (by decide +kernel), okC_arr (v := 0) (fun _ => rfl) (by decide +kernel) (by decide +kernel)⟩
theorem ok0_40 : okD (.inr (0, 9, 0, 7)) ∧ okC (.inr (0, 9, 0, 7)) (M0 40) := ⟨okD_arr (by decide) (by decide +kernel) (by decide) (by decide +kernel), okC_arr (v := 0) (fun _ => rfl) (by decide +kernel) (by decide +kernel)⟩
theorem ok0_41 : okD (.inr (0, 8, 0, 2)) ∧ okC (.inr (0, 8, 0, 2)) (M0 41) := ⟨okD_arr (by decide) (by decide +kernel) (by decide) (by decide +kernel), okC_arr (v := 0) (fun _ => rfl) (by decide +kernel) (by decide +kernel)⟩
theorem ok0_42 : okD (.inr (0, 8, 0, 23)) ∧ okC (.inr (0, 8, 0, 23)) (M0 42) := ⟨okD_arr (by decide) (by decide +kernel) (by decide) (by decide +kernel), okC_arr (v := 0) (fun _ => rfl) (by decide +kernel) (by decide +kernel)⟩
theorem ok0_43 : okD (.inr (0, 8, 0, 9)) ∧ okC (.inr (0, 8, 0, 9)) (M0 43) := ⟨okD_arr (by decide) (by decide +kernel) (by decide) (by decide +kernel), okC_arr (v := 0) (fun _ => rfl) (by decide +kernel) (by decide +kernel)⟩
theorem ok0_44 : okD (.inr (0, 12, 0, 23)) ∧ okC (.inr (0, 12, 0, 23)) (M0 44) := ⟨okD_arr (by decide) (by decide +kernel) (by decide) (by decide +kernel), okC_arr (v := 0) (fun _ => rfl) (by decide +kernel) (by decide +kernel)⟩
theorem ok0_45 : okD (.inr (0, 12, 0, 7)) ∧ okC (.inr (0, 12, 0, 7)) (M0 45) := ⟨okD_arr (by decide) (by decide +kernel) (by decide) (by decide +kernel), okC_arr (v := 0) (fun _ => rfl) (by decide +kernel) (by decide +kernel)⟩
theorem ok0_46 : okD (.inr (0, 12, 0, 9)) ∧ okC (.inr (0, 12, 0, 9)) (M0 46) := ⟨okD_arr (by decide) (by decide +kernel) (by decide) (by decide +kernel), okC_arr (v := 0) (fun _ => rfl) (by decide +kernel) (by decide +kernel)⟩
theorem ok0_47 : okD (.inr (0, 12, 0, 2)) ∧ okC (.inr (0, 12, 0, 2)) (M0 47) := ⟨okD_arr (by decide) (by decide +kernel) (by decide) (by decide +kernel), okC_arr (v := 0) (fun _ => rfl) (by decide +kernel) (by decide +kernel)⟩
theorem ok0_48 : okD (.inr (0, 12, 0, 1)) ∧ okC (.inr (0, 12, 0, 1)) (M0 48) := ⟨okD_arr (by decide) (by decide +kernel) (by decide) (by decide +kernel), okC_arr (v := 0) (fun _ => rfl) (by decide +kernel) (by decide +kernel)⟩
theorem ok0_49 : okD (.inr (0, 12, 0, 3)) ∧ okC (.inr (0, 12, 0, 3)) (M0 49) := ⟨okD_arr (by decide) (by decide +kernel) (by decide) (by decide +kernel), okC_arr (v := 0) (fun _ => rfl) (by decide +kernel) (by decide +kernel)⟩
theorem ok0_50 : okD (.inr (0, 12, (-1), 11)) ∧ okC (.inr (0, 12, (-1), 11)) (M0 50) := ⟨okD_arr (by decide) (by decide +kernel) (by decide) (by decide +kernel), okC_arr (v := 0) (fun _ => rfl) (by decide +kernel) (by decide +kernel)⟩
theorem ok0_51 : okD (.inr (0, 192, 0, 36)) ∧ okC (.inr (0, 192, 0, 36)) (M0 51) := ⟨okD_arr (by decide) (by decide +kernel) (by decide) (by decide +kernel), okC_arr (v := 0) (fun _ => rfl) (by decide +kernel) (by decide +kernel)⟩
theorem ok0_52 : okD (.inr (0, 192, 0, 40)) ∧ okC (.inr (0, 192, 0, 40)) (M0 52) := ⟨okD_arr (by decide) (by decide +kernel) (by decide) (by decide +kernel), okC_arr (v := 0) (fun _ => rfl) (by decide +kernel) (by decide +kernel)⟩
theorem ok0_53 : okD (.inr (0, 192, 0, 3)) ∧ okC (.inr (0, 192, 0, 3)) (M0 53) := ⟨okD_arr (by decide) (by decide +kernel) (by decide) (by decide +kernel), okC_arr (v := 0) (fun _ => rfl) (by decide +kernel) (by decide +kernel)⟩
theorem ok0_54 : okD (.inr (0, 24, 0, 255)) ∧ okC (.inr (0, 24, 0, 255)) (M0 54) := ⟨okD_arr (by decide) (by decide +kernel) (by decide) (by decide +kernel), okC_arr (v := 0) (fun _ => rfl) (by decide +kernel) (by decide +kernel)⟩
theorem ok0_55 : okD (.inr (0, 12, 0, 4095)) ∧ okC (.inr (0, 12, 0, 4095)) (M0 55) := ⟨okD_arr (by decide) (by decide +kernel) (by decide) (by decide +kernel), okC_arr (v := 0) (fun _ => rfl) (by decide +kernel) (by decide +kernel)⟩
theorem ok0_56 : okD (.inr (0, 2, 0, 7)) ∧ okC (.inr (0, 2, 0, 7)) (M0 56) := ⟨okD_arr (by decide) (by decide +kernel) (by decide) (by decide +kernel), okC_arr (v := 0) (fun _ => rfl) (by decide +kernel) (by decide +kernel)⟩
theorem ok0_57 : okD (.inr (0, 8, 0, 7)) ∧ okC (.inr (0, 8, 0, 7)) (M0 57) := ⟨okD_arr (by decide) (by decide +kernel) (by decide) (by decide +kernel), okC_arr (v := 0) (fun _ => rfl) (by decide +kernel) (by decide +kernel)⟩
theorem ok0_58 : okD (.inr (0, 8, 0, 1)) ∧ okC (.inr (0, 8, 0, 1)) (M0 58) := ⟨okD_arr (by decide) (by decide +kernel) (by decide) (by decide +kernel), okC_arr (v := 0) (fun _ => rfl) (by decide +kernel) (by decide +kernel)⟩
theorem ok0_59 : okD (.inr (0, 10, 0, 255)) ∧ okC (.inr (0, 10, 0, 255)) (M0 59) := ⟨okD_arr (by decide) (by decide +kernel) (by decide) (by decide +kernel), okC_arr (v := 0) (fun _ => rfl) (by decide +kernel) (by decide +kernel)⟩
theorem ok0_60 : okD (.inr (1, 4, 0, 1)) ∧ okC (.inr (1, 4, 0, 1)) (M0 60) := ⟨okD_arr (by decide) (by decide +kernel) (by decide) (by decide +kernel), okC_arr (v := 0) (fun _ => rfl) (by decide +kernel) (by decide +kernel)⟩
theorem ok0_61 : okD (.inr (0, 4, 0, 2)) ∧ okC (.inr (0, 4, 0, 2)) (M0 61) := ⟨okD_arr (by decide) (by decide +kernel) (by decide) (by decide +kernel), okC_arr (v := 0) (fun _ => rfl) (by decide +kernel) (by decide +kernel)⟩
theorem ok0_62 : okD (.inr (0, 4, 0, 60)) ∧ okC (.inr (0, 4, 0, 60)) (M0 62) := ⟨okD_arr (by decide) (by decide +kernel) (by decide) (by decide +kernel), okC_arr (v := 0) (fun _ => rfl) (by decide +kernel) (by decide +kernel)⟩
theorem ok0_63 : okD (.inr (0, 240, (-2147483648), 2147483647)) ∧ okC (.inr (0, 240, (-2147483648), 2147483647)) (M0 63) := ⟨okD_arr (by decide) (by decide +kernel) (by decide) (by decide +kernel), okC_arr (v := 0) (fun _ => rfl) (by decide +kernel) (by decide +kernel)⟩
theorem ok0_64 : okD (.inr (0, 60, (-2147483648), 2147483647)) ∧ okC (.inr (0, 60, (-2147483648), 2147483647)) (M0 64) := ⟨okD_arr (by decide) (by decide +kernel) (by decide) (by decide +kernel), okC_arr (v := 0) (fun _ => rfl) (by decide +kernel) (by decide +kernel)⟩
set_option maxRecDepth 100000 in
theorem okM_0 : okM (LB ++ []) M0 := by
  intro k d h
  have := okL_get (M := M0) (LB ++ []) 0 (okL1 (k := 0) ok0_0 (okL1 (k := 1) ok0_1 (okL1 (k := 2) ok0_2 (okL1 (k := 3) ok0_3 (okL1 (k := 4) ok0_4 (okL1 (k := 5) ok0_5 (okL1 (k := 6) ok0_6 (okL1 (k := 7) ok0_7 (okL1 (k := 8) ok0_8 (okL1 (k := 9) ok0_9 (okL1 (k := 10) ok0_10 (okL1 (k := 11) ok0_11 (okL1 (k := 12) ok0_12 (okL1 (k := 13) ok0_13 (okL1 (k := 14) ok0_14 (okL1 (k := 15) ok0_15 (okL1 (k := 16) ok0_16 (okL1 (k := 17) ok0_17 (okL1 (k := 18) ok0_18 (okL1 (k := 19) ok0_19 (okL1 (k := 20) ok0_20 (okL1 (k := 21) ok0_21 (okL1 (k := 22) ok0_22 (okL1 (k := 23) ok0_23 (okL1 (k := 24) ok0_24 (okL1 (k := 25) ok0_25 (okL1 (k := 26) ok0_26 (okL1 (k := 27) ok0_27 (okL1 (k := 28) ok0_28 (okL1 (k := 29) ok0_29 (okL1 (k := 30) ok0_30 (okL1 (k := 31) ok0_31 (okL1 (k := 32) ok0_32 (okL1 (k := 33) ok0_33 (okL1 (k := 34) ok0_34 (okL1 (k := 35) ok0_35 (okL1 (k := 36) ok0_36 (okL1 (k := 37) ok0_37 (okL1 (k := 38) ok0_38 (okL1 (k := 39) ok0_39 (okL1 (k := 40) ok0_40 (okL1 (k := 41) ok0_41 (okL1 (k := 42) ok0_42 (okL1 (k := 43) ok0_43 (okL1 (k := 44) ok0_44 (okL1 (k := 45) ok0_45 (okL1 (k := 46) ok0_46 (okL1 (k := 47) ok0_47 (okL1 (k := 48) ok0_48 (okL1 (k := 49) ok0_49 (okL1 (k := 50) ok0_50 (okL1 (k := 51) ok0_51 (okL1 (k := 52) ok0_52 (okL1 (k := 53) ok0_53 (okL1 (k := 54) ok0_54 (okL1 (k := 55) ok0_55 (okL1 (k := 56) ok0_56 (okL1 (k := 57) ok0_57 (okL1 (k := 58) ok0_58 (okL1 (k := 59) ok0_59 (okL1 (k := 60) ok0_60 (okL1 (k := 61) ok0_61 (okL1 (k := 62) ok0_62 (okL1 (k := 63) ok0_63 (okL1 (k := 64) ok0_64 (okL0)))))))))))))))))))))))))))))))))))))))))))))))))))))))))))))))))) k d h
  rw [Nat.zero_add] at this
  exact this
theorem ad_ex (b q0 q8 : Nat) (u v : Nat → Nat) : ∃ ad : Nat → Nat, ad SCI = b ∧ ad 0 = q0 ∧ ad 32 = q8 ∧ (∀ i, i < 31 → ad (i + 1) = u i) ∧ (∀ i, i < 32 → ad (i + 33) = v i) := by
  refine ⟨fun k => if k = 1000000 then b else if k = 0 then q0 else if k < 32 then u (k - 1) else if k = 32 then q8 else v (k - 33), if_pos rfl, rfl, rfl, fun i hi => ?_, fun i hi => ?_⟩
  · show (if i + 1 = 1000000 then b else if i + 1 = 0 then q0 else if i + 1 < 32 then u (i + 1 - 1) else if i + 1 = 32 then q8 else v (i + 1 - 33)) = u i
    rw [if_neg (by omega), if_neg (by omega), if_pos (by omega), Nat.add_sub_cancel]
  · show (if i + 33 = 1000000 then b else if i + 33 = 0 then q0 else if i + 33 < 32 then u (i + 33 - 1) else if i + 33 = 32 then q8 else v (i + 33 - 33)) = v i
    rw [if_neg (by omega), if_neg (by omega), if_neg (by omega), if_neg (by omega), Nat.add_sub_cancel]
def TLb (d : CD) : Bool := match d with
  | .inl (_, fds) => fds.all (fun fd => (fd.1 != 1 || decide (fd.2.1.toNat < 65)) && (fd.1 == 0 || fd.1 == 1 || decide (fd.2.2 < 65)))
  | .inr _ => true
theorem TLb_ok {d : CD} (h : TLb d = true) : TLd 65 d := by
  rcases d with ⟨ci, fds⟩ | x
  · intro fd hfd
    have := List.all_eq_true.mp h fd hfd
    simp only [Bool.and_eq_true, Bool.or_eq_true, bne_iff_ne, ne_eq, beq_iff_eq, decide_eq_true_eq] at this
    obtain ⟨h1, h2⟩ := this
    refine ⟨fun g => ?_, fun g1 g2 => ?_⟩
    · rcases h1 with q | q
      · exact absurd g q
      · exact q
    · rcases h2 with (q | q) | q
      · exact absurd q g1
      · exact absurd q g2
      · exact q
  · trivial
theorem TLb_all : (LB ++ ([] : List CD)).all TLb = true := by decide +kernel
theorem TLok_0 : TLok [] := by
  refine ⟨fun d hd => TLb_ok (List.all_eq_true.mp TLb_all d hd), fun k n lo hi h => ?_⟩
  have key : ∀ k, k < 65 → ((LB ++ ([] : List CD))[k]?).all (fun d => match d with | .inr (t, _, _, _) => t != 3 || k == 29 | .inl _ => true) = true := by decide +kernel
  have hl : k < 65 := (List.getElem?_eq_some_iff.mp h).1
  have := key k hl
  rw [h] at this
  simpa using this
theorem JA_0 : JA [] M0 := by
  have e65 : (LB ++ ([] : List CD)).length = 65 := rfl
  refine ⟨⟨⟨rfl, rfl, fun i hi => absurd (show i < 0 from hi) (Nat.not_lt_zero i), fun i hi => absurd (show i < 0 from hi) (Nat.not_lt_zero i), ⟨fun _ => by decide +kernel, fun _ => rfl, fun i hi => absurd (show (i : Int) < 0 from hi) (by omega)⟩, ⟨fun _ => by decide +kernel, fun _ => rfl, fun i hi => absurd (show (i : Int) < 0 from hi) (by omega)⟩⟩, ⟨rfl, fun i hi => absurd (show i < 0 from hi) (Nat.not_lt_zero i)⟩, rfl, ⟨rfl, fun i hi => absurd (show i < 0 from hi) (Nat.not_lt_zero i)⟩⟩, rfl, fun s _ => Or.inl ⟨rfl, rfl⟩, fun s t _ _ _ h => absurd (show (0 : Int) ≤ -1 from h) (by decide), fun j => ?_, TLok_0⟩
  rw [e65]
  show (-1 : Int) < ((65 : Nat) : Int)
  decide

