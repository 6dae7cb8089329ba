/-! each answer is one number; the digest -/
noncomputable def pk (P : Int → Prop) : Int := Classical.epsilon P
theorem pk_e {P : Int → Prop} {x : Int} (h : P x) (hu : ∀ y y', P y → P y' → y = y') : x = pk P := hu _ _ h (Classical.epsilon_spec ⟨x, h⟩)
theorem aTale_u {sz : Int} {N T W S : Nat → Int} {i what x y : Int} (h : aTale sz N T W S i what x) (h' : aTale sz N T W S i what y) : x = y := by
  unfold aTale at h h'
  omega
theorem aCharge_u {sz : Int} {N T : Nat → Int} {i what x y : Int} (h : aCharge sz N T i what x) (h' : aCharge sz N T i what y) : x = y := by
  unfold aCharge at h h'
  omega
theorem aStands_u {sz : Int} {F : FG} {i what x y : Int} (h : aStands sz F i what x) (h' : aStands sz F i what y) : x = y := by
  rcases h with ⟨h1, h2⟩ | ⟨h1, h2, h3 | h3 | ⟨h3, h4⟩⟩ <;> rcases h' with ⟨k1, k2⟩ | ⟨k1, k2, k3 | k3 | ⟨k3, k4⟩⟩ <;> first | omega | exact FST_u h4 k4
theorem aMan_u {F : FG} {night town what x y : Int} (h : aMan F night town what x) (h' : aMan F night town what y) : x = y := by
  rcases h with ⟨h1, h2⟩ | ⟨h1, h2, h3, h4, ⟨h5, h6⟩ | ⟨h5, h6⟩⟩ <;> rcases h' with ⟨k1, k2⟩ | ⟨k1, k2, k3, k4, ⟨k5, k6⟩ | ⟨k5, k6⟩⟩ <;> first | omega | (rw [h6, k6])
theorem aBelief_u {sz : Int} {F : FG} {Q : QG} {c x y : Int} (h : aBelief sz F Q c x) (h' : aBelief sz F Q c y) : x = y := by
  rcases h with ⟨h1, h2⟩ | ⟨h1, h2, h3⟩ <;> rcases h' with ⟨k1, k2⟩ | ⟨k1, k2, k3⟩ <;> first | omega | (rw [h3, k3])
theorem aCleared_u {sz : Int} {F : FG} {Q : QG} {c what x y : Int} (h : aCleared sz F Q c what x) (h' : aCleared sz F Q c what y) : x = y := by
  rcases h with ⟨h1, h2⟩ | ⟨h1, h2, ⟨h3, h4⟩ | ⟨h3, z, h4⟩⟩ <;> rcases h' with ⟨k1, k2⟩ | ⟨k1, k2, ⟨k3, k4⟩ | ⟨k3, z', k4⟩⟩ <;> first | omega | (rw [h4, k4]; done) | exact (AMX_u (fun _ _ => rfl) h4 k4).1
theorem aSum_u {F : FG} {Q : QG} {what x y : Int} (h : aSum F Q what x) (h' : aSum F Q what y) : x = y := by
  rcases h with h | ⟨h1, h2⟩ | ⟨h1, h2⟩ | ⟨h1, h2⟩ | ⟨h1, h2⟩ <;> rcases h' with k | ⟨k1, k2⟩ | ⟨k1, k2⟩ | ⟨k1, k2⟩ | ⟨k1, k2⟩ <;> first | omega | (rw [h2, k2])
theorem aLiar_u {F : FG} {x y : Int} (h : aLiar F x) (h' : aLiar F y) : x = y := by
  obtain ⟨z, h⟩ := h
  obtain ⟨z', h'⟩ := h'
  exact (AMX_u (fun _ _ => rfl) h h').1
theorem aBest_u {F : FG} {x y : Int} (h : aBest F x) (h' : aBest F y) : x = y := by
  obtain ⟨z, h⟩ := h
  obtain ⟨z', h'⟩ := h'
  exact (AMX_u (fun _ _ => rfl) h h').1
theorem aWhere_u {F : FG} {night x y : Int} (h : aWhere F night x) (h' : aWhere F night y) : x = y := by
  rcases h with ⟨h1, h2⟩ | ⟨h1, h2, h3⟩ <;> rcases h' with ⟨k1, k2⟩ | ⟨k1, k2, k3⟩ <;> first | omega | (rw [h3, k3])
theorem aPick_u {bad : Prop} {g : Nat → Int} {n : Nat} {what x y : Int} (h : aPick bad g n what x) (h' : aPick bad g n what y) : x = y := by
  rcases h with ⟨h1, h2⟩ | ⟨h1, a, b, h2, h3⟩ <;> rcases h' with ⟨k1, k2⟩ | ⟨k1, a', b', k2, k3⟩
  · omega
  · rcases h1 with q | q
    · exact absurd q k1
    · omega
  · rcases k1 with q | q
    · exact absurd q h1
    · omega
  · have := AMX_u (fun _ _ => rfl) h2 k2; omega
theorem aClean_u {n : Nat} {W T N : Nat → Int} {what x y : Int} (hn : n ≤ 12) (h : aClean n W T N what x) (h' : aClean n W T N what y) : x = y := by
  have hp : (2 : Nat) ^ n ≤ 2 ^ 12 := Nat.pow_le_pow_right (by omega) hn
  rcases h with ⟨h1, h2⟩ | ⟨b, h2, h3⟩ <;> rcases h' with ⟨k1, k2⟩ | ⟨b', k2, k3⟩
  · omega
  · omega
  · omega
  · have e := CLN_u (by omega) h2 k2
    subst e
    omega
theorem SPR_u {F : FG} {Q : QG} {num a b num' a' b' : Int} (h : SPR F Q num a b) (h' : SPR F Q num' a' b') : num = num' ∧ a = a' ∧ b = b' := by
  rcases h with ⟨h1, h2⟩ | ⟨h1, ⟨i, h2, h3, h4, h5⟩ | ⟨h2, ⟨i, j, h3, h4, h5, h6, h7⟩ | ⟨h3, h4⟩⟩⟩ <;> rcases h' with ⟨k1, k2⟩ | ⟨k1, ⟨i', k2, k3, k4, k5⟩ | ⟨k2, ⟨i', j', k3, k4, k5, k6, k7⟩ | ⟨k3, k4⟩⟩⟩
  · omega
  · exact absurd h1 k1
  · exact absurd h1 k1
  · exact absurd h1 k1
  · exact absurd k1 h1
  · rcases Nat.lt_trichotomy i i' with q | q | q
    · exact absurd h3 (k4 i q)
    · subst q; omega
    · exact absurd k3 (h4 i' q)
  · exact absurd h3 (k2 i h2)
  · exact absurd h3 (k2 i h2)
  · exact absurd k1 h1
  · exact absurd k3 (h2 i' k2)
  · rcases Nat.lt_trichotomy i i' with q | q | q
    · exact absurd h5 (k6 i j h3 h4 (Or.inl q))
    · subst q
      rcases Nat.lt_trichotomy j j' with q | q | q
      · exact absurd h5 (k6 i j h3 h4 (Or.inr ⟨rfl, q⟩))
      · subst q; omega
      · exact absurd k5 (h6 i j' k3 k4 (Or.inr ⟨rfl, q⟩))
    · exact absurd k5 (h6 i' j' k3 k4 (Or.inl q))
  · exact absurd h5 (k3 i j h3 h4)
  · exact absurd k1 h1
  · exact absurd k3 (h2 i' k2)
  · exact absurd k5 (h3 i' j' k3 k4)
  · omega
theorem aSpare_u {F : FG} {Q : QG} {i x y : Int} (h : aSpare F Q i x) (h' : aSpare F Q i y) : x = y := by
  rcases h with ⟨h1, h2⟩ | ⟨h1, h2, n, a, b, h3, h4⟩ <;> rcases h' with ⟨k1, k2⟩ | ⟨k1, k2, n', a', b', k3, k4⟩
  · omega
  · omega
  · omega
  · have := SPR_u h3 k3; omega
theorem aNever_u {F : FG} {Q : QG} {sn : Nat} {H I : Nat → Int} {x y : Int} (h : aNever F Q sn H I x) (h' : aNever F Q sn H I y) : x = y := BTS_u (fun _ _ => Iff.rfl) h h'
theorem aWas_u {sz : Int} {F : FG} {Q : QG} {sn : Nat} {H I : Nat → Int} {k what x y : Int} (h : aWas sz F Q sn H I k what x) (h' : aWas sz F Q sn H I k what y) : x = y := by
  rcases h with ⟨h1, h2⟩ | ⟨h1, h2, ⟨h3, h4⟩ | ⟨h3, h4⟩⟩ <;> rcases h' with ⟨k1, k2⟩ | ⟨k1, k2, ⟨k3, k4⟩ | ⟨k3, k4⟩⟩ <;> first | omega | exact BTS_u (fun _ _ => Iff.rfl) h4 k4
theorem aAsk_u {sz : Int} {F : FG} {Q : QG} {sn : Nat} {H I : Nat → Int} {k x y : Int} (h : aAsk sz F Q sn H I k x) (h' : aAsk sz F Q sn H I k y) : x = y := by
  rcases h with ⟨h1, h2⟩ | ⟨h1, h2, z, h3⟩ <;> rcases h' with ⟨k1, k2⟩ | ⟨k1, k2, z', k3⟩ <;> first | omega | exact (AMN_u h3 k3).1
theorem LOW_u1 {s a a' : Int} {e t t' : Nat} (h : LOW s e a t) (h' : LOW s e a' t') (hlt : t < t') : False := by
  obtain ⟨h1, h2, h3, h4⟩ := h
  obtain ⟨k1, k2, k3, k4⟩ := h'
  have e1 : 2 ^ (e - t) = 2 ^ (t' - t) * 2 ^ (e - t') := by rw [← Nat.pow_add]; congr 1; omega
  rw [e1, Int.natCast_mul, ← Int.mul_assoc, ← k3] at h3
  have hp : (((2 ^ (e - t') : Nat)) : Int) ≠ 0 := by have := Nat.two_pow_pos (e - t'); omega
  have e2 := Int.eq_of_mul_eq_mul_right hp h3
  obtain ⟨d, hd⟩ : ∃ d, t' - t = d + 1 := ⟨t' - t - 1, by omega⟩
  rw [hd, Nat.pow_succ, Int.natCast_mul, ← Int.mul_assoc] at e2
  generalize a * ((2 ^ d : Nat) : Int) = p at e2
  rcases k4 with q | q <;> omega
theorem LOW_u {s a a' : Int} {e t t' : Nat} (h : LOW s e a t) (h' : LOW s e a' t') : a = a' ∧ t = t' := by
  rcases Nat.lt_trichotomy t t' with q | q | q
  · exact (LOW_u1 h h' q).elim
  · subst q
    obtain ⟨h1, h2, h3, h4⟩ := h
    obtain ⟨k1, k2, k3, k4⟩ := h'
    have hp : (((2 ^ (e - t) : Nat)) : Int) ≠ 0 := by have := Nat.two_pow_pos (e - t); omega
    exact ⟨Int.eq_of_mul_eq_mul_right hp (h3.trans k3.symm), rfl⟩
  · exact (LOW_u1 h' h q).elim
theorem aLow_u {s : Int} {e : Nat} {what x y : Int} (h : aLow s e what x) (h' : aLow s e what y) : x = y := by
  obtain ⟨a, t, h1, h2⟩ := h
  obtain ⟨a', t', k1, k2⟩ := h'
  obtain ⟨e1, e2⟩ := LOW_u h1 k1
  subst e1
  subst e2
  omega
theorem aChance_u {sz : Int} {F : FG} {Q : QG} {c j what x y : Int} (h : aChance sz F Q c j what x) (h' : aChance sz F Q c j what y) : x = y := by
  rcases h with ⟨h1, h2⟩ | ⟨h1, h2, h3, h4, h5, h6, h7⟩ <;> rcases h' with ⟨k1, k2⟩ | ⟨k1, k2, k3, k4, k5, k6, k7⟩ <;> first | omega | exact aLow_u h7 k7
theorem aLives_u {F : FG} {Q : QG} {n what x y : Int} (h : aLives F Q n what x) (h' : aLives F Q n what y) : x = y := by
  rcases h with ⟨h1, h2⟩ | ⟨h1, h2, ⟨h3, h4⟩ | ⟨h3, h4⟩⟩ <;> rcases h' with ⟨k1, k2⟩ | ⟨k1, k2, ⟨k3, k4⟩ | ⟨k3, k4⟩⟩ <;> first | omega | (rw [h4, k4])
def dg (h x : Int) : Int := wl (wl (31 * h) + x)
/-- the world's figures under the scratch cells -/
theorem fg_sc {M N : Mem} (h : FR SC M N) : fgT N = fgT M ∧ qgT N = qgT M := by
  unfold fgT qgT
  rw [h 5 (by decide), h 18 (by decide), h 19 (by decide), h 20 (by decide), h 21 (by decide), h 6 (by decide), h 7 (by decide), h 8 (by decide), h 9 (by decide), h 0 (by decide), h 15 (by decide), h 16 (by decide), h 17 (by decide)]
  exact ⟨rfl, rfl⟩
