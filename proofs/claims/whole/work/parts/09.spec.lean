/-! numbers -/
theorem b_shl : ∀ i : Nat, i < 31 → (1 : Int32) <<< (nI i &&& 31) = nI (2 ^ i) := by decide +kernel
theorem b_sm : ∀ i : Nat, i < 31 → ((nI i &&& 31).toBitVec.smod 32).toNat = i := by decide +kernel
theorem nn_shl1 {y : Int32} {i : Nat} (hy : y = nI i) (hi : i < 31) : (1 : Int32) <<< (y &&& 31) = nI (2 ^ i) := by rw [hy, b_shl i hi]
theorem nn_shr {x y : Int32} {a i : Nat} (hx : x = nI a) (hy : y = nI i) (ha : a < 2 ^ 31) (hi : i < 31) : x >>> (y &&& 31) = nI (a / 2 ^ i) := by
  rw [hx, hy]
  exact pk_shrN ha _ i (b_sm i hi)
theorem nn_and1 {x : Int32} {a : Nat} (hx : x = nI a) (ha : a < 2 ^ 31) : x &&& 1 = nI (a % 2) := by
  rw [hx]
  exact pk_andN (n := a) (by omega) 1 (by decide +kernel)
theorem nI_tb (a : Nat) : (nI a).toBitVec = BitVec.ofNat 32 a := rfl
theorem nn_or {x y : Int32} {a b : Nat} (hx : x = nI a) (hy : y = nI b) : x ||| y = nI (a ||| b) := by
  rw [hx, hy]
  apply Int32.toBitVec_inj.mp
  rw [Int32.toBitVec_or, nI_tb, nI_tb, nI_tb]
  apply BitVec.eq_of_toNat_eq
  simp [BitVec.toNat_or, Nat.or_mod_two_pow]
theorem nn_xor {x y : Int32} {a b : Nat} (hx : x = nI a) (hy : y = nI b) : x ^^^ y = nI (a ^^^ b) := by
  rw [hx, hy]
  apply Int32.toBitVec_inj.mp
  rw [Int32.toBitVec_xor, nI_tb, nI_tb, nI_tb]
  apply BitVec.eq_of_toNat_eq
  simp [BitVec.toNat_xor, Nat.xor_mod_two_pow]
theorem nn_and {x y : Int32} {a b : Nat} (hx : x = nI a) (hy : y = nI b) : x &&& y = nI (a &&& b) := by
  rw [hx, hy]
  apply Int32.toBitVec_inj.mp
  rw [Int32.toBitVec_and, nI_tb, nI_tb, nI_tb]
  apply BitVec.eq_of_toNat_eq
  simp [BitVec.toNat_and, Nat.and_mod_two_pow]
theorem nn_rem {x y : Int32} {a d : Nat} (hx : x = nI a) (hy : y = nI d) (ha : a < 2 ^ 31) (h0 : 0 < d) (hd : d < 2 ^ 31) : x - x / y * y = nI (a % d) := by rw [hx, hy, pk_rem ha h0 hd]
theorem nn_div {x y : Int32} {a d : Nat} (hx : x = nI a) (hy : y = nI d) (ha : a < 2 ^ 31) (h0 : 0 < d) (hd : d < 2 ^ 31) : x / y = nI (a / d) := by rw [hx, hy, pk_div ha h0 hd]
theorem nn_max {x y : Int32} {a b : Nat} (hx : x = nI a) (hy : y = nI b) (ha : a < 2 ^ 31) (hb : b < 2 ^ 31) : (if x < y then y else x) = nI (max a b) := by
  rw [hx, hy]
  by_cases h : a < b
  · rw [if_pos ((nI_ltI ha hb).mpr h), Nat.max_eq_right (by omega)]
  · rw [if_neg (fun q => h ((nI_ltI ha hb).mp q)), Nat.max_eq_left (by omega)]
theorem nn_min {x y : Int32} {a b : Nat} (hx : x = nI a) (hy : y = nI b) (ha : a < 2 ^ 31) (hb : b < 2 ^ 31) : (if y < x then y else x) = nI (min a b) := by
  rw [hx, hy]
  by_cases h : b < a
  · rw [if_pos ((nI_ltI hb ha).mpr h), Nat.min_eq_right (by omega)]
  · rw [if_neg (fun q => h ((nI_ltI hb ha).mp q)), Nat.min_eq_left (by omega)]
/-! memory -/
theorem mu_row_eq {mu : Mu} {c : Nat} {f : Nat → Int32} : mu_row mu c f c = f := if_pos rfl
theorem mu_row_ne {mu : Mu} {c c' : Nat} {f : Nat → Int32} (h : c' ≠ c) : mu_row mu c f c' = mu c' := if_neg h
theorem mu_up_eq {mu : Mu} {c j : Nat} {x : Int32} : mu_up mu c j x c = upd (mu c) j x := if_pos rfl
theorem mu_up_ne {mu : Mu} {c c' j : Nat} {x : Int32} (h : c' ≠ c) : mu_up mu c j x c' = mu c' := if_neg h
theorem mu_up_at {mu : Mu} {c j : Nat} {x : Int32} : mu_up mu c j x c j = x := by rw [mu_up_eq, pk_us]
theorem mu_up_an {mu : Mu} {c j j' : Nat} {x : Int32} (h : j' ≠ j) : mu_up mu c j x c j' = mu c j' := by rw [mu_up_eq, pk_un h]
theorem mu_up_a {mu : Mu} {c c' j j' : Nat} {x : Int32} (h : c' ≠ c ∨ j' ≠ j) : mu_up mu c j x c' j' = mu c' j' := by
  by_cases e : c' = c
  · subst e
    exact mu_up_an (h.resolve_left (fun z => z rfl))
  · rw [mu_up_ne e]
theorem nu_up_at {nu : Nu} {c j : Nat} {x : Int64} : nu_up nu c j x c j = x := by simp [nu_up, nu_row, vp_updL]
theorem nu_up_a {nu : Nu} {c c' j j' : Nat} {x : Int64} (h : c' ≠ c ∨ j' ≠ j) : nu_up nu c j x c' j' = nu c' j' := by
  by_cases e : c' = c
  · subst e
    have h2 := h.resolve_left (fun z => z rfl)
    simp [nu_up, nu_row, vp_updL, h2]
  · simp [nu_up, nu_row, e]
theorem nu_up_ne {nu : Nu} {c c' j : Nat} {x : Int64} (h : c' ≠ c) : nu_up nu c j x c' = nu c' := if_neg h
/-! what a rod shows: kind, digit, mark, line -/
def s_worn (d m n : Nat) : Nat := if n = m then d * n % 10 else d * n
def s_sh (k d m n : Nat) : Nat := if k = 1 then s_worn d m n else if k = 2 then (9 - d) * n else if k = 3 then (if n = 9 then d else d * (n + 1)) else if k = 4 then (if 9 - m < n then d * n % 10 else s_worn d m n) else if k = 5 then (if m ≤ n then d * n else (9 - d) * n) else d * n
theorem mul_le81 {d n : Nat} (hd : d ≤ 9) (hn : n ≤ 9) : d * n ≤ 81 := Nat.mul_le_mul hd hn
theorem s_sh_le {k d m n : Nat} (hd : d ≤ 9) (hn : n ≤ 9) : s_sh k d m n ≤ 81 := by
  have h1 := mul_le81 hd hn
  have h2 := mul_le81 (d := 9 - d) (by omega) hn
  unfold s_sh s_worn
  have h3 : ¬ n = 9 → d * (n + 1) ≤ 81 := fun h => mul_le81 hd (by omega)
  split
  · split <;> omega
  · split
    · omega
    · split
      · split
        · omega
        · exact h3 (by assumption)
      · split
        · split
          · omega
          · split <;> omega
        · split
          · split <;> omega
          · omega
/-- whether a rod is over; its digit then -/
def s_dg (ov : Nat) (dg : Nat → Nat) (i : Nat) : Nat := if ov / 2 ^ i % 2 = 1 then 9 - dg i else dg i

