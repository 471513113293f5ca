theorem mul2 (k : Nat) : 2 * k + 2 = 2 * (k + 1) := by omega
/-- a row or a text in the strip at the cell c -/
def z_st (mu : Mu) (c cap : Nat) (x : Option (List Int32)) : Prop := match x with
  | none => mu c 1 = -1
  | some xs => mu c 1 = nI xs.length ∧ xs.length ≤ cap ∧ ∀ j, j < xs.length → mu (c + 1) j = xs.getD j 0
theorem zs_some {mu : Mu} {c cap : Nat} {x : Option (List Int32)} (h : z_st mu c cap x) (hc : cap ≤ 60) (hn : ¬ (mu c 1).toInt = -1) : ∃ xs, x = some xs ∧ mu c 1 = nI xs.length ∧ xs.length ≤ cap ∧ ∀ j, j < xs.length → mu (c + 1) j = xs.getD j 0 := by
  cases x with
  | none => exact absurd (by rw [show mu c 1 = -1 from h]; decide +kernel) hn
  | some xs => exact ⟨xs, rfl, h⟩
theorem zs_none {mu : Mu} {c cap : Nat} {x : Option (List Int32)} (h : z_st mu c cap x) (hc : cap ≤ 60) (hn : (mu c 1).toInt = -1) : x = none := by
  cases x with
  | none => rfl
  | some xs =>
    have h1 : mu c 1 = nI xs.length := h.1
    have h2 : xs.length ≤ cap := h.2.1
    rw [h1, nI_toInt (by omega)] at hn
    omega
def s_up (x : Option (List Int32)) (i : Int32) : Nat := match x with
  | none => 1
  | some xs => if 0 ≤ i.toInt ∧ i.toInt < xs.length then 0 else 2
/-- the row of pairs: the line, what was seen -/
def s_ln (xs : List Int32) (k : Nat) : Nat := (xs.getD (2 * k) 0).toInt.toNat
def s_okp (xs : List Int32) (k : Nat) : Prop := (1 ≤ (xs.getD (2 * k) 0).toInt ∧ (xs.getD (2 * k) 0).toInt < 10) ∧ 0 ≤ (xs.getD (2 * k + 1) 0).toInt ∧ (xs.getD (2 * k + 1) 0).toInt ≤ 999999999
def s_allp (xs : List Int32) : Prop := ∀ k, k < xs.length / 2 → (1 ≤ (xs.getD (2 * k) 0).toInt ∧ (xs.getD (2 * k) 0).toInt < 10) ∧ 0 ≤ (xs.getD (2 * k + 1) 0).toInt ∧ (xs.getD (2 * k + 1) 0).toInt ≤ 999999999
def s_prs (x : Option (List Int32)) : Nat := match x with
  | none => 1
  | some xs => if xs.length % 2 = 1 then 5 else if ∀ k, k < xs.length / 2 → (1 ≤ (xs.getD (2 * k) 0).toInt ∧ (xs.getD (2 * k) 0).toInt < 10) ∧ 0 ≤ (xs.getD (2 * k + 1) 0).toInt ∧ (xs.getD (2 * k + 1) 0).toInt ≤ 999999999 then 0 else 3
theorem s_ln_eq {xs : List Int32} {k : Nat} (h : (1 ≤ (xs.getD (2 * k) 0).toInt ∧ (xs.getD (2 * k) 0).toInt < 10) ∧ 0 ≤ (xs.getD (2 * k + 1) 0).toInt ∧ (xs.getD (2 * k + 1) 0).toInt ≤ 999999999) : xs.getD (2 * k) 0 = nI (s_ln xs k) ∧ 1 ≤ s_ln xs k ∧ s_ln xs k ≤ 9 := by
  unfold s_ln
  refine ⟨nn_ofN (by omega), by omega, by omega⟩
/-- a kind, a digit, a mark fit what was seen -/
def s_fit (kd d m : Nat) (xs : List Int32) : Prop := ∀ k, k < xs.length / 2 → nI (s_sh kd d m (s_ln xs k)) = xs.getD (2 * k + 1) 0
def s_kl (x : Int32) : Int32 := if x = 114 then 0 else if x = 119 then 1 else if x = 116 then 2 else if x = 115 then 3 else if x = 98 then 4 else if x = 100 then 5 else -9
def v_la (V : Vw) (i k : Nat) (less more : Prop) [Decidable less] [Decidable more] : Nat → Nat
  | 0 => 0
  | n + 1 => v_la V i k less more n + (if (less ∧ v_sh V i (n + 1) < v_as V i k (n + 1)) ∨ (more ∧ v_as V i k (n + 1) < v_sh V i (n + 1)) then 1 else 0)
def s_fk (d m : Nat) (xs : List Int32) : Nat → Nat
  | 0 => 0
  | k + 1 => if ∀ j, j < xs.length / 2 → nI (s_sh k d m (s_ln xs j)) = xs.getD (2 * j + 1) 0 then s_fk d m xs k ||| 2 ^ k else s_fk d m xs k
def v_pb (V : Vw) (i bits n a : Nat) : Nat → Nat
  | 0 => 0
  | b + 1 => v_pb V i bits n a b + (if (bits / 2 ^ a % 2 = 1 ∧ bits / 2 ^ b % 2 = 1) ∧ v_as V i a n = v_as V i b n then 1 else 0)
def v_pa (V : Vw) (i bits n : Nat) : Nat → Nat
  | 0 => 0
  | a + 1 => max (v_pa V i bits n a) (v_pb V i bits n a 6)
theorem v_la_le {V : Vw} {i k : Nat} {less more : Prop} [Decidable less] [Decidable more] : ∀ n, v_la V i k less more n ≤ n
  | 0 => Nat.le_refl _
  | n + 1 => by
    have := v_la_le (V := V) (i := i) (k := k) (less := less) (more := more) n
    unfold v_la
    split <;> omega
theorem v_pb_le {V : Vw} {i bits n a : Nat} : ∀ b, v_pb V i bits n a b ≤ b
  | 0 => Nat.le_refl _
  | b + 1 => by
    have := v_pb_le (V := V) (i := i) (bits := bits) (n := n) (a := a) b
    unfold v_pb
    split <;> omega
theorem v_pa_le {V : Vw} {i bits n : Nat} : ∀ a, v_pa V i bits n a ≤ 6
  | 0 => Nat.zero_le _
  | a + 1 => by
    have h1 := v_pa_le (V := V) (i := i) (bits := bits) (n := n) a
    have h2 := v_pb_le (V := V) (i := i) (bits := bits) (n := n) (a := a) 6
    unfold v_pa
    omega
theorem and_mod2 (x y : Nat) : (x &&& y) % 2 = 1 ↔ (x % 2 = 1 ∧ y % 2 = 1) := by
  have h := Nat.and_mod_two_pow (a := x) (b := y) (n := 1)
  have hx : x % 2 = 0 ∨ x % 2 = 1 := by omega
  have hy : y % 2 = 0 ∨ y % 2 = 1 := by omega
  simp only [Nat.pow_one] at h
  rw [h]
  rcases hx with hx | hx <;> rcases hy with hy | hy <;> rw [hx, hy] <;> decide
set_option maxHeartbeats 4000000 in
set_option maxRecDepth 100000 in
theorem c_X10_isOfKind (l : Launch) (G : Gl) (mu : Mu) (nu : Nu) (k : Nat) (hk : k < 6) (t : Nat) (ht : 1 ≤ t) (ht5 : t ≤ 5) : Cf l G mX10_isOfKind 1 [.ref (G.1 (24 + k)), .int (nI t)] mu nu (.int (bI (k = t ∨ (t = 1 ∧ k = 4) ∨ (t = 2 ∧ k = 5)))) := by
  refine Ct.of (lv := [(0, .ref (G.1 (24 + k))), (1, .int (nI t))]) rfl rfl (Nat.le_of_ble_eq_true rfl) rfl (fun X C => ?_)
  generalize hQ : g_E G X _ = Q
  replace C : Cx G 2 X cX10_isOfKind RX10 (some .boolean) 1 := C
  show Mq l G 2 X Q 0 [(0, .ref (G.1 (24 + k))), (1, .int (nI t))] [] mu nu
  refine m_iload_n C 1 dX10_isOfKind_0 rfl ?_
  have hh1i : (nI t).toInt = ((t : Nat) : Int) := (nn_i (a := t) rfl (by omega))
  have hh1 : (((t : Nat) : Int) < 0 ∨ 5 < ((t : Nat) : Int)) ∨ ((t : Nat) : Int) = 0 ∨ ((t : Nat) : Int) = 1 ∨ ((t : Nat) : Int) = 2 ∨ ((t : Nat) : Int) = 3 ∨ ((t : Nat) : Int) = 4 ∨ ((t : Nat) : Int) = 5 := by omega
  rcases hh1 with hh1 | hh1 | hh1 | hh1 | hh1 | hh1 | hh1
  · exact absurd hh1 (by omega)
  · exact absurd hh1 (by omega)
  · refine m_tblIn C 42 dX10_isOfKind_1 (by rw [hh1i]; omega) (by rw [hh1i]; omega) (off := 41) (by rw [hh1i, hh1]; decide +kernel) (by decide) ?_
    refine m_aload_n C 0 dX10_isOfKind_42 rfl ?_
    refine m_inst26 C hk dX10_isOfKind_43 ?_
    refine m_zretf C hQ dX10_isOfKind_46 bI_nar rfl rfl ?_
    exact bI_congr (by omega)
  · refine m_tblIn C 47 dX10_isOfKind_1 (by rw [hh1i]; omega) (by rw [hh1i]; omega) (off := 46) (by rw [hh1i, hh1]; decide +kernel) (by decide) ?_
    refine m_aload_n C 0 dX10_isOfKind_47 rfl ?_
    refine m_inst29 C hk dX10_isOfKind_48 ?_
    refine m_zretf C hQ dX10_isOfKind_51 bI_nar rfl rfl ?_
    exact bI_congr (by omega)
  · refine m_tblIn C 52 dX10_isOfKind_1 (by rw [hh1i]; omega) (by rw [hh1i]; omega) (off := 51) (by rw [hh1i, hh1]; decide +kernel) (by decide) ?_
    refine m_aload_n C 0 dX10_isOfKind_52 rfl ?_
    refine m_inst32 C hk dX10_isOfKind_53 ?_
    refine m_zretf C hQ dX10_isOfKind_56 bI_nar rfl rfl ?_
    exact bI_congr (by omega)
  · refine m_tblIn C 57 dX10_isOfKind_1 (by rw [hh1i]; omega) (by rw [hh1i]; omega) (off := 56) (by rw [hh1i, hh1]; decide +kernel) (by decide) ?_
    refine m_aload_n C 0 dX10_isOfKind_57 rfl ?_
    refine m_inst35 C hk dX10_isOfKind_58 ?_
    refine m_zretf C hQ dX10_isOfKind_61 bI_nar rfl rfl ?_
    exact bI_congr (by omega)
  · refine m_tblIn C 62 dX10_isOfKind_1 (by rw [hh1i]; omega) (by rw [hh1i]; omega) (off := 61) (by rw [hh1i, hh1]; decide +kernel) (by decide) ?_
    refine m_aload_n C 0 dX10_isOfKind_62 rfl ?_
    refine m_inst38 C hk dX10_isOfKind_63 ?_
    refine m_zretf C hQ dX10_isOfKind_66 bI_nar rfl rfl ?_
    exact bI_congr (by omega)

set_option maxHeartbeats 4000000 in
set_option maxRecDepth 100000 in
theorem c_X10_unfitPlace (l : Launch) (G : Gl) (mu : Mu) (nu : Nu) (c : Nat) (hc : stc c) (cap : Nat) (hcap : cap ≤ 60) (x : Option (List Int32)) (hx : z_st mu c cap x) (i : Int32) : Cf l G mX10_unfitPlace 2 [.ref (G.1 c), .int i] mu nu (.int (nI (s_up x i))) := by
  refine Ct.of (lv := [(0, .ref (G.1 c)), (1, .int i)]) rfl rfl (Nat.le_of_ble_eq_true rfl) rfl (fun X C => ?_)
  generalize hQ : g_E G X _ = Q
  replace C : Cx G 2 X cX10_unfitPlace RX10 (some .int) 2 := C
  show Mq l G 2 X Q 0 [(0, .ref (G.1 c)), (1, .int i)] [] mu nu
  refine m_aload_n C 0 dX10_unfitPlace_0 rfl ?_
  refine m_callVf C c (stc_lt hc) (sh_strip hc _ _) rfl (c_X7_isThere l G mu nu c hc) wkX10_99 (by decide) rfl rfl (Nat.le_of_ble_eq_true rfl) dX10_unfitPlace_1 ?_
  refine m_if_ne C 9 dX10_unfitPlace_4 (by decide) (fun hh1 => ?_) (fun hh1 => ?_)
  · replace hh1 := bI_ne0.mp hh1
    obtain ⟨xs, rfl, hl, hl2, -⟩ := zs_some hx hcap hh1
    refine m_aload_n C 0 dX10_unfitPlace_9 rfl ?_
    refine m_iload_n C 1 dX10_unfitPlace_10 rfl ?_
    refine m_iconst C 1 dX10_unfitPlace_11 (by decide +kernel) ?_
    refine m_callVf C c (stc_lt hc) (sh_strip hc _ _) rfl (c_X7_holds l G mu nu c hc i 1 xs.length hl (by omega) (by decide)) wkX10_106 (by decide) rfl rfl (Nat.le_of_ble_eq_true rfl) dX10_unfitPlace_12 ?_
    refine m_if_eq C 22 dX10_unfitPlace_15 (by decide) (fun hh2 => ?_) (fun hh2 => ?_)
    · replace hh2 := bI_eq0.mp hh2
      refine m_iconst C 2 dX10_unfitPlace_22 (by decide +kernel) ?_
      refine m_iretf C hQ dX10_unfitPlace_23 rfl rfl ?_
      have e1 : (1 : Int32).toInt = 1 := by decide
      unfold s_up; dsimp only; rw [if_neg (by omega)]; rfl
    replace hh2 := bI_ne0.mp hh2
    refine m_iconst C 0 dX10_unfitPlace_18 (by decide +kernel) ?_
    refine m_goto C 23 dX10_unfitPlace_19 (by decide) ?_
    refine m_iretf C hQ dX10_unfitPlace_23 rfl rfl ?_
    have e1 : (1 : Int32).toInt = 1 := by decide
    unfold s_up; dsimp only; rw [if_pos (by omega)]; rfl
  replace hh1 := bI_eq0.mp hh1
  refine m_iconst C 1 dX10_unfitPlace_7 (by decide +kernel) ?_
  refine m_iretf C hQ dX10_unfitPlace_8 rfl rfl ?_
  rw [zs_none hx hcap (by omega)]; rfl

set_option maxHeartbeats 4000000 in
set_option maxRecDepth 100000 in
theorem c_X10_unfitPairs (l : Launch) (G : Gl) (mu : Mu) (nu : Nu) (c : Nat) (hc : stc c) (cap : Nat) (hcap : cap ≤ 60) (x : Option (List Int32)) (hx : z_st mu c cap x) : Cf l G mX10_unfitPairs 2 [.ref (G.1 c)] mu nu (.int (nI (s_prs x))) := by
  refine Ct.of (lv := [(0, .ref (G.1 c))]) rfl rfl (Nat.le_of_ble_eq_true rfl) rfl (fun X C => ?_)
  generalize hQ : g_E G X _ = Q
  replace C : Cx G 3 X cX10_unfitPairs RX10 (some .int) 2 := C
  show Mq l G 3 X Q 0 [(0, .ref (G.1 c))] [] mu nu
  refine m_aload_n C 0 dX10_unfitPairs_0 rfl ?_
  refine m_callVf C c (stc_lt hc) (sh_strip hc _ _) rfl (c_X7_isThere l G mu nu c hc) wkX10_99 (by decide) rfl rfl (Nat.le_of_ble_eq_true rfl) dX10_unfitPairs_1 ?_
  refine m_if_ne C 9 dX10_unfitPairs_4 (by decide) (fun hh1 => ?_) (fun hh1 => ?_)
  · replace hh1 := bI_ne0.mp hh1
    obtain ⟨xs, rfl, hl, hl2, hxs⟩ := zs_some hx hcap hh1
    refine m_aload_n C 0 dX10_unfitPairs_9 rfl ?_
    refine gfX10_103 C c hc dX10_unfitPairs_10 ?_
    refine m_topi (nI xs.length) hl ?_
    refine m_iconst C 2 dX10_unfitPairs_13 (by decide +kernel) ?_
    refine m_irem C dX10_unfitPairs_14 (by decide) ?_
    refine m_topi (nI (xs.length % 2)) (nn_rem rfl rfl (by omega) (by omega) (by omega)) ?_
    refine m_if_eq C 20 dX10_unfitPairs_15 (by decide) (fun hh2 => ?_) (fun hh2 => ?_)
    · replace hh2 := (ii_eq (nn_i (a := xs.length % 2) rfl (by omega)) (nn_i (a := 0) rfl (by omega))).mp hh2
      refine m_iconst C 0 dX10_unfitPairs_20 (by decide +kernel) ?_
      refine m_istore_n C [(1, .int 0), (0, .ref (G.1 c))] dX10_unfitPairs_21 (by decide) rfl ?_
      have L22 : ∀ (fu : Nat) (k : Nat) (hk : 2 * k ≤ xs.length) (hq : ∀ j, j < k → (1 ≤ (xs.getD (2 * j) 0).toInt ∧ (xs.getD (2 * j) 0).toInt < 10) ∧ 0 ≤ (xs.getD (2 * j + 1) 0).toInt ∧ (xs.getD (2 * j + 1) 0).toInt ≤ 999999999), xs.length - 2 * k < fu → Mq l G 3 X Q 22 [(0, .ref (G.1 c)), (1, .int (nI (2 * k)))] [] mu nu := by
        intro fu
        induction fu with
        | zero => intro k hk hq hm; exact absurd hm (Nat.not_lt_zero _)
        | succ fu ih22 =>
          intro k hk hq hm
          refine m_iload_n C 1 dX10_unfitPairs_22 rfl ?_
          refine m_iconst C 1 dX10_unfitPairs_23 (by decide +kernel) ?_
          refine m_iadd C dX10_unfitPairs_24 ?_
          refine m_topi (nI ((2 * k) + 1)) (nn_add rfl rfl) ?_
          refine m_aload_n C 0 dX10_unfitPairs_25 rfl ?_
          refine gfX10_103 C c hc dX10_unfitPairs_26 ?_
          refine m_topi (nI xs.length) hl ?_
          refine m_icmp_ge C 72 dX10_unfitPairs_29 (by decide) (fun hh3 => ?_) (fun hh3 => ?_)
          · replace hh3 := (ii_le (nn_i (a := xs.length) rfl (by omega)) (nn_i (a := (2 * k) + 1) rfl (by omega))).mp hh3
            refine m_iconst C 0 dX10_unfitPairs_72 (by decide +kernel) ?_
            refine m_iretf C hQ dX10_unfitPairs_73 rfl rfl ?_
            unfold s_prs; dsimp only; rw [if_neg (by omega), if_pos (fun j hj => hq j (by omega))]; rfl
          replace hh3 := mt (ii_le (nn_i (a := xs.length) rfl (by omega)) (nn_i (a := (2 * k) + 1) rfl (by omega))).mpr hh3
          refine m_aload_n C 0 dX10_unfitPairs_32 rfl ?_
          refine gfX10_92 C c hc dX10_unfitPairs_33 ?_
          refine m_iload_n C 1 dX10_unfitPairs_36 rfl ?_
          refine m_iconst C 1 dX10_unfitPairs_37 (by decide +kernel) ?_
          refine m_iadd C dX10_unfitPairs_38 ?_
          refine m_topi (nI ((2 * k) + 1)) (nn_add rfl rfl) ?_
          refine m_iald C (c + 1) (stc_lt1 hc) (sa_strip hc) ((2 * k) + 1) rfl (by omega) (by decide) dX10_unfitPairs_39 ?_
          refine m_topi (xs.getD (2 * k + 1) 0) (hxs _ (by omega)) ?_
          refine m_istore_n C [(2, .int (xs.getD (2 * k + 1) 0)), (0, .ref (G.1 c)), (1, .int (nI (2 * k)))] dX10_unfitPairs_40 (by decide) rfl ?_
          refine m_aload_n C 1 dX10_unfitPairs_41 rfl ?_
          refine gfX10_92 C c hc dX10_unfitPairs_42 ?_
          refine m_iload_n C 2 dX10_unfitPairs_45 rfl ?_
          refine m_iald C (c + 1) (stc_lt1 hc) (sa_strip hc) (2 * k) rfl (by omega) (by decide) dX10_unfitPairs_46 ?_
          refine m_topi (xs.getD (2 * k) 0) (hxs _ (by omega)) ?_
          refine m_callSf C (c_X10_isLine l G mu nu (xs.getD (2 * k) 0)) wkX10_159 (by decide) rfl rfl (Nat.le_of_ble_eq_true rfl) dX10_unfitPairs_47 ?_
          refine m_if_eq C 64 dX10_unfitPairs_50 (by decide) (fun hh4 => ?_) (fun hh4 => ?_)
          · replace hh4 := bI_eq0.mp hh4
            refine m_iconst C 3 dX10_unfitPairs_64 (by decide +kernel) ?_
            refine m_iretf C hQ dX10_unfitPairs_65 rfl rfl ?_
            unfold s_prs; dsimp only; rw [if_neg (by omega), if_neg (fun hall => absurd (hall k (by omega)) (by omega))]; rfl
          replace hh4 := bI_ne0.mp hh4
          refine m_iload_n C 0 dX10_unfitPairs_53 rfl ?_
          refine m_if_lt C 64 dX10_unfitPairs_54 (by decide) (fun hh5 => ?_) (fun hh5 => ?_)
          · replace hh5 := (ii_lt (rfl : (xs.getD (2 * k + 1) 0).toInt = _) (nn_i (a := 0) rfl (by omega))).mp hh5
            refine m_iconst C 3 dX10_unfitPairs_64 (by decide +kernel) ?_
            refine m_iretf C hQ dX10_unfitPairs_65 rfl rfl ?_
            unfold s_prs; dsimp only; rw [if_neg (by omega), if_neg (fun hall => absurd (hall k (by omega)) (by omega))]; rfl
          replace hh5 := mt (ii_lt (rfl : (xs.getD (2 * k + 1) 0).toInt = _) (nn_i (a := 0) rfl (by omega))).mpr hh5
          refine m_iload_n C 0 dX10_unfitPairs_57 rfl ?_
          refine m_ldcw C 999999999 wcX10_317 dX10_unfitPairs_58 ?_
          refine m_icmp_le C 66 dX10_unfitPairs_61 (by decide) (fun hh6 => ?_) (fun hh6 => ?_)
          · replace hh6 := (ii_le (rfl : (xs.getD (2 * k + 1) 0).toInt = _) (nn_i (a := 999999999) rfl (by omega))).mp hh6
            refine m_iinc C 2 (nI (2 * k + 2)) [(1, .int (nI (2 * k + 2))), (2, .int (xs.getD (2 * k + 1) 0)), (0, .ref (G.1 c))] dX10_unfitPairs_66 rfl (nn_add rfl (show Int32.ofInt 2 = nI 2 from rfl)) (by decide) rfl ?_
            refine m_goto C 22 dX10_unfitPairs_69 (by decide) ?_
            exact m_sub [2, 0] rfl (ih22 (k + 1) (by omega) (fun j hj => by
                      by_cases e : j = k
                      · subst e; omega
                      · exact hq j (by omega)) (by omega))
          replace hh6 := mt (ii_le (rfl : (xs.getD (2 * k + 1) 0).toInt = _) (nn_i (a := 999999999) rfl (by omega))).mpr hh6
          refine m_iconst C 3 dX10_unfitPairs_64 (by decide +kernel) ?_
          refine m_iretf C hQ dX10_unfitPairs_65 rfl rfl ?_
          unfold s_prs; dsimp only; rw [if_neg (by omega), if_neg (fun hall => absurd (hall k (by omega)) (by omega))]; rfl
      exact m_sub [1, 0] rfl (L22 (_ + 1) 0 (Nat.zero_le _) (fun j hj => absurd hj (Nat.not_lt_zero _)) (Nat.lt_succ_self _))
    replace hh2 := mt (ii_eq (nn_i (a := xs.length % 2) rfl (by omega)) (nn_i (a := 0) rfl (by omega))).mpr hh2
    refine m_iconst C 5 dX10_unfitPairs_18 (by decide +kernel) ?_
    refine m_iretf C hQ dX10_unfitPairs_19 rfl rfl ?_
    unfold s_prs; dsimp only; rw [if_pos (by omega)]; rfl
  replace hh1 := bI_eq0.mp hh1
  refine m_iconst C 1 dX10_unfitPairs_7 (by decide +kernel) ?_
  refine m_iretf C hQ dX10_unfitPairs_8 rfl rfl ?_
  rw [zs_none hx hcap (by omega)]; rfl

set_option maxHeartbeats 4000000 in
set_option maxRecDepth 100000 in
theorem c_X10_found (l : Launch) (G : Gl) (mu : Mu) (nu : Nu) (f : Nat) (hf : f < 6) : Ci l G mX10_found 1 [.ref (G.1 0), .int (nI f)] mu nu (fun r m n2 => r = -3 ∧ m = mu_up (mu_up mu 0 11 (nI f)) 63 f (mu 63 f + 1) ∧ n2 = nu) := by
  refine Ct.of (lv := [(0, .ref (G.1 0)), (1, .int (nI f))]) rfl rfl (Nat.le_of_ble_eq_true rfl) rfl (fun X C => ?_)
  generalize hQ : g_E G X _ = Q
  replace C : Cx G 2 X cX10_found RX10 (some .int) 1 := C
  show Mq l G 2 X Q 0 [(0, .ref (G.1 0)), (1, .int (nI f))] [] mu nu
  refine m_aload_n C 0 dX10_found_0 rfl ?_
  refine m_iload_n C 1 dX10_found_1 rfl ?_
  refine pfX10_303 C dX10_found_2 ?_
  refine m_nameM (fun mu1 emu1 => ?_)
  refine m_aload_n C 0 dX10_found_5 rfl ?_
  refine gfX10_72 C dX10_found_6 ?_
  refine m_iload_n C 1 dX10_found_9 rfl ?_
  refine m_dup2 C dX10_found_10 rfl rfl ?_
  refine m_iald C 63 (by decide) sa_63 f rfl (by omega) (by decide) dX10_found_11 ?_
  refine m_iconst C 1 dX10_found_12 (by decide +kernel) ?_
  refine m_iadd C dX10_found_13 ?_
  refine m_iast C 63 (by decide) sa_63 f rfl (by omega) (by decide) dX10_found_14 ?_
  refine m_nameM (fun mu2 emu2 => ?_)
  refine m_bipush C (-3) dX10_found_15 (by decide +kernel) ?_
  refine m_ireti C hQ dX10_found_17 ?_
  exact ⟨rfl, by rw [emu2, emu1, mu_up_ne (c := 0) (c' := 63) (by decide)], rfl⟩

set_option maxHeartbeats 4000000 in
set_option maxRecDepth 100000 in
theorem c_X10_kindByLetter (l : Launch) (G : Gl) (mu : Mu) (nu : Nu) (x : Int32) : Cf l G mX10_kindByLetter 1 [.int x] mu nu (.int (s_kl x)) := by
  refine Ct.of (lv := [(0, .int x)]) rfl rfl (Nat.le_of_ble_eq_true rfl) rfl (fun X C => ?_)
  generalize hQ : g_E G X _ = Q
  replace C : Cx G 2 X cX10_kindByLetter RX10 (some .int) 1 := C
  show Mq l G 2 X Q 0 [(0, .int x)] [] mu nu
  refine m_iconst C 0 dX10_kindByLetter_0 (by decide +kernel) ?_
  refine m_istore_n C [(1, .int 0), (0, .int x)] dX10_kindByLetter_1 (by decide) rfl ?_
  refine m_iload_n C 0 dX10_kindByLetter_2 rfl ?_
  refine m_bipush C 6 dX10_kindByLetter_3 (by decide +kernel) ?_
  refine m_icmp_ge C 25 dX10_kindByLetter_5 (by decide) (fun h => absurd h (by decide)) (fun _ => ?_)
  refine m_letters C wfX10_318 dX10_kindByLetter_8 ?_
  refine m_iload_n C 0 dX10_kindByLetter_11 rfl ?_
  refine m_letAt C 0 rfl (by omega) dX10_kindByLetter_12 ?_
  refine m_topi 114 rfl ?_
  refine m_iload_n C 1 dX10_kindByLetter_13 rfl ?_
  refine m_icmp_ne C 19 dX10_kindByLetter_14 (by decide) (fun hh1 => ?_) (fun hh1 => ?_)
  · replace hh1 := mt (ii_eq (nn_i (a := 114) rfl (by omega)) (rfl : (x).toInt = _)).mpr hh1
    refine m_iinc C 0 1 [(1, .int 1), (0, .int x)] dX10_kindByLetter_19 rfl (by decide +kernel) (by decide) rfl ?_
    refine m_goto C 2 dX10_kindByLetter_22 (by decide) ?_
    refine m_iload_n C 0 dX10_kindByLetter_2 rfl ?_
    refine m_bipush C 6 dX10_kindByLetter_3 (by decide +kernel) ?_
    refine m_icmp_ge C 25 dX10_kindByLetter_5 (by decide) (fun h => absurd h (by decide)) (fun _ => ?_)
    refine m_letters C wfX10_318 dX10_kindByLetter_8 ?_
    refine m_iload_n C 0 dX10_kindByLetter_11 rfl ?_
    refine m_letAt C 1 rfl (by omega) dX10_kindByLetter_12 ?_
    refine m_topi 119 rfl ?_
    refine m_iload_n C 1 dX10_kindByLetter_13 rfl ?_
    refine m_icmp_ne C 19 dX10_kindByLetter_14 (by decide) (fun hh2 => ?_) (fun hh2 => ?_)
    · replace hh2 := mt (ii_eq (nn_i (a := 119) rfl (by omega)) (rfl : (x).toInt = _)).mpr hh2
      refine m_iinc C 0 2 [(1, .int 2), (0, .int x)] dX10_kindByLetter_19 rfl (by decide +kernel) (by decide) rfl ?_
      refine m_goto C 2 dX10_kindByLetter_22 (by decide) ?_
      refine m_iload_n C 0 dX10_kindByLetter_2 rfl ?_
      refine m_bipush C 6 dX10_kindByLetter_3 (by decide +kernel) ?_
      refine m_icmp_ge C 25 dX10_kindByLetter_5 (by decide) (fun h => absurd h (by decide)) (fun _ => ?_)
      refine m_letters C wfX10_318 dX10_kindByLetter_8 ?_
      refine m_iload_n C 0 dX10_kindByLetter_11 rfl ?_
      refine m_letAt C 2 rfl (by omega) dX10_kindByLetter_12 ?_
      refine m_topi 116 rfl ?_
      refine m_iload_n C 1 dX10_kindByLetter_13 rfl ?_
      refine m_icmp_ne C 19 dX10_kindByLetter_14 (by decide) (fun hh3 => ?_) (fun hh3 => ?_)
      · replace hh3 := mt (ii_eq (nn_i (a := 116) rfl (by omega)) (rfl : (x).toInt = _)).mpr hh3
        refine m_iinc C 0 3 [(1, .int 3), (0, .int x)] dX10_kindByLetter_19 rfl (by decide +kernel) (by decide) rfl ?_
        refine m_goto C 2 dX10_kindByLetter_22 (by decide) ?_
        refine m_iload_n C 0 dX10_kindByLetter_2 rfl ?_
        refine m_bipush C 6 dX10_kindByLetter_3 (by decide +kernel) ?_
        refine m_icmp_ge C 25 dX10_kindByLetter_5 (by decide) (fun h => absurd h (by decide)) (fun _ => ?_)
        refine m_letters C wfX10_318 dX10_kindByLetter_8 ?_
        refine m_iload_n C 0 dX10_kindByLetter_11 rfl ?_
        refine m_letAt C 3 rfl (by omega) dX10_kindByLetter_12 ?_
        refine m_topi 115 rfl ?_
        refine m_iload_n C 1 dX10_kindByLetter_13 rfl ?_
        refine m_icmp_ne C 19 dX10_kindByLetter_14 (by decide) (fun hh4 => ?_) (fun hh4 => ?_)
        · replace hh4 := mt (ii_eq (nn_i (a := 115) rfl (by omega)) (rfl : (x).toInt = _)).mpr hh4
          refine m_iinc C 0 4 [(1, .int 4), (0, .int x)] dX10_kindByLetter_19 rfl (by decide +kernel) (by decide) rfl ?_
          refine m_goto C 2 dX10_kindByLetter_22 (by decide) ?_
          refine m_iload_n C 0 dX10_kindByLetter_2 rfl ?_
          refine m_bipush C 6 dX10_kindByLetter_3 (by decide +kernel) ?_
          refine m_icmp_ge C 25 dX10_kindByLetter_5 (by decide) (fun h => absurd h (by decide)) (fun _ => ?_)
          refine m_letters C wfX10_318 dX10_kindByLetter_8 ?_
          refine m_iload_n C 0 dX10_kindByLetter_11 rfl ?_
          refine m_letAt C 4 rfl (by omega) dX10_kindByLetter_12 ?_
          refine m_topi 98 rfl ?_
          refine m_iload_n C 1 dX10_kindByLetter_13 rfl ?_
          refine m_icmp_ne C 19 dX10_kindByLetter_14 (by decide) (fun hh5 => ?_) (fun hh5 => ?_)
          · replace hh5 := mt (ii_eq (nn_i (a := 98) rfl (by omega)) (rfl : (x).toInt = _)).mpr hh5
            refine m_iinc C 0 5 [(1, .int 5), (0, .int x)] dX10_kindByLetter_19 rfl (by decide +kernel) (by decide) rfl ?_
            refine m_goto C 2 dX10_kindByLetter_22 (by decide) ?_
            refine m_iload_n C 0 dX10_kindByLetter_2 rfl ?_
            refine m_bipush C 6 dX10_kindByLetter_3 (by decide +kernel) ?_
            refine m_icmp_ge C 25 dX10_kindByLetter_5 (by decide) (fun h => absurd h (by decide)) (fun _ => ?_)
            refine m_letters C wfX10_318 dX10_kindByLetter_8 ?_
            refine m_iload_n C 0 dX10_kindByLetter_11 rfl ?_
            refine m_letAt C 5 rfl (by omega) dX10_kindByLetter_12 ?_
            refine m_topi 100 rfl ?_
            refine m_iload_n C 1 dX10_kindByLetter_13 rfl ?_
            refine m_icmp_ne C 19 dX10_kindByLetter_14 (by decide) (fun hh6 => ?_) (fun hh6 => ?_)
            · replace hh6 := mt (ii_eq (nn_i (a := 100) rfl (by omega)) (rfl : (x).toInt = _)).mpr hh6
              refine m_iinc C 0 6 [(1, .int 6), (0, .int x)] dX10_kindByLetter_19 rfl (by decide +kernel) (by decide) rfl ?_
              refine m_goto C 2 dX10_kindByLetter_22 (by decide) ?_
              refine m_iload_n C 0 dX10_kindByLetter_2 rfl ?_
              refine m_bipush C 6 dX10_kindByLetter_3 (by decide +kernel) ?_
              refine m_icmp_ge C 25 dX10_kindByLetter_5 (by decide) (fun _ => ?_) (fun h => absurd (by decide) h)
              refine m_bipush C (-9) dX10_kindByLetter_25 (by decide +kernel) ?_
              refine m_iretf C hQ dX10_kindByLetter_27 rfl rfl ?_
              unfold s_kl; simp only [← Int32.toInt_inj]; simp only [show (114 : Int32).toInt = 114 by decide, show (119 : Int32).toInt = 119 by decide, show (116 : Int32).toInt = 116 by decide, show (115 : Int32).toInt = 115 by decide, show (98 : Int32).toInt = 98 by decide, show (100 : Int32).toInt = 100 by decide]
              rw [if_neg (by omega), if_neg (by omega), if_neg (by omega), if_neg (by omega), if_neg (by omega), if_neg (by omega)]
            replace hh6 := (ii_eq (nn_i (a := 100) rfl (by omega)) (rfl : (x).toInt = _)).mp hh6
            refine m_iload_n C 0 dX10_kindByLetter_17 rfl ?_
            refine m_iretf C hQ dX10_kindByLetter_18 rfl rfl ?_
            unfold s_kl; simp only [← Int32.toInt_inj]; simp only [show (114 : Int32).toInt = 114 by decide, show (119 : Int32).toInt = 119 by decide, show (116 : Int32).toInt = 116 by decide, show (115 : Int32).toInt = 115 by decide, show (98 : Int32).toInt = 98 by decide, show (100 : Int32).toInt = 100 by decide]
            rw [if_neg (by omega), if_neg (by omega), if_neg (by omega), if_neg (by omega), if_neg (by omega), if_pos (by omega)]
          replace hh5 := (ii_eq (nn_i (a := 98) rfl (by omega)) (rfl : (x).toInt = _)).mp hh5
          refine m_iload_n C 0 dX10_kindByLetter_17 rfl ?_
          refine m_iretf C hQ dX10_kindByLetter_18 rfl rfl ?_
          unfold s_kl; simp only [← Int32.toInt_inj]; simp only [show (114 : Int32).toInt = 114 by decide, show (119 : Int32).toInt = 119 by decide, show (116 : Int32).toInt = 116 by decide, show (115 : Int32).toInt = 115 by decide, show (98 : Int32).toInt = 98 by decide, show (100 : Int32).toInt = 100 by decide]
          rw [if_neg (by omega), if_neg (by omega), if_neg (by omega), if_neg (by omega), if_pos (by omega)]
        replace hh4 := (ii_eq (nn_i (a := 115) rfl (by omega)) (rfl : (x).toInt = _)).mp hh4
        refine m_iload_n C 0 dX10_kindByLetter_17 rfl ?_
        refine m_iretf C hQ dX10_kindByLetter_18 rfl rfl ?_
        unfold s_kl; simp only [← Int32.toInt_inj]; simp only [show (114 : Int32).toInt = 114 by decide, show (119 : Int32).toInt = 119 by decide, show (116 : Int32).toInt = 116 by decide, show (115 : Int32).toInt = 115 by decide, show (98 : Int32).toInt = 98 by decide, show (100 : Int32).toInt = 100 by decide]
        rw [if_neg (by omega), if_neg (by omega), if_neg (by omega), if_pos (by omega)]
      replace hh3 := (ii_eq (nn_i (a := 116) rfl (by omega)) (rfl : (x).toInt = _)).mp hh3
      refine m_iload_n C 0 dX10_kindByLetter_17 rfl ?_
      refine m_iretf C hQ dX10_kindByLetter_18 rfl rfl ?_
      unfold s_kl; simp only [← Int32.toInt_inj]; simp only [show (114 : Int32).toInt = 114 by decide, show (119 : Int32).toInt = 119 by decide, show (116 : Int32).toInt = 116 by decide, show (115 : Int32).toInt = 115 by decide, show (98 : Int32).toInt = 98 by decide, show (100 : Int32).toInt = 100 by decide]
      rw [if_neg (by omega), if_neg (by omega), if_pos (by omega)]
    replace hh2 := (ii_eq (nn_i (a := 119) rfl (by omega)) (rfl : (x).toInt = _)).mp hh2
    refine m_iload_n C 0 dX10_kindByLetter_17 rfl ?_
    refine m_iretf C hQ dX10_kindByLetter_18 rfl rfl ?_
    unfold s_kl; simp only [← Int32.toInt_inj]; simp only [show (114 : Int32).toInt = 114 by decide, show (119 : Int32).toInt = 119 by decide, show (116 : Int32).toInt = 116 by decide, show (115 : Int32).toInt = 115 by decide, show (98 : Int32).toInt = 98 by decide, show (100 : Int32).toInt = 100 by decide]
    rw [if_neg (by omega), if_pos (by omega)]
  replace hh1 := (ii_eq (nn_i (a := 114) rfl (by omega)) (rfl : (x).toInt = _)).mp hh1
  refine m_iload_n C 0 dX10_kindByLetter_17 rfl ?_
  refine m_iretf C hQ dX10_kindByLetter_18 rfl rfl ?_
  unfold s_kl; simp only [← Int32.toInt_inj]; simp only [show (114 : Int32).toInt = 114 by decide, show (119 : Int32).toInt = 119 by decide, show (116 : Int32).toInt = 116 by decide, show (115 : Int32).toInt = 115 by decide, show (98 : Int32).toInt = 98 by decide, show (100 : Int32).toInt = 100 by decide]
  rw [if_pos (by omega)]

set_option maxHeartbeats 4000000 in
set_option maxRecDepth 100000 in
theorem c_X10_linesApart_10 (l : Launch) (G : Gl) (mu : Mu) (nu : Nu) (V : Vw) (hv : zv mu V) (i : Nat) (hi : i < v_N V) (k : Nat) (hk : k < 6) : Cf l G mX10_linesApart 6 [.ref (G.1 0), .int (nI i), .int (nI k), .int 1, .int 0] mu nu (.int (nI (v_la V i k True False 9))) := by
  have hw := hv.1
  have hN7 := hw.1
  have hm7 := hw.2.2.1
  have ho8 := hw.2.2.2.2
  refine Ct.of (lv := [(0, .ref (G.1 0)), (1, .int (nI i)), (2, .int (nI k)), (3, .int 1), (4, .int 0)]) rfl rfl (Nat.le_of_ble_eq_true rfl) rfl (fun X C => ?_)
  generalize hQ : g_E G X _ = Q
  replace C : Cx G 8 X cX10_linesApart RX10 (some .int) 6 := C
  show Mq l G 8 X Q 0 [(0, .ref (G.1 0)), (1, .int (nI i)), (2, .int (nI k)), (3, .int 1), (4, .int 0)] [] mu nu
  refine m_iconst C 0 dX10_linesApart_0 (by decide +kernel) ?_
  refine m_istore C [(5, .int 0), (0, .ref (G.1 0)), (1, .int (nI i)), (2, .int (nI k)), (3, .int 1), (4, .int 0)] dX10_linesApart_1 (by decide) rfl ?_
  refine m_iconst C 1 dX10_linesApart_3 (by decide +kernel) ?_
  refine m_istore C [(6, .int 1), (5, .int 0), (0, .ref (G.1 0)), (1, .int (nI i)), (2, .int (nI k)), (3, .int 1), (4, .int 0)] dX10_linesApart_4 (by decide) rfl ?_
  have L6 : ∀ (fu : Nat) (n : Nat) (hn : n ≤ 9), 9 - n < fu → Mq l G 8 X Q 6 [(0, .ref (G.1 0)), (1, .int (nI i)), (2, .int (nI k)), (3, .int 1), (4, .int 0), (5, .int (nI (v_la V i k True False n))), (6, .int (nI (n + 1)))] [] mu nu := by
    intro fu
    induction fu with
    | zero => intro n hn hm; exact absurd hm (Nat.not_lt_zero _)
    | succ fu ih6 =>
      intro n hn hm
      have hle := v_la_le (V := V) (i := i) (k := k) (less := True) (more := False) n
      refine m_iload C 6 dX10_linesApart_6 rfl ?_
      refine m_bipush C 9 dX10_linesApart_8 (by decide +kernel) ?_
      refine m_icmp_gt C 59 dX10_linesApart_10 (by decide) (fun hh1 => ?_) (fun hh1 => ?_)
      · replace hh1 := (ii_lt (nn_i (a := 9) rfl (by omega)) (nn_i (a := n + 1) rfl (by omega))).mp hh1
        refine m_iload C 5 dX10_linesApart_59 rfl ?_
        refine m_iretf C hQ dX10_linesApart_61 rfl rfl ?_
        have e : n = 9 := by omega
        subst e; rfl
      replace hh1 := mt (ii_lt (nn_i (a := 9) rfl (by omega)) (nn_i (a := n + 1) rfl (by omega))).mpr hh1
      have hs1 := v_sh_le hw hi (n := n + 1) (by omega)
      have hs2 := v_as_le hw hi (k := k) (n := n + 1) (by omega)
      refine m_aload_n C 0 dX10_linesApart_13 rfl ?_
      refine m_iload_n C 1 dX10_linesApart_14 rfl ?_
      refine m_iload C 6 dX10_linesApart_15 rfl ?_
      refine m_callVf C 0 (by decide) rfl rfl (c_X10_shownNow l G mu nu V hv i (by omega) (n + 1) (by omega) (by omega)) wkX10_162 (by decide) rfl rfl (Nat.le_of_ble_eq_true rfl) dX10_linesApart_17 ?_
      refine m_aload_n C 0 dX10_linesApart_20 rfl ?_
      refine m_iload_n C 1 dX10_linesApart_21 rfl ?_
      refine m_iload_n C 2 dX10_linesApart_22 rfl ?_
      refine m_iload C 6 dX10_linesApart_23 rfl ?_
      refine m_callVf C 0 (by decide) rfl rfl (c_X10_shownAs l G mu nu V hv i (by omega) k (by omega) (n + 1) (by omega) (by omega)) wkX10_339 (by decide) rfl rfl (Nat.le_of_ble_eq_true rfl) dX10_linesApart_25 ?_
      refine m_isub C dX10_linesApart_28 ?_
      refine m_istore C [(7, .int ((nI (v_sh V i (n + 1))) - (nI (v_as V i k (n + 1))))), (0, .ref (G.1 0)), (1, .int (nI i)), (2, .int (nI k)), (3, .int 1), (4, .int 0), (5, .int (nI (v_la V i k True False n))), (6, .int (nI (n + 1)))] dX10_linesApart_29 (by decide) rfl ?_
      refine m_iload_n C 4 dX10_linesApart_31 rfl ?_
      refine m_if_eq C 40 dX10_linesApart_32 (by decide) (fun h => absurd h (by decide)) (fun _ => ?_)
      refine m_iload C 0 dX10_linesApart_35 rfl ?_
      refine m_if_lt C 50 dX10_linesApart_37 (by decide) (fun hh2 => ?_) (fun hh2 => ?_)
      · replace hh2 := (ii_lt (ii_sub (nn_i (a := v_sh V i (n + 1)) rfl (by omega)) (nn_i (a := v_as V i k (n + 1)) rfl (by omega)) (by omega) (by omega)) (nn_i (a := 0) rfl (by omega))).mp hh2
        refine m_iinc C 6 (nI (v_la V i k True False n + 1)) [(5, .int (nI (v_la V i k True False n + 1))), (7, .int ((nI (v_sh V i (n + 1))) - (nI (v_as V i k (n + 1))))), (0, .ref (G.1 0)), (1, .int (nI i)), (2, .int (nI k)), (3, .int 1), (4, .int 0), (6, .int (nI (n + 1)))] dX10_linesApart_50 rfl (nn_add rfl (show Int32.ofInt 1 = nI 1 from rfl)) (by decide) rfl ?_
        refine m_iinc C 7 (nI (n + 1 + 1)) [(6, .int (nI (n + 1 + 1))), (5, .int (nI (v_la V i k True False n + 1))), (7, .int ((nI (v_sh V i (n + 1))) - (nI (v_as V i k (n + 1))))), (0, .ref (G.1 0)), (1, .int (nI i)), (2, .int (nI k)), (3, .int 1), (4, .int 0)] dX10_linesApart_53 rfl (nn_add rfl (show Int32.ofInt 1 = nI 1 from rfl)) (by decide) rfl ?_
        rw [show nI (v_la V i k True False n + 1) = nI (v_la V i k True False (n + 1)) from congrArg nI (show v_la V i k True False n + 1 = v_la V i k True False (n + 1) by show _ = v_la V i k True False n + _; rw [if_pos (by simp; omega)])]
        refine m_goto C 6 dX10_linesApart_56 (by decide) ?_
        exact m_sub [3, 4, 5, 6, 7, 1, 0] rfl (ih6 (n + 1) (by omega) (by omega))
      replace hh2 := mt (ii_lt (ii_sub (nn_i (a := v_sh V i (n + 1)) rfl (by omega)) (nn_i (a := v_as V i k (n + 1)) rfl (by omega)) (by omega) (by omega)) (nn_i (a := 0) rfl (by omega))).mpr hh2
      refine m_iload C 5 dX10_linesApart_40 rfl ?_
      refine m_if_eq C 53 dX10_linesApart_42 (by decide) (fun _ => ?_) (fun h => absurd (by decide) h)
      refine m_iinc C 7 (nI (n + 1 + 1)) [(6, .int (nI (n + 1 + 1))), (7, .int ((nI (v_sh V i (n + 1))) - (nI (v_as V i k (n + 1))))), (0, .ref (G.1 0)), (1, .int (nI i)), (2, .int (nI k)), (3, .int 1), (4, .int 0), (5, .int (nI (v_la V i k True False n)))] dX10_linesApart_53 rfl (nn_add rfl (show Int32.ofInt 1 = nI 1 from rfl)) (by decide) rfl ?_
      rw [show nI (v_la V i k True False n) = nI (v_la V i k True False (n + 1)) from congrArg nI (show v_la V i k True False n = v_la V i k True False (n + 1) by show _ = v_la V i k True False n + _; rw [if_neg (by simp; omega), Nat.add_zero])]
      refine m_goto C 6 dX10_linesApart_56 (by decide) ?_
      exact m_sub [2, 3, 4, 5, 6, 7, 0] rfl (ih6 (n + 1) (by omega) (by omega))
  exact m_sub [2, 3, 4, 5, 6, 1, 0] rfl (L6 (_ + 1) 0 (Nat.zero_le _) (Nat.lt_succ_self _))

set_option maxHeartbeats 4000000 in
set_option maxRecDepth 100000 in
theorem c_X10_linesApart_01 (l : Launch) (G : Gl) (mu : Mu) (nu : Nu) (V : Vw) (hv : zv mu V) (i : Nat) (hi : i < v_N V) (k : Nat) (hk : k < 6) : Cf l G mX10_linesApart 6 [.ref (G.1 0), .int (nI i), .int (nI k), .int 0, .int 1] mu nu (.int (nI (v_la V i k False True 9))) := by
  have hw := hv.1
  have hN7 := hw.1
  have hm7 := hw.2.2.1
  have ho8 := hw.2.2.2.2
  refine Ct.of (lv := [(0, .ref (G.1 0)), (1, .int (nI i)), (2, .int (nI k)), (3, .int 0), (4, .int 1)]) rfl rfl (Nat.le_of_ble_eq_true rfl) rfl (fun X C => ?_)
  generalize hQ : g_E G X _ = Q
  replace C : Cx G 8 X cX10_linesApart RX10 (some .int) 6 := C
  show Mq l G 8 X Q 0 [(0, .ref (G.1 0)), (1, .int (nI i)), (2, .int (nI k)), (3, .int 0), (4, .int 1)] [] mu nu
  refine m_iconst C 0 dX10_linesApart_0 (by decide +kernel) ?_
  refine m_istore C [(5, .int 0), (0, .ref (G.1 0)), (1, .int (nI i)), (2, .int (nI k)), (3, .int 0), (4, .int 1)] dX10_linesApart_1 (by decide) rfl ?_
  refine m_iconst C 1 dX10_linesApart_3 (by decide +kernel) ?_
  refine m_istore C [(6, .int 1), (5, .int 0), (0, .ref (G.1 0)), (1, .int (nI i)), (2, .int (nI k)), (3, .int 0), (4, .int 1)] dX10_linesApart_4 (by decide) rfl ?_
  have L6 : ∀ (fu : Nat) (n : Nat) (hn : n ≤ 9), 9 - n < fu → Mq l G 8 X Q 6 [(0, .ref (G.1 0)), (1, .int (nI i)), (2, .int (nI k)), (3, .int 0), (4, .int 1), (5, .int (nI (v_la V i k False True n))), (6, .int (nI (n + 1)))] [] mu nu := by
    intro fu
    induction fu with
    | zero => intro n hn hm; exact absurd hm (Nat.not_lt_zero _)
    | succ fu ih6 =>
      intro n hn hm
      have hle := v_la_le (V := V) (i := i) (k := k) (less := False) (more := True) n
      refine m_iload C 6 dX10_linesApart_6 rfl ?_
      refine m_bipush C 9 dX10_linesApart_8 (by decide +kernel) ?_
      refine m_icmp_gt C 59 dX10_linesApart_10 (by decide) (fun hh1 => ?_) (fun hh1 => ?_)
      · replace hh1 := (ii_lt (nn_i (a := 9) rfl (by omega)) (nn_i (a := n + 1) rfl (by omega))).mp hh1
        refine m_iload C 5 dX10_linesApart_59 rfl ?_
        refine m_iretf C hQ dX10_linesApart_61 rfl rfl ?_
        have e : n = 9 := by omega
        subst e; rfl
      replace hh1 := mt (ii_lt (nn_i (a := 9) rfl (by omega)) (nn_i (a := n + 1) rfl (by omega))).mpr hh1
      have hs1 := v_sh_le hw hi (n := n + 1) (by omega)
      have hs2 := v_as_le hw hi (k := k) (n := n + 1) (by omega)
      refine m_aload_n C 0 dX10_linesApart_13 rfl ?_
      refine m_iload_n C 1 dX10_linesApart_14 rfl ?_
      refine m_iload C 6 dX10_linesApart_15 rfl ?_
      refine m_callVf C 0 (by decide) rfl rfl (c_X10_shownNow l G mu nu V hv i (by omega) (n + 1) (by omega) (by omega)) wkX10_162 (by decide) rfl rfl (Nat.le_of_ble_eq_true rfl) dX10_linesApart_17 ?_
      refine m_aload_n C 0 dX10_linesApart_20 rfl ?_
      refine m_iload_n C 1 dX10_linesApart_21 rfl ?_
      refine m_iload_n C 2 dX10_linesApart_22 rfl ?_
      refine m_iload C 6 dX10_linesApart_23 rfl ?_
      refine m_callVf C 0 (by decide) rfl rfl (c_X10_shownAs l G mu nu V hv i (by omega) k (by omega) (n + 1) (by omega) (by omega)) wkX10_339 (by decide) rfl rfl (Nat.le_of_ble_eq_true rfl) dX10_linesApart_25 ?_
      refine m_isub C dX10_linesApart_28 ?_
      refine m_istore C [(7, .int ((nI (v_sh V i (n + 1))) - (nI (v_as V i k (n + 1))))), (0, .ref (G.1 0)), (1, .int (nI i)), (2, .int (nI k)), (3, .int 0), (4, .int 1), (5, .int (nI (v_la V i k False True n))), (6, .int (nI (n + 1)))] dX10_linesApart_29 (by decide) rfl ?_
      refine m_iload_n C 4 dX10_linesApart_31 rfl ?_
      refine m_if_eq C 40 dX10_linesApart_32 (by decide) (fun _ => ?_) (fun h => absurd (by decide) h)
      refine m_iload C 5 dX10_linesApart_40 rfl ?_
      refine m_if_eq C 53 dX10_linesApart_42 (by decide) (fun h => absurd h (by decide)) (fun _ => ?_)
      refine m_iload C 0 dX10_linesApart_45 rfl ?_
      refine m_if_le C 53 dX10_linesApart_47 (by decide) (fun hh2 => ?_) (fun hh2 => ?_)
      · replace hh2 := (ii_le (ii_sub (nn_i (a := v_sh V i (n + 1)) rfl (by omega)) (nn_i (a := v_as V i k (n + 1)) rfl (by omega)) (by omega) (by omega)) (nn_i (a := 0) rfl (by omega))).mp hh2
        refine m_iinc C 7 (nI (n + 1 + 1)) [(6, .int (nI (n + 1 + 1))), (7, .int ((nI (v_sh V i (n + 1))) - (nI (v_as V i k (n + 1))))), (0, .ref (G.1 0)), (1, .int (nI i)), (2, .int (nI k)), (3, .int 0), (4, .int 1), (5, .int (nI (v_la V i k False True n)))] dX10_linesApart_53 rfl (nn_add rfl (show Int32.ofInt 1 = nI 1 from rfl)) (by decide) rfl ?_
        rw [show nI (v_la V i k False True n) = nI (v_la V i k False True (n + 1)) from congrArg nI (show v_la V i k False True n = v_la V i k False True (n + 1) by show _ = v_la V i k False True n + _; rw [if_neg (by simp; omega), Nat.add_zero])]
        refine m_goto C 6 dX10_linesApart_56 (by decide) ?_
        exact m_sub [2, 3, 4, 5, 6, 7, 0] rfl (ih6 (n + 1) (by omega) (by omega))
      replace hh2 := mt (ii_le (ii_sub (nn_i (a := v_sh V i (n + 1)) rfl (by omega)) (nn_i (a := v_as V i k (n + 1)) rfl (by omega)) (by omega) (by omega)) (nn_i (a := 0) rfl (by omega))).mpr hh2
      refine m_iinc C 6 (nI (v_la V i k False True n + 1)) [(5, .int (nI (v_la V i k False True n + 1))), (7, .int ((nI (v_sh V i (n + 1))) - (nI (v_as V i k (n + 1))))), (0, .ref (G.1 0)), (1, .int (nI i)), (2, .int (nI k)), (3, .int 0), (4, .int 1), (6, .int (nI (n + 1)))] dX10_linesApart_50 rfl (nn_add rfl (show Int32.ofInt 1 = nI 1 from rfl)) (by decide) rfl ?_
      refine m_iinc C 7 (nI (n + 1 + 1)) [(6, .int (nI (n + 1 + 1))), (5, .int (nI (v_la V i k False True n + 1))), (7, .int ((nI (v_sh V i (n + 1))) - (nI (v_as V i k (n + 1))))), (0, .ref (G.1 0)), (1, .int (nI i)), (2, .int (nI k)), (3, .int 0), (4, .int 1)] dX10_linesApart_53 rfl (nn_add rfl (show Int32.ofInt 1 = nI 1 from rfl)) (by decide) rfl ?_
      rw [show nI (v_la V i k False True n + 1) = nI (v_la V i k False True (n + 1)) from congrArg nI (show v_la V i k False True n + 1 = v_la V i k False True (n + 1) by show _ = v_la V i k False True n + _; rw [if_pos (by simp; omega)])]
      refine m_goto C 6 dX10_linesApart_56 (by decide) ?_
      exact m_sub [3, 4, 5, 6, 7, 1, 0] rfl (ih6 (n + 1) (by omega) (by omega))
  exact m_sub [2, 3, 4, 5, 6, 1, 0] rfl (L6 (_ + 1) 0 (Nat.zero_le _) (Nat.lt_succ_self _))

set_option maxHeartbeats 4000000 in
set_option maxRecDepth 100000 in
theorem c_X10_linesApart_11 (l : Launch) (G : Gl) (mu : Mu) (nu : Nu) (V : Vw) (hv : zv mu V) (i : Nat) (hi : i < v_N V) (k : Nat) (hk : k < 6) : Cf l G mX10_linesApart 6 [.ref (G.1 0), .int (nI i), .int (nI k), .int 1, .int 1] mu nu (.int (nI (v_la V i k True True 9))) := by
  have hw := hv.1
  have hN7 := hw.1
  have hm7 := hw.2.2.1
  have ho8 := hw.2.2.2.2
  refine Ct.of (lv := [(0, .ref (G.1 0)), (1, .int (nI i)), (2, .int (nI k)), (3, .int 1), (4, .int 1)]) rfl rfl (Nat.le_of_ble_eq_true rfl) rfl (fun X C => ?_)
  generalize hQ : g_E G X _ = Q
  replace C : Cx G 8 X cX10_linesApart RX10 (some .int) 6 := C
  show Mq l G 8 X Q 0 [(0, .ref (G.1 0)), (1, .int (nI i)), (2, .int (nI k)), (3, .int 1), (4, .int 1)] [] mu nu
  refine m_iconst C 0 dX10_linesApart_0 (by decide +kernel) ?_
  refine m_istore C [(5, .int 0), (0, .ref (G.1 0)), (1, .int (nI i)), (2, .int (nI k)), (3, .int 1), (4, .int 1)] dX10_linesApart_1 (by decide) rfl ?_
  refine m_iconst C 1 dX10_linesApart_3 (by decide +kernel) ?_
  refine m_istore C [(6, .int 1), (5, .int 0), (0, .ref (G.1 0)), (1, .int (nI i)), (2, .int (nI k)), (3, .int 1), (4, .int 1)] dX10_linesApart_4 (by decide) rfl ?_
  have L6 : ∀ (fu : Nat) (n : Nat) (hn : n ≤ 9), 9 - n < fu → Mq l G 8 X Q 6 [(0, .ref (G.1 0)), (1, .int (nI i)), (2, .int (nI k)), (3, .int 1), (4, .int 1), (5, .int (nI (v_la V i k True True n))), (6, .int (nI (n + 1)))] [] mu nu := by
    intro fu
    induction fu with
    | zero => intro n hn hm; exact absurd hm (Nat.not_lt_zero _)
    | succ fu ih6 =>
      intro n hn hm
      have hle := v_la_le (V := V) (i := i) (k := k) (less := True) (more := True) n
      refine m_iload C 6 dX10_linesApart_6 rfl ?_
      refine m_bipush C 9 dX10_linesApart_8 (by decide +kernel) ?_
      refine m_icmp_gt C 59 dX10_linesApart_10 (by decide) (fun hh1 => ?_) (fun hh1 => ?_)
      · replace hh1 := (ii_lt (nn_i (a := 9) rfl (by omega)) (nn_i (a := n + 1) rfl (by omega))).mp hh1
        refine m_iload C 5 dX10_linesApart_59 rfl ?_
        refine m_iretf C hQ dX10_linesApart_61 rfl rfl ?_
        have e : n = 9 := by omega
        subst e; rfl
      replace hh1 := mt (ii_lt (nn_i (a := 9) rfl (by omega)) (nn_i (a := n + 1) rfl (by omega))).mpr hh1
      have hs1 := v_sh_le hw hi (n := n + 1) (by omega)
      have hs2 := v_as_le hw hi (k := k) (n := n + 1) (by omega)
      refine m_aload_n C 0 dX10_linesApart_13 rfl ?_
      refine m_iload_n C 1 dX10_linesApart_14 rfl ?_
      refine m_iload C 6 dX10_linesApart_15 rfl ?_
      refine m_callVf C 0 (by decide) rfl rfl (c_X10_shownNow l G mu nu V hv i (by omega) (n + 1) (by omega) (by omega)) wkX10_162 (by decide) rfl rfl (Nat.le_of_ble_eq_true rfl) dX10_linesApart_17 ?_
      refine m_aload_n C 0 dX10_linesApart_20 rfl ?_
      refine m_iload_n C 1 dX10_linesApart_21 rfl ?_
      refine m_iload_n C 2 dX10_linesApart_22 rfl ?_
      refine m_iload C 6 dX10_linesApart_23 rfl ?_
      refine m_callVf C 0 (by decide) rfl rfl (c_X10_shownAs l G mu nu V hv i (by omega) k (by omega) (n + 1) (by omega) (by omega)) wkX10_339 (by decide) rfl rfl (Nat.le_of_ble_eq_true rfl) dX10_linesApart_25 ?_
      refine m_isub C dX10_linesApart_28 ?_
      refine m_istore C [(7, .int ((nI (v_sh V i (n + 1))) - (nI (v_as V i k (n + 1))))), (0, .ref (G.1 0)), (1, .int (nI i)), (2, .int (nI k)), (3, .int 1), (4, .int 1), (5, .int (nI (v_la V i k True True n))), (6, .int (nI (n + 1)))] dX10_linesApart_29 (by decide) rfl ?_
      refine m_iload_n C 4 dX10_linesApart_31 rfl ?_
      refine m_if_eq C 40 dX10_linesApart_32 (by decide) (fun h => absurd h (by decide)) (fun _ => ?_)
      refine m_iload C 0 dX10_linesApart_35 rfl ?_
      refine m_if_lt C 50 dX10_linesApart_37 (by decide) (fun hh2 => ?_) (fun hh2 => ?_)
      · replace hh2 := (ii_lt (ii_sub (nn_i (a := v_sh V i (n + 1)) rfl (by omega)) (nn_i (a := v_as V i k (n + 1)) rfl (by omega)) (by omega) (by omega)) (nn_i (a := 0) rfl (by omega))).mp hh2
        refine m_iinc C 6 (nI (v_la V i k True True n + 1)) [(5, .int (nI (v_la V i k True True n + 1))), (7, .int ((nI (v_sh V i (n + 1))) - (nI (v_as V i k (n + 1))))), (0, .ref (G.1 0)), (1, .int (nI i)), (2, .int (nI k)), (3, .int 1), (4, .int 1), (6, .int (nI (n + 1)))] dX10_linesApart_50 rfl (nn_add rfl (show Int32.ofInt 1 = nI 1 from rfl)) (by decide) rfl ?_
        refine m_iinc C 7 (nI (n + 1 + 1)) [(6, .int (nI (n + 1 + 1))), (5, .int (nI (v_la V i k True True n + 1))), (7, .int ((nI (v_sh V i (n + 1))) - (nI (v_as V i k (n + 1))))), (0, .ref (G.1 0)), (1, .int (nI i)), (2, .int (nI k)), (3, .int 1), (4, .int 1)] dX10_linesApart_53 rfl (nn_add rfl (show Int32.ofInt 1 = nI 1 from rfl)) (by decide) rfl ?_
        rw [show nI (v_la V i k True True n + 1) = nI (v_la V i k True True (n + 1)) from congrArg nI (show v_la V i k True True n + 1 = v_la V i k True True (n + 1) by show _ = v_la V i k True True n + _; rw [if_pos (by simp; omega)])]
        refine m_goto C 6 dX10_linesApart_56 (by decide) ?_
        exact m_sub [3, 4, 5, 6, 7, 1, 0] rfl (ih6 (n + 1) (by omega) (by omega))
      replace hh2 := mt (ii_lt (ii_sub (nn_i (a := v_sh V i (n + 1)) rfl (by omega)) (nn_i (a := v_as V i k (n + 1)) rfl (by omega)) (by omega) (by omega)) (nn_i (a := 0) rfl (by omega))).mpr hh2
      refine m_iload C 5 dX10_linesApart_40 rfl ?_
      refine m_if_eq C 53 dX10_linesApart_42 (by decide) (fun h => absurd h (by decide)) (fun _ => ?_)
      refine m_iload C 0 dX10_linesApart_45 rfl ?_
      refine m_if_le C 53 dX10_linesApart_47 (by decide) (fun hh3 => ?_) (fun hh3 => ?_)
      · replace hh3 := (ii_le (ii_sub (nn_i (a := v_sh V i (n + 1)) rfl (by omega)) (nn_i (a := v_as V i k (n + 1)) rfl (by omega)) (by omega) (by omega)) (nn_i (a := 0) rfl (by omega))).mp hh3
        refine m_iinc C 7 (nI (n + 1 + 1)) [(6, .int (nI (n + 1 + 1))), (7, .int ((nI (v_sh V i (n + 1))) - (nI (v_as V i k (n + 1))))), (0, .ref (G.1 0)), (1, .int (nI i)), (2, .int (nI k)), (3, .int 1), (4, .int 1), (5, .int (nI (v_la V i k True True n)))] dX10_linesApart_53 rfl (nn_add rfl (show Int32.ofInt 1 = nI 1 from rfl)) (by decide) rfl ?_
        rw [show nI (v_la V i k True True n) = nI (v_la V i k True True (n + 1)) from congrArg nI (show v_la V i k True True n = v_la V i k True True (n + 1) by show _ = v_la V i k True True n + _; rw [if_neg (by simp; omega), Nat.add_zero])]
        refine m_goto C 6 dX10_linesApart_56 (by decide) ?_
        exact m_sub [2, 3, 4, 5, 6, 7, 0] rfl (ih6 (n + 1) (by omega) (by omega))
      replace hh3 := mt (ii_le (ii_sub (nn_i (a := v_sh V i (n + 1)) rfl (by omega)) (nn_i (a := v_as V i k (n + 1)) rfl (by omega)) (by omega) (by omega)) (nn_i (a := 0) rfl (by omega))).mpr hh3
      refine m_iinc C 6 (nI (v_la V i k True True n + 1)) [(5, .int (nI (v_la V i k True True n + 1))), (7, .int ((nI (v_sh V i (n + 1))) - (nI (v_as V i k (n + 1))))), (0, .ref (G.1 0)), (1, .int (nI i)), (2, .int (nI k)), (3, .int 1), (4, .int 1), (6, .int (nI (n + 1)))] dX10_linesApart_50 rfl (nn_add rfl (show Int32.ofInt 1 = nI 1 from rfl)) (by decide) rfl ?_
      refine m_iinc C 7 (nI (n + 1 + 1)) [(6, .int (nI (n + 1 + 1))), (5, .int (nI (v_la V i k True True n + 1))), (7, .int ((nI (v_sh V i (n + 1))) - (nI (v_as V i k (n + 1))))), (0, .ref (G.1 0)), (1, .int (nI i)), (2, .int (nI k)), (3, .int 1), (4, .int 1)] dX10_linesApart_53 rfl (nn_add rfl (show Int32.ofInt 1 = nI 1 from rfl)) (by decide) rfl ?_
      rw [show nI (v_la V i k True True n + 1) = nI (v_la V i k True True (n + 1)) from congrArg nI (show v_la V i k True True n + 1 = v_la V i k True True (n + 1) by show _ = v_la V i k True True n + _; rw [if_pos (by simp; omega)])]
      refine m_goto C 6 dX10_linesApart_56 (by decide) ?_
      exact m_sub [3, 4, 5, 6, 7, 1, 0] rfl (ih6 (n + 1) (by omega) (by omega))
  exact m_sub [2, 3, 4, 5, 6, 1, 0] rfl (L6 (_ + 1) 0 (Nat.zero_le _) (Nat.lt_succ_self _))

set_option maxHeartbeats 4000000 in
set_option maxRecDepth 100000 in
theorem c_X10_slidBy (l : Launch) (G : Gl) (mu : Mu) (nu : Nu) (V : Vw) (hv : zv mu V) (i : Nat) (hi : i < v_N V) : Cf l G mX10_slidBy 6 [.ref (G.1 0), .int (nI i)] mu nu (.int (if v_mk V i = 0 then 0 else nI (v_sh V i (v_mk V i)) - nI (v_as V i 0 (v_mk V i)))) := by
  have hw := hv.1
  have hN7 := hw.1
  have hm7 := hw.2.2.1
  have ho8 := hw.2.2.2.2
  have hri := hw.2.1 i hi
  have hmi := nI_toInt (n := v_mk V i) (by omega)
  refine Ct.of (lv := [(0, .ref (G.1 0)), (1, .int (nI i))]) rfl rfl (Nat.le_of_ble_eq_true rfl) rfl (fun X C => ?_)
  generalize hQ : g_E G X _ = Q
  replace C : Cx G 3 X cX10_slidBy RX10 (some .int) 6 := C
  show Mq l G 3 X Q 0 [(0, .ref (G.1 0)), (1, .int (nI i))] [] mu nu
  refine m_aload_n C 0 dX10_slidBy_0 rfl ?_
  refine gfX10_43 C dX10_slidBy_1 ?_
  refine m_iload_n C 1 dX10_slidBy_4 rfl ?_
  refine m_aald C 30 (by decide) 3 rfl ra_30 i (G.1 (31 + i)) rfl (by omega) (by decide) rfl dX10_slidBy_5 ?_
  refine gfX10_238 C (31 + i) (rdc_of (by omega)) dX10_slidBy_6 ?_
  refine m_topi (nI (v_mk V i)) (zv_mk hv hi) ?_
  refine m_istore_n C [(2, .int (nI (v_mk V i))), (0, .ref (G.1 0)), (1, .int (nI i))] dX10_slidBy_9 (by decide) rfl ?_
  refine m_iload_n C 0 dX10_slidBy_10 rfl ?_
  refine m_callSf C (c_X10_isLine l G mu nu (nI (v_mk V i))) wkX10_159 (by decide) rfl rfl (Nat.le_of_ble_eq_true rfl) dX10_slidBy_11 ?_
  refine m_if_eq C 34 dX10_slidBy_14 (by decide) (fun hh1 => ?_) (fun hh1 => ?_)
  · replace hh1 := bI_eq0.mp hh1
    refine m_iconst C 0 dX10_slidBy_34 (by decide +kernel) ?_
    refine m_iretf C hQ dX10_slidBy_35 rfl rfl ?_
    rw [if_pos (by omega)]
  replace hh1 := bI_ne0.mp hh1
  refine m_aload_n C 1 dX10_slidBy_17 rfl ?_
  refine m_iload_n C 2 dX10_slidBy_18 rfl ?_
  refine m_iload_n C 0 dX10_slidBy_19 rfl ?_
  refine m_callVf C 0 (by decide) rfl rfl (c_X10_shownNow l G mu nu V hv i (by omega) (v_mk V i) (by omega) (by omega)) wkX10_162 (by decide) rfl rfl (Nat.le_of_ble_eq_true rfl) dX10_slidBy_20 ?_
  refine m_aload_n C 1 dX10_slidBy_23 rfl ?_
  refine m_iload_n C 2 dX10_slidBy_24 rfl ?_
  refine m_iconst C 0 dX10_slidBy_25 (by decide +kernel) ?_
  refine m_iload_n C 0 dX10_slidBy_26 rfl ?_
  refine m_callVf C 0 (by decide) rfl rfl (c_X10_shownAs l G mu nu V hv i (by omega) 0 (by omega) (v_mk V i) (by omega) (by omega)) wkX10_339 (by decide) rfl rfl (Nat.le_of_ble_eq_true rfl) dX10_slidBy_27 ?_
  refine m_isub C dX10_slidBy_30 ?_
  refine m_goto C 35 dX10_slidBy_31 (by decide) ?_
  refine m_iretf C hQ dX10_slidBy_35 rfl rfl ?_
  rw [if_neg (by omega)]

set_option maxHeartbeats 4000000 in
set_option maxRecDepth 100000 in
theorem c_X10_fits (l : Launch) (G : Gl) (mu : Mu) (nu : Nu) (kd : Nat) (hkd : kd < 6) (d m : Nat) (hd : d ≤ 9) (hm9 : m ≤ 9) (c : Nat) (hc : stc c) (xs : List Int32) (hl : mu c 1 = nI xs.length) (hl60 : xs.length ≤ 60) (hxs : ∀ j, j < xs.length → mu (c + 1) j = xs.getD j 0) (hev : xs.length % 2 = 0) (hok : ∀ k, k < xs.length / 2 → (1 ≤ (xs.getD (2 * k) 0).toInt ∧ (xs.getD (2 * k) 0).toInt < 10) ∧ 0 ≤ (xs.getD (2 * k + 1) 0).toInt ∧ (xs.getD (2 * k + 1) 0).toInt ≤ 999999999) : Cf l G mX10_fits 5 [.ref (G.1 (24 + kd)), .int (nI d), .int (nI m), .ref (G.1 c)] mu nu (.int (bI (∀ k, k < xs.length / 2 → nI (s_sh kd d m (s_ln xs k)) = xs.getD (2 * k + 1) 0))) := by
  refine Ct.of (lv := [(0, .ref (G.1 (24 + kd))), (1, .int (nI d)), (2, .int (nI m)), (3, .ref (G.1 c))]) rfl rfl (Nat.le_of_ble_eq_true rfl) rfl (fun X C => ?_)
  generalize hQ : g_E G X _ = Q
  replace C : Cx G 5 X cX10_fits RX10 (some .boolean) 5 := C
  show Mq l G 5 X Q 0 [(0, .ref (G.1 (24 + kd))), (1, .int (nI d)), (2, .int (nI m)), (3, .ref (G.1 c))] [] mu nu
  refine m_iconst C 0 dX10_fits_0 (by decide +kernel) ?_
  refine m_istore C [(4, .int 0), (0, .ref (G.1 (24 + kd))), (1, .int (nI d)), (2, .int (nI m)), (3, .ref (G.1 c))] dX10_fits_1 (by decide) rfl ?_
  have L3 : ∀ (fu : Nat) (k : Nat) (hk : 2 * k ≤ xs.length) (hq : ∀ j, j < k → nI (s_sh kd d m (s_ln xs j)) = xs.getD (2 * j + 1) 0), xs.length - 2 * k < fu → Mq l G 5 X Q 3 [(0, .ref (G.1 (24 + kd))), (1, .int (nI d)), (2, .int (nI m)), (3, .ref (G.1 c)), (4, .int (nI (2 * k)))] [] mu nu := by
    intro fu
    induction fu with
    | zero => intro k hk hq hm; exact absurd hm (Nat.not_lt_zero _)
    | succ fu ih3 =>
      intro k hk hq hm
      refine m_iload C 4 dX10_fits_3 rfl ?_
      refine m_iconst C 1 dX10_fits_5 (by decide +kernel) ?_
      refine m_iadd C dX10_fits_6 ?_
      refine m_topi (nI ((2 * k) + 1)) (nn_add rfl rfl) ?_
      refine m_aload_n C 3 dX10_fits_7 rfl ?_
      refine gfX10_103 C c hc dX10_fits_8 ?_
      refine m_topi (nI xs.length) hl ?_
      refine m_icmp_ge C 47 dX10_fits_11 (by decide) (fun hh1 => ?_) (fun hh1 => ?_)
      · replace hh1 := (ii_le (nn_i (a := xs.length) rfl (by omega)) (nn_i (a := (2 * k) + 1) rfl (by omega))).mp hh1
        refine m_iconst C 1 dX10_fits_47 (by decide +kernel) ?_
        refine m_zretf C hQ dX10_fits_48 rfl rfl rfl ?_
        exact bI_t (fun j hj => hq j (by omega))
      replace hh1 := mt (ii_le (nn_i (a := xs.length) rfl (by omega)) (nn_i (a := (2 * k) + 1) rfl (by omega))).mpr hh1
      obtain ⟨hp1, hp2, hp3⟩ := s_ln_eq (hok k (by omega))
      refine m_aload_n C 0 dX10_fits_14 rfl ?_
      refine m_iload_n C 1 dX10_fits_15 rfl ?_
      refine m_iload_n C 2 dX10_fits_16 rfl ?_
      refine m_aload_n C 3 dX10_fits_17 rfl ?_
      refine gfX10_92 C c hc dX10_fits_18 ?_
      refine m_iload C 4 dX10_fits_21 rfl ?_
      refine m_iald C (c + 1) (stc_lt1 hc) (sa_strip hc) (2 * k) rfl (by omega) (by decide) dX10_fits_23 ?_
      refine m_topi (nI (s_ln xs k)) ((hxs _ (by omega)).trans hp1) ?_
      refine m_shown C (k := kd) (d := d) (m := m) (n := s_ln xs k) (by omega) (by omega) (by omega) (by omega) (by omega) (by decide) (Nat.le_of_ble_eq_true rfl) dX10_fits_24 ?_
      have hs := s_sh_le (k := kd) (m := m) hd hp3
      refine m_aload_n C 3 dX10_fits_27 rfl ?_
      refine gfX10_92 C c hc dX10_fits_28 ?_
      refine m_iload C 4 dX10_fits_31 rfl ?_
      refine m_iconst C 1 dX10_fits_33 (by decide +kernel) ?_
      refine m_iadd C dX10_fits_34 ?_
      refine m_topi (nI ((2 * k) + 1)) (nn_add rfl rfl) ?_
      refine m_iald C (c + 1) (stc_lt1 hc) (sa_strip hc) ((2 * k) + 1) rfl (by omega) (by decide) dX10_fits_35 ?_
      refine m_topi (xs.getD (2 * k + 1) 0) (hxs _ (by omega)) ?_
      refine m_icmp_eq C 41 dX10_fits_36 (by decide) (fun hh2 => ?_) (fun hh2 => ?_)
      · replace hh2 := (ii_eq (nn_i (a := s_sh kd d m (s_ln xs k)) rfl (by omega)) (rfl : (xs.getD (2 * k + 1) 0).toInt = _)).mp hh2
        refine m_iinc C 4 (nI (2 * k + 2)) [(4, .int (nI (2 * k + 2))), (0, .ref (G.1 (24 + kd))), (1, .int (nI d)), (2, .int (nI m)), (3, .ref (G.1 c))] dX10_fits_41 rfl (nn_add rfl (show Int32.ofInt 2 = nI 2 from rfl)) (by decide) rfl ?_
        refine m_goto C 3 dX10_fits_44 (by decide) ?_
        exact m_sub [1, 2, 3, 4, 0] rfl (ih3 (k + 1) (by omega) (fun j hj => by
                  by_cases e : j = k
                  · subst e; exact Int32.toInt_inj.mp ((nI_toInt (by omega)).trans hh2)
                  · exact hq j (by omega)) (by omega))
      replace hh2 := mt (ii_eq (nn_i (a := s_sh kd d m (s_ln xs k)) rfl (by omega)) (rfl : (xs.getD (2 * k + 1) 0).toInt = _)).mpr hh2
      refine m_iconst C 0 dX10_fits_39 (by decide +kernel) ?_
      refine m_zretf C hQ dX10_fits_40 rfl rfl rfl ?_
      exact bI_f (fun hall => absurd (congrArg Int32.toInt (hall k (by omega))) (by rw [nI_toInt (by omega)]; exact hh2))
  exact m_sub [1, 2, 3, 4, 0] rfl (L3 (_ + 1) 0 (Nat.zero_le _) (fun j hj => absurd hj (Nat.not_lt_zero _)) (Nat.lt_succ_self _))
