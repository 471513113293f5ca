theorem ln_i {x : Int64} {a : Nat} (hx : x = lN a) (ha : a < 2 ^ 63) : x.toInt = (a : Int) := by rw [hx, pk_lT ha]
theorem ln_add {x y : Int64} {a b : Nat} (hx : x = lN a) (hy : y = lN b) : x + y = lN (a + b) := by rw [hx, hy, lN_add]
theorem ln_mul {x y : Int64} {a b : Nat} (hx : x = lN a) (hy : y = lN b) : x * y = lN (a * b) := by rw [hx, hy, lN_mul]
theorem ln_div {x y : Int64} {a b : Nat} (hx : x = lN a) (hy : y = lN b) (ha : a < 2 ^ 63) (h0 : 0 < b) (hb : b < 2 ^ 63) : x / y = lN (a / b) := by rw [hx, hy, pk_lDiv ha h0 hb]
theorem ln_rem {x y : Int64} {a b : Nat} (hx : x = lN a) (hy : y = lN b) (ha : a < 2 ^ 63) (h0 : 0 < b) (hb : b < 2 ^ 63) : x - x / y * y = lN (a % b) := by rw [hx, hy, pk_lRem ha h0 hb]
theorem ln_i2l {x : Int32} {a : Nat} (hx : x = nI a) (ha : a < 2 ^ 31) : x.toInt64 = lN a := by rw [hx, nI_l ha]
theorem ln_l2i {x : Int64} {a : Nat} (hx : x = lN a) : x.toInt32 = nI a := by rw [hx, lN_i]
theorem ln_ne {a : Nat} (h0 : 0 < a) (ha : a < 2 ^ 63) : ¬ lN a = 0 := fun h => by
  have := (pk_lEQ (a := a) (b := 0) ha (by decide)).mp h
  omega
/-- the weight of those that are left, of 12 each -/
def s_wt (set p : Nat) : Nat → Nat
  | 0 => 1
  | k + 1 => s_wt set p k * (if set / 2 ^ k % 2 = 1 then 12 - p else p)
def s_ct (x : Nat → Option (List Int32)) : Nat → Nat
  | 0 => 0
  | r + 1 => s_ct x r + (if (x r).isSome = true then 1 else 0)
theorem s_ct_le {x : Nat → Option (List Int32)} : ∀ r, s_ct x r ≤ r
  | 0 => Nat.le_refl _
  | r + 1 => by
    have := s_ct_le (x := x) r
    unfold s_ct
    split <;> omega
def s_kc (x : Nat → Option Zb) : Nat → Nat
  | 0 => 0
  | r + 1 => s_kc x r + (if (x r).isSome = true then 1 else 0)
def v_ho (V : Vw) (t : Nat) : Nat → Nat
  | 0 => 0
  | i + 1 => v_ho V t i + (if v_kd V i = t ∨ (t = 1 ∧ v_kd V i = 4) ∨ (t = 2 ∧ v_kd V i = 5) then 1 else 0)
theorem zs_is {mu : Mu} {c cap : Nat} {x : Option (List Int32)} (h : z_st mu c cap x) (hc : cap ≤ 60) : x.isSome = true ↔ ¬ (mu c 1).toInt = -1 := by
  cases x with
  | none =>
    have h1 : mu c 1 = -1 := h
    have h2 : (mu c 1).toInt = -1 := by rw [h1]; decide +kernel
    exact ⟨fun z => absurd z (by decide), fun z => absurd h2 z⟩
  | some xs =>
    have h1 : mu c 1 = nI xs.length := h.1
    have h2 : xs.length ≤ cap := h.2.1
    refine ⟨fun _ => ?_, fun _ => rfl⟩
    rw [h1, nI_toInt (by omega)]
    omega
/-- sizes and places of a strip, mixed -/
def s_hp (xs : List Int32) (h : Int64) : Nat → Int64
  | 0 => 31 * h + lN xs.length
  | j + 1 => 31 * s_hp xs h j + (xs.getD j 0).toInt64
def s_h1 (x : Option (List Int32)) (h : Int64) : Int64 := match x with
  | none => 31 * h + (-1)
  | some xs => s_hp xs h xs.length
def s_hs (x : Nat → Option (List Int32)) (h : Int64) : Nat → Int64
  | 0 => h
  | r + 1 => s_h1 (x r) (s_hs x h r)
theorem gcd_step {x y : Nat} (hy : 0 < y) (hyx : y ≤ x) : 2 * (y * (x % y)) < x * y := by
  have h1 : x % y < y := Nat.mod_lt _ hy
  have h2 := Nat.div_add_mod x y
  have h3 : 1 ≤ x / y := Nat.div_pos hyx hy
  have h4 : y * 1 ≤ y * (x / y) := Nat.mul_le_mul_left _ h3
  have h5 : 2 * (x % y) < x := by omega
  calc 2 * (y * (x % y)) = y * (2 * (x % y)) := by rw [← Nat.mul_assoc, Nat.mul_comm 2 y, Nat.mul_assoc]
    _ < y * x := Nat.mul_lt_mul_of_pos_left h5 hy
    _ = x * y := Nat.mul_comm _ _
theorem gcd_next {x y s : Nat} (hy : 0 < y) (hs : s < 200) (h : (s = 0 ∧ x * y < 2 ^ 150) ∨ (y ≤ x ∧ x * y < 2 ^ (200 - s))) : x % y ≤ y ∧ y * (x % y) < 2 ^ (200 - (s + 1)) := by
  have h1 : x % y < y := Nat.mod_lt _ hy
  refine ⟨by omega, ?_⟩
  rcases h with ⟨h0, h2⟩ | ⟨h0, h2⟩
  · subst h0
    have h3 : y * (x % y) ≤ y * x := Nat.mul_le_mul_left _ (Nat.mod_le _ _)
    have h4 : y * x < 2 ^ 150 := by rw [Nat.mul_comm]; exact h2
    exact Nat.lt_of_lt_of_le (Nat.lt_of_le_of_lt h3 h4) (Nat.pow_le_pow_right (by decide) (by decide))
  · have h3 := gcd_step hy h0
    have e : 200 - s = (200 - (s + 1)) + 1 := by omega
    rw [e, Nat.pow_succ] at h2
    omega
theorem gcd_end {x y s : Nat} (hs : 200 ≤ s) (h : (s = 0 ∧ x * y < 2 ^ 150) ∨ (y ≤ x ∧ x * y < 2 ^ (200 - s))) : y = 0 := by
  rcases h with ⟨h0, -⟩ | ⟨h0, h2⟩
  · omega
  · rw [show 200 - s = 0 by omega] at h2
    rcases Nat.eq_zero_or_pos y with h3 | h3
    · exact h3
    · have : 1 * 1 ≤ x * y := Nat.mul_le_mul (by omega) h3
      omega
set_option maxHeartbeats 4000000 in
set_option maxRecDepth 100000 in
theorem c_X10_wasReadWith (l : Launch) (G : Gl) (mu : Mu) (nu : Nu) (V : Vw) (hv : zv mu V) (pl : Nat) (hpl : pl < 7) (d : Nat) (hd : d ≤ 9) (c : Nat) (hc : stc c) (xs : List Int32) (hl : mu c 1 = nI xs.length) (hl60 : xs.length ≤ 60) (hxs : ∀ j, j < xs.length → mu (c + 1) j = xs.getD j 0) (hev : xs.length % 2 = 0) (hok : ∀ k, k < xs.length / 2 → (1 ≤ (xs.getD (2 * k) 0).toInt ∧ (xs.getD (2 * k) 0).toInt < 10) ∧ 0 ≤ (xs.getD (2 * k + 1) 0).toInt ∧ (xs.getD (2 * k + 1) 0).toInt ≤ 999999999) : Cf l G mX10_wasReadWith 6 [.ref (G.1 0), .int (nI pl), .int (nI d), .ref (G.1 c)] mu nu (.int (bI (∀ k, k < xs.length / 2 → nI (v_rw V pl d (s_ln xs k) (v_m V)) = xs.getD (2 * k + 1) 0))) := by
  have hw := hv.1
  have hN7 := hw.1
  have hm7 := hw.2.2.1
  have ho8 := hw.2.2.2.2
  have tpl := nI_toInt (n := pl) (by omega)
  refine Ct.of (lv := [(0, .ref (G.1 0)), (1, .int (nI pl)), (2, .int (nI d)), (3, .ref (G.1 c))]) rfl rfl (Nat.le_of_ble_eq_true rfl) rfl (fun X C => ?_)
  generalize hQ : g_E G X _ = Q
  replace C : Cx G 5 X cX10_wasReadWith RX10 (some .boolean) 6 := C
  show Mq l G 5 X Q 0 [(0, .ref (G.1 0)), (1, .int (nI pl)), (2, .int (nI d)), (3, .ref (G.1 c))] [] mu nu
  refine m_iconst C 0 dX10_wasReadWith_0 (by decide +kernel) ?_
  refine m_istore C [(4, .int 0), (0, .ref (G.1 0)), (1, .int (nI pl)), (2, .int (nI d)), (3, .ref (G.1 c))] dX10_wasReadWith_1 (by decide) rfl ?_
  have L3 : ∀ (fu : Nat) (k : Nat) (hk : 2 * k ≤ xs.length) (hq : ∀ j, j < k → nI (v_rw V pl d (s_ln xs j) (v_m V)) = xs.getD (2 * j + 1) 0), xs.length - 2 * k < fu → Mq l G 5 X Q 3 [(0, .ref (G.1 0)), (1, .int (nI pl)), (2, .int (nI d)), (3, .ref (G.1 c)), (4, .int (nI (2 * k)))] [] mu nu := by
    intro fu
    induction fu with
    | zero => intro k hk hq hm; exact absurd hm (Nat.not_lt_zero _)
    | succ fu ih3 =>
      intro k hk hq hm
      refine m_iload C 4 dX10_wasReadWith_3 rfl ?_
      refine m_iconst C 1 dX10_wasReadWith_5 (by decide +kernel) ?_
      refine m_iadd C dX10_wasReadWith_6 ?_
      refine m_topi (nI ((2 * k) + 1)) (nn_add rfl rfl) ?_
      refine m_aload_n C 3 dX10_wasReadWith_7 rfl ?_
      refine gfX10_103 C c hc dX10_wasReadWith_8 ?_
      refine m_topi (nI xs.length) hl ?_
      refine m_icmp_ge C 47 dX10_wasReadWith_11 (by decide) (fun hh1 => ?_) (fun hh1 => ?_)
      · replace hh1 := (ii_le (nn_i (a := xs.length) rfl (by omega)) (nn_i (a := (2 * k) + 1) rfl (by omega))).mp hh1
        refine m_iconst C 1 dX10_wasReadWith_47 (by decide +kernel) ?_
        refine m_zretf C hQ dX10_wasReadWith_48 rfl rfl rfl ?_
        exact bI_t (fun j hj => hq j (by omega))
      replace hh1 := mt (ii_le (nn_i (a := xs.length) rfl (by omega)) (nn_i (a := (2 * k) + 1) rfl (by omega))).mpr hh1
      obtain ⟨hp1, hp2, hp3⟩ := s_ln_eq (hok k (by omega))
      refine m_aload_n C 0 dX10_wasReadWith_14 rfl ?_
      refine m_iload_n C 1 dX10_wasReadWith_15 rfl ?_
      refine m_iload_n C 2 dX10_wasReadWith_16 rfl ?_
      refine m_aload_n C 3 dX10_wasReadWith_17 rfl ?_
      refine gfX10_92 C c hc dX10_wasReadWith_18 ?_
      refine m_iload C 4 dX10_wasReadWith_21 rfl ?_
      refine m_iald C (c + 1) (stc_lt1 hc) (sa_strip hc) (2 * k) rfl (by omega) (by decide) dX10_wasReadWith_23 ?_
      refine m_topi (nI (s_ln xs k)) ((hxs _ (by omega)).trans hp1) ?_
      refine m_callVf C 0 (by decide) rfl rfl ((by rw [← tpl]; exact c_X10_readWith l G mu nu V hv (nI pl) d hd (s_ln xs k) hp2 hp3 : Cf l G mX10_readWith 5 [.ref (G.1 0), .int (nI pl), .int (nI d), .int (nI (s_ln xs k))] mu nu (.int (nI (v_rw V pl d (s_ln xs k) (v_m V)))))) wkX10_342 (by decide) rfl rfl (Nat.le_of_ble_eq_true rfl) dX10_wasReadWith_24 ?_
      refine m_aload_n C 3 dX10_wasReadWith_27 rfl ?_
      refine gfX10_92 C c hc dX10_wasReadWith_28 ?_
      refine m_iload C 4 dX10_wasReadWith_31 rfl ?_
      refine m_iconst C 1 dX10_wasReadWith_33 (by decide +kernel) ?_
      refine m_iadd C dX10_wasReadWith_34 ?_
      refine m_topi (nI ((2 * k) + 1)) (nn_add rfl rfl) ?_
      refine m_iald C (c + 1) (stc_lt1 hc) (sa_strip hc) ((2 * k) + 1) rfl (by omega) (by decide) dX10_wasReadWith_35 ?_
      refine m_topi (xs.getD (2 * k + 1) 0) (hxs _ (by omega)) ?_
      refine m_icmp_eq C 41 dX10_wasReadWith_36 (by decide) (fun hh2 => ?_) (fun hh2 => ?_)
      · replace hh2 := (ii_eq (rfl : (nI (v_rw V pl d (s_ln xs k) (v_m V))).toInt = _) (rfl : (xs.getD (2 * k + 1) 0).toInt = _)).mp hh2
        refine m_iinc C 4 (nI (2 * k + 2)) [(4, .int (nI (2 * k + 2))), (0, .ref (G.1 0)), (1, .int (nI pl)), (2, .int (nI d)), (3, .ref (G.1 c))] dX10_wasReadWith_41 rfl (nn_add rfl (show Int32.ofInt 2 = nI 2 from rfl)) (by decide) rfl ?_
        refine m_goto C 3 dX10_wasReadWith_44 (by decide) ?_
        exact m_sub [1, 2, 3, 4, 0] rfl (ih3 (k + 1) (by omega) (fun j hj => by
                  by_cases e : j = k
                  · subst e; exact Int32.toInt_inj.mp hh2
                  · exact hq j (by omega)) (by omega))
      replace hh2 := mt (ii_eq (rfl : (nI (v_rw V pl d (s_ln xs k) (v_m V))).toInt = _) (rfl : (xs.getD (2 * k + 1) 0).toInt = _)).mpr hh2
      refine m_iconst C 0 dX10_wasReadWith_39 (by decide +kernel) ?_
      refine m_zretf C hQ dX10_wasReadWith_40 rfl rfl rfl ?_
      exact bI_f (fun hall => absurd (congrArg Int32.toInt (hall k (by omega))) hh2)
  exact m_sub [1, 2, 3, 4, 0] rfl (L3 (_ + 1) 0 (Nat.zero_le _) (fun j hj => absurd hj (Nat.not_lt_zero _)) (Nat.lt_succ_self _))

set_option maxHeartbeats 4000000 in
set_option maxRecDepth 100000 in
theorem c_X10_fittingKinds (l : Launch) (G : Gl) (mu : Mu) (nu : Nu) (V : Vw) (hv : zv mu V) (i : Nat) (hi : i < v_N V) (c : Nat) (hc : stc c) (xs : List Int32) (hl : mu c 1 = nI xs.length) (hl60 : xs.length ≤ 60) (hxs : ∀ j, j < xs.length → mu (c + 1) j = xs.getD j 0) (hev : xs.length % 2 = 0) (hok : ∀ k, k < xs.length / 2 → (1 ≤ (xs.getD (2 * k) 0).toInt ∧ (xs.getD (2 * k) 0).toInt < 10) ∧ 0 ≤ (xs.getD (2 * k + 1) 0).toInt ∧ (xs.getD (2 * k + 1) 0).toInt ≤ 999999999) : Cf l G mX10_fittingKinds 6 [.ref (G.1 0), .int (nI i), .ref (G.1 c)] mu nu (.int (nI (s_fk (v_dg V i) (v_mk V i) xs 6))) := by
  have hw := hv.1
  have hN7 := hw.1
  have hm7 := hw.2.2.1
  have ho8 := hw.2.2.2.2
  have hri := hw.2.1 i hi
  have hdi := v_dg_le hw hi
  refine Ct.of (lv := [(0, .ref (G.1 0)), (1, .int (nI i)), (2, .ref (G.1 c))]) rfl rfl (Nat.le_of_ble_eq_true rfl) rfl (fun X C => ?_)
  generalize hQ : g_E G X _ = Q
  replace C : Cx G 5 X cX10_fittingKinds RX10 (some .int) 6 := C
  show Mq l G 5 X Q 0 [(0, .ref (G.1 0)), (1, .int (nI i)), (2, .ref (G.1 c))] [] mu nu
  refine m_iconst C 0 dX10_fittingKinds_0 (by decide +kernel) ?_
  refine m_istore_n C [(3, .int 0), (0, .ref (G.1 0)), (1, .int (nI i)), (2, .ref (G.1 c))] dX10_fittingKinds_1 (by decide) rfl ?_
  refine m_iconst C 0 dX10_fittingKinds_2 (by decide +kernel) ?_
  refine m_istore C [(4, .int 0), (3, .int 0), (0, .ref (G.1 0)), (1, .int (nI i)), (2, .ref (G.1 c))] dX10_fittingKinds_3 (by decide) rfl ?_
  have L5 : ∀ (fu : Nat) (k : Nat) (hk : k ≤ 6), 6 - k < fu → Mq l G 5 X Q 5 [(0, .ref (G.1 0)), (1, .int (nI i)), (2, .ref (G.1 c)), (3, .int (nI (s_fk (v_dg V i) (v_mk V i) xs k))), (4, .int (nI k))] [] mu nu := by
    intro fu
    induction fu with
    | zero => intro k hk hm; exact absurd hm (Nat.not_lt_zero _)
    | succ fu ih5 =>
      intro k hk hm
      refine m_iload C 4 dX10_fittingKinds_5 rfl ?_
      refine m_bipush C 6 dX10_fittingKinds_7 (by decide +kernel) ?_
      refine m_icmp_ge C 53 dX10_fittingKinds_9 (by decide) (fun hh1 => ?_) (fun hh1 => ?_)
      · replace hh1 := (ii_le (nn_i (a := 6) rfl (by omega)) (nn_i (a := k) rfl (by omega))).mp hh1
        refine m_iload_n C 3 dX10_fittingKinds_53 rfl ?_
        refine m_iretf C hQ dX10_fittingKinds_54 rfl rfl ?_
        have e : k = 6 := by omega
        subst e; rfl
      replace hh1 := mt (ii_le (nn_i (a := 6) rfl (by omega)) (nn_i (a := k) rfl (by omega))).mpr hh1
      refine m_aload_n C 0 dX10_fittingKinds_12 rfl ?_
      refine gfX10_21 C dX10_fittingKinds_13 ?_
      refine m_iload C 4 dX10_fittingKinds_16 rfl ?_
      refine m_aald C 23 (by decide) 2 rfl ra_23 k (G.1 (24 + k)) rfl (by omega) (by decide) rfl dX10_fittingKinds_18 ?_
      refine m_aload_n C 0 dX10_fittingKinds_19 rfl ?_
      refine m_iload_n C 1 dX10_fittingKinds_20 rfl ?_
      refine m_callVf C 0 (by decide) rfl rfl (c_X10_digitNow l G mu nu V hv i (by omega)) wkX10_188 (by decide) rfl rfl (Nat.le_of_ble_eq_true rfl) dX10_fittingKinds_21 ?_
      refine m_aload_n C 0 dX10_fittingKinds_24 rfl ?_
      refine gfX10_43 C dX10_fittingKinds_25 ?_
      refine m_iload_n C 1 dX10_fittingKinds_28 rfl ?_
      refine m_aald C 30 (by decide) 3 rfl ra_30 i (G.1 (31 + i)) rfl (by omega) (by decide) rfl dX10_fittingKinds_29 ?_
      refine gfX10_238 C (31 + i) (rdc_of (by omega)) dX10_fittingKinds_30 ?_
      refine m_topi (nI (v_mk V i)) (zv_mk hv hi) ?_
      refine m_aload_n C 2 dX10_fittingKinds_33 rfl ?_
      refine m_callSf C (c_X10_fits l G mu nu k (by omega) (v_dg V i) (v_mk V i) hdi (by omega) c hc xs hl hl60 hxs hev hok) wkX10_241 (by decide) rfl rfl (Nat.le_of_ble_eq_true rfl) dX10_fittingKinds_34 ?_
      refine m_if_eq C 47 dX10_fittingKinds_37 (by decide) (fun hh2 => ?_) (fun hh2 => ?_)
      · replace hh2 := bI_eq0.mp hh2
        refine m_iinc C 4 (nI (k + 1)) [(4, .int (nI (k + 1))), (0, .ref (G.1 0)), (1, .int (nI i)), (2, .ref (G.1 c)), (3, .int (nI (s_fk (v_dg V i) (v_mk V i) xs k)))] dX10_fittingKinds_47 rfl (nn_add rfl (show Int32.ofInt 1 = nI 1 from rfl)) (by decide) rfl ?_
        rw [show nI (s_fk (v_dg V i) (v_mk V i) xs k) = nI (s_fk (v_dg V i) (v_mk V i) xs (k + 1)) from congrArg nI (show s_fk (v_dg V i) (v_mk V i) xs k = s_fk (v_dg V i) (v_mk V i) xs (k + 1) from (if_neg (by assumption)).symm)]
        refine m_goto C 5 dX10_fittingKinds_50 (by decide) ?_
        exact m_sub [1, 2, 3, 4, 0] rfl (ih5 (k + 1) (by omega) (by omega))
      replace hh2 := bI_ne0.mp hh2
      refine m_iload_n C 3 dX10_fittingKinds_40 rfl ?_
      refine m_iconst C 1 dX10_fittingKinds_41 (by decide +kernel) ?_
      refine m_iload C 4 dX10_fittingKinds_42 rfl ?_
      refine m_ishl C dX10_fittingKinds_44 ?_
      refine m_topi (nI (2 ^ k)) (nn_shl1 rfl (by omega)) ?_
      refine m_ior C dX10_fittingKinds_45 ?_
      refine m_topi (nI ((s_fk (v_dg V i) (v_mk V i) xs k) ||| (2 ^ k))) (nn_or rfl rfl) ?_
      refine m_istore_n C [(3, .int (nI ((s_fk (v_dg V i) (v_mk V i) xs k) ||| (2 ^ k)))), (0, .ref (G.1 0)), (1, .int (nI i)), (2, .ref (G.1 c)), (4, .int (nI k))] dX10_fittingKinds_46 (by decide) rfl ?_
      refine m_iinc C 4 (nI (k + 1)) [(4, .int (nI (k + 1))), (3, .int (nI ((s_fk (v_dg V i) (v_mk V i) xs k) ||| (2 ^ k)))), (0, .ref (G.1 0)), (1, .int (nI i)), (2, .ref (G.1 c))] dX10_fittingKinds_47 rfl (nn_add rfl (show Int32.ofInt 1 = nI 1 from rfl)) (by decide) rfl ?_
      rw [show nI ((s_fk (v_dg V i) (v_mk V i) xs k) ||| (2 ^ k)) = nI (s_fk (v_dg V i) (v_mk V i) xs (k + 1)) from congrArg nI (show (s_fk (v_dg V i) (v_mk V i) xs k) ||| (2 ^ k) = s_fk (v_dg V i) (v_mk V i) xs (k + 1) from (if_pos (by assumption)).symm)]
      refine m_goto C 5 dX10_fittingKinds_50 (by decide) ?_
      exact m_sub [2, 3, 4, 1, 0] rfl (ih5 (k + 1) (by omega) (by omega))
  exact m_sub [2, 3, 4, 1, 0] rfl (L5 (_ + 1) 0 (Nat.zero_le _) (Nat.lt_succ_self _))

set_option maxHeartbeats 4000000 in
set_option maxRecDepth 100000 in
theorem c_X10_greatestPart (l : Launch) (G : Gl) (mu : Mu) (nu : Nu) (V : Vw) (hv : zv mu V) (i : Nat) (hi : i < v_N V) (bits : Nat) (hb64 : bits < 64) (n : Nat) (h1 : 1 ≤ n) (h9 : n ≤ 9) : Cf l G mX10_greatestPart 6 [.ref (G.1 0), .int (nI i), .int (nI bits), .int (nI n)] mu nu (.int (nI (v_pa V i bits n 6))) := by
  have hw := hv.1
  have hN7 := hw.1
  have hm7 := hw.2.2.1
  have ho8 := hw.2.2.2.2
  refine Ct.of (lv := [(0, .ref (G.1 0)), (1, .int (nI i)), (2, .int (nI bits)), (3, .int (nI n))]) rfl rfl (Nat.le_of_ble_eq_true rfl) rfl (fun X C => ?_)
  generalize hQ : g_E G X _ = Q
  replace C : Cx G 8 X cX10_greatestPart RX10 (some .int) 6 := C
  show Mq l G 8 X Q 0 [(0, .ref (G.1 0)), (1, .int (nI i)), (2, .int (nI bits)), (3, .int (nI n))] [] mu nu
  refine m_iconst C 0 dX10_greatestPart_0 (by decide +kernel) ?_
  refine m_istore C [(4, .int 0), (0, .ref (G.1 0)), (1, .int (nI i)), (2, .int (nI bits)), (3, .int (nI n))] dX10_greatestPart_1 (by decide) rfl ?_
  refine m_iconst C 0 dX10_greatestPart_3 (by decide +kernel) ?_
  refine m_istore C [(5, .int 0), (4, .int 0), (0, .ref (G.1 0)), (1, .int (nI i)), (2, .int (nI bits)), (3, .int (nI n))] dX10_greatestPart_4 (by decide) rfl ?_
  have L6 : ∀ (fu : Nat) (a : Nat) (ha : a ≤ 6), 6 - a < fu → Mq l G 8 X Q 6 [(0, .ref (G.1 0)), (1, .int (nI i)), (2, .int (nI bits)), (3, .int (nI n)), (4, .int (nI (v_pa V i bits n a))), (5, .int (nI a))] [] mu nu := by
    intro fu
    induction fu with
    | zero => intro a ha hm; exact absurd hm (Nat.not_lt_zero _)
    | succ fu ih6 =>
      intro a ha hm
      have hpa := v_pa_le (V := V) (i := i) (bits := bits) (n := n) a
      have hda := Nat.div_le_self bits (2 ^ a)
      have hp6 := v_pb_le (V := V) (i := i) (bits := bits) (n := n) (a := a) 6
      refine m_iload C 5 dX10_greatestPart_6 rfl ?_
      refine m_bipush C 6 dX10_greatestPart_8 (by decide +kernel) ?_
      refine m_icmp_ge C 84 dX10_greatestPart_10 (by decide) (fun hh1 => ?_) (fun hh1 => ?_)
      · replace hh1 := (ii_le (nn_i (a := 6) rfl (by omega)) (nn_i (a := a) rfl (by omega))).mp hh1
        refine m_iload C 4 dX10_greatestPart_84 rfl ?_
        refine m_iretf C hQ dX10_greatestPart_86 rfl rfl ?_
        have e : a = 6 := by omega
        subst e; rfl
      replace hh1 := mt (ii_le (nn_i (a := 6) rfl (by omega)) (nn_i (a := a) rfl (by omega))).mpr hh1
      refine m_iconst C 0 dX10_greatestPart_13 (by decide +kernel) ?_
      refine m_istore C [(6, .int 0), (0, .ref (G.1 0)), (1, .int (nI i)), (2, .int (nI bits)), (3, .int (nI n)), (4, .int (nI (v_pa V i bits n a))), (5, .int (nI a))] dX10_greatestPart_14 (by decide) rfl ?_
      refine m_iconst C 0 dX10_greatestPart_16 (by decide +kernel) ?_
      refine m_istore C [(7, .int 0), (6, .int 0), (0, .ref (G.1 0)), (1, .int (nI i)), (2, .int (nI bits)), (3, .int (nI n)), (4, .int (nI (v_pa V i bits n a))), (5, .int (nI a))] dX10_greatestPart_17 (by decide) rfl ?_
      have L19 : ∀ (fu : Nat) (b : Nat) (hb : b ≤ 6), 6 - b < fu → Mq l G 8 X Q 19 [(0, .ref (G.1 0)), (1, .int (nI i)), (2, .int (nI bits)), (3, .int (nI n)), (4, .int (nI (v_pa V i bits n a))), (5, .int (nI a)), (6, .int (nI (v_pb V i bits n a b))), (7, .int (nI b))] [] mu nu := by
        intro fu
        induction fu with
        | zero => intro b hb hm; exact absurd hm (Nat.not_lt_zero _)
        | succ fu ih19 =>
          intro b hb hm
          have hpb := v_pb_le (V := V) (i := i) (bits := bits) (n := n) (a := a) b
          have hdb := Nat.div_le_self bits (2 ^ b)
          have hab := Nat.and_le_left (n := bits / 2 ^ a) (m := bits / 2 ^ b)
          refine m_iload C 7 dX10_greatestPart_19 rfl ?_
          refine m_bipush C 6 dX10_greatestPart_21 (by decide +kernel) ?_
          refine m_icmp_ge C 69 dX10_greatestPart_23 (by decide) (fun hh2 => ?_) (fun hh2 => ?_)
          · replace hh2 := (ii_le (nn_i (a := 6) rfl (by omega)) (nn_i (a := b) rfl (by omega))).mp hh2
            have e6 : b = 6 := by omega
            rw [e6]
            refine m_iload C 4 dX10_greatestPart_69 rfl ?_
            refine m_iload C 6 dX10_greatestPart_71 rfl ?_
            refine m_max C wkX10_210 (by decide) (Nat.le_of_ble_eq_true rfl) dX10_greatestPart_73 ?_
            refine m_topi (nI (max (v_pa V i bits n a) (v_pb V i bits n a 6))) (nn_max rfl rfl (by omega) (by omega)) ?_
            refine m_topi (nI (v_pa V i bits n (a + 1))) rfl ?_
            refine m_istore C [(4, .int (nI (v_pa V i bits n (a + 1)))), (0, .ref (G.1 0)), (1, .int (nI i)), (2, .int (nI bits)), (3, .int (nI n)), (5, .int (nI a)), (6, .int (nI (v_pb V i bits n a 6))), (7, .int (nI 6))] dX10_greatestPart_76 (by decide) rfl ?_
            refine m_iinc C 5 (nI (a + 1)) [(5, .int (nI (a + 1))), (4, .int (nI (v_pa V i bits n (a + 1)))), (0, .ref (G.1 0)), (1, .int (nI i)), (2, .int (nI bits)), (3, .int (nI n)), (6, .int (nI (v_pb V i bits n a 6))), (7, .int (nI 6))] dX10_greatestPart_78 rfl (nn_add rfl (show Int32.ofInt 1 = nI 1 from rfl)) (by decide) rfl ?_
            refine m_goto C 6 dX10_greatestPart_81 (by decide) ?_
            exact m_sub [2, 3, 4, 5, 1, 0] rfl (ih6 (a + 1) (by omega) (by omega))
          replace hh2 := mt (ii_le (nn_i (a := 6) rfl (by omega)) (nn_i (a := b) rfl (by omega))).mpr hh2
          refine m_iload_n C 2 dX10_greatestPart_26 rfl ?_
          refine m_iload C 5 dX10_greatestPart_27 rfl ?_
          refine m_ishr C dX10_greatestPart_29 ?_
          refine m_topi (nI (bits / 2 ^ a)) (nn_shr rfl rfl (by omega) (by omega)) ?_
          refine m_iload_n C 2 dX10_greatestPart_30 rfl ?_
          refine m_iload C 7 dX10_greatestPart_31 rfl ?_
          refine m_ishr C dX10_greatestPart_33 ?_
          refine m_topi (nI (bits / 2 ^ b)) (nn_shr rfl rfl (by omega) (by omega)) ?_
          refine m_iand C dX10_greatestPart_34 ?_
          refine m_topi (nI ((bits / 2 ^ a) &&& (bits / 2 ^ b))) (nn_and rfl rfl) ?_
          refine m_iconst C 1 dX10_greatestPart_35 (by decide +kernel) ?_
          refine m_iand C dX10_greatestPart_36 ?_
          refine m_topi (nI (((bits / 2 ^ a) &&& (bits / 2 ^ b)) % 2)) (nn_and1 rfl (by omega)) ?_
          refine m_iconst C 1 dX10_greatestPart_37 (by decide +kernel) ?_
          refine m_icmp_ne C 63 dX10_greatestPart_38 (by decide) (fun hh3 => ?_) (fun hh3 => ?_)
          · replace hh3 := mt (ii_eq (nn_i (a := ((bits / 2 ^ a) &&& (bits / 2 ^ b)) % 2) rfl (by omega)) (nn_i (a := 1) rfl (by omega))).mpr hh3
            refine m_iinc C 7 (nI (b + 1)) [(7, .int (nI (b + 1))), (0, .ref (G.1 0)), (1, .int (nI i)), (2, .int (nI bits)), (3, .int (nI n)), (4, .int (nI (v_pa V i bits n a))), (5, .int (nI a)), (6, .int (nI (v_pb V i bits n a b)))] dX10_greatestPart_63 rfl (nn_add rfl (show Int32.ofInt 1 = nI 1 from rfl)) (by decide) rfl ?_
            rw [show nI (v_pb V i bits n a b) = nI (v_pb V i bits n a (b + 1)) from congrArg nI (by show _ = v_pb V i bits n a b + _; rw [if_neg (by first | (rw [← and_mod2]; omega) | omega), Nat.add_zero])]
            refine m_goto C 19 dX10_greatestPart_66 (by decide) ?_
            exact m_sub [1, 2, 3, 4, 5, 6, 7, 0] rfl (ih19 (b + 1) (by omega) (by omega))
          replace hh3 := (ii_eq (nn_i (a := ((bits / 2 ^ a) &&& (bits / 2 ^ b)) % 2) rfl (by omega)) (nn_i (a := 1) rfl (by omega))).mp hh3
          have hs1 := v_as_le hw hi (k := a) h9
          have hs2 := v_as_le hw hi (k := b) h9
          refine m_aload_n C 0 dX10_greatestPart_41 rfl ?_
          refine m_iload_n C 1 dX10_greatestPart_42 rfl ?_
          refine m_iload C 5 dX10_greatestPart_43 rfl ?_
          refine m_iload_n C 3 dX10_greatestPart_45 rfl ?_
          refine m_callVf C 0 (by decide) rfl rfl (c_X10_shownAs l G mu nu V hv i (by omega) a (by omega) n (by omega) (by omega)) wkX10_339 (by decide) rfl rfl (Nat.le_of_ble_eq_true rfl) dX10_greatestPart_46 ?_
          refine m_aload_n C 0 dX10_greatestPart_49 rfl ?_
          refine m_iload_n C 1 dX10_greatestPart_50 rfl ?_
          refine m_iload C 7 dX10_greatestPart_51 rfl ?_
          refine m_iload_n C 3 dX10_greatestPart_53 rfl ?_
          refine m_callVf C 0 (by decide) rfl rfl (c_X10_shownAs l G mu nu V hv i (by omega) b (by omega) n (by omega) (by omega)) wkX10_339 (by decide) rfl rfl (Nat.le_of_ble_eq_true rfl) dX10_greatestPart_54 ?_
          refine m_icmp_ne C 63 dX10_greatestPart_57 (by decide) (fun hh4 => ?_) (fun hh4 => ?_)
          · replace hh4 := mt (ii_eq (nn_i (a := v_as V i a n) rfl (by omega)) (nn_i (a := v_as V i b n) rfl (by omega))).mpr hh4
            refine m_iinc C 7 (nI (b + 1)) [(7, .int (nI (b + 1))), (0, .ref (G.1 0)), (1, .int (nI i)), (2, .int (nI bits)), (3, .int (nI n)), (4, .int (nI (v_pa V i bits n a))), (5, .int (nI a)), (6, .int (nI (v_pb V i bits n a b)))] dX10_greatestPart_63 rfl (nn_add rfl (show Int32.ofInt 1 = nI 1 from rfl)) (by decide) rfl ?_
            rw [show nI (v_pb V i bits n a b) = nI (v_pb V i bits n a (b + 1)) from congrArg nI (by show _ = v_pb V i bits n a b + _; rw [if_neg (by first | (rw [← and_mod2]; omega) | omega), Nat.add_zero])]
            refine m_goto C 19 dX10_greatestPart_66 (by decide) ?_
            exact m_sub [1, 2, 3, 4, 5, 6, 7, 0] rfl (ih19 (b + 1) (by omega) (by omega))
          replace hh4 := (ii_eq (nn_i (a := v_as V i a n) rfl (by omega)) (nn_i (a := v_as V i b n) rfl (by omega))).mp hh4
          refine m_iinc C 6 (nI (v_pb V i bits n a b + 1)) [(6, .int (nI (v_pb V i bits n a b + 1))), (0, .ref (G.1 0)), (1, .int (nI i)), (2, .int (nI bits)), (3, .int (nI n)), (4, .int (nI (v_pa V i bits n a))), (5, .int (nI a)), (7, .int (nI b))] dX10_greatestPart_60 rfl (nn_add rfl (show Int32.ofInt 1 = nI 1 from rfl)) (by decide) rfl ?_
          refine m_iinc C 7 (nI (b + 1)) [(7, .int (nI (b + 1))), (6, .int (nI (v_pb V i bits n a b + 1))), (0, .ref (G.1 0)), (1, .int (nI i)), (2, .int (nI bits)), (3, .int (nI n)), (4, .int (nI (v_pa V i bits n a))), (5, .int (nI a))] dX10_greatestPart_63 rfl (nn_add rfl (show Int32.ofInt 1 = nI 1 from rfl)) (by decide) rfl ?_
          rw [show nI (v_pb V i bits n a b + 1) = nI (v_pb V i bits n a (b + 1)) from congrArg nI (by show _ = v_pb V i bits n a b + _; rw [if_pos (by rw [← and_mod2]; omega)])]
          refine m_goto C 19 dX10_greatestPart_66 (by decide) ?_
          exact m_sub [2, 3, 4, 5, 6, 7, 1, 0] rfl (ih19 (b + 1) (by omega) (by omega))
      exact m_sub [2, 3, 4, 5, 6, 7, 1, 0] rfl (L19 (_ + 1) 0 (Nat.zero_le _) (Nat.lt_succ_self _))
  exact m_sub [2, 3, 4, 5, 1, 0] rfl (L6 (_ + 1) 0 (Nat.zero_le _) (Nat.lt_succ_self _))
