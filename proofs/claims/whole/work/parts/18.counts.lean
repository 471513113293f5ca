theorem zv_keep {mu m : Mu} {V : Vw} (h : zv mu V) (h0 : m 0 4 = mu 0 4) (hc : ∀ c, 31 ≤ c → c < 40 → m c = mu c) : zv m V := by
  obtain ⟨hw, h1, h2, h3, h4, h5, h6, h7⟩ := h
  refine ⟨hw, by rw [h0, h1], fun i hi => ?_, by rw [hc 38 (by decide) (by decide), h3], h4, fun p hp => by rw [hc 39 (by decide) (by decide), h5 p hp], by rw [hc 38 (by decide) (by decide), h6], h7⟩
  have := hw.1
  rw [hc (31 + i) (by omega) (by omega)]
  exact h2 i hi
/-- what the search looks at -/
def z_look (mu m : Mu) (V : Vw) (n : Nat) : Prop := (∀ c, c ≠ 59 → c ≠ 60 → m c = mu c) ∧ m 59 1 = nI (v_N V) ∧ ∀ i, i < v_N V → m 60 i = nI (v_sh V i n)
theorem zs_two {mu : Mu} {c cap : Nat} {x : Option (List Int32)} (h : z_st mu c cap x) : (x = none ∧ mu c 1 = -1) ∨ ∃ xs, x = some xs ∧ mu c 1 = nI xs.length ∧ xs.length ≤ cap ∧ ∀ j, j < xs.length → mu (c + 1) j = xs.getD j 0 := by
  cases x with
  | none => exact Or.inl ⟨rfl, h⟩
  | some xs => exact Or.inr ⟨xs, rfl, h⟩
set_option maxHeartbeats 4000000 in
set_option maxRecDepth 100000 in
theorem c_X10_lookAt (l : Launch) (G : Gl) (mu : Mu) (nu : Nu) (V : Vw) (hv : zv mu V) (n : Nat) (h1 : 1 ≤ n) (h9 : n ≤ 9) : Cv l G mX10_lookAt 6 [.ref (G.1 0), .int (nI n)] mu nu (fun m n2 => z_look mu m V n ∧ n2 = nu) := by
  have hw := hv.1
  have hN7 := hw.1
  have hm7 := hw.2.2.1
  have ho8 := hw.2.2.2.2
  refine Ct.of (lv := [(0, .ref (G.1 0)), (1, .int (nI n))]) rfl rfl (Nat.le_of_ble_eq_true rfl) rfl (fun X C => ?_)
  generalize hQ : g_E G X _ = Q
  replace C : Cx G 3 X cX10_lookAt RX10 none 6 := C
  show Mq l G 3 X Q 0 [(0, .ref (G.1 0)), (1, .int (nI n))] [] mu nu
  refine m_aload_n C 0 dX10_lookAt_0 rfl ?_
  refine gfX10_64 C dX10_lookAt_1 ?_
  refine m_aload_n C 0 dX10_lookAt_4 rfl ?_
  refine gfX10_134 C dX10_lookAt_5 ?_
  refine m_topi (nI (v_N V)) hv.2.1 ?_
  refine pfX10_345 C dX10_lookAt_8 ?_
  refine m_nameM (fun mu1 emu1 => ?_)
  refine m_iconst C 0 dX10_lookAt_11 (by decide +kernel) ?_
  refine m_istore_n C [(2, .int 0), (0, .ref (G.1 0)), (1, .int (nI n))] dX10_lookAt_12 (by decide) rfl ?_
  have L13 : ∀ (fu : Nat) (i : Nat) (m : Mu) (hi : i ≤ v_N V) (hm1 : ∀ c, c ≠ 59 → c ≠ 60 → m c = mu c) (hm2 : m 59 1 = nI (v_N V)) (hm3 : ∀ j, j < i → m 60 j = nI (v_sh V j n)), v_N V - i < fu → Mq l G 3 X Q 13 [(0, .ref (G.1 0)), (1, .int (nI n)), (2, .int (nI i))] [] m nu := by
    intro fu
    induction fu with
    | zero => intro i m hi hm1 hm2 hm3 hm; exact absurd hm (Nat.not_lt_zero _)
    | succ fu ih13 =>
      intro i m hi hm1 hm2 hm3 hm
      have hvm : zv m V := zv_keep hv (by rw [hm1 0 (by decide) (by decide)]) (fun c h1 h2 => hm1 c (by omega) (by omega))
      refine m_iload_n C 2 dX10_lookAt_13 rfl ?_
      refine m_aload_n C 0 dX10_lookAt_14 rfl ?_
      refine gfX10_134 C dX10_lookAt_15 ?_
      refine m_topi (nI (v_N V)) hvm.2.1 ?_
      refine m_icmp_ge C 42 dX10_lookAt_18 (by decide) (fun hh2 => ?_) (fun hh2 => ?_)
      · replace hh2 := (ii_le (nn_i (a := v_N V) rfl (by omega)) (nn_i (a := i) rfl (by omega))).mp hh2
        refine m_vretv C hQ dX10_lookAt_42 ?_
        have e : i = v_N V := by omega
        subst e; exact ⟨⟨hm1, hm2, hm3⟩, rfl⟩
      replace hh2 := mt (ii_le (nn_i (a := v_N V) rfl (by omega)) (nn_i (a := i) rfl (by omega))).mpr hh2
      refine m_aload_n C 0 dX10_lookAt_21 rfl ?_
      refine gfX10_64 C dX10_lookAt_22 ?_
      refine gfX10_347 C dX10_lookAt_25 ?_
      refine m_iload_n C 2 dX10_lookAt_28 rfl ?_
      refine m_aload_n C 0 dX10_lookAt_29 rfl ?_
      refine m_iload_n C 2 dX10_lookAt_30 rfl ?_
      refine m_iload_n C 1 dX10_lookAt_31 rfl ?_
      refine m_callVf C 0 (by decide) rfl rfl (c_X10_shownNow l G m nu V hvm i (by omega) n (by omega) (by omega)) wkX10_162 (by decide) rfl rfl (Nat.le_of_ble_eq_true rfl) dX10_lookAt_32 ?_
      refine m_iast C 60 (by decide) sa_60 i rfl (by omega) (by decide) dX10_lookAt_35 ?_
      refine m_nameM (fun mu3 emu3 => ?_)
      refine m_iinc C 2 (nI (i + 1)) [(2, .int (nI (i + 1))), (0, .ref (G.1 0)), (1, .int (nI n))] dX10_lookAt_36 rfl (nn_add rfl (show Int32.ofInt 1 = nI 1 from rfl)) (by decide) rfl ?_
      refine m_goto C 13 dX10_lookAt_39 (by decide) ?_
      exact m_sub [1, 2, 0] rfl (ih13 (i + 1) mu3 (by omega) (fun c h1 h2 => by rw [emu3, mu_up_ne h2, hm1 c h1 h2]) (by rw [emu3, mu_up_ne (by decide), hm2]) (fun j hj => by
                by_cases e : j = i
                · rw [emu3, e, mu_up_at]
                · rw [emu3, mu_up_an e, hm3 j (by omega)]) (by omega))
  exact m_sub [1, 2, 0] rfl (L13 (_ + 1) 0 mu1 (Nat.zero_le _) (fun c h1 h2 => by rw [emu1, mu_up_ne h1]) (by rw [emu1, mu_up_at]) (fun j h => absurd h (Nat.not_lt_zero _)) (Nat.lt_succ_self _))

set_option maxHeartbeats 4000000 in
set_option maxRecDepth 100000 in
theorem c_X10_weightOfLeft (l : Launch) (G : Gl) (mu : Mu) (nu : Nu) (V : Vw) (hv : zv mu V) (set : Nat) (hs : set < 128) (q : Nat) (hq : q ≤ 12) : Cf l G mX10_weightOfLeft 1 [.ref (G.1 0), .int (nI set), .int (nI q)] mu nu (.long (lN (s_wt set q (v_m V)))) := by
  have hw := hv.1
  have hN7 := hw.1
  have hm7 := hw.2.2.1
  have ho8 := hw.2.2.2.2
  refine Ct.of (lv := [(0, .ref (G.1 0)), (1, .int (nI set)), (2, .int (nI q))]) rfl rfl (Nat.le_of_ble_eq_true rfl) rfl (fun X C => ?_)
  generalize hQ : g_E G X _ = Q
  replace C : Cx G 6 X cX10_weightOfLeft RX10 (some .long) 1 := C
  show Mq l G 6 X Q 0 [(0, .ref (G.1 0)), (1, .int (nI set)), (2, .int (nI q))] [] mu nu
  refine m_lconst C 1 dX10_weightOfLeft_0 rfl ?_
  refine m_lstore_n C [(3, .long 1), (0, .ref (G.1 0)), (1, .int (nI set)), (2, .int (nI q))] dX10_weightOfLeft_1 (by decide) rfl ?_
  refine m_iconst C 0 dX10_weightOfLeft_2 (by decide +kernel) ?_
  refine m_istore C [(5, .int 0), (3, .long 1), (0, .ref (G.1 0)), (1, .int (nI set)), (2, .int (nI q))] dX10_weightOfLeft_3 (by decide) rfl ?_
  have L5 : ∀ (fu : Nat) (p : Nat) (hp : p ≤ v_m V), v_m V - p < fu → Mq l G 6 X Q 5 [(0, .ref (G.1 0)), (1, .int (nI set)), (2, .int (nI q)), (3, .long (lN (s_wt set q p))), (5, .int (nI p))] [] mu nu := by
    intro fu
    induction fu with
    | zero => intro p hp hm; exact absurd hm (Nat.not_lt_zero _)
    | succ fu ih5 =>
      intro p hp hm
      have hdv := Nat.div_le_self set (2 ^ p)
      refine m_iload C 4 dX10_weightOfLeft_5 rfl ?_
      refine m_aload_n C 0 dX10_weightOfLeft_7 rfl ?_
      refine gfX10_53 C dX10_weightOfLeft_8 ?_
      refine gfX10_175 C 38 bnc_38 dX10_weightOfLeft_11 ?_
      refine m_topi (nI (v_m V)) (zv_m hv) ?_
      refine m_icmp_ge C 46 dX10_weightOfLeft_14 (by decide) (fun hh1 => ?_) (fun hh1 => ?_)
      · replace hh1 := (ii_le (nn_i (a := v_m V) rfl (by omega)) (nn_i (a := p) rfl (by omega))).mp hh1
        refine m_lload_n C 3 dX10_weightOfLeft_46 rfl ?_
        refine m_lretf C hQ dX10_weightOfLeft_47 rfl rfl ?_
        have e : p = v_m V := by omega
        subst e; rfl
      replace hh1 := mt (ii_le (nn_i (a := v_m V) rfl (by omega)) (nn_i (a := p) rfl (by omega))).mpr hh1
      refine m_lload_n C 3 dX10_weightOfLeft_17 rfl ?_
      refine m_iload_n C 1 dX10_weightOfLeft_18 rfl ?_
      refine m_iload C 4 dX10_weightOfLeft_19 rfl ?_
      refine m_ishr C dX10_weightOfLeft_21 ?_
      refine m_topi (nI (set / 2 ^ p)) (nn_shr rfl rfl (by omega) (by omega)) ?_
      refine m_iconst C 1 dX10_weightOfLeft_22 (by decide +kernel) ?_
      refine m_iand C dX10_weightOfLeft_23 ?_
      refine m_topi (nI ((set / 2 ^ p) % 2)) (nn_and1 rfl (by omega)) ?_
      refine m_iconst C 1 dX10_weightOfLeft_24 (by decide +kernel) ?_
      refine m_icmp_ne C 36 dX10_weightOfLeft_25 (by decide) (fun hh2 => ?_) (fun hh2 => ?_)
      · replace hh2 := mt (ii_eq (nn_i (a := (set / 2 ^ p) % 2) rfl (by omega)) (nn_i (a := 1) rfl (by omega))).mpr hh2
        refine m_iload_n C 2 dX10_weightOfLeft_36 rfl ?_
        refine m_i2l C dX10_weightOfLeft_37 ?_
        refine m_topl (lN q) (ln_i2l rfl (by omega)) ?_
        refine m_lmul C dX10_weightOfLeft_38 ?_
        refine m_topl (lN ((s_wt set q p) * q)) (ln_mul rfl rfl) ?_
        refine m_topl (lN (s_wt set q (p + 1))) (congrArg lN (congrArg (fun z => s_wt set q p * z) (if_neg (by omega)).symm)) ?_
        refine m_lstore_n C [(3, .long (lN (s_wt set q (p + 1)))), (0, .ref (G.1 0)), (1, .int (nI set)), (2, .int (nI q)), (5, .int (nI p))] dX10_weightOfLeft_39 (by decide) rfl ?_
        refine m_iinc C 4 (nI (p + 1)) [(5, .int (nI (p + 1))), (3, .long (lN (s_wt set q (p + 1)))), (0, .ref (G.1 0)), (1, .int (nI set)), (2, .int (nI q))] dX10_weightOfLeft_40 rfl (nn_add rfl (show Int32.ofInt 1 = nI 1 from rfl)) (by decide) rfl ?_
        refine m_goto C 5 dX10_weightOfLeft_43 (by decide) ?_
        exact m_sub [2, 3, 4, 1, 0] rfl (ih5 (p + 1) (by omega) (by omega))
      replace hh2 := (ii_eq (nn_i (a := (set / 2 ^ p) % 2) rfl (by omega)) (nn_i (a := 1) rfl (by omega))).mp hh2
      refine m_bipush C 12 dX10_weightOfLeft_28 (by decide +kernel) ?_
      refine m_iload_n C 2 dX10_weightOfLeft_30 rfl ?_
      refine m_isub C dX10_weightOfLeft_31 ?_
      refine m_topi (nI (12 - q)) (nn_sub rfl rfl (by omega)) ?_
      refine m_i2l C dX10_weightOfLeft_32 ?_
      refine m_topl (lN (12 - q)) (ln_i2l rfl (by omega)) ?_
      refine m_goto C 38 dX10_weightOfLeft_33 (by decide) ?_
      refine m_lmul C dX10_weightOfLeft_38 ?_
      refine m_topl (lN ((s_wt set q p) * (12 - q))) (ln_mul rfl rfl) ?_
      refine m_topl (lN (s_wt set q (p + 1))) (congrArg lN (congrArg (fun z => s_wt set q p * z) (if_pos (by omega)).symm)) ?_
      refine m_lstore_n C [(3, .long (lN (s_wt set q (p + 1)))), (0, .ref (G.1 0)), (1, .int (nI set)), (2, .int (nI q)), (5, .int (nI p))] dX10_weightOfLeft_39 (by decide) rfl ?_
      refine m_iinc C 4 (nI (p + 1)) [(5, .int (nI (p + 1))), (3, .long (lN (s_wt set q (p + 1)))), (0, .ref (G.1 0)), (1, .int (nI set)), (2, .int (nI q))] dX10_weightOfLeft_40 rfl (nn_add rfl (show Int32.ofInt 1 = nI 1 from rfl)) (by decide) rfl ?_
      refine m_goto C 5 dX10_weightOfLeft_43 (by decide) ?_
      exact m_sub [2, 3, 4, 1, 0] rfl (ih5 (p + 1) (by omega) (by omega))
  exact m_sub [2, 3, 4, 1, 0] rfl (L5 (_ + 1) 0 (Nat.zero_le _) (Nat.lt_succ_self _))

set_option maxHeartbeats 4000000 in
set_option maxRecDepth 100000 in
theorem c_X10_greatestShared (l : Launch) (G : Gl) (mu : Mu) (nu : Nu) (a b : Nat) (ha : a < 2 ^ 62) (hb : b < 2 ^ 62) (hab : a * b < 2 ^ 150) : Cf l G mX10_greatestShared 1 [.long (lN a), .long (lN b)] mu nu (.long (lN (Nat.gcd a b))) := by
  refine Ct.of (lv := [(0, .long (lN a)), (2, .long (lN b))]) rfl rfl (Nat.le_of_ble_eq_true rfl) rfl (fun X C => ?_)
  generalize hQ : g_E G X _ = Q
  replace C : Cx G 11 X cX10_greatestShared RX10 (some .long) 1 := C
  show Mq l G 11 X Q 0 [(0, .long (lN a)), (2, .long (lN b))] [] mu nu
  refine m_lload_n C 0 dX10_greatestShared_0 rfl ?_
  refine m_lstore C [(4, .long (lN a)), (0, .long (lN a)), (2, .long (lN b))] dX10_greatestShared_1 (by decide) rfl ?_
  refine m_lload_n C 2 dX10_greatestShared_3 rfl ?_
  refine m_lstore C [(6, .long (lN b)), (4, .long (lN a)), (0, .long (lN a)), (2, .long (lN b))] dX10_greatestShared_4 (by decide) rfl ?_
  refine m_iconst C 0 dX10_greatestShared_6 (by decide +kernel) ?_
  refine m_istore C [(8, .int 0), (6, .long (lN b)), (4, .long (lN a)), (0, .long (lN a)), (2, .long (lN b))] dX10_greatestShared_7 (by decide) rfl ?_
  have L9 : ∀ (fu : Nat) (s x y : Nat) (hs : s ≤ 200) (hx : x < 2 ^ 62) (hy : y < 2 ^ 62) (hg : Nat.gcd x y = Nat.gcd a b) (hi : (s = 0 ∧ x * y < 2 ^ 150) ∨ (y ≤ x ∧ x * y < 2 ^ (200 - s))), 200 - s < fu → Mq l G 11 X Q 9 [(0, .long (lN a)), (2, .long (lN b)), (4, .long (lN x)), (6, .long (lN y)), (8, .int (nI s))] [] mu nu := by
    intro fu
    induction fu with
    | zero => intro s x y hs hx hy hg hi hm; exact absurd hm (Nat.not_lt_zero _)
    | succ fu ih9 =>
      intro s x y hs hx hy hg hi hm
      refine m_iload C 4 dX10_greatestShared_9 rfl ?_
      refine m_sipush C 200 dX10_greatestShared_11 (by decide +kernel) ?_
      refine m_icmp_ge C 45 dX10_greatestShared_14 (by decide) (fun hh1 => ?_) (fun hh1 => ?_)
      · replace hh1 := (ii_le (nn_i (a := 200) rfl (by omega)) (nn_i (a := s) rfl (by omega))).mp hh1
        refine m_lload C 2 dX10_greatestShared_45 rfl ?_
        refine m_lretf C hQ dX10_greatestShared_47 rfl rfl ?_
        have e : y = 0 := by first | omega | exact gcd_end (by omega) hi
        rw [← hg, e, Nat.gcd_zero_right]
      replace hh1 := mt (ii_le (nn_i (a := 200) rfl (by omega)) (nn_i (a := s) rfl (by omega))).mpr hh1
      refine m_lload C 3 dX10_greatestShared_17 rfl ?_
      refine m_lconst C 0 dX10_greatestShared_19 rfl ?_
      refine m_lcmp C dX10_greatestShared_20 ?_
      refine m_if_eq C 45 dX10_greatestShared_21 (by decide) (fun hh2 => ?_) (fun hh2 => ?_)
      · replace hh2 := ((lg_cmp_eq _ _).trans (ll_eq (ln_i (a := y) rfl (by omega)) (ln_i (a := 0) rfl (by omega)))).mp hh2
        refine m_lload C 2 dX10_greatestShared_45 rfl ?_
        refine m_lretf C hQ dX10_greatestShared_47 rfl rfl ?_
        have e : y = 0 := by first | omega | exact gcd_end (by omega) hi
        rw [← hg, e, Nat.gcd_zero_right]
      replace hh2 := mt ((lg_cmp_eq _ _).trans (ll_eq (ln_i (a := y) rfl (by omega)) (ln_i (a := 0) rfl (by omega)))).mpr hh2
      have hy0 : 0 < y := by omega
      refine m_lload C 2 dX10_greatestShared_24 rfl ?_
      refine m_lload C 3 dX10_greatestShared_26 rfl ?_
      refine m_lrem C dX10_greatestShared_28 (ln_ne hy0 (by omega)) ?_
      refine m_topl (lN (x % y)) (ln_rem rfl rfl (by omega) (by omega) (by omega)) ?_
      refine m_lstore C [(9, .long (lN (x % y))), (0, .long (lN a)), (2, .long (lN b)), (4, .long (lN x)), (6, .long (lN y)), (8, .int (nI s))] dX10_greatestShared_29 (by decide) rfl ?_
      refine m_lload C 4 dX10_greatestShared_31 rfl ?_
      refine m_lstore C [(4, .long (lN y)), (9, .long (lN (x % y))), (0, .long (lN a)), (2, .long (lN b)), (6, .long (lN y)), (8, .int (nI s))] dX10_greatestShared_33 (by decide) rfl ?_
      refine m_lload C 1 dX10_greatestShared_35 rfl ?_
      refine m_lstore C [(6, .long (lN (x % y))), (4, .long (lN y)), (9, .long (lN (x % y))), (0, .long (lN a)), (2, .long (lN b)), (8, .int (nI s))] dX10_greatestShared_37 (by decide) rfl ?_
      refine m_iinc C 5 (nI (s + 1)) [(8, .int (nI (s + 1))), (6, .long (lN (x % y))), (4, .long (lN y)), (9, .long (lN (x % y))), (0, .long (lN a)), (2, .long (lN b))] dX10_greatestShared_39 rfl (nn_add rfl (show Int32.ofInt 1 = nI 1 from rfl)) (by decide) rfl ?_
      refine m_goto C 9 dX10_greatestShared_42 (by decide) ?_
      exact m_sub [4, 5, 2, 1, 0] rfl (ih9 (s + 1) y (x % y) (by omega) hy (Nat.lt_of_le_of_lt (Nat.mod_le _ _) hx) (by rw [← hg, Nat.gcd_comm x y, Nat.gcd_rec y x, Nat.gcd_comm]) (Or.inr (gcd_next hy0 (by omega) hi)) (by omega))
  exact m_sub [3, 4, 2, 1, 0] rfl (L9 (_ + 1) 0 a b (by omega) ha hb rfl (Or.inl ⟨rfl, hab⟩) (Nat.lt_succ_self _))

set_option maxHeartbeats 4000000 in
set_option maxRecDepth 100000 in
theorem c_X10_tell (l : Launch) (G : Gl) (mu : Mu) (nu : Nu) (a b : Nat) (ha : a < 2 ^ 62) (hb : b < 2 ^ 62) (hab : a * b < 2 ^ 150) (hb0 : 0 < b) : Cv l G mX10_tell 2 [.ref (G.1 0), .long (lN a), .long (lN b)] mu nu (fun m n2 => m = mu ∧ n2 = nu_up (nu_up nu 0 9 (lN (a / Nat.gcd a b))) 0 10 (lN (b / Nat.gcd a b))) := by
  have hg0 : 0 < Nat.gcd a b := Nat.gcd_pos_of_pos_right _ hb0
  have hg1 : Nat.gcd a b ≤ b := Nat.gcd_le_right _ hb0
  refine Ct.of (lv := [(0, .ref (G.1 0)), (1, .long (lN a)), (3, .long (lN b))]) rfl rfl (Nat.le_of_ble_eq_true rfl) rfl (fun X C => ?_)
  generalize hQ : g_E G X _ = Q
  replace C : Cx G 7 X cX10_tell RX10 none 2 := C
  show Mq l G 7 X Q 0 [(0, .ref (G.1 0)), (1, .long (lN a)), (3, .long (lN b))] [] mu nu
  refine m_lload_n C 1 dX10_tell_0 rfl ?_
  refine m_lload_n C 2 dX10_tell_1 rfl ?_
  refine m_callSf C (c_X10_greatestShared l G mu nu a b ha hb hab) wkX10_353 (by decide) rfl rfl (Nat.le_of_ble_eq_true rfl) dX10_tell_2 ?_
  refine m_lstore C [(5, .long (lN (Nat.gcd a b))), (0, .ref (G.1 0)), (1, .long (lN a)), (3, .long (lN b))] dX10_tell_5 (by decide) rfl ?_
  refine m_lload C 0 dX10_tell_7 rfl ?_
  refine m_lconst C 0 dX10_tell_9 rfl ?_
  refine m_lcmp C dX10_tell_10 ?_
  refine m_if_le C 30 dX10_tell_11 (by decide) (fun hh1 => ?_) (fun hh1 => ?_)
  · replace hh1 := ((lg_cmp_le _ _).trans (ll_le (ln_i (a := Nat.gcd a b) rfl (by omega)) (ln_i (a := 0) rfl (by omega)))).mp hh1
    exact absurd hh1 (by omega)
  replace hh1 := mt ((lg_cmp_le _ _).trans (ll_le (ln_i (a := Nat.gcd a b) rfl (by omega)) (ln_i (a := 0) rfl (by omega)))).mpr hh1
  refine m_aload_n C 1 dX10_tell_14 rfl ?_
  refine m_lload_n C 2 dX10_tell_15 rfl ?_
  refine m_lload C 0 dX10_tell_16 rfl ?_
  refine m_ldiv C dX10_tell_18 (ln_ne hg0 (by omega)) ?_
  refine m_topl (lN (a / (Nat.gcd a b))) (ln_div rfl rfl (by omega) (by omega) (by omega)) ?_
  refine pfX10_287 C dX10_tell_19 ?_
  refine m_aload_n C 1 dX10_tell_22 rfl ?_
  refine m_lload_n C 3 dX10_tell_23 rfl ?_
  refine m_lload C 0 dX10_tell_24 rfl ?_
  refine m_ldiv C dX10_tell_26 (ln_ne hg0 (by omega)) ?_
  refine m_topl (lN (b / (Nat.gcd a b))) (ln_div rfl rfl (by omega) (by omega) (by omega)) ?_
  refine pfX10_68 C dX10_tell_27 ?_
  refine m_vretv C hQ dX10_tell_30 ?_
  exact ⟨rfl, rfl⟩

set_option maxHeartbeats 4000000 in
set_option maxRecDepth 100000 in
theorem c_X10_howManyThere_rows (l : Launch) (G : Gl) (mu : Mu) (nu : Nu) (x : Nat → Option (List Int32)) (hx : ∀ r, r < 6 → z_st mu (2 + 2 * r) 40 (x r)) : Cf l G mX10_howManyThere 2 [.ref (G.1 1)] mu nu (.int (nI (s_ct x 6))) := by
  refine Ct.of (lv := [(0, .ref (G.1 1))]) rfl rfl (Nat.le_of_ble_eq_true rfl) rfl (fun X C => ?_)
  generalize hQ : g_E G X _ = Q
  replace C : Cx G 3 X cX10_howManyThere RX10 (some .int) 2 := C
  show Mq l G 3 X Q 0 [(0, .ref (G.1 1))] [] mu nu
  refine m_iconst C 0 dX10_howManyThere_0 (by decide +kernel) ?_
  refine m_istore_n C [(1, .int 0), (0, .ref (G.1 1))] dX10_howManyThere_1 (by decide) rfl ?_
  refine m_iconst C 0 dX10_howManyThere_2 (by decide +kernel) ?_
  refine m_istore_n C [(2, .int 0), (1, .int 0), (0, .ref (G.1 1))] dX10_howManyThere_3 (by decide) rfl ?_
  have L4 : ∀ (fu : Nat) (r : Nat) (hr : r ≤ 6), 6 - r < fu → Mq l G 3 X Q 4 [(0, .ref (G.1 1)), (1, .int (nI (s_ct x r))), (2, .int (nI r))] [] mu nu := by
    intro fu
    induction fu with
    | zero => intro r hr hm; exact absurd hm (Nat.not_lt_zero _)
    | succ fu ih4 =>
      intro r hr hm
      have hle := s_ct_le (x := x) r
      refine m_iload_n C 2 dX10_howManyThere_4 rfl ?_
      refine m_aload_n C 0 dX10_howManyThere_5 rfl ?_
      refine m_alenR C 1 (by decide) 1 rfl ra_1 dX10_howManyThere_6 ?_
      refine m_icmp_ge C 28 dX10_howManyThere_7 (by decide) (fun hh1 => ?_) (fun hh1 => ?_)
      · replace hh1 := (ii_le (nn_i (a := 6) rfl (by omega)) (nn_i (a := r) rfl (by omega))).mp hh1
        refine m_iload_n C 1 dX10_howManyThere_28 rfl ?_
        refine m_iretf C hQ dX10_howManyThere_29 rfl rfl ?_
        have e : r = 6 := by omega
        subst e; rfl
      replace hh1 := mt (ii_le (nn_i (a := 6) rfl (by omega)) (nn_i (a := r) rfl (by omega))).mpr hh1
      refine m_aload_n C 0 dX10_howManyThere_10 rfl ?_
      refine m_iload_n C 2 dX10_howManyThere_11 rfl ?_
      refine m_aald C 1 (by decide) 1 rfl ra_1 r (G.1 (2 + 2 * r)) rfl (by omega) (by decide) rfl dX10_howManyThere_12 ?_
      refine m_callVf C (2 + 2 * r) (stc_lt (stc_row (by omega))) (sh_strip (stc_row (by omega)) _ _) rfl (c_X7_isThere l G mu nu (2 + 2 * r) (stc_row (by omega))) wkX10_99 (by decide) rfl rfl (Nat.le_of_ble_eq_true rfl) dX10_howManyThere_13 ?_
      refine m_if_eq C 22 dX10_howManyThere_16 (by decide) (fun hh2 => ?_) (fun hh2 => ?_)
      · replace hh2 := bI_eq0.mp hh2
        replace hh2 := mt (zs_is (hx r (by omega)) (by decide)).mp hh2
        refine m_iinc C 2 (nI (r + 1)) [(2, .int (nI (r + 1))), (0, .ref (G.1 1)), (1, .int (nI (s_ct x r)))] dX10_howManyThere_22 rfl (nn_add rfl (show Int32.ofInt 1 = nI 1 from rfl)) (by decide) rfl ?_
        rw [show nI (s_ct x r) = nI (s_ct x (r + 1)) from congrArg nI (show s_ct x r = s_ct x (r + 1) from ((congrArg (fun z => s_ct x r + z) (if_neg (by assumption))).trans (Nat.add_zero _)).symm)]
        refine m_goto C 4 dX10_howManyThere_25 (by decide) ?_
        exact m_sub [1, 2, 0] rfl (ih4 (r + 1) (by omega) (by omega))
      replace hh2 := bI_ne0.mp hh2
      replace hh2 := (zs_is (hx r (by omega)) (by decide)).mpr hh2
      refine m_iinc C 1 (nI (s_ct x r + 1)) [(1, .int (nI (s_ct x r + 1))), (0, .ref (G.1 1)), (2, .int (nI r))] dX10_howManyThere_19 rfl (nn_add rfl (show Int32.ofInt 1 = nI 1 from rfl)) (by decide) rfl ?_
      refine m_iinc C 2 (nI (r + 1)) [(2, .int (nI (r + 1))), (1, .int (nI (s_ct x r + 1))), (0, .ref (G.1 1))] dX10_howManyThere_22 rfl (nn_add rfl (show Int32.ofInt 1 = nI 1 from rfl)) (by decide) rfl ?_
      rw [show nI (s_ct x r + 1) = nI (s_ct x (r + 1)) from congrArg nI (show s_ct x r + 1 = s_ct x (r + 1) from (congrArg (fun z => s_ct x r + z) (if_pos (by assumption))).symm)]
      refine m_goto C 4 dX10_howManyThere_25 (by decide) ?_
      exact m_sub [2, 1, 0] rfl (ih4 (r + 1) (by omega) (by omega))
  exact m_sub [2, 1, 0] rfl (L4 (_ + 1) 0 (Nat.zero_le _) (Nat.lt_succ_self _))

set_option maxHeartbeats 4000000 in
set_option maxRecDepth 100000 in
theorem c_X10_howManyThere_texts (l : Launch) (G : Gl) (mu : Mu) (nu : Nu) (x : Nat → Option (List Int32)) (hx : ∀ r, r < 4 → z_st mu (15 + 2 * r) 60 (x r)) : Cf l G mX10_howManyThere 2 [.ref (G.1 14)] mu nu (.int (nI (s_ct x 4))) := by
  refine Ct.of (lv := [(0, .ref (G.1 14))]) rfl rfl (Nat.le_of_ble_eq_true rfl) rfl (fun X C => ?_)
  generalize hQ : g_E G X _ = Q
  replace C : Cx G 3 X cX10_howManyThere RX10 (some .int) 2 := C
  show Mq l G 3 X Q 0 [(0, .ref (G.1 14))] [] mu nu
  refine m_iconst C 0 dX10_howManyThere_0 (by decide +kernel) ?_
  refine m_istore_n C [(1, .int 0), (0, .ref (G.1 14))] dX10_howManyThere_1 (by decide) rfl ?_
  refine m_iconst C 0 dX10_howManyThere_2 (by decide +kernel) ?_
  refine m_istore_n C [(2, .int 0), (1, .int 0), (0, .ref (G.1 14))] dX10_howManyThere_3 (by decide) rfl ?_
  have L4 : ∀ (fu : Nat) (r : Nat) (hr : r ≤ 4), 4 - r < fu → Mq l G 3 X Q 4 [(0, .ref (G.1 14)), (1, .int (nI (s_ct x r))), (2, .int (nI r))] [] mu nu := by
    intro fu
    induction fu with
    | zero => intro r hr hm; exact absurd hm (Nat.not_lt_zero _)
    | succ fu ih4 =>
      intro r hr hm
      have hle := s_ct_le (x := x) r
      refine m_iload_n C 2 dX10_howManyThere_4 rfl ?_
      refine m_aload_n C 0 dX10_howManyThere_5 rfl ?_
      refine m_alenR C 14 (by decide) 1 rfl ra_14 dX10_howManyThere_6 ?_
      refine m_icmp_ge C 28 dX10_howManyThere_7 (by decide) (fun hh1 => ?_) (fun hh1 => ?_)
      · replace hh1 := (ii_le (nn_i (a := 4) rfl (by omega)) (nn_i (a := r) rfl (by omega))).mp hh1
        refine m_iload_n C 1 dX10_howManyThere_28 rfl ?_
        refine m_iretf C hQ dX10_howManyThere_29 rfl rfl ?_
        have e : r = 4 := by omega
        subst e; rfl
      replace hh1 := mt (ii_le (nn_i (a := 4) rfl (by omega)) (nn_i (a := r) rfl (by omega))).mpr hh1
      refine m_aload_n C 0 dX10_howManyThere_10 rfl ?_
      refine m_iload_n C 2 dX10_howManyThere_11 rfl ?_
      refine m_aald C 14 (by decide) 1 rfl ra_14 r (G.1 (15 + 2 * r)) rfl (by omega) (by decide) rfl dX10_howManyThere_12 ?_
      refine m_callVf C (15 + 2 * r) (stc_lt (stc_text (by omega))) (sh_strip (stc_text (by omega)) _ _) rfl (c_X7_isThere l G mu nu (15 + 2 * r) (stc_text (by omega))) wkX10_99 (by decide) rfl rfl (Nat.le_of_ble_eq_true rfl) dX10_howManyThere_13 ?_
      refine m_if_eq C 22 dX10_howManyThere_16 (by decide) (fun hh2 => ?_) (fun hh2 => ?_)
      · replace hh2 := bI_eq0.mp hh2
        replace hh2 := mt (zs_is (hx r (by omega)) (by decide)).mp hh2
        refine m_iinc C 2 (nI (r + 1)) [(2, .int (nI (r + 1))), (0, .ref (G.1 14)), (1, .int (nI (s_ct x r)))] dX10_howManyThere_22 rfl (nn_add rfl (show Int32.ofInt 1 = nI 1 from rfl)) (by decide) rfl ?_
        rw [show nI (s_ct x r) = nI (s_ct x (r + 1)) from congrArg nI (show s_ct x r = s_ct x (r + 1) from ((congrArg (fun z => s_ct x r + z) (if_neg (by assumption))).trans (Nat.add_zero _)).symm)]
        refine m_goto C 4 dX10_howManyThere_25 (by decide) ?_
        exact m_sub [1, 2, 0] rfl (ih4 (r + 1) (by omega) (by omega))
      replace hh2 := bI_ne0.mp hh2
      replace hh2 := (zs_is (hx r (by omega)) (by decide)).mpr hh2
      refine m_iinc C 1 (nI (s_ct x r + 1)) [(1, .int (nI (s_ct x r + 1))), (0, .ref (G.1 14)), (2, .int (nI r))] dX10_howManyThere_19 rfl (nn_add rfl (show Int32.ofInt 1 = nI 1 from rfl)) (by decide) rfl ?_
      refine m_iinc C 2 (nI (r + 1)) [(2, .int (nI (r + 1))), (1, .int (nI (s_ct x r + 1))), (0, .ref (G.1 14))] dX10_howManyThere_22 rfl (nn_add rfl (show Int32.ofInt 1 = nI 1 from rfl)) (by decide) rfl ?_
      rw [show nI (s_ct x r + 1) = nI (s_ct x (r + 1)) from congrArg nI (show s_ct x r + 1 = s_ct x (r + 1) from (congrArg (fun z => s_ct x r + z) (if_pos (by assumption))).symm)]
      refine m_goto C 4 dX10_howManyThere_25 (by decide) ?_
      exact m_sub [2, 1, 0] rfl (ih4 (r + 1) (by omega) (by omega))
  exact m_sub [2, 1, 0] rfl (L4 (_ + 1) 0 (Nat.zero_le _) (Nat.lt_succ_self _))

set_option maxHeartbeats 4000000 in
set_option maxRecDepth 100000 in
theorem c_X10_howManyKept (l : Launch) (G : Gl) (mu : Mu) (nu : Nu) (x : Nat → Option Zb) (hx : ∀ k, k < 3 → mu (44 + 5 * k) 7 = if (x k).isSome = true then 1 else 0) : Cf l G mX10_howManyKept 1 [.ref (G.1 0)] mu nu (.int (nI (s_kc x 3))) := by
  refine Ct.of (lv := [(0, .ref (G.1 0))]) rfl rfl (Nat.le_of_ble_eq_true rfl) rfl (fun X C => ?_)
  generalize hQ : g_E G X _ = Q
  replace C : Cx G 3 X cX10_howManyKept RX10 (some .int) 1 := C
  show Mq l G 3 X Q 0 [(0, .ref (G.1 0))] [] mu nu
  refine m_iconst C 0 dX10_howManyKept_0 (by decide +kernel) ?_
  refine m_istore_n C [(1, .int 0), (0, .ref (G.1 0))] dX10_howManyKept_1 (by decide) rfl ?_
  refine m_iconst C 0 dX10_howManyKept_2 (by decide +kernel) ?_
  refine m_istore_n C [(2, .int 0), (1, .int 0), (0, .ref (G.1 0))] dX10_howManyKept_3 (by decide) rfl ?_
  have L4 : ∀ (fu : Nat) (k : Nat) (hk : k ≤ 3), 3 - k < fu → Mq l G 3 X Q 4 [(0, .ref (G.1 0)), (1, .int (nI (s_kc x k))), (2, .int (nI k))] [] mu nu := by
    intro fu
    induction fu with
    | zero => intro k hk hm; exact absurd hm (Nat.not_lt_zero _)
    | succ fu ih4 =>
      intro k hk hm
      refine m_iload_n C 2 dX10_howManyKept_4 rfl ?_
      refine m_iconst C 3 dX10_howManyKept_5 (by decide +kernel) ?_
      refine m_icmp_ge C 30 dX10_howManyKept_6 (by decide) (fun hh1 => ?_) (fun hh1 => ?_)
      · replace hh1 := (ii_le (nn_i (a := 3) rfl (by omega)) (nn_i (a := k) rfl (by omega))).mp hh1
        refine m_iload_n C 1 dX10_howManyKept_30 rfl ?_
        refine m_iretf C hQ dX10_howManyKept_31 rfl rfl ?_
        have e : k = 3 := by omega
        subst e; rfl
      replace hh1 := mt (ii_le (nn_i (a := 3) rfl (by omega)) (nn_i (a := k) rfl (by omega))).mpr hh1
      refine m_aload_n C 0 dX10_howManyKept_9 rfl ?_
      refine gfX10_57 C dX10_howManyKept_10 ?_
      refine m_iload_n C 2 dX10_howManyKept_13 rfl ?_
      refine m_aald C 43 (by decide) 4 rfl ra_43 k (G.1 (44 + 5 * k)) rfl (by omega) (by decide) rfl dX10_howManyKept_14 ?_
      refine gfX10_130 C (44 + 5 * k) (bnc_kept (by omega)) dX10_howManyKept_15 ?_
      refine m_topi (bI ((x k).isSome = true)) (hx k (by omega)) ?_
      refine m_if_eq C 24 dX10_howManyKept_18 (by decide) (fun hh2 => ?_) (fun hh2 => ?_)
      · replace hh2 := bI_eq0.mp hh2
        refine m_iinc C 2 (nI (k + 1)) [(2, .int (nI (k + 1))), (0, .ref (G.1 0)), (1, .int (nI (s_kc x k)))] dX10_howManyKept_24 rfl (nn_add rfl (show Int32.ofInt 1 = nI 1 from rfl)) (by decide) rfl ?_
        rw [show nI (s_kc x k) = nI (s_kc x (k + 1)) from congrArg nI (show s_kc x k = s_kc x (k + 1) from ((congrArg (fun z => s_kc x k + z) (if_neg (by assumption))).trans (Nat.add_zero _)).symm)]
        refine m_goto C 4 dX10_howManyKept_27 (by decide) ?_
        exact m_sub [1, 2, 0] rfl (ih4 (k + 1) (by omega) (by omega))
      replace hh2 := bI_ne0.mp hh2
      refine m_iinc C 1 (nI (s_kc x k + 1)) [(1, .int (nI (s_kc x k + 1))), (0, .ref (G.1 0)), (2, .int (nI k))] dX10_howManyKept_21 rfl (nn_add rfl (show Int32.ofInt 1 = nI 1 from rfl)) (by decide) rfl ?_
      refine m_iinc C 2 (nI (k + 1)) [(2, .int (nI (k + 1))), (1, .int (nI (s_kc x k + 1))), (0, .ref (G.1 0))] dX10_howManyKept_24 rfl (nn_add rfl (show Int32.ofInt 1 = nI 1 from rfl)) (by decide) rfl ?_
      rw [show nI (s_kc x k + 1) = nI (s_kc x (k + 1)) from congrArg nI (show s_kc x k + 1 = s_kc x (k + 1) from (congrArg (fun z => s_kc x k + z) (if_pos (by assumption))).symm)]
      refine m_goto C 4 dX10_howManyKept_27 (by decide) ?_
      exact m_sub [2, 1, 0] rfl (ih4 (k + 1) (by omega) (by omega))
  exact m_sub [2, 1, 0] rfl (L4 (_ + 1) 0 (Nat.zero_le _) (Nat.lt_succ_self _))

set_option maxHeartbeats 4000000 in
set_option maxRecDepth 100000 in
theorem c_X10_howManyOf (l : Launch) (G : Gl) (mu : Mu) (nu : Nu) (V : Vw) (hv : zv mu V) (t : Nat) (ht : 1 ≤ t) (ht5 : t ≤ 5) : Cf l G mX10_howManyOf 2 [.ref (G.1 0), .int (nI t)] mu nu (.int (nI (v_ho V t (v_N V)))) := by
  have hw := hv.1
  have hN7 := hw.1
  have hm7 := hw.2.2.1
  have ho8 := hw.2.2.2.2
  refine Ct.of (lv := [(0, .ref (G.1 0)), (1, .int (nI t))]) rfl rfl (Nat.le_of_ble_eq_true rfl) rfl (fun X C => ?_)
  generalize hQ : g_E G X _ = Q
  replace C : Cx G 4 X cX10_howManyOf RX10 (some .int) 2 := C
  show Mq l G 4 X Q 0 [(0, .ref (G.1 0)), (1, .int (nI t))] [] mu nu
  refine m_iconst C 0 dX10_howManyOf_0 (by decide +kernel) ?_
  refine m_istore_n C [(2, .int 0), (0, .ref (G.1 0)), (1, .int (nI t))] dX10_howManyOf_1 (by decide) rfl ?_
  refine m_iconst C 0 dX10_howManyOf_2 (by decide +kernel) ?_
  refine m_istore_n C [(3, .int 0), (2, .int 0), (0, .ref (G.1 0)), (1, .int (nI t))] dX10_howManyOf_3 (by decide) rfl ?_
  have L4 : ∀ (fu : Nat) (i : Nat) (hi : i ≤ v_N V), v_N V - i < fu → Mq l G 4 X Q 4 [(0, .ref (G.1 0)), (1, .int (nI t)), (2, .int (nI (v_ho V t i))), (3, .int (nI i))] [] mu nu := by
    intro fu
    induction fu with
    | zero => intro i hi hm; exact absurd hm (Nat.not_lt_zero _)
    | succ fu ih4 =>
      intro i hi hm
      refine m_iload_n C 3 dX10_howManyOf_4 rfl ?_
      refine m_aload_n C 0 dX10_howManyOf_5 rfl ?_
      refine gfX10_134 C dX10_howManyOf_6 ?_
      refine m_topi (nI (v_N V)) hv.2.1 ?_
      refine m_icmp_ge C 37 dX10_howManyOf_9 (by decide) (fun hh1 => ?_) (fun hh1 => ?_)
      · replace hh1 := (ii_le (nn_i (a := v_N V) rfl (by omega)) (nn_i (a := i) rfl (by omega))).mp hh1
        refine m_iload_n C 2 dX10_howManyOf_37 rfl ?_
        refine m_iretf C hQ dX10_howManyOf_38 rfl rfl ?_
        have e : i = v_N V := by omega
        subst e; rfl
      replace hh1 := mt (ii_le (nn_i (a := v_N V) rfl (by omega)) (nn_i (a := i) rfl (by omega))).mpr hh1
      have hi2 : i < v_N V := by omega
      have hri := hw.2.1 i hi2
      refine m_aload_n C 0 dX10_howManyOf_12 rfl ?_
      refine gfX10_43 C dX10_howManyOf_13 ?_
      refine m_iload_n C 3 dX10_howManyOf_16 rfl ?_
      refine m_aald C 30 (by decide) 3 rfl ra_30 i (G.1 (31 + i)) rfl (by omega) (by decide) rfl dX10_howManyOf_17 ?_
      refine gfX10_144 C (31 + i) (rdc_of (by omega)) dX10_howManyOf_18 ?_
      refine m_topr (b := G.1 (24 + v_kd V i)) (congrArg G.1 (zv_kr hv hi2)) ?_
      refine m_iload_n C 1 dX10_howManyOf_21 rfl ?_
      refine m_callSf C (c_X10_isOfKind l G mu nu (v_kd V i) hri.1 t ht ht5) wkX10_148 (by decide) rfl rfl (Nat.le_of_ble_eq_true rfl) dX10_howManyOf_22 ?_
      refine m_if_eq C 31 dX10_howManyOf_25 (by decide) (fun hh2 => ?_) (fun hh2 => ?_)
      · replace hh2 := bI_eq0.mp hh2
        refine m_iinc C 3 (nI (i + 1)) [(3, .int (nI (i + 1))), (0, .ref (G.1 0)), (1, .int (nI t)), (2, .int (nI (v_ho V t i)))] dX10_howManyOf_31 rfl (nn_add rfl (show Int32.ofInt 1 = nI 1 from rfl)) (by decide) rfl ?_
        rw [show nI (v_ho V t i) = nI (v_ho V t (i + 1)) from congrArg nI (show v_ho V t i = v_ho V t (i + 1) from ((congrArg (fun z => v_ho V t i + z) (if_neg (by assumption))).trans (Nat.add_zero _)).symm)]
        refine m_goto C 4 dX10_howManyOf_34 (by decide) ?_
        exact m_sub [1, 2, 3, 0] rfl (ih4 (i + 1) (by omega) (by omega))
      replace hh2 := bI_ne0.mp hh2
      refine m_iinc C 2 (nI (v_ho V t i + 1)) [(2, .int (nI (v_ho V t i + 1))), (0, .ref (G.1 0)), (1, .int (nI t)), (3, .int (nI i))] dX10_howManyOf_28 rfl (nn_add rfl (show Int32.ofInt 1 = nI 1 from rfl)) (by decide) rfl ?_
      refine m_iinc C 3 (nI (i + 1)) [(3, .int (nI (i + 1))), (2, .int (nI (v_ho V t i + 1))), (0, .ref (G.1 0)), (1, .int (nI t))] dX10_howManyOf_31 rfl (nn_add rfl (show Int32.ofInt 1 = nI 1 from rfl)) (by decide) rfl ?_
      rw [show nI (v_ho V t i + 1) = nI (v_ho V t (i + 1)) from congrArg nI (show v_ho V t i + 1 = v_ho V t (i + 1) from (congrArg (fun z => v_ho V t i + z) (if_pos (by assumption))).symm)]
      refine m_goto C 4 dX10_howManyOf_34 (by decide) ?_
      exact m_sub [2, 3, 1, 0] rfl (ih4 (i + 1) (by omega) (by omega))
  exact m_sub [2, 3, 1, 0] rfl (L4 (_ + 1) 0 (Nat.zero_le _) (Nat.lt_succ_self _))

set_option maxHeartbeats 4000000 in
set_option maxRecDepth 100000 in
theorem c_X10_withStrips_rows (l : Launch) (G : Gl) (mu : Mu) (nu : Nu) (h0 : Int64) (x : Nat → Option (List Int32)) (hx : ∀ r, r < 6 → z_st mu (2 + 2 * r) 40 (x r)) : Cf l G mX10_withStrips 1 [.long h0, .ref (G.1 1)] mu nu (.long (s_hs x h0 6)) := by
  refine Ct.of (lv := [(0, .long h0), (2, .ref (G.1 1))]) rfl rfl (Nat.le_of_ble_eq_true rfl) rfl (fun X C => ?_)
  generalize hQ : g_E G X _ = Q
  replace C : Cx G 7 X cX10_withStrips RX10 (some .long) 1 := C
  show Mq l G 7 X Q 0 [(0, .long h0), (2, .ref (G.1 1))] [] mu nu
  refine m_lload_n C 0 dX10_withStrips_0 rfl ?_
  refine m_lstore_n C [(3, .long h0), (0, .long h0), (2, .ref (G.1 1))] dX10_withStrips_1 (by decide) rfl ?_
  refine m_iconst C 0 dX10_withStrips_2 (by decide +kernel) ?_
  refine m_istore C [(5, .int 0), (3, .long h0), (0, .long h0), (2, .ref (G.1 1))] dX10_withStrips_3 (by decide) rfl ?_
  have L5 : ∀ (fu : Nat) (r : Nat) (hr : r ≤ 6), 6 - r < fu → Mq l G 7 X Q 5 [(0, .long h0), (2, .ref (G.1 1)), (3, .long (s_hs x h0 r)), (5, .int (nI r))] [] mu nu := by
    intro fu
    induction fu with
    | zero => intro r hr hm; exact absurd hm (Nat.not_lt_zero _)
    | succ fu ih5 =>
      intro r hr hm
      refine m_iload C 3 dX10_withStrips_5 rfl ?_
      refine m_aload_n C 1 dX10_withStrips_7 rfl ?_
      refine m_alenR C 1 (by decide) 1 rfl ra_1 dX10_withStrips_8 ?_
      refine m_icmp_ge C 72 dX10_withStrips_9 (by decide) (fun hh1 => ?_) (fun hh1 => ?_)
      · replace hh1 := (ii_le (nn_i (a := 6) rfl (by omega)) (nn_i (a := r) rfl (by omega))).mp hh1
        refine m_lload_n C 2 dX10_withStrips_72 rfl ?_
        refine m_lretf C hQ dX10_withStrips_73 rfl rfl ?_
        have e : r = 6 := by omega
        subst e; rfl
      replace hh1 := mt (ii_le (nn_i (a := 6) rfl (by omega)) (nn_i (a := r) rfl (by omega))).mpr hh1
      refine m_ldc2 C 31 wcX10_308 dX10_withStrips_12 ?_
      have hxr := hx r (by omega)
      obtain ⟨hxe, hn⟩ | ⟨xs, hxe, hl, hl2, hxs⟩ := zs_two hxr
      · skip
        replace hn : mu (2 + 2 * r) 1 = -1 := hn
        refine m_lload_n C 2 dX10_withStrips_15 rfl ?_
        refine m_lmul C dX10_withStrips_16 ?_
        refine m_aload_n C 1 dX10_withStrips_17 rfl ?_
        refine m_iload C 3 dX10_withStrips_18 rfl ?_
        refine m_aald C 1 (by decide) 1 rfl ra_1 r (G.1 (2 + 2 * r)) rfl (by omega) (by decide) rfl dX10_withStrips_20 ?_
        refine gfX10_103 C (2 + 2 * r) (stc_row (by omega)) dX10_withStrips_21 ?_
        refine m_i2l C dX10_withStrips_24 ?_
        refine m_topl ((-1)) (by rw [hn]; decide +kernel) ?_
        refine m_ladd C dX10_withStrips_25 ?_
        refine m_topl (s_hs x h0 (r + 1)) (by show _ = s_h1 (x r) _; rw [hxe]; rfl) ?_
        refine m_lstore_n C [(3, .long (s_hs x h0 (r + 1))), (0, .long h0), (2, .ref (G.1 1)), (5, .int (nI r))] dX10_withStrips_26 (by decide) rfl ?_
        refine m_iconst C 0 dX10_withStrips_27 (by decide +kernel) ?_
        refine m_istore C [(6, .int 0), (3, .long (s_hs x h0 (r + 1))), (0, .long h0), (2, .ref (G.1 1)), (5, .int (nI r))] dX10_withStrips_28 (by decide) rfl ?_
        refine m_iload C 0 dX10_withStrips_30 rfl ?_
        refine m_aload_n C 3 dX10_withStrips_32 rfl ?_
        refine m_iload C 4 dX10_withStrips_33 rfl ?_
        refine m_aald C 1 (by decide) 1 rfl ra_1 r (G.1 (2 + 2 * r)) rfl (by omega) (by decide) rfl dX10_withStrips_35 ?_
        refine gfX10_103 C (2 + 2 * r) (stc_row (by omega)) dX10_withStrips_36 ?_
        refine m_icmp_ge C 66 dX10_withStrips_39 (by decide) (fun _ => ?_) (fun hh2 => absurd ((ii_le (show (mu (2 + 2 * r) 1).toInt = -1 by rw [hn]; decide +kernel) (nn_i (a := 0) rfl (by omega))).mpr (by omega)) hh2)
        refine m_iinc C 4 (nI (r + 1)) [(5, .int (nI (r + 1))), (6, .int 0), (3, .long (s_hs x h0 (r + 1))), (0, .long h0), (2, .ref (G.1 1))] dX10_withStrips_66 rfl (nn_add rfl (show Int32.ofInt 1 = nI 1 from rfl)) (by decide) rfl ?_
        refine m_goto C 5 dX10_withStrips_69 (by decide) ?_
        exact m_sub [3, 4, 2, 0] rfl (ih5 (r + 1) (by omega) (by omega))
      · skip
        replace hl : mu (2 + 2 * r) 1 = nI xs.length := hl
        refine m_lload_n C 2 dX10_withStrips_15 rfl ?_
        refine m_lmul C dX10_withStrips_16 ?_
        refine m_aload_n C 1 dX10_withStrips_17 rfl ?_
        refine m_iload C 3 dX10_withStrips_18 rfl ?_
        refine m_aald C 1 (by decide) 1 rfl ra_1 r (G.1 (2 + 2 * r)) rfl (by omega) (by decide) rfl dX10_withStrips_20 ?_
        refine gfX10_103 C (2 + 2 * r) (stc_row (by omega)) dX10_withStrips_21 ?_
        refine m_topi (nI xs.length) hl ?_
        refine m_i2l C dX10_withStrips_24 ?_
        refine m_topl (lN xs.length) (ln_i2l rfl (by omega)) ?_
        refine m_ladd C dX10_withStrips_25 ?_
        refine m_topl (s_hp xs (s_hs x h0 r) 0) rfl ?_
        refine m_lstore_n C [(3, .long (s_hp xs (s_hs x h0 r) 0)), (0, .long h0), (2, .ref (G.1 1)), (5, .int (nI r))] dX10_withStrips_26 (by decide) rfl ?_
        refine m_iconst C 0 dX10_withStrips_27 (by decide +kernel) ?_
        refine m_istore C [(6, .int 0), (3, .long (s_hp xs (s_hs x h0 r) 0)), (0, .long h0), (2, .ref (G.1 1)), (5, .int (nI r))] dX10_withStrips_28 (by decide) rfl ?_
        have L30 : ∀ (fu : Nat) (j : Nat) (hj : j ≤ xs.length), xs.length - j < fu → Mq l G 7 X Q 30 [(0, .long h0), (2, .ref (G.1 1)), (3, .long (s_hp xs (s_hs x h0 r) j)), (5, .int (nI r)), (6, .int (nI j))] [] mu nu := by
          intro fu
          induction fu with
          | zero => intro j hj hm; exact absurd hm (Nat.not_lt_zero _)
          | succ fu ih30 =>
            intro j hj hm
            refine m_iload C 4 dX10_withStrips_30 rfl ?_
            refine m_aload_n C 1 dX10_withStrips_32 rfl ?_
            refine m_iload C 3 dX10_withStrips_33 rfl ?_
            refine m_aald C 1 (by decide) 1 rfl ra_1 r (G.1 (2 + 2 * r)) rfl (by omega) (by decide) rfl dX10_withStrips_35 ?_
            refine gfX10_103 C (2 + 2 * r) (stc_row (by omega)) dX10_withStrips_36 ?_
            refine m_topi (nI xs.length) hl ?_
            refine m_icmp_ge C 66 dX10_withStrips_39 (by decide) (fun hh3 => ?_) (fun hh3 => ?_)
            · replace hh3 := (ii_le (nn_i (a := xs.length) rfl (by omega)) (nn_i (a := j) rfl (by omega))).mp hh3
              have ej : j = xs.length := by omega
              rw [show s_hp xs (s_hs x h0 r) j = s_hs x h0 (r + 1) from by rw [ej]; show _ = s_h1 (x r) _; rw [hxe]; rfl]
              refine m_iinc C 3 (nI (r + 1)) [(5, .int (nI (r + 1))), (0, .long h0), (2, .ref (G.1 1)), (3, .long (s_hs x h0 (r + 1))), (6, .int (nI j))] dX10_withStrips_66 rfl (nn_add rfl (show Int32.ofInt 1 = nI 1 from rfl)) (by decide) rfl ?_
              refine m_goto C 5 dX10_withStrips_69 (by decide) ?_
              exact m_sub [1, 2, 3, 0] rfl (ih5 (r + 1) (by omega) (by omega))
            replace hh3 := mt (ii_le (nn_i (a := xs.length) rfl (by omega)) (nn_i (a := j) rfl (by omega))).mpr hh3
            refine m_ldc2 C 31 wcX10_308 dX10_withStrips_42 ?_
            refine m_lload_n C 2 dX10_withStrips_45 rfl ?_
            refine m_lmul C dX10_withStrips_46 ?_
            refine m_aload_n C 1 dX10_withStrips_47 rfl ?_
            refine m_iload C 3 dX10_withStrips_48 rfl ?_
            refine m_aald C 1 (by decide) 1 rfl ra_1 r (G.1 (2 + 2 * r)) rfl (by omega) (by decide) rfl dX10_withStrips_50 ?_
            refine gfX10_92 C (2 + 2 * r) (stc_row (by omega)) dX10_withStrips_51 ?_
            refine m_iload C 4 dX10_withStrips_54 rfl ?_
            refine m_iald C (2 + 2 * r + 1) (stc_lt1 (stc_row (by omega))) (sa_strip (stc_row (by omega))) j rfl (by omega) (by decide) dX10_withStrips_56 ?_
            refine m_topi (xs.getD j 0) (hxs _ (by omega)) ?_
            refine m_i2l C dX10_withStrips_57 ?_
            refine m_ladd C dX10_withStrips_58 ?_
            refine m_topl (s_hp xs (s_hs x h0 r) (j + 1)) rfl ?_
            refine m_lstore_n C [(3, .long (s_hp xs (s_hs x h0 r) (j + 1))), (0, .long h0), (2, .ref (G.1 1)), (5, .int (nI r)), (6, .int (nI j))] dX10_withStrips_59 (by decide) rfl ?_
            refine m_iinc C 4 (nI (j + 1)) [(6, .int (nI (j + 1))), (3, .long (s_hp xs (s_hs x h0 r) (j + 1))), (0, .long h0), (2, .ref (G.1 1)), (5, .int (nI r))] dX10_withStrips_60 rfl (nn_add rfl (show Int32.ofInt 1 = nI 1 from rfl)) (by decide) rfl ?_
            refine m_goto C 30 dX10_withStrips_63 (by decide) ?_
            exact m_sub [2, 3, 1, 4, 0] rfl (ih30 (j + 1) (by omega) (by omega))
        exact m_sub [2, 3, 1, 4, 0] rfl (L30 (_ + 1) 0 (Nat.zero_le _) (Nat.lt_succ_self _))
  exact m_sub [2, 3, 1, 0] rfl (L5 (_ + 1) 0 (Nat.zero_le _) (Nat.lt_succ_self _))

set_option maxHeartbeats 4000000 in
set_option maxRecDepth 100000 in
theorem c_X10_withStrips_texts (l : Launch) (G : Gl) (mu : Mu) (nu : Nu) (h0 : Int64) (x : Nat → Option (List Int32)) (hx : ∀ r, r < 4 → z_st mu (15 + 2 * r) 60 (x r)) : Cf l G mX10_withStrips 1 [.long h0, .ref (G.1 14)] mu nu (.long (s_hs x h0 4)) := by
  refine Ct.of (lv := [(0, .long h0), (2, .ref (G.1 14))]) rfl rfl (Nat.le_of_ble_eq_true rfl) rfl (fun X C => ?_)
  generalize hQ : g_E G X _ = Q
  replace C : Cx G 7 X cX10_withStrips RX10 (some .long) 1 := C
  show Mq l G 7 X Q 0 [(0, .long h0), (2, .ref (G.1 14))] [] mu nu
  refine m_lload_n C 0 dX10_withStrips_0 rfl ?_
  refine m_lstore_n C [(3, .long h0), (0, .long h0), (2, .ref (G.1 14))] dX10_withStrips_1 (by decide) rfl ?_
  refine m_iconst C 0 dX10_withStrips_2 (by decide +kernel) ?_
  refine m_istore C [(5, .int 0), (3, .long h0), (0, .long h0), (2, .ref (G.1 14))] dX10_withStrips_3 (by decide) rfl ?_
  have L5 : ∀ (fu : Nat) (r : Nat) (hr : r ≤ 4), 4 - r < fu → Mq l G 7 X Q 5 [(0, .long h0), (2, .ref (G.1 14)), (3, .long (s_hs x h0 r)), (5, .int (nI r))] [] mu nu := by
    intro fu
    induction fu with
    | zero => intro r hr hm; exact absurd hm (Nat.not_lt_zero _)
    | succ fu ih5 =>
      intro r hr hm
      refine m_iload C 3 dX10_withStrips_5 rfl ?_
      refine m_aload_n C 1 dX10_withStrips_7 rfl ?_
      refine m_alenR C 14 (by decide) 1 rfl ra_14 dX10_withStrips_8 ?_
      refine m_icmp_ge C 72 dX10_withStrips_9 (by decide) (fun hh1 => ?_) (fun hh1 => ?_)
      · replace hh1 := (ii_le (nn_i (a := 4) rfl (by omega)) (nn_i (a := r) rfl (by omega))).mp hh1
        refine m_lload_n C 2 dX10_withStrips_72 rfl ?_
        refine m_lretf C hQ dX10_withStrips_73 rfl rfl ?_
        have e : r = 4 := by omega
        subst e; rfl
      replace hh1 := mt (ii_le (nn_i (a := 4) rfl (by omega)) (nn_i (a := r) rfl (by omega))).mpr hh1
      refine m_ldc2 C 31 wcX10_308 dX10_withStrips_12 ?_
      have hxr := hx r (by omega)
      obtain ⟨hxe, hn⟩ | ⟨xs, hxe, hl, hl2, hxs⟩ := zs_two hxr
      · skip
        replace hn : mu (15 + 2 * r) 1 = -1 := hn
        refine m_lload_n C 2 dX10_withStrips_15 rfl ?_
        refine m_lmul C dX10_withStrips_16 ?_
        refine m_aload_n C 1 dX10_withStrips_17 rfl ?_
        refine m_iload C 3 dX10_withStrips_18 rfl ?_
        refine m_aald C 14 (by decide) 1 rfl ra_14 r (G.1 (15 + 2 * r)) rfl (by omega) (by decide) rfl dX10_withStrips_20 ?_
        refine gfX10_103 C (15 + 2 * r) (stc_text (by omega)) dX10_withStrips_21 ?_
        refine m_i2l C dX10_withStrips_24 ?_
        refine m_topl ((-1)) (by rw [hn]; decide +kernel) ?_
        refine m_ladd C dX10_withStrips_25 ?_
        refine m_topl (s_hs x h0 (r + 1)) (by show _ = s_h1 (x r) _; rw [hxe]; rfl) ?_
        refine m_lstore_n C [(3, .long (s_hs x h0 (r + 1))), (0, .long h0), (2, .ref (G.1 14)), (5, .int (nI r))] dX10_withStrips_26 (by decide) rfl ?_
        refine m_iconst C 0 dX10_withStrips_27 (by decide +kernel) ?_
        refine m_istore C [(6, .int 0), (3, .long (s_hs x h0 (r + 1))), (0, .long h0), (2, .ref (G.1 14)), (5, .int (nI r))] dX10_withStrips_28 (by decide) rfl ?_
        refine m_iload C 0 dX10_withStrips_30 rfl ?_
        refine m_aload_n C 3 dX10_withStrips_32 rfl ?_
        refine m_iload C 4 dX10_withStrips_33 rfl ?_
        refine m_aald C 14 (by decide) 1 rfl ra_14 r (G.1 (15 + 2 * r)) rfl (by omega) (by decide) rfl dX10_withStrips_35 ?_
        refine gfX10_103 C (15 + 2 * r) (stc_text (by omega)) dX10_withStrips_36 ?_
        refine m_icmp_ge C 66 dX10_withStrips_39 (by decide) (fun _ => ?_) (fun hh2 => absurd ((ii_le (show (mu (15 + 2 * r) 1).toInt = -1 by rw [hn]; decide +kernel) (nn_i (a := 0) rfl (by omega))).mpr (by omega)) hh2)
        refine m_iinc C 4 (nI (r + 1)) [(5, .int (nI (r + 1))), (6, .int 0), (3, .long (s_hs x h0 (r + 1))), (0, .long h0), (2, .ref (G.1 14))] dX10_withStrips_66 rfl (nn_add rfl (show Int32.ofInt 1 = nI 1 from rfl)) (by decide) rfl ?_
        refine m_goto C 5 dX10_withStrips_69 (by decide) ?_
        exact m_sub [3, 4, 2, 0] rfl (ih5 (r + 1) (by omega) (by omega))
      · skip
        replace hl : mu (15 + 2 * r) 1 = nI xs.length := hl
        refine m_lload_n C 2 dX10_withStrips_15 rfl ?_
        refine m_lmul C dX10_withStrips_16 ?_
        refine m_aload_n C 1 dX10_withStrips_17 rfl ?_
        refine m_iload C 3 dX10_withStrips_18 rfl ?_
        refine m_aald C 14 (by decide) 1 rfl ra_14 r (G.1 (15 + 2 * r)) rfl (by omega) (by decide) rfl dX10_withStrips_20 ?_
        refine gfX10_103 C (15 + 2 * r) (stc_text (by omega)) dX10_withStrips_21 ?_
        refine m_topi (nI xs.length) hl ?_
        refine m_i2l C dX10_withStrips_24 ?_
        refine m_topl (lN xs.length) (ln_i2l rfl (by omega)) ?_
        refine m_ladd C dX10_withStrips_25 ?_
        refine m_topl (s_hp xs (s_hs x h0 r) 0) rfl ?_
        refine m_lstore_n C [(3, .long (s_hp xs (s_hs x h0 r) 0)), (0, .long h0), (2, .ref (G.1 14)), (5, .int (nI r))] dX10_withStrips_26 (by decide) rfl ?_
        refine m_iconst C 0 dX10_withStrips_27 (by decide +kernel) ?_
        refine m_istore C [(6, .int 0), (3, .long (s_hp xs (s_hs x h0 r) 0)), (0, .long h0), (2, .ref (G.1 14)), (5, .int (nI r))] dX10_withStrips_28 (by decide) rfl ?_
        have L30 : ∀ (fu : Nat) (j : Nat) (hj : j ≤ xs.length), xs.length - j < fu → Mq l G 7 X Q 30 [(0, .long h0), (2, .ref (G.1 14)), (3, .long (s_hp xs (s_hs x h0 r) j)), (5, .int (nI r)), (6, .int (nI j))] [] mu nu := by
          intro fu
          induction fu with
          | zero => intro j hj hm; exact absurd hm (Nat.not_lt_zero _)
          | succ fu ih30 =>
            intro j hj hm
            refine m_iload C 4 dX10_withStrips_30 rfl ?_
            refine m_aload_n C 1 dX10_withStrips_32 rfl ?_
            refine m_iload C 3 dX10_withStrips_33 rfl ?_
            refine m_aald C 14 (by decide) 1 rfl ra_14 r (G.1 (15 + 2 * r)) rfl (by omega) (by decide) rfl dX10_withStrips_35 ?_
            refine gfX10_103 C (15 + 2 * r) (stc_text (by omega)) dX10_withStrips_36 ?_
            refine m_topi (nI xs.length) hl ?_
            refine m_icmp_ge C 66 dX10_withStrips_39 (by decide) (fun hh3 => ?_) (fun hh3 => ?_)
            · replace hh3 := (ii_le (nn_i (a := xs.length) rfl (by omega)) (nn_i (a := j) rfl (by omega))).mp hh3
              have ej : j = xs.length := by omega
              rw [show s_hp xs (s_hs x h0 r) j = s_hs x h0 (r + 1) from by rw [ej]; show _ = s_h1 (x r) _; rw [hxe]; rfl]
              refine m_iinc C 3 (nI (r + 1)) [(5, .int (nI (r + 1))), (0, .long h0), (2, .ref (G.1 14)), (3, .long (s_hs x h0 (r + 1))), (6, .int (nI j))] dX10_withStrips_66 rfl (nn_add rfl (show Int32.ofInt 1 = nI 1 from rfl)) (by decide) rfl ?_
              refine m_goto C 5 dX10_withStrips_69 (by decide) ?_
              exact m_sub [1, 2, 3, 0] rfl (ih5 (r + 1) (by omega) (by omega))
            replace hh3 := mt (ii_le (nn_i (a := xs.length) rfl (by omega)) (nn_i (a := j) rfl (by omega))).mpr hh3
            refine m_ldc2 C 31 wcX10_308 dX10_withStrips_42 ?_
            refine m_lload_n C 2 dX10_withStrips_45 rfl ?_
            refine m_lmul C dX10_withStrips_46 ?_
            refine m_aload_n C 1 dX10_withStrips_47 rfl ?_
            refine m_iload C 3 dX10_withStrips_48 rfl ?_
            refine m_aald C 14 (by decide) 1 rfl ra_14 r (G.1 (15 + 2 * r)) rfl (by omega) (by decide) rfl dX10_withStrips_50 ?_
            refine gfX10_92 C (15 + 2 * r) (stc_text (by omega)) dX10_withStrips_51 ?_
            refine m_iload C 4 dX10_withStrips_54 rfl ?_
            refine m_iald C (15 + 2 * r + 1) (stc_lt1 (stc_text (by omega))) (sa_strip (stc_text (by omega))) j rfl (by omega) (by decide) dX10_withStrips_56 ?_
            refine m_topi (xs.getD j 0) (hxs _ (by omega)) ?_
            refine m_i2l C dX10_withStrips_57 ?_
            refine m_ladd C dX10_withStrips_58 ?_
            refine m_topl (s_hp xs (s_hs x h0 r) (j + 1)) rfl ?_
            refine m_lstore_n C [(3, .long (s_hp xs (s_hs x h0 r) (j + 1))), (0, .long h0), (2, .ref (G.1 14)), (5, .int (nI r)), (6, .int (nI j))] dX10_withStrips_59 (by decide) rfl ?_
            refine m_iinc C 4 (nI (j + 1)) [(6, .int (nI (j + 1))), (3, .long (s_hp xs (s_hs x h0 r) (j + 1))), (0, .long h0), (2, .ref (G.1 14)), (5, .int (nI r))] dX10_withStrips_60 rfl (nn_add rfl (show Int32.ofInt 1 = nI 1 from rfl)) (by decide) rfl ?_
            refine m_goto C 30 dX10_withStrips_63 (by decide) ?_
            exact m_sub [2, 3, 1, 4, 0] rfl (ih30 (j + 1) (by omega) (by omega))
        exact m_sub [2, 3, 1, 4, 0] rfl (L30 (_ + 1) 0 (Nat.zero_le _) (Nat.lt_succ_self _))
  exact m_sub [2, 3, 1, 0] rfl (L5 (_ + 1) 0 (Nat.zero_le _) (Nat.lt_succ_self _))
