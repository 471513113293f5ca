theorem sh4_t {d m n : Nat} (h : n = m ∨ 9 - m < n) : s_sh 4 d m n = d * n % 10 := by
  unfold s_sh s_worn
  rw [if_neg (by decide), if_neg (by decide), if_neg (by decide), if_pos rfl]
  by_cases h2 : 9 - m < n
  · rw [if_pos h2]
  · rw [if_neg h2, if_pos (h.resolve_right h2)]
theorem sh4_f {d m n : Nat} (h : ¬ (n = m ∨ 9 - m < n)) : s_sh 4 d m n = d * n := by
  unfold s_sh s_worn
  rw [if_neg (by decide), if_neg (by decide), if_neg (by decide), if_pos rfl, if_neg (fun z => h (Or.inr z)), if_neg (fun z => h (Or.inl z))]
theorem tk_sh {G : Gl} {q0 : Nat} {f : Nat → Int32} {g : Nat → Int64} (h : q0 = 26 ∨ q0 = 29) : g_sh G q0 f g = .inr (if q0 = 26 then 8 else 2, []) := by
  rcases h with rfl | rfl <;> rfl
set_option maxHeartbeats 4000000 in
set_option maxRecDepth 100000 in
theorem c_X3_shown (l : Launch) (G : Gl) (mu : Mu) (nu : Nu) (a : Nat) (d m n : Nat) : Cf l G mX3_shown 1 [.ref a, .int (nI d), .int (nI m), .int (nI n)] mu nu (.int (nI (d * n))) := by
  refine Ct.of (lv := [(0, .ref a), (1, .int (nI d)), (2, .int (nI m)), (3, .int (nI n))]) rfl rfl (Nat.le_of_ble_eq_true rfl) rfl (fun X C => ?_)
  generalize hQ : g_E G X _ = Q
  replace C : Cx G 4 X cX3_shown RX3 (some .int) 1 := C
  show Mq l G 4 X Q 0 [(0, .ref a), (1, .int (nI d)), (2, .int (nI m)), (3, .int (nI n))] [] mu nu
  refine m_iload_n C 1 dX3_shown_0 rfl ?_
  refine m_iload_n C 3 dX3_shown_1 rfl ?_
  refine m_imul C dX3_shown_2 ?_
  refine m_topi (nI (d * n)) (nn_mul rfl rfl) ?_
  refine m_iretf C hQ dX3_shown_3 rfl rfl ?_
  rfl

set_option maxHeartbeats 4000000 in
set_option maxRecDepth 100000 in
theorem c_X9_isWithoutTens (l : Launch) (G : Gl) (mu : Mu) (nu : Nu) (a : Nat) (m n : Nat) (hm : m ≤ 9) (h9 : n ≤ 9) : Cf l G mX9_isWithoutTens 1 [.ref a, .int (nI m), .int (nI n)] mu nu (.int (bI (n = m))) := by
  refine Ct.of (lv := [(0, .ref a), (1, .int (nI m)), (2, .int (nI n))]) rfl rfl (Nat.le_of_ble_eq_true rfl) rfl (fun X C => ?_)
  generalize hQ : g_E G X _ = Q
  replace C : Cx G 3 X cX9_isWithoutTens RX9 (some .boolean) 1 := C
  show Mq l G 3 X Q 0 [(0, .ref a), (1, .int (nI m)), (2, .int (nI n))] [] mu nu
  refine m_iload_n C 2 dX9_isWithoutTens_0 rfl ?_
  refine m_iload_n C 1 dX9_isWithoutTens_1 rfl ?_
  refine m_icmp_ne C 9 dX9_isWithoutTens_2 (by decide) (fun hh1 => ?_) (fun hh1 => ?_)
  · replace hh1 := mt (ii_eq (nn_i (a := n) rfl (by omega)) (nn_i (a := m) rfl (by omega))).mpr hh1
    refine m_iconst C 0 dX9_isWithoutTens_9 (by decide +kernel) ?_
    refine m_zretf C hQ dX9_isWithoutTens_10 rfl rfl rfl ?_
    exact bI_f (by omega)
  replace hh1 := (ii_eq (nn_i (a := n) rfl (by omega)) (nn_i (a := m) rfl (by omega))).mp hh1
  refine m_iconst C 1 dX9_isWithoutTens_5 (by decide +kernel) ?_
  refine m_goto C 10 dX9_isWithoutTens_6 (by decide) ?_
  refine m_zretf C hQ dX9_isWithoutTens_10 rfl rfl rfl ?_
  exact bI_t (by omega)

set_option maxHeartbeats 4000000 in
set_option maxRecDepth 100000 in
theorem c_X1_isWithoutTens (l : Launch) (G : Gl) (mu : Mu) (nu : Nu) (m n : Nat) (hm : m ≤ 9) (h9 : n ≤ 9) : Cf l G mX1_isWithoutTens 2 [.ref (G.1 28), .int (nI m), .int (nI n)] mu nu (.int (bI (n = m ∨ 9 - m < n))) := by
  refine Ct.of (lv := [(0, .ref (G.1 28)), (1, .int (nI m)), (2, .int (nI n))]) rfl rfl (Nat.le_of_ble_eq_true rfl) rfl (fun X C => ?_)
  generalize hQ : g_E G X _ = Q
  replace C : Cx G 3 X cX1_isWithoutTens RX1 (some .boolean) 2 := C
  show Mq l G 3 X Q 0 [(0, .ref (G.1 28)), (1, .int (nI m)), (2, .int (nI n))] [] mu nu
  refine m_aload_n C 0 dX1_isWithoutTens_0 rfl ?_
  refine m_iload_n C 1 dX1_isWithoutTens_1 rfl ?_
  refine m_iload_n C 2 dX1_isWithoutTens_2 rfl ?_
  refine m_callUf C 28 (by decide) rfl rfl (c_X9_isWithoutTens l G mu nu (G.1 28) m n hm h9) wkX1_7 (by decide) rfl rfl (Nat.le_of_ble_eq_true rfl) dX1_isWithoutTens_3 ?_
  refine m_if_ne C 17 dX1_isWithoutTens_6 (by decide) (fun hh1 => ?_) (fun hh1 => ?_)
  · replace hh1 := bI_ne0.mp hh1
    refine m_iconst C 1 dX1_isWithoutTens_17 (by decide +kernel) ?_
    refine m_goto C 22 dX1_isWithoutTens_18 (by decide) ?_
    refine m_zretf C hQ dX1_isWithoutTens_22 rfl rfl rfl ?_
    exact bI_t (by omega)
  replace hh1 := bI_eq0.mp hh1
  refine m_iload_n C 2 dX1_isWithoutTens_9 rfl ?_
  refine m_bipush C 9 dX1_isWithoutTens_10 (by decide +kernel) ?_
  refine m_iload_n C 1 dX1_isWithoutTens_12 rfl ?_
  refine m_isub C dX1_isWithoutTens_13 ?_
  refine m_topi (nI (9 - m)) (nn_sub rfl rfl (by omega)) ?_
  refine m_icmp_le C 21 dX1_isWithoutTens_14 (by decide) (fun hh2 => ?_) (fun hh2 => ?_)
  · replace hh2 := (ii_le (nn_i (a := n) rfl (by omega)) (nn_i (a := 9 - m) rfl (by omega))).mp hh2
    refine m_iconst C 0 dX1_isWithoutTens_21 (by decide +kernel) ?_
    refine m_zretf C hQ dX1_isWithoutTens_22 rfl rfl rfl ?_
    exact bI_f (by omega)
  replace hh2 := mt (ii_le (nn_i (a := n) rfl (by omega)) (nn_i (a := 9 - m) rfl (by omega))).mpr hh2
  refine m_iconst C 1 dX1_isWithoutTens_17 (by decide +kernel) ?_
  refine m_goto C 22 dX1_isWithoutTens_18 (by decide) ?_
  refine m_zretf C hQ dX1_isWithoutTens_22 rfl rfl rfl ?_
  exact bI_t (by omega)

set_option maxHeartbeats 4000000 in
set_option maxRecDepth 100000 in
theorem c_X9_shown_25 (l : Launch) (G : Gl) (mu : Mu) (nu : Nu) (d m n : Nat) (hd : d ≤ 9) (hm : m ≤ 9) (h1 : 1 ≤ n) (h9 : n ≤ 9) : Cf l G mX9_shown 3 [.ref (G.1 25), .int (nI d), .int (nI m), .int (nI n)] mu nu (.int (nI (s_worn d m n))) := by
  have hb := mul_le81 hd h9
  have hb2 := mul_le81 (d := 9 - d) (by omega) h9
  refine Ct.of (lv := [(0, .ref (G.1 25)), (1, .int (nI d)), (2, .int (nI m)), (3, .int (nI n))]) rfl rfl (Nat.le_of_ble_eq_true rfl) rfl (fun X C => ?_)
  generalize hQ : g_E G X _ = Q
  replace C : Cx G 5 X cX9_shown RX9 (some .int) 3 := C
  show Mq l G 5 X Q 0 [(0, .ref (G.1 25)), (1, .int (nI d)), (2, .int (nI m)), (3, .int (nI n))] [] mu nu
  refine m_aload_n C 0 dX9_shown_0 rfl ?_
  refine m_iload_n C 1 dX9_shown_1 rfl ?_
  refine m_iload_n C 2 dX9_shown_2 rfl ?_
  refine m_iload_n C 3 dX9_shown_3 rfl ?_
  refine m_callUf C 25 (by decide) rfl rfl (c_X3_shown l G mu nu (G.1 25) d m n) wkX9_7 (by decide) rfl rfl (Nat.le_of_ble_eq_true rfl) dX9_shown_4 ?_
  refine m_istore C [(4, .int (nI (d * n))), (0, .ref (G.1 25)), (1, .int (nI d)), (2, .int (nI m)), (3, .int (nI n))] dX9_shown_7 (by decide) rfl ?_
  refine m_aload_n C 1 dX9_shown_9 rfl ?_
  refine m_iload_n C 3 dX9_shown_10 rfl ?_
  refine m_iload_n C 4 dX9_shown_11 rfl ?_
  refine m_callOf C 25 (by decide) rfl rfl (c_X9_isWithoutTens l G mu nu (G.1 25) m n hm h9) wkX9_11_X9 (by decide) rfl rfl (Nat.le_of_ble_eq_true rfl) dX9_shown_12 ?_
  refine m_if_eq C 26 dX9_shown_15 (by decide) (fun hh1 => ?_) (fun hh1 => ?_)
  · replace hh1 := bI_eq0.mp hh1
    refine m_iload C 0 dX9_shown_26 rfl ?_
    refine m_iretf C hQ dX9_shown_28 rfl rfl ?_
    unfold s_worn; rw [if_neg (by assumption)]
  replace hh1 := bI_ne0.mp hh1
  refine m_iload C 0 dX9_shown_18 rfl ?_
  refine m_bipush C 10 dX9_shown_20 (by decide +kernel) ?_
  refine m_irem C dX9_shown_22 (by decide) ?_
  refine m_topi (nI ((d * n) % 10)) (nn_rem rfl rfl (by omega) (by omega) (by omega)) ?_
  refine m_goto C 28 dX9_shown_23 (by decide) ?_
  refine m_iretf C hQ dX9_shown_28 rfl rfl ?_
  unfold s_worn; rw [if_pos (by assumption)]

set_option maxHeartbeats 4000000 in
set_option maxRecDepth 100000 in
theorem c_X9_shown_28 (l : Launch) (G : Gl) (mu : Mu) (nu : Nu) (d m n : Nat) (hd : d ≤ 9) (hm : m ≤ 9) (h1 : 1 ≤ n) (h9 : n ≤ 9) : Cf l G mX9_shown 3 [.ref (G.1 28), .int (nI d), .int (nI m), .int (nI n)] mu nu (.int (nI (s_sh 4 d m n))) := by
  have hb := mul_le81 hd h9
  have hb2 := mul_le81 (d := 9 - d) (by omega) h9
  refine Ct.of (lv := [(0, .ref (G.1 28)), (1, .int (nI d)), (2, .int (nI m)), (3, .int (nI n))]) rfl rfl (Nat.le_of_ble_eq_true rfl) rfl (fun X C => ?_)
  generalize hQ : g_E G X _ = Q
  replace C : Cx G 5 X cX9_shown RX9 (some .int) 3 := C
  show Mq l G 5 X Q 0 [(0, .ref (G.1 28)), (1, .int (nI d)), (2, .int (nI m)), (3, .int (nI n))] [] mu nu
  refine m_aload_n C 0 dX9_shown_0 rfl ?_
  refine m_iload_n C 1 dX9_shown_1 rfl ?_
  refine m_iload_n C 2 dX9_shown_2 rfl ?_
  refine m_iload_n C 3 dX9_shown_3 rfl ?_
  refine m_callUf C 28 (by decide) rfl rfl (c_X3_shown l G mu nu (G.1 28) d m n) wkX9_7 (by decide) rfl rfl (Nat.le_of_ble_eq_true rfl) dX9_shown_4 ?_
  refine m_istore C [(4, .int (nI (d * n))), (0, .ref (G.1 28)), (1, .int (nI d)), (2, .int (nI m)), (3, .int (nI n))] dX9_shown_7 (by decide) rfl ?_
  refine m_aload_n C 1 dX9_shown_9 rfl ?_
  refine m_iload_n C 3 dX9_shown_10 rfl ?_
  refine m_iload_n C 4 dX9_shown_11 rfl ?_
  refine m_callOf C 28 (by decide) rfl rfl (c_X1_isWithoutTens l G mu nu m n hm h9) wkX9_11_X1 (by decide) rfl rfl (Nat.le_of_ble_eq_true rfl) dX9_shown_12 ?_
  refine m_if_eq C 26 dX9_shown_15 (by decide) (fun hh1 => ?_) (fun hh1 => ?_)
  · replace hh1 := bI_eq0.mp hh1
    refine m_iload C 0 dX9_shown_26 rfl ?_
    refine m_iretf C hQ dX9_shown_28 rfl rfl ?_
    rw [sh4_f (by assumption)]
  replace hh1 := bI_ne0.mp hh1
  refine m_iload C 0 dX9_shown_18 rfl ?_
  refine m_bipush C 10 dX9_shown_20 (by decide +kernel) ?_
  refine m_irem C dX9_shown_22 (by decide) ?_
  refine m_topi (nI ((d * n) % 10)) (nn_rem rfl rfl (by omega) (by omega) (by omega)) ?_
  refine m_goto C 28 dX9_shown_23 (by decide) ?_
  refine m_iretf C hQ dX9_shown_28 rfl rfl ?_
  rw [sh4_t (by assumption)]

set_option maxHeartbeats 4000000 in
set_option maxRecDepth 100000 in
theorem c_X8_shown_26 (l : Launch) (G : Gl) (mu : Mu) (nu : Nu) (d m n : Nat) (hd : d ≤ 9) (hm : m ≤ 9) (h1 : 1 ≤ n) (h9 : n ≤ 9) : Cf l G mX8_shown 2 [.ref (G.1 26), .int (nI d), .int (nI m), .int (nI n)] mu nu (.int (nI ((9 - d) * n))) := by
  refine Ct.of (lv := [(0, .ref (G.1 26)), (1, .int (nI d)), (2, .int (nI m)), (3, .int (nI n))]) rfl rfl (Nat.le_of_ble_eq_true rfl) rfl (fun X C => ?_)
  generalize hQ : g_E G X _ = Q
  replace C : Cx G 4 X cX8_shown RX8 (some .int) 2 := C
  show Mq l G 4 X Q 0 [(0, .ref (G.1 26)), (1, .int (nI d)), (2, .int (nI m)), (3, .int (nI n))] [] mu nu
  refine m_aload_n C 0 dX8_shown_0 rfl ?_
  refine m_bipush C 9 dX8_shown_1 (by decide +kernel) ?_
  refine m_iload_n C 1 dX8_shown_3 rfl ?_
  refine m_isub C dX8_shown_4 ?_
  refine m_topi (nI (9 - d)) (nn_sub rfl rfl (by omega)) ?_
  refine m_iload_n C 2 dX8_shown_5 rfl ?_
  refine m_iload_n C 3 dX8_shown_6 rfl ?_
  refine m_callUf C 26 (by decide) rfl rfl (c_X3_shown l G mu nu (G.1 26) (9 - d) m n) wkX8_7 (by decide) rfl rfl (Nat.le_of_ble_eq_true rfl) dX8_shown_7 ?_
  refine m_iretf C hQ dX8_shown_10 rfl rfl ?_
  rfl

set_option maxHeartbeats 4000000 in
set_option maxRecDepth 100000 in
theorem c_X8_shown_29 (l : Launch) (G : Gl) (mu : Mu) (nu : Nu) (d m n : Nat) (hd : d ≤ 9) (hm : m ≤ 9) (h1 : 1 ≤ n) (h9 : n ≤ 9) : Cf l G mX8_shown 2 [.ref (G.1 29), .int (nI d), .int (nI m), .int (nI n)] mu nu (.int (nI ((9 - d) * n))) := by
  refine Ct.of (lv := [(0, .ref (G.1 29)), (1, .int (nI d)), (2, .int (nI m)), (3, .int (nI n))]) rfl rfl (Nat.le_of_ble_eq_true rfl) rfl (fun X C => ?_)
  generalize hQ : g_E G X _ = Q
  replace C : Cx G 4 X cX8_shown RX8 (some .int) 2 := C
  show Mq l G 4 X Q 0 [(0, .ref (G.1 29)), (1, .int (nI d)), (2, .int (nI m)), (3, .int (nI n))] [] mu nu
  refine m_aload_n C 0 dX8_shown_0 rfl ?_
  refine m_bipush C 9 dX8_shown_1 (by decide +kernel) ?_
  refine m_iload_n C 1 dX8_shown_3 rfl ?_
  refine m_isub C dX8_shown_4 ?_
  refine m_topi (nI (9 - d)) (nn_sub rfl rfl (by omega)) ?_
  refine m_iload_n C 2 dX8_shown_5 rfl ?_
  refine m_iload_n C 3 dX8_shown_6 rfl ?_
  refine m_callUf C 29 (by decide) rfl rfl (c_X3_shown l G mu nu (G.1 29) (9 - d) m n) wkX8_7 (by decide) rfl rfl (Nat.le_of_ble_eq_true rfl) dX8_shown_7 ?_
  refine m_iretf C hQ dX8_shown_10 rfl rfl ?_
  rfl

set_option maxHeartbeats 4000000 in
set_option maxRecDepth 100000 in
theorem c_X6_shown (l : Launch) (G : Gl) (mu : Mu) (nu : Nu) (d m n : Nat) (hd : d ≤ 9) (hm : m ≤ 9) (h1 : 1 ≤ n) (h9 : n ≤ 9) : Cf l G mX6_shown 2 [.ref (G.1 27), .int (nI d), .int (nI m), .int (nI n)] mu nu (.int (nI (s_sh 3 d m n))) := by
  refine Ct.of (lv := [(0, .ref (G.1 27)), (1, .int (nI d)), (2, .int (nI m)), (3, .int (nI n))]) rfl rfl (Nat.le_of_ble_eq_true rfl) rfl (fun X C => ?_)
  generalize hQ : g_E G X _ = Q
  replace C : Cx G 4 X cX6_shown RX6 (some .int) 2 := C
  show Mq l G 4 X Q 0 [(0, .ref (G.1 27)), (1, .int (nI d)), (2, .int (nI m)), (3, .int (nI n))] [] mu nu
  refine m_aload_n C 0 dX6_shown_0 rfl ?_
  refine m_iload_n C 1 dX6_shown_1 rfl ?_
  refine m_iload_n C 2 dX6_shown_2 rfl ?_
  refine m_iload_n C 3 dX6_shown_3 rfl ?_
  refine m_bipush C 9 dX6_shown_4 (by decide +kernel) ?_
  refine m_icmp_lt C 13 dX6_shown_6 (by decide) (fun hh1 => ?_) (fun hh1 => ?_)
  · replace hh1 := (ii_lt (nn_i (a := n) rfl (by omega)) (nn_i (a := 9) rfl (by omega))).mp hh1
    refine m_iload_n C 3 dX6_shown_13 rfl ?_
    refine m_iconst C 1 dX6_shown_14 (by decide +kernel) ?_
    refine m_iadd C dX6_shown_15 ?_
    refine m_topi (nI (n + 1)) (nn_add rfl rfl) ?_
    refine m_callUf C 27 (by decide) rfl rfl (c_X3_shown l G mu nu (G.1 27) d m (n + 1)) wkX6_9 (by decide) rfl rfl (Nat.le_of_ble_eq_true rfl) dX6_shown_16 ?_
    refine m_iretf C hQ dX6_shown_19 rfl rfl ?_
    unfold s_sh; rw [if_neg (by decide), if_neg (by decide), if_pos rfl, if_neg (by omega)]
  replace hh1 := mt (ii_lt (nn_i (a := n) rfl (by omega)) (nn_i (a := 9) rfl (by omega))).mpr hh1
  refine m_iconst C 1 dX6_shown_9 (by decide +kernel) ?_
  refine m_goto C 16 dX6_shown_10 (by decide) ?_
  refine m_callUf C 27 (by decide) rfl rfl (c_X3_shown l G mu nu (G.1 27) d m 1) wkX6_9 (by decide) rfl rfl (Nat.le_of_ble_eq_true rfl) dX6_shown_16 ?_
  refine m_iretf C hQ dX6_shown_19 rfl rfl ?_
  have e : n = 9 := by omega
  subst e; exact congrArg nI (Nat.mul_one d)

set_option maxHeartbeats 4000000 in
set_option maxRecDepth 100000 in
theorem c_X2_shown (l : Launch) (G : Gl) (mu : Mu) (nu : Nu) (d m n : Nat) (hd : d ≤ 9) (hm : m ≤ 9) (h1 : 1 ≤ n) (h9 : n ≤ 9) : Cf l G mX2_shown 3 [.ref (G.1 29), .int (nI d), .int (nI m), .int (nI n)] mu nu (.int (nI (s_sh 5 d m n))) := by
  refine Ct.of (lv := [(0, .ref (G.1 29)), (1, .int (nI d)), (2, .int (nI m)), (3, .int (nI n))]) rfl rfl (Nat.le_of_ble_eq_true rfl) rfl (fun X C => ?_)
  generalize hQ : g_E G X _ = Q
  replace C : Cx G 4 X cX2_shown RX2 (some .int) 3 := C
  show Mq l G 4 X Q 0 [(0, .ref (G.1 29)), (1, .int (nI d)), (2, .int (nI m)), (3, .int (nI n))] [] mu nu
  refine m_iload_n C 3 dX2_shown_0 rfl ?_
  refine m_iload_n C 2 dX2_shown_1 rfl ?_
  refine m_icmp_lt C 11 dX2_shown_2 (by decide) (fun hh1 => ?_) (fun hh1 => ?_)
  · replace hh1 := (ii_lt (nn_i (a := n) rfl (by omega)) (nn_i (a := m) rfl (by omega))).mp hh1
    refine m_aload_n C 0 dX2_shown_11 rfl ?_
    refine m_iload_n C 1 dX2_shown_12 rfl ?_
    refine m_iload_n C 2 dX2_shown_13 rfl ?_
    refine m_iload_n C 3 dX2_shown_14 rfl ?_
    refine m_callUf C 29 (by decide) rfl rfl (c_X8_shown_29 l G mu nu d m n hd hm h1 h9) wkX2_7 (by decide) rfl rfl (Nat.le_of_ble_eq_true rfl) dX2_shown_15 ?_
    refine m_iretf C hQ dX2_shown_18 rfl rfl ?_
    unfold s_sh; rw [if_neg (by decide), if_neg (by decide), if_neg (by decide), if_neg (by decide), if_pos rfl, if_neg (by omega)]
  replace hh1 := mt (ii_lt (nn_i (a := n) rfl (by omega)) (nn_i (a := m) rfl (by omega))).mpr hh1
  refine m_iload_n C 1 dX2_shown_5 rfl ?_
  refine m_iload_n C 3 dX2_shown_6 rfl ?_
  refine m_imul C dX2_shown_7 ?_
  refine m_topi (nI (d * n)) (nn_mul rfl rfl) ?_
  refine m_goto C 18 dX2_shown_8 (by decide) ?_
  refine m_iretf C hQ dX2_shown_18 rfl rfl ?_
  unfold s_sh; rw [if_neg (by decide), if_neg (by decide), if_neg (by decide), if_neg (by decide), if_pos rfl, if_pos (by omega)]
