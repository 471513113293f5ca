/-- the model's memory holds this box, this frame -/
def zm (mu : Mu) (V : Vw) : Prop := v_wf V ∧ mu 65 0 = nI (v_N V) ∧ mu 65 1 = nI (v_m V) ∧ mu 65 2 = nI (v_ov V) ∧ (∀ p, p < v_m V → mu 65 (3 + p) = nI (v_fr V p)) ∧ ∀ i, i < v_N V → mu 65 (10 + i) = nI (v_kd V i) ∧ mu 65 (17 + i) = nI (v_d0 V i) ∧ mu 65 (24 + i) = nI (v_mk V i)
theorem zm_fr {mu : Mu} {V : Vw} (h : zm mu V) {p : Nat} (hp : p < v_m V) : mu 65 (3 + p) = nI (v_fr V p) := h.2.2.2.2.1 p hp
theorem zm_kd {mu : Mu} {V : Vw} (h : zm mu V) {i : Nat} (hi : i < v_N V) : mu 65 (10 + i) = nI (v_kd V i) := (h.2.2.2.2.2 i hi).1
theorem zm_d0 {mu : Mu} {V : Vw} (h : zm mu V) {i : Nat} (hi : i < v_N V) : mu 65 (17 + i) = nI (v_d0 V i) := (h.2.2.2.2.2 i hi).2.1
theorem zm_mk {mu : Mu} {V : Vw} (h : zm mu V) {i : Nat} (hi : i < v_N V) : mu 65 (24 + i) = nI (v_mk V i) := (h.2.2.2.2.2 i hi).2.2
/-- read off, some places having fallen out: those with a bit -/
def v_rx (V : Vw) (n set : Nat) : Nat → Nat
  | 0 => 0
  | p + 1 => 10 * v_rx V n set p + (if set / 2 ^ p % 2 = 1 then 0 else v_sh V (v_fr V p) n)
set_option maxHeartbeats 4000000 in
set_option maxRecDepth 100000 in
theorem c_X11_in (l : Launch) (G : Gl) (mu : Mu) (nu : Nu) (v lo hi : Int64) : Cf l G mX11_in 1 [.long v, .long lo, .long hi] mu nu (.int (bI (lo.toInt ≤ v.toInt ∧ v.toInt ≤ hi.toInt))) := by
  refine Ct.of (lv := [(0, .long v), (2, .long lo), (4, .long hi)]) rfl rfl (Nat.le_of_ble_eq_true rfl) rfl (fun X C => ?_)
  generalize hQ : g_E G X _ = Q
  replace C : Cx G 6 X cX11_in RX11 (some .boolean) 1 := C
  show Mq l G 6 X Q 0 [(0, .long v), (2, .long lo), (4, .long hi)] [] mu nu
  refine m_lload_n C 0 dX11_in_0 rfl ?_
  refine m_lload_n C 1 dX11_in_1 rfl ?_
  refine m_lcmp C dX11_in_2 ?_
  refine m_if_lt C 17 dX11_in_3 (by decide) (fun hh1 => ?_) (fun hh1 => ?_)
  · replace hh1 := ((lg_cmp_lt _ _).trans (ll_lt (rfl : (v).toInt = _) (rfl : (lo).toInt = _))).mp hh1
    refine m_iconst C 0 dX11_in_17 (by decide +kernel) ?_
    refine m_zretf C hQ dX11_in_18 rfl rfl rfl ?_
    exact bI_f (by omega)
  replace hh1 := mt ((lg_cmp_lt _ _).trans (ll_lt (rfl : (v).toInt = _) (rfl : (lo).toInt = _))).mpr hh1
  refine m_lload_n C 0 dX11_in_6 rfl ?_
  refine m_lload C 2 dX11_in_7 rfl ?_
  refine m_lcmp C dX11_in_9 ?_
  refine m_if_gt C 17 dX11_in_10 (by decide) (fun hh2 => ?_) (fun hh2 => ?_)
  · replace hh2 := ((lg_cmp_gt _ _).trans (ll_lt (rfl : (hi).toInt = _) (rfl : (v).toInt = _))).mp hh2
    refine m_iconst C 0 dX11_in_17 (by decide +kernel) ?_
    refine m_zretf C hQ dX11_in_18 rfl rfl rfl ?_
    exact bI_f (by omega)
  replace hh2 := mt ((lg_cmp_gt _ _).trans (ll_lt (rfl : (hi).toInt = _) (rfl : (v).toInt = _))).mpr hh2
  refine m_iconst C 1 dX11_in_13 (by decide +kernel) ?_
  refine m_goto C 18 dX11_in_14 (by decide) ?_
  refine m_zretf C hQ dX11_in_18 rfl rfl rfl ?_
  exact bI_t (by omega)

theorem c_in {l : Launch} {G : Gl} {mu : Mu} {nu : Nu} {v lo hi : Int64} {a b c : Int} (hv : v.toInt = a) (hl : lo.toInt = b) (hh : hi.toInt = c) : Cf l G mX11_in 1 [.long v, .long lo, .long hi] mu nu (.int (bI (b ≤ a ∧ a ≤ c))) := by
  subst hv hl hh
  exact c_X11_in l G mu nu v lo hi

set_option maxHeartbeats 4000000 in
set_option maxRecDepth 100000 in
theorem c_X11_has (l : Launch) (G : Gl) (mu : Mu) (nu : Nu) (a k : Nat) (ha : a < 2 ^ 31) (hk : k < 31) : Cf l G mX11_has 1 [.int (nI a), .int (nI k)] mu nu (.int (bI (a / 2 ^ k % 2 = 1))) := by
  have hdv := Nat.div_le_self a (2 ^ k)
  refine Ct.of (lv := [(0, .int (nI a)), (1, .int (nI k))]) rfl rfl (Nat.le_of_ble_eq_true rfl) rfl (fun X C => ?_)
  generalize hQ : g_E G X _ = Q
  replace C : Cx G 2 X cX11_has RX11 (some .boolean) 1 := C
  show Mq l G 2 X Q 0 [(0, .int (nI a)), (1, .int (nI k))] [] mu nu
  refine m_iload_n C 0 dX11_has_0 rfl ?_
  refine m_iload_n C 1 dX11_has_1 rfl ?_
  refine m_ishr C dX11_has_2 ?_
  refine m_topi (nI (a / 2 ^ k)) (nn_shr rfl rfl (by omega) (by omega)) ?_
  refine m_iconst C 1 dX11_has_3 (by decide +kernel) ?_
  refine m_iand C dX11_has_4 ?_
  refine m_topi (nI ((a / 2 ^ k) % 2)) (nn_and1 rfl (by omega)) ?_
  refine m_iconst C 1 dX11_has_5 (by decide +kernel) ?_
  refine m_icmp_ne C 13 dX11_has_6 (by decide) (fun hh1 => ?_) (fun hh1 => ?_)
  · replace hh1 := mt (ii_eq (nn_i (a := (a / 2 ^ k) % 2) rfl (by omega)) (nn_i (a := 1) rfl (by omega))).mpr hh1
    refine m_iconst C 0 dX11_has_13 (by decide +kernel) ?_
    refine m_zretf C hQ dX11_has_14 rfl rfl rfl ?_
    exact bI_f (by omega)
  replace hh1 := (ii_eq (nn_i (a := (a / 2 ^ k) % 2) rfl (by omega)) (nn_i (a := 1) rfl (by omega))).mp hh1
  refine m_iconst C 1 dX11_has_9 (by decide +kernel) ?_
  refine m_goto C 14 dX11_has_10 (by decide) ?_
  refine m_zretf C hQ dX11_has_14 rfl rfl rfl ?_
  exact bI_t (by omega)

set_option maxHeartbeats 4000000 in
set_option maxRecDepth 100000 in
theorem c_X11_isRow (l : Launch) (G : Gl) (mu : Mu) (nu : Nu) (r : Int32) : Cf l G mX11_isRow 2 [.int r] mu nu (.int (bI (0 ≤ r.toInt ∧ r.toInt < 6))) := by
  refine Ct.of (lv := [(0, .int r)]) rfl rfl (Nat.le_of_ble_eq_true rfl) rfl (fun X C => ?_)
  generalize hQ : g_E G X _ = Q
  replace C : Cx G 1 X cX11_isRow RX11 (some .boolean) 2 := C
  show Mq l G 1 X Q 0 [(0, .int r)] [] mu nu
  refine m_iload_n C 0 dX11_isRow_0 rfl ?_
  refine m_i2l C dX11_isRow_1 ?_
  refine m_lconst C 0 dX11_isRow_2 rfl ?_
  refine m_ldc2 C 5 wcX11_66 dX11_isRow_3 ?_
  refine m_callSf C (c_in (a := r.toInt) (b := ((0 : Nat) : Int)) (c := ((5 : Nat) : Int)) ((tl_i _).trans (rfl : (r).toInt = _)) (ln_i (a := 0) rfl (by omega)) (ln_i (a := 5) rfl (by omega))) wkX11_68 (by decide) rfl rfl (Nat.le_of_ble_eq_true rfl) dX11_isRow_6 ?_
  refine m_zretf C hQ dX11_isRow_9 bI_nar rfl rfl ?_
  exact bI_congr (by omega)

set_option maxHeartbeats 4000000 in
set_option maxRecDepth 100000 in
theorem c_X11_isText (l : Launch) (G : Gl) (mu : Mu) (nu : Nu) (r : Int32) : Cf l G mX11_isText 2 [.int r] mu nu (.int (bI (0 ≤ r.toInt ∧ r.toInt < 4))) := by
  refine Ct.of (lv := [(0, .int r)]) rfl rfl (Nat.le_of_ble_eq_true rfl) rfl (fun X C => ?_)
  generalize hQ : g_E G X _ = Q
  replace C : Cx G 1 X cX11_isText RX11 (some .boolean) 2 := C
  show Mq l G 1 X Q 0 [(0, .int r)] [] mu nu
  refine m_iload_n C 0 dX11_isText_0 rfl ?_
  refine m_i2l C dX11_isText_1 ?_
  refine m_lconst C 0 dX11_isText_2 rfl ?_
  refine m_ldc2 C 3 wcX11_72 dX11_isText_3 ?_
  refine m_callSf C (c_in (a := r.toInt) (b := ((0 : Nat) : Int)) (c := ((3 : Nat) : Int)) ((tl_i _).trans (rfl : (r).toInt = _)) (ln_i (a := 0) rfl (by omega)) (ln_i (a := 3) rfl (by omega))) wkX11_68 (by decide) rfl rfl (Nat.le_of_ble_eq_true rfl) dX11_isText_6 ?_
  refine m_zretf C hQ dX11_isText_9 bI_nar rfl rfl ?_
  exact bI_congr (by omega)

set_option maxHeartbeats 4000000 in
set_option maxRecDepth 100000 in
theorem c_X11_isLine (l : Launch) (G : Gl) (mu : Mu) (nu : Nu) (r : Int32) : Cf l G mX11_isLine 2 [.int r] mu nu (.int (bI (1 ≤ r.toInt ∧ r.toInt < 10))) := by
  refine Ct.of (lv := [(0, .int r)]) rfl rfl (Nat.le_of_ble_eq_true rfl) rfl (fun X C => ?_)
  generalize hQ : g_E G X _ = Q
  replace C : Cx G 1 X cX11_isLine RX11 (some .boolean) 2 := C
  show Mq l G 1 X Q 0 [(0, .int r)] [] mu nu
  refine m_iload_n C 0 dX11_isLine_0 rfl ?_
  refine m_i2l C dX11_isLine_1 ?_
  refine m_lconst C 1 dX11_isLine_2 rfl ?_
  refine m_ldc2 C 9 wcX11_74 dX11_isLine_3 ?_
  refine m_callSf C (c_in (a := r.toInt) (b := ((1 : Nat) : Int)) (c := ((9 : Nat) : Int)) ((tl_i _).trans (rfl : (r).toInt = _)) (ln_i (a := 1) rfl (by omega)) (ln_i (a := 9) rfl (by omega))) wkX11_68 (by decide) rfl rfl (Nat.le_of_ble_eq_true rfl) dX11_isLine_6 ?_
  refine m_zretf C hQ dX11_isLine_9 bI_nar rfl rfl ?_
  exact bI_congr (by omega)

set_option maxHeartbeats 4000000 in
set_option maxRecDepth 100000 in
theorem c_X11_worn (l : Launch) (G : Gl) (mu : Mu) (nu : Nu) (d m n : Nat) (hd : d ≤ 9) (hm : m ≤ 9) (h1 : 1 ≤ n) (h9 : n ≤ 9) : Cf l G mX11_worn 1 [.int (nI d), .int (nI m), .int (nI n)] mu nu (.int (nI (s_worn d m n))) := by
  have hb := mul_le81 hd h9
  have hb2 := mul_le81 (d := 9 - d) (by omega) h9
  refine Ct.of (lv := [(0, .int (nI d)), (1, .int (nI m)), (2, .int (nI n))]) rfl rfl (Nat.le_of_ble_eq_true rfl) rfl (fun X C => ?_)
  generalize hQ : g_E G X _ = Q
  replace C : Cx G 3 X cX11_worn RX11 (some .int) 1 := C
  show Mq l G 3 X Q 0 [(0, .int (nI d)), (1, .int (nI m)), (2, .int (nI n))] [] mu nu
  refine m_iload_n C 2 dX11_worn_0 rfl ?_
  refine m_iload_n C 1 dX11_worn_1 rfl ?_
  refine m_icmp_ne C 14 dX11_worn_2 (by decide) (fun hh1 => ?_) (fun hh1 => ?_)
  · replace hh1 := mt (ii_eq (nn_i (a := n) rfl (by omega)) (nn_i (a := m) rfl (by omega))).mpr hh1
    refine m_iload_n C 0 dX11_worn_14 rfl ?_
    refine m_iload_n C 2 dX11_worn_15 rfl ?_
    refine m_imul C dX11_worn_16 ?_
    refine m_topi (nI (d * n)) (nn_mul rfl rfl) ?_
    refine m_iretf C hQ dX11_worn_17 rfl rfl ?_
    unfold s_worn; rw [if_neg (by omega)]
  replace hh1 := (ii_eq (nn_i (a := n) rfl (by omega)) (nn_i (a := m) rfl (by omega))).mp hh1
  refine m_iload_n C 0 dX11_worn_5 rfl ?_
  refine m_iload_n C 2 dX11_worn_6 rfl ?_
  refine m_imul C dX11_worn_7 ?_
  refine m_topi (nI (d * n)) (nn_mul rfl rfl) ?_
  refine m_bipush C 10 dX11_worn_8 (by decide +kernel) ?_
  refine m_irem C dX11_worn_10 (by decide) ?_
  refine m_topi (nI ((d * n) % 10)) (nn_rem rfl rfl (by omega) (by omega) (by omega)) ?_
  refine m_goto C 17 dX11_worn_11 (by decide) ?_
  refine m_iretf C hQ dX11_worn_17 rfl rfl ?_
  unfold s_worn; rw [if_pos (by omega)]

set_option maxHeartbeats 4000000 in
set_option maxRecDepth 100000 in
theorem c_X11_showsBy (l : Launch) (G : Gl) (mu : Mu) (nu : Nu) (k : Nat) (hk : k < 6) (d m n : Nat) (hd : d ≤ 9) (hm : m ≤ 9) (h1 : 1 ≤ n) (h9 : n ≤ 9) : Cf l G mX11_showsBy 2 [.int (nI k), .int (nI d), .int (nI m), .int (nI n)] mu nu (.int (nI (s_sh k d m n))) := by
  have hb := mul_le81 hd h9
  have hb2 := mul_le81 (d := 9 - d) (by omega) h9
  refine Ct.of (lv := [(0, .int (nI k)), (1, .int (nI d)), (2, .int (nI m)), (3, .int (nI n))]) rfl rfl (Nat.le_of_ble_eq_true rfl) rfl (fun X C => ?_)
  generalize hQ : g_E G X _ = Q
  replace C : Cx G 4 X cX11_showsBy RX11 (some .int) 2 := C
  show Mq l G 4 X Q 0 [(0, .int (nI k)), (1, .int (nI d)), (2, .int (nI m)), (3, .int (nI n))] [] mu nu
  refine m_iload_n C 0 dX11_showsBy_0 rfl ?_
  have hh1i : (nI k).toInt = ((k : Nat) : Int) := (nn_i (a := k) rfl (by omega))
  have hh1 : (((k : Nat) : Int) < 1 ∨ 5 < ((k : Nat) : Int)) ∨ ((k : Nat) : Int) = 1 ∨ ((k : Nat) : Int) = 2 ∨ ((k : Nat) : Int) = 3 ∨ ((k : Nat) : Int) = 4 ∨ ((k : Nat) : Int) = 5 := by omega
  rcases hh1 with hh1 | hh1 | hh1 | hh1 | hh1 | hh1
  · refine m_tblOut C 108 dX11_showsBy_1 (by rw [hh1i]; exact hh1) (by decide) ?_
    refine m_iload_n C 1 dX11_showsBy_108 rfl ?_
    refine m_iload_n C 3 dX11_showsBy_109 rfl ?_
    refine m_imul C dX11_showsBy_110 ?_
    refine m_topi (nI (d * n)) (nn_mul rfl rfl) ?_
    refine m_iretf C hQ dX11_showsBy_111 rfl rfl ?_
    unfold s_sh; rw [if_neg (by omega), if_neg (by omega), if_neg (by omega), if_neg (by omega), if_neg (by omega)]
  · refine m_tblIn C 36 dX11_showsBy_1 (by rw [hh1i]; omega) (by rw [hh1i]; omega) (off := 35) (by rw [hh1i, hh1]; decide +kernel) (by decide) ?_
    refine m_iload_n C 1 dX11_showsBy_36 rfl ?_
    refine m_iload_n C 2 dX11_showsBy_37 rfl ?_
    refine m_iload_n C 3 dX11_showsBy_38 rfl ?_
    refine m_callSf C (c_X11_worn l G mu nu d m n hd hm h1 h9) wkX11_115 (by decide) rfl rfl (Nat.le_of_ble_eq_true rfl) dX11_showsBy_39 ?_
    refine m_iretf C hQ dX11_showsBy_42 rfl rfl ?_
    unfold s_sh; rw [if_pos (by omega)]
  · refine m_tblIn C 43 dX11_showsBy_1 (by rw [hh1i]; omega) (by rw [hh1i]; omega) (off := 42) (by rw [hh1i, hh1]; decide +kernel) (by decide) ?_
    refine m_bipush C 9 dX11_showsBy_43 (by decide +kernel) ?_
    refine m_iload_n C 1 dX11_showsBy_45 rfl ?_
    refine m_isub C dX11_showsBy_46 ?_
    refine m_topi (nI (9 - d)) (nn_sub rfl rfl (by omega)) ?_
    refine m_iload_n C 3 dX11_showsBy_47 rfl ?_
    refine m_imul C dX11_showsBy_48 ?_
    refine m_topi (nI ((9 - d) * n)) (nn_mul rfl rfl) ?_
    refine m_iretf C hQ dX11_showsBy_49 rfl rfl ?_
    unfold s_sh; rw [if_neg (by omega), if_pos (by omega)]
  · refine m_tblIn C 50 dX11_showsBy_1 (by rw [hh1i]; omega) (by rw [hh1i]; omega) (off := 49) (by rw [hh1i, hh1]; decide +kernel) (by decide) ?_
    refine m_iload_n C 3 dX11_showsBy_50 rfl ?_
    refine m_bipush C 9 dX11_showsBy_51 (by decide +kernel) ?_
    refine m_icmp_ne C 60 dX11_showsBy_53 (by decide) (fun hh2 => ?_) (fun hh2 => ?_)
    · replace hh2 := mt (ii_eq (nn_i (a := n) rfl (by omega)) (nn_i (a := 9) rfl (by omega))).mpr hh2
      refine m_iload_n C 1 dX11_showsBy_60 rfl ?_
      refine m_iload_n C 3 dX11_showsBy_61 rfl ?_
      refine m_iconst C 1 dX11_showsBy_62 (by decide +kernel) ?_
      refine m_iadd C dX11_showsBy_63 ?_
      refine m_topi (nI (n + 1)) (nn_add rfl rfl) ?_
      refine m_imul C dX11_showsBy_64 ?_
      refine m_topi (nI (d * (n + 1))) (nn_mul rfl rfl) ?_
      refine m_iretf C hQ dX11_showsBy_65 rfl rfl ?_
      unfold s_sh; rw [if_neg (by omega), if_neg (by omega), if_pos (by omega)]; rw [if_neg (by omega)]
    replace hh2 := (ii_eq (nn_i (a := n) rfl (by omega)) (nn_i (a := 9) rfl (by omega))).mp hh2
    refine m_iload_n C 1 dX11_showsBy_56 rfl ?_
    refine m_goto C 65 dX11_showsBy_57 (by decide) ?_
    refine m_iretf C hQ dX11_showsBy_65 rfl rfl ?_
    unfold s_sh; rw [if_neg (by omega), if_neg (by omega), if_pos (by omega)]; rw [if_pos (by omega)]
  · refine m_tblIn C 66 dX11_showsBy_1 (by rw [hh1i]; omega) (by rw [hh1i]; omega) (off := 65) (by rw [hh1i, hh1]; decide +kernel) (by decide) ?_
    refine m_iload_n C 3 dX11_showsBy_66 rfl ?_
    refine m_bipush C 9 dX11_showsBy_67 (by decide +kernel) ?_
    refine m_iload_n C 2 dX11_showsBy_69 rfl ?_
    refine m_isub C dX11_showsBy_70 ?_
    refine m_topi (nI (9 - m)) (nn_sub rfl rfl (by omega)) ?_
    refine m_icmp_le C 83 dX11_showsBy_71 (by decide) (fun hh3 => ?_) (fun hh3 => ?_)
    · replace hh3 := (ii_le (nn_i (a := n) rfl (by omega)) (nn_i (a := 9 - m) rfl (by omega))).mp hh3
      refine m_iload_n C 1 dX11_showsBy_83 rfl ?_
      refine m_iload_n C 2 dX11_showsBy_84 rfl ?_
      refine m_iload_n C 3 dX11_showsBy_85 rfl ?_
      refine m_callSf C (c_X11_worn l G mu nu d m n hd hm h1 h9) wkX11_115 (by decide) rfl rfl (Nat.le_of_ble_eq_true rfl) dX11_showsBy_86 ?_
      refine m_iretf C hQ dX11_showsBy_89 rfl rfl ?_
      unfold s_sh; rw [if_neg (by omega), if_neg (by omega), if_neg (by omega), if_pos (by omega)]; rw [if_neg (by omega)]
    replace hh3 := mt (ii_le (nn_i (a := n) rfl (by omega)) (nn_i (a := 9 - m) rfl (by omega))).mpr hh3
    refine m_iload_n C 1 dX11_showsBy_74 rfl ?_
    refine m_iload_n C 3 dX11_showsBy_75 rfl ?_
    refine m_imul C dX11_showsBy_76 ?_
    refine m_topi (nI (d * n)) (nn_mul rfl rfl) ?_
    refine m_bipush C 10 dX11_showsBy_77 (by decide +kernel) ?_
    refine m_irem C dX11_showsBy_79 (by decide) ?_
    refine m_topi (nI ((d * n) % 10)) (nn_rem rfl rfl (by omega) (by omega) (by omega)) ?_
    refine m_goto C 89 dX11_showsBy_80 (by decide) ?_
    refine m_iretf C hQ dX11_showsBy_89 rfl rfl ?_
    unfold s_sh; rw [if_neg (by omega), if_neg (by omega), if_neg (by omega), if_pos (by omega)]; rw [if_pos (by omega)]
  · refine m_tblIn C 90 dX11_showsBy_1 (by rw [hh1i]; omega) (by rw [hh1i]; omega) (off := 89) (by rw [hh1i, hh1]; decide +kernel) (by decide) ?_
    refine m_iload_n C 3 dX11_showsBy_90 rfl ?_
    refine m_iload_n C 2 dX11_showsBy_91 rfl ?_
    refine m_icmp_lt C 101 dX11_showsBy_92 (by decide) (fun hh4 => ?_) (fun hh4 => ?_)
    · replace hh4 := (ii_lt (nn_i (a := n) rfl (by omega)) (nn_i (a := m) rfl (by omega))).mp hh4
      refine m_bipush C 9 dX11_showsBy_101 (by decide +kernel) ?_
      refine m_iload_n C 1 dX11_showsBy_103 rfl ?_
      refine m_isub C dX11_showsBy_104 ?_
      refine m_topi (nI (9 - d)) (nn_sub rfl rfl (by omega)) ?_
      refine m_iload_n C 3 dX11_showsBy_105 rfl ?_
      refine m_imul C dX11_showsBy_106 ?_
      refine m_topi (nI ((9 - d) * n)) (nn_mul rfl rfl) ?_
      refine m_iretf C hQ dX11_showsBy_107 rfl rfl ?_
      unfold s_sh; rw [if_neg (by omega), if_neg (by omega), if_neg (by omega), if_neg (by omega), if_pos (by omega)]; rw [if_neg (by omega)]
    replace hh4 := mt (ii_lt (nn_i (a := n) rfl (by omega)) (nn_i (a := m) rfl (by omega))).mpr hh4
    refine m_iload_n C 1 dX11_showsBy_95 rfl ?_
    refine m_iload_n C 3 dX11_showsBy_96 rfl ?_
    refine m_imul C dX11_showsBy_97 ?_
    refine m_topi (nI (d * n)) (nn_mul rfl rfl) ?_
    refine m_goto C 107 dX11_showsBy_98 (by decide) ?_
    refine m_iretf C hQ dX11_showsBy_107 rfl rfl ?_
    unfold s_sh; rw [if_neg (by omega), if_neg (by omega), if_neg (by omega), if_neg (by omega), if_pos (by omega)]; rw [if_pos (by omega)]

set_option maxHeartbeats 4000000 in
set_option maxRecDepth 100000 in
theorem c_X11_isRod (l : Launch) (G : Gl) (mu : Mu) (nu : Nu) (V : Vw) (hv : zm mu V) (i : Int32) : Cf l G mX11_isRod 2 [.ref (G.1 64), .int i] mu nu (.int (bI (0 ≤ i.toInt ∧ i.toInt < v_N V))) := by
  have hw := hv.1
  have hN7 := hw.1
  have hm7 := hw.2.2.1
  have ho8 := hw.2.2.2.2
  refine Ct.of (lv := [(0, .ref (G.1 64)), (1, .int i)]) rfl rfl (Nat.le_of_ble_eq_true rfl) rfl (fun X C => ?_)
  generalize hQ : g_E G X _ = Q
  replace C : Cx G 2 X cX11_isRod RX11 (some .boolean) 2 := C
  show Mq l G 2 X Q 0 [(0, .ref (G.1 64)), (1, .int i)] [] mu nu
  refine m_iload_n C 1 dX11_isRod_0 rfl ?_
  refine m_i2l C dX11_isRod_1 ?_
  refine m_lconst C 0 dX11_isRod_2 rfl ?_
  refine m_aload_n C 0 dX11_isRod_3 rfl ?_
  refine gfX11_7 C dX11_isRod_4 ?_
  refine m_iconst C 0 dX11_isRod_7 (by decide +kernel) ?_
  refine m_iald C 65 (by decide) sa_65 0 rfl (by omega) (by decide) dX11_isRod_8 ?_
  refine m_topi (nI (v_N V)) hv.2.1 ?_
  refine m_iconst C 1 dX11_isRod_9 (by decide +kernel) ?_
  refine m_isub C dX11_isRod_10 ?_
  refine m_i2l C dX11_isRod_11 ?_
  refine m_callSf C (c_in (a := i.toInt) (b := ((0 : Nat) : Int)) (c := ((v_N V : Nat) : Int) - ((1 : Nat) : Int)) ((tl_i _).trans (rfl : (i).toInt = _)) (ln_i (a := 0) rfl (by omega)) ((tl_i _).trans (ii_sub (nn_i (a := v_N V) rfl (by omega)) (nn_i (a := 1) rfl (by omega)) (by omega) (by omega)))) wkX11_68 (by decide) rfl rfl (Nat.le_of_ble_eq_true rfl) dX11_isRod_12 ?_
  refine m_zretf C hQ dX11_isRod_15 bI_nar rfl rfl ?_
  exact bI_congr (by omega)

set_option maxHeartbeats 4000000 in
set_option maxRecDepth 100000 in
theorem c_X11_digitOf (l : Launch) (G : Gl) (mu : Mu) (nu : Nu) (V : Vw) (hv : zm mu V) (i : Nat) (hi : i < v_N V) : Cf l G mX11_digitOf 2 [.ref (G.1 64), .int (nI i)] mu nu (.int (nI (v_dg V i))) := by
  have hw := hv.1
  have hN7 := hw.1
  have hm7 := hw.2.2.1
  have ho8 := hw.2.2.2.2
  have hri := hw.2.1 i hi
  refine Ct.of (lv := [(0, .ref (G.1 64)), (1, .int (nI i))]) rfl rfl (Nat.le_of_ble_eq_true rfl) rfl (fun X C => ?_)
  generalize hQ : g_E G X _ = Q
  replace C : Cx G 2 X cX11_digitOf RX11 (some .int) 2 := C
  show Mq l G 2 X Q 0 [(0, .ref (G.1 64)), (1, .int (nI i))] [] mu nu
  refine m_aload_n C 0 dX11_digitOf_0 rfl ?_
  refine gfX11_7 C dX11_digitOf_1 ?_
  refine m_iconst C 2 dX11_digitOf_4 (by decide +kernel) ?_
  refine m_iald C 65 (by decide) sa_65 2 rfl (by omega) (by decide) dX11_digitOf_5 ?_
  refine m_topi (nI (v_ov V)) hv.2.2.2.1 ?_
  refine m_iload_n C 1 dX11_digitOf_6 rfl ?_
  refine m_callSf C (c_X11_has l G mu nu (v_ov V) i (by omega) (by omega)) wkX11_119 (by decide) rfl rfl (Nat.le_of_ble_eq_true rfl) dX11_digitOf_7 ?_
  refine m_if_eq C 28 dX11_digitOf_10 (by decide) (fun hh1 => ?_) (fun hh1 => ?_)
  · replace hh1 := bI_eq0.mp hh1
    refine m_aload_n C 0 dX11_digitOf_28 rfl ?_
    refine gfX11_7 C dX11_digitOf_29 ?_
    refine m_bipush C 17 dX11_digitOf_32 (by decide +kernel) ?_
    refine m_iload_n C 1 dX11_digitOf_34 rfl ?_
    refine m_iadd C dX11_digitOf_35 ?_
    refine m_topi (nI (17 + i)) (nn_add rfl rfl) ?_
    refine m_iald C 65 (by decide) sa_65 (17 + i) rfl (by omega) (by decide) dX11_digitOf_36 ?_
    refine m_topi (nI (v_d0 V i)) (zm_d0 hv hi) ?_
    refine m_iretf C hQ dX11_digitOf_37 rfl rfl ?_
    unfold v_dg; rw [if_neg (by assumption)]
  replace hh1 := bI_ne0.mp hh1
  refine m_bipush C 9 dX11_digitOf_13 (by decide +kernel) ?_
  refine m_aload_n C 0 dX11_digitOf_15 rfl ?_
  refine gfX11_7 C dX11_digitOf_16 ?_
  refine m_bipush C 17 dX11_digitOf_19 (by decide +kernel) ?_
  refine m_iload_n C 1 dX11_digitOf_21 rfl ?_
  refine m_iadd C dX11_digitOf_22 ?_
  refine m_topi (nI (17 + i)) (nn_add rfl rfl) ?_
  refine m_iald C 65 (by decide) sa_65 (17 + i) rfl (by omega) (by decide) dX11_digitOf_23 ?_
  refine m_topi (nI (v_d0 V i)) (zm_d0 hv hi) ?_
  refine m_isub C dX11_digitOf_24 ?_
  refine m_topi (nI (9 - (v_d0 V i))) (nn_sub rfl rfl (by omega)) ?_
  refine m_goto C 37 dX11_digitOf_25 (by decide) ?_
  refine m_iretf C hQ dX11_digitOf_37 rfl rfl ?_
  unfold v_dg; rw [if_pos (by assumption)]

set_option maxHeartbeats 4000000 in
set_option maxRecDepth 100000 in
theorem c_X11_showsOf (l : Launch) (G : Gl) (mu : Mu) (nu : Nu) (V : Vw) (hv : zm mu V) (i : Nat) (hi : i < v_N V) (n : Nat) (h1 : 1 ≤ n) (h9 : n ≤ 9) : Cf l G mX11_showsOf 3 [.ref (G.1 64), .int (nI i), .int (nI n)] mu nu (.int (nI (v_sh V i n))) := by
  have hw := hv.1
  have hN7 := hw.1
  have hm7 := hw.2.2.1
  have ho8 := hw.2.2.2.2
  have hri := hw.2.1 i hi
  have hdi := v_dg_le hw hi
  refine Ct.of (lv := [(0, .ref (G.1 64)), (1, .int (nI i)), (2, .int (nI n))]) rfl rfl (Nat.le_of_ble_eq_true rfl) rfl (fun X C => ?_)
  generalize hQ : g_E G X _ = Q
  replace C : Cx G 3 X cX11_showsOf RX11 (some .int) 3 := C
  show Mq l G 3 X Q 0 [(0, .ref (G.1 64)), (1, .int (nI i)), (2, .int (nI n))] [] mu nu
  refine m_aload_n C 0 dX11_showsOf_0 rfl ?_
  refine gfX11_7 C dX11_showsOf_1 ?_
  refine m_bipush C 10 dX11_showsOf_4 (by decide +kernel) ?_
  refine m_iload_n C 1 dX11_showsOf_6 rfl ?_
  refine m_iadd C dX11_showsOf_7 ?_
  refine m_topi (nI (10 + i)) (nn_add rfl rfl) ?_
  refine m_iald C 65 (by decide) sa_65 (10 + i) rfl (by omega) (by decide) dX11_showsOf_8 ?_
  refine m_topi (nI (v_kd V i)) (zm_kd hv hi) ?_
  refine m_aload_n C 0 dX11_showsOf_9 rfl ?_
  refine m_iload_n C 1 dX11_showsOf_10 rfl ?_
  refine m_callVf C 64 (by decide) rfl rfl (c_X11_digitOf l G mu nu V hv i (by omega)) wkX11_123 (by decide) rfl rfl (Nat.le_of_ble_eq_true rfl) dX11_showsOf_11 ?_
  refine m_aload_n C 0 dX11_showsOf_14 rfl ?_
  refine gfX11_7 C dX11_showsOf_15 ?_
  refine m_bipush C 24 dX11_showsOf_18 (by decide +kernel) ?_
  refine m_iload_n C 1 dX11_showsOf_20 rfl ?_
  refine m_iadd C dX11_showsOf_21 ?_
  refine m_topi (nI (24 + i)) (nn_add rfl rfl) ?_
  refine m_iald C 65 (by decide) sa_65 (24 + i) rfl (by omega) (by decide) dX11_showsOf_22 ?_
  refine m_topi (nI (v_mk V i)) (zm_mk hv hi) ?_
  refine m_iload_n C 2 dX11_showsOf_23 rfl ?_
  refine m_callSf C (c_X11_showsBy l G mu nu (v_kd V i) (by omega) (v_dg V i) (v_mk V i) n (by omega) (by omega) (by omega) (by omega)) wkX11_126 (by decide) rfl rfl (Nat.le_of_ble_eq_true rfl) dX11_showsOf_24 ?_
  refine m_iretf C hQ dX11_showsOf_27 rfl rfl ?_
  rfl

set_option maxHeartbeats 4000000 in
set_option maxRecDepth 100000 in
theorem c_X11_placeOf (l : Launch) (G : Gl) (mu : Mu) (nu : Nu) (V : Vw) (hv : zm mu V) (i : Nat) (hi : i < 7) : Cf l G mX11_placeOf 1 [.ref (G.1 64), .int (nI i)] mu nu (.int (s_pl (v_F V) i)) := by
  have hw := hv.1
  have hN7 := hw.1
  have hm7 := hw.2.2.1
  have ho8 := hw.2.2.2.2
  refine Ct.of (lv := [(0, .ref (G.1 64)), (1, .int (nI i))]) rfl rfl (Nat.le_of_ble_eq_true rfl) rfl (fun X C => ?_)
  generalize hQ : g_E G X _ = Q
  replace C : Cx G 3 X cX11_placeOf RX11 (some .int) 1 := C
  show Mq l G 3 X Q 0 [(0, .ref (G.1 64)), (1, .int (nI i))] [] mu nu
  refine m_iconst C 0 dX11_placeOf_0 (by decide +kernel) ?_
  refine m_istore_n C [(2, .int 0), (0, .ref (G.1 64)), (1, .int (nI i))] dX11_placeOf_1 (by decide) rfl ?_
  have L2 : ∀ (fu : Nat) (p : Nat) (hp : p ≤ v_m V) (hq : ∀ q, q < p → v_fr V q ≠ i), v_m V - p < fu → Mq l G 3 X Q 2 [(0, .ref (G.1 64)), (1, .int (nI i)), (2, .int (nI p))] [] mu nu := by
    intro fu
    induction fu with
    | zero => intro p hp hq hm; exact absurd hm (Nat.not_lt_zero _)
    | succ fu ih2 =>
      intro p hp hq hm
      refine m_iload_n C 2 dX11_placeOf_2 rfl ?_
      refine m_aload_n C 0 dX11_placeOf_3 rfl ?_
      refine gfX11_7 C dX11_placeOf_4 ?_
      refine m_iconst C 1 dX11_placeOf_7 (by decide +kernel) ?_
      refine m_iald C 65 (by decide) sa_65 1 rfl (by omega) (by decide) dX11_placeOf_8 ?_
      refine m_topi (nI (v_m V)) hv.2.2.1 ?_
      refine m_icmp_ge C 32 dX11_placeOf_9 (by decide) (fun hh1 => ?_) (fun hh1 => ?_)
      · replace hh1 := (ii_le (nn_i (a := v_m V) rfl (by omega)) (nn_i (a := p) rfl (by omega))).mp hh1
        refine m_bipush C (-9) dX11_placeOf_32 (by decide +kernel) ?_
        refine m_iretf C hQ dX11_placeOf_34 rfl rfl ?_
        have e : p = v_m V := by omega
        subst e; exact s_pl_no hq
      replace hh1 := mt (ii_le (nn_i (a := v_m V) rfl (by omega)) (nn_i (a := p) rfl (by omega))).mpr hh1
      have hF6 := hw.2.2.2.1 p (by omega)
      refine m_aload_n C 0 dX11_placeOf_12 rfl ?_
      refine gfX11_7 C dX11_placeOf_13 ?_
      refine m_iconst C 3 dX11_placeOf_16 (by decide +kernel) ?_
      refine m_iload_n C 2 dX11_placeOf_17 rfl ?_
      refine m_iadd C dX11_placeOf_18 ?_
      refine m_topi (nI (3 + p)) (nn_add rfl rfl) ?_
      refine m_iald C 65 (by decide) sa_65 (3 + p) rfl (by omega) (by decide) dX11_placeOf_19 ?_
      refine m_topi (nI (v_fr V p)) (zm_fr hv (show p < v_m V by omega)) ?_
      refine m_iload_n C 1 dX11_placeOf_20 rfl ?_
      refine m_icmp_ne C 26 dX11_placeOf_21 (by decide) (fun hh2 => ?_) (fun hh2 => ?_)
      · replace hh2 := mt (ii_eq (nn_i (a := v_fr V p) rfl (by omega)) (nn_i (a := i) rfl (by omega))).mpr hh2
        refine m_iinc C 2 (nI (p + 1)) [(2, .int (nI (p + 1))), (0, .ref (G.1 64)), (1, .int (nI i))] dX11_placeOf_26 rfl (nn_add rfl (show Int32.ofInt 1 = nI 1 from rfl)) (by decide) rfl ?_
        refine m_goto C 2 dX11_placeOf_29 (by decide) ?_
        exact m_sub [1, 2, 0] rfl (ih2 (p + 1) (by omega) (fun q h => by
                  by_cases e : q = p
                  · rw [e]; omega
                  · exact hq q (by omega)) (by omega))
      replace hh2 := (ii_eq (nn_i (a := v_fr V p) rfl (by omega)) (nn_i (a := i) rfl (by omega))).mp hh2
      refine m_iload_n C 2 dX11_placeOf_24 rfl ?_
      refine m_iretf C hQ dX11_placeOf_25 rfl rfl ?_
      exact s_pl_at (F := v_F V) (show p < v_m V by omega) (show v_fr V p = i by omega) hq
  exact m_sub [1, 2, 0] rfl (L2 (_ + 1) 0 (Nat.zero_le _) (fun q h => absurd h (Nat.not_lt_zero _)) (Nat.lt_succ_self _))

set_option maxHeartbeats 4000000 in
set_option maxRecDepth 100000 in
theorem c_X11_rodOf (l : Launch) (G : Gl) (mu : Mu) (nu : Nu) (V : Vw) (hv : zm mu V) (i : Nat) (hi : i < v_N V) (w : Nat) (hw4 : w ≤ 4) : Cf l G mX11_rodOf 3 [.ref (G.1 64), .int (nI i), .int (nI w)] mu nu (.int (s_of V i w)) := by
  have hw := hv.1
  have hN7 := hw.1
  have hm7 := hw.2.2.1
  have ho8 := hw.2.2.2.2
  have hdv := Nat.div_le_self (v_ov V) (2 ^ i)
  refine Ct.of (lv := [(0, .ref (G.1 64)), (1, .int (nI i)), (2, .int (nI w))]) rfl rfl (Nat.le_of_ble_eq_true rfl) rfl (fun X C => ?_)
  generalize hQ : g_E G X _ = Q
  replace C : Cx G 3 X cX11_rodOf RX11 (some .int) 3 := C
  show Mq l G 3 X Q 0 [(0, .ref (G.1 64)), (1, .int (nI i)), (2, .int (nI w))] [] mu nu
  refine m_iload_n C 2 dX11_rodOf_0 rfl ?_
  have hh1i : (nI w).toInt = ((w : Nat) : Int) := (nn_i (a := w) rfl (by omega))
  have hh1 : (((w : Nat) : Int) < 0 ∨ 3 < ((w : Nat) : Int)) ∨ ((w : Nat) : Int) = 0 ∨ ((w : Nat) : Int) = 1 ∨ ((w : Nat) : Int) = 2 ∨ ((w : Nat) : Int) = 3 := by omega
  rcases hh1 with hh1 | hh1 | hh1 | hh1 | hh1
  · refine m_tblOut C 64 dX11_rodOf_1 (by rw [hh1i]; exact hh1) (by decide) ?_
    refine m_aload_n C 0 dX11_rodOf_64 rfl ?_
    refine gfX11_7 C dX11_rodOf_65 ?_
    refine m_iconst C 2 dX11_rodOf_68 (by decide +kernel) ?_
    refine m_iald C 65 (by decide) sa_65 2 rfl (by omega) (by decide) dX11_rodOf_69 ?_
    refine m_topi (nI (v_ov V)) hv.2.2.2.1 ?_
    refine m_iload_n C 1 dX11_rodOf_70 rfl ?_
    refine m_ishr C dX11_rodOf_71 ?_
    refine m_topi (nI ((v_ov V) / 2 ^ i)) (nn_shr rfl rfl (by omega) (by omega)) ?_
    refine m_iconst C 1 dX11_rodOf_72 (by decide +kernel) ?_
    refine m_iand C dX11_rodOf_73 ?_
    refine m_topi (nI (((v_ov V) / 2 ^ i) % 2)) (nn_and1 rfl (by omega)) ?_
    refine m_iretf C hQ dX11_rodOf_74 rfl rfl ?_
    exact s_of4 (by omega)
  · refine m_tblIn C 32 dX11_rodOf_1 (by rw [hh1i]; omega) (by rw [hh1i]; omega) (off := 31) (by rw [hh1i, hh1]; decide +kernel) (by decide) ?_
    refine m_aload_n C 0 dX11_rodOf_32 rfl ?_
    refine gfX11_7 C dX11_rodOf_33 ?_
    refine m_bipush C 10 dX11_rodOf_36 (by decide +kernel) ?_
    refine m_iload_n C 1 dX11_rodOf_38 rfl ?_
    refine m_iadd C dX11_rodOf_39 ?_
    refine m_topi (nI (10 + i)) (nn_add rfl rfl) ?_
    refine m_iald C 65 (by decide) sa_65 (10 + i) rfl (by omega) (by decide) dX11_rodOf_40 ?_
    refine m_topi (nI (v_kd V i)) (zm_kd hv hi) ?_
    refine m_iretf C hQ dX11_rodOf_41 rfl rfl ?_
    exact s_of0 (by omega)
  · refine m_tblIn C 42 dX11_rodOf_1 (by rw [hh1i]; omega) (by rw [hh1i]; omega) (off := 41) (by rw [hh1i, hh1]; decide +kernel) (by decide) ?_
    refine m_aload_n C 0 dX11_rodOf_42 rfl ?_
    refine m_iload_n C 1 dX11_rodOf_43 rfl ?_
    refine m_callVf C 64 (by decide) rfl rfl (c_X11_digitOf l G mu nu V hv i (by omega)) wkX11_123 (by decide) rfl rfl (Nat.le_of_ble_eq_true rfl) dX11_rodOf_44 ?_
    refine m_iretf C hQ dX11_rodOf_47 rfl rfl ?_
    exact s_of1 (by omega)
  · refine m_tblIn C 48 dX11_rodOf_1 (by rw [hh1i]; omega) (by rw [hh1i]; omega) (off := 47) (by rw [hh1i, hh1]; decide +kernel) (by decide) ?_
    refine m_aload_n C 0 dX11_rodOf_48 rfl ?_
    refine gfX11_7 C dX11_rodOf_49 ?_
    refine m_bipush C 24 dX11_rodOf_52 (by decide +kernel) ?_
    refine m_iload_n C 1 dX11_rodOf_54 rfl ?_
    refine m_iadd C dX11_rodOf_55 ?_
    refine m_topi (nI (24 + i)) (nn_add rfl rfl) ?_
    refine m_iald C 65 (by decide) sa_65 (24 + i) rfl (by omega) (by decide) dX11_rodOf_56 ?_
    refine m_topi (nI (v_mk V i)) (zm_mk hv hi) ?_
    refine m_iretf C hQ dX11_rodOf_57 rfl rfl ?_
    exact s_of2 (by omega)
  · refine m_tblIn C 58 dX11_rodOf_1 (by rw [hh1i]; omega) (by rw [hh1i]; omega) (off := 57) (by rw [hh1i, hh1]; decide +kernel) (by decide) ?_
    refine m_aload_n C 0 dX11_rodOf_58 rfl ?_
    refine m_iload_n C 1 dX11_rodOf_59 rfl ?_
    refine m_callVf C 64 (by decide) rfl rfl (c_X11_placeOf l G mu nu V hv i (by omega)) wkX11_130 (by decide) rfl rfl (Nat.le_of_ble_eq_true rfl) dX11_rodOf_60 ?_
    refine m_iretf C hQ dX11_rodOf_63 rfl rfl ?_
    exact s_of3 (by omega)

set_option maxHeartbeats 4000000 in
set_option maxRecDepth 100000 in
theorem c_X11_isA (l : Launch) (G : Gl) (mu : Mu) (nu : Nu) (k t : Nat) (hk : k < 6) (ht : t < 6) : Cf l G mX11_isA 1 [.int (nI k), .int (nI t)] mu nu (.int (bI (k = t ∨ (t = 1 ∧ k = 4) ∨ (t = 2 ∧ k = 5)))) := by
  refine Ct.of (lv := [(0, .int (nI k)), (1, .int (nI t))]) rfl rfl (Nat.le_of_ble_eq_true rfl) rfl (fun X C => ?_)
  generalize hQ : g_E G X _ = Q
  replace C : Cx G 2 X cX11_isA RX11 (some .boolean) 1 := C
  show Mq l G 2 X Q 0 [(0, .int (nI k)), (1, .int (nI t))] [] mu nu
  refine m_iload_n C 1 dX11_isA_0 rfl ?_
  refine m_iload_n C 0 dX11_isA_1 rfl ?_
  refine m_icmp_eq C 25 dX11_isA_2 (by decide) (fun hh1 => ?_) (fun hh1 => ?_)
  · replace hh1 := (ii_eq (nn_i (a := t) rfl (by omega)) (nn_i (a := k) rfl (by omega))).mp hh1
    refine m_iconst C 1 dX11_isA_25 (by decide +kernel) ?_
    refine m_goto C 30 dX11_isA_26 (by decide) ?_
    refine m_zretf C hQ dX11_isA_30 rfl rfl rfl ?_
    exact bI_t (by omega)
  replace hh1 := mt (ii_eq (nn_i (a := t) rfl (by omega)) (nn_i (a := k) rfl (by omega))).mpr hh1
  refine m_iload_n C 1 dX11_isA_5 rfl ?_
  refine m_iconst C 1 dX11_isA_6 (by decide +kernel) ?_
  refine m_icmp_ne C 15 dX11_isA_7 (by decide) (fun hh2 => ?_) (fun hh2 => ?_)
  · replace hh2 := mt (ii_eq (nn_i (a := t) rfl (by omega)) (nn_i (a := 1) rfl (by omega))).mpr hh2
    refine m_iload_n C 1 dX11_isA_15 rfl ?_
    refine m_iconst C 2 dX11_isA_16 (by decide +kernel) ?_
    refine m_icmp_ne C 29 dX11_isA_17 (by decide) (fun hh3 => ?_) (fun hh3 => ?_)
    · replace hh3 := mt (ii_eq (nn_i (a := t) rfl (by omega)) (nn_i (a := 2) rfl (by omega))).mpr hh3
      refine m_iconst C 0 dX11_isA_29 (by decide +kernel) ?_
      refine m_zretf C hQ dX11_isA_30 rfl rfl rfl ?_
      exact bI_f (by omega)
    replace hh3 := (ii_eq (nn_i (a := t) rfl (by omega)) (nn_i (a := 2) rfl (by omega))).mp hh3
    refine m_iload_n C 0 dX11_isA_20 rfl ?_
    refine m_iconst C 5 dX11_isA_21 (by decide +kernel) ?_
    refine m_icmp_ne C 29 dX11_isA_22 (by decide) (fun hh4 => ?_) (fun hh4 => ?_)
    · replace hh4 := mt (ii_eq (nn_i (a := k) rfl (by omega)) (nn_i (a := 5) rfl (by omega))).mpr hh4
      refine m_iconst C 0 dX11_isA_29 (by decide +kernel) ?_
      refine m_zretf C hQ dX11_isA_30 rfl rfl rfl ?_
      exact bI_f (by omega)
    replace hh4 := (ii_eq (nn_i (a := k) rfl (by omega)) (nn_i (a := 5) rfl (by omega))).mp hh4
    refine m_iconst C 1 dX11_isA_25 (by decide +kernel) ?_
    refine m_goto C 30 dX11_isA_26 (by decide) ?_
    refine m_zretf C hQ dX11_isA_30 rfl rfl rfl ?_
    exact bI_t (by omega)
  replace hh2 := (ii_eq (nn_i (a := t) rfl (by omega)) (nn_i (a := 1) rfl (by omega))).mp hh2
  refine m_iload_n C 0 dX11_isA_10 rfl ?_
  refine m_iconst C 4 dX11_isA_11 (by decide +kernel) ?_
  refine m_icmp_eq C 25 dX11_isA_12 (by decide) (fun hh5 => ?_) (fun hh5 => ?_)
  · replace hh5 := (ii_eq (nn_i (a := k) rfl (by omega)) (nn_i (a := 4) rfl (by omega))).mp hh5
    refine m_iconst C 1 dX11_isA_25 (by decide +kernel) ?_
    refine m_goto C 30 dX11_isA_26 (by decide) ?_
    refine m_zretf C hQ dX11_isA_30 rfl rfl rfl ?_
    exact bI_t (by omega)
  replace hh5 := mt (ii_eq (nn_i (a := k) rfl (by omega)) (nn_i (a := 4) rfl (by omega))).mpr hh5
  refine m_iload_n C 1 dX11_isA_15 rfl ?_
  refine m_iconst C 2 dX11_isA_16 (by decide +kernel) ?_
  refine m_icmp_ne C 29 dX11_isA_17 (by decide) (fun hh6 => ?_) (fun hh6 => ?_)
  · replace hh6 := mt (ii_eq (nn_i (a := t) rfl (by omega)) (nn_i (a := 2) rfl (by omega))).mpr hh6
    refine m_iconst C 0 dX11_isA_29 (by decide +kernel) ?_
    refine m_zretf C hQ dX11_isA_30 rfl rfl rfl ?_
    exact bI_f (by omega)
  replace hh6 := (ii_eq (nn_i (a := t) rfl (by omega)) (nn_i (a := 2) rfl (by omega))).mp hh6
  refine m_iload_n C 0 dX11_isA_20 rfl ?_
  refine m_iconst C 5 dX11_isA_21 (by decide +kernel) ?_
  refine m_icmp_ne C 29 dX11_isA_22 (by decide) (fun hh7 => ?_) (fun hh7 => ?_)
  · replace hh7 := mt (ii_eq (nn_i (a := k) rfl (by omega)) (nn_i (a := 5) rfl (by omega))).mpr hh7
    refine m_iconst C 0 dX11_isA_29 (by decide +kernel) ?_
    refine m_zretf C hQ dX11_isA_30 rfl rfl rfl ?_
    exact bI_f (by omega)
  replace hh7 := (ii_eq (nn_i (a := k) rfl (by omega)) (nn_i (a := 5) rfl (by omega))).mp hh7
  refine m_iconst C 1 dX11_isA_25 (by decide +kernel) ?_
  refine m_goto C 30 dX11_isA_26 (by decide) ?_
  refine m_zretf C hQ dX11_isA_30 rfl rfl rfl ?_
  exact bI_t (by omega)

set_option maxHeartbeats 4000000 in
set_option maxRecDepth 100000 in
theorem c_X11_linesAgainst_10 (l : Launch) (G : Gl) (mu : Mu) (nu : Nu) (V : Vw) (hv : zm mu V) (i : Nat) (hi : i < v_N V) (k : Nat) (hk : k < 6) : Cf l G mX11_linesAgainst 4 [.ref (G.1 64), .int (nI i), .int (nI k), .int ((-1))] mu nu (.int (nI (v_la V i k True False 9))) := by
  have hw := hv.1
  have hN7 := hw.1
  have hm7 := hw.2.2.1
  have ho8 := hw.2.2.2.2
  have hri := hw.2.1 i hi
  have hdi := v_dg_le hw hi
  refine Ct.of (lv := [(0, .ref (G.1 64)), (1, .int (nI i)), (2, .int (nI k)), (3, .int ((-1)))]) rfl rfl (Nat.le_of_ble_eq_true rfl) rfl (fun X C => ?_)
  generalize hQ : g_E G X _ = Q
  replace C : Cx G 8 X cX11_linesAgainst RX11 (some .int) 4 := C
  show Mq l G 8 X Q 0 [(0, .ref (G.1 64)), (1, .int (nI i)), (2, .int (nI k)), (3, .int ((-1)))] [] mu nu
  refine m_iconst C 0 dX11_linesAgainst_0 (by decide +kernel) ?_
  refine m_istore C [(4, .int 0), (0, .ref (G.1 64)), (1, .int (nI i)), (2, .int (nI k)), (3, .int ((-1)))] dX11_linesAgainst_1 (by decide) rfl ?_
  refine m_iconst C 1 dX11_linesAgainst_3 (by decide +kernel) ?_
  refine m_istore C [(5, .int 1), (4, .int 0), (0, .ref (G.1 64)), (1, .int (nI i)), (2, .int (nI k)), (3, .int ((-1)))] dX11_linesAgainst_4 (by decide) rfl ?_
  have L6 : ∀ (fu : Nat) (n : Nat) (hn : n ≤ 9), 9 - n < fu → Mq l G 8 X Q 6 [(0, .ref (G.1 64)), (1, .int (nI i)), (2, .int (nI k)), (3, .int ((-1))), (4, .int (nI (v_la V i k True False n))), (5, .int (nI (n + 1)))] [] mu nu := by
    intro fu
    induction fu with
    | zero => intro n hn hm; exact absurd hm (Nat.not_lt_zero _)
    | succ fu ih6 =>
      intro n hn hm
      have hle := v_la_le (V := V) (i := i) (k := k) (less := True) (more := False) n
      refine m_iload C 5 dX11_linesAgainst_6 rfl ?_
      refine m_bipush C 10 dX11_linesAgainst_8 (by decide +kernel) ?_
      refine m_icmp_ge C 93 dX11_linesAgainst_10 (by decide) (fun hh1 => ?_) (fun hh1 => ?_)
      · replace hh1 := (ii_le (nn_i (a := 10) rfl (by omega)) (nn_i (a := n + 1) rfl (by omega))).mp hh1
        refine m_iload C 4 dX11_linesAgainst_93 rfl ?_
        refine m_iretf C hQ dX11_linesAgainst_95 rfl rfl ?_
        have e : n = 9 := by omega
        subst e; rfl
      replace hh1 := mt (ii_le (nn_i (a := 10) rfl (by omega)) (nn_i (a := n + 1) rfl (by omega))).mpr hh1
      have hs1 := v_sh_le hw hi (n := n + 1) (by omega)
      have hs2 := v_as_le hw hi (k := k) (n := n + 1) (by omega)
      refine m_aload_n C 0 dX11_linesAgainst_13 rfl ?_
      refine m_iload_n C 1 dX11_linesAgainst_14 rfl ?_
      refine m_iload C 5 dX11_linesAgainst_15 rfl ?_
      refine m_callVf C 64 (by decide) rfl rfl (c_X11_showsOf l G mu nu V hv i (by omega) (n + 1) (by omega) (by omega)) wkX11_142 (by decide) rfl rfl (Nat.le_of_ble_eq_true rfl) dX11_linesAgainst_17 ?_
      refine m_istore C [(6, .int (nI (v_sh V i (n + 1)))), (0, .ref (G.1 64)), (1, .int (nI i)), (2, .int (nI k)), (3, .int ((-1))), (4, .int (nI (v_la V i k True False n))), (5, .int (nI (n + 1)))] dX11_linesAgainst_20 (by decide) rfl ?_
      refine m_iload_n C 3 dX11_linesAgainst_22 rfl ?_
      refine m_aload_n C 1 dX11_linesAgainst_23 rfl ?_
      refine m_iload_n C 2 dX11_linesAgainst_24 rfl ?_
      refine m_callVf C 64 (by decide) rfl rfl (c_X11_digitOf l G mu nu V hv i (by omega)) wkX11_123 (by decide) rfl rfl (Nat.le_of_ble_eq_true rfl) dX11_linesAgainst_25 ?_
      refine m_aload_n C 1 dX11_linesAgainst_28 rfl ?_
      refine gfX11_7 C dX11_linesAgainst_29 ?_
      refine m_bipush C 24 dX11_linesAgainst_32 (by decide +kernel) ?_
      refine m_iload_n C 2 dX11_linesAgainst_34 rfl ?_
      refine m_iadd C dX11_linesAgainst_35 ?_
      refine m_topi (nI (24 + i)) (nn_add rfl rfl) ?_
      refine m_iald C 65 (by decide) sa_65 (24 + i) rfl (by omega) (by decide) dX11_linesAgainst_36 ?_
      refine m_topi (nI (v_mk V i)) (zm_mk hv hi) ?_
      refine m_iload C 6 dX11_linesAgainst_37 rfl ?_
      refine m_callSf C (c_X11_showsBy l G mu nu k (by omega) (v_dg V i) (v_mk V i) (n + 1) (by omega) (by omega) (by omega) (by omega)) wkX11_126 (by decide) rfl rfl (Nat.le_of_ble_eq_true rfl) dX11_linesAgainst_39 ?_
      refine m_topi (nI (v_as V i k (n + 1))) rfl ?_
      refine m_istore C [(7, .int (nI (v_as V i k (n + 1)))), (6, .int (nI (v_sh V i (n + 1)))), (0, .ref (G.1 64)), (1, .int (nI i)), (2, .int (nI k)), (3, .int ((-1))), (4, .int (nI (v_la V i k True False n))), (5, .int (nI (n + 1)))] dX11_linesAgainst_42 (by decide) rfl ?_
      refine m_iload C 6 dX11_linesAgainst_44 rfl ?_
      refine m_iload_n C 5 dX11_linesAgainst_46 rfl ?_
      refine m_if_ge C 57 dX11_linesAgainst_47 (by decide) (fun h => absurd h (by decide)) (fun _ => ?_)
      refine m_iload C 1 dX11_linesAgainst_50 rfl ?_
      refine m_iload C 0 dX11_linesAgainst_52 rfl ?_
      refine m_icmp_lt C 79 dX11_linesAgainst_54 (by decide) (fun hh2 => ?_) (fun hh2 => ?_)
      · replace hh2 := (ii_lt (nn_i (a := v_sh V i (n + 1)) rfl (by omega)) (nn_i (a := v_as V i k (n + 1)) rfl (by omega))).mp hh2
        refine m_iconst C 1 dX11_linesAgainst_79 (by decide +kernel) ?_
        refine m_goto C 84 dX11_linesAgainst_80 (by decide) ?_
        refine m_iadd C dX11_linesAgainst_84 ?_
        refine m_topi (nI ((v_la V i k True False n) + 1)) (nn_add rfl rfl) ?_
        refine m_topi (nI (v_la V i k True False (n + 1))) (congrArg nI (congrArg (fun q => v_la V i k True False n + q) (if_pos (by simp; omega)).symm)) ?_
        refine m_istore C [(4, .int (nI (v_la V i k True False (n + 1)))), (7, .int (nI (v_as V i k (n + 1)))), (6, .int (nI (v_sh V i (n + 1)))), (0, .ref (G.1 64)), (1, .int (nI i)), (2, .int (nI k)), (3, .int ((-1))), (5, .int (nI (n + 1)))] dX11_linesAgainst_85 (by decide) rfl ?_
        refine m_iinc C 7 (nI (n + 1 + 1)) [(5, .int (nI (n + 1 + 1))), (4, .int (nI (v_la V i k True False (n + 1)))), (7, .int (nI (v_as V i k (n + 1)))), (6, .int (nI (v_sh V i (n + 1)))), (0, .ref (G.1 64)), (1, .int (nI i)), (2, .int (nI k)), (3, .int ((-1)))] dX11_linesAgainst_87 rfl (nn_add rfl (show Int32.ofInt 1 = nI 1 from rfl)) (by decide) rfl ?_
        refine m_goto C 6 dX11_linesAgainst_90 (by decide) ?_
        exact m_sub [4, 5, 6, 7, 1, 0] rfl (ih6 (n + 1) (by omega) (by omega))
      replace hh2 := mt (ii_lt (nn_i (a := v_sh V i (n + 1)) rfl (by omega)) (nn_i (a := v_as V i k (n + 1)) rfl (by omega))).mpr hh2
      refine m_iload_n C 5 dX11_linesAgainst_57 rfl ?_
      refine m_if_le C 68 dX11_linesAgainst_58 (by decide) (fun _ => ?_) (fun h => absurd (by decide) h)
      refine m_iload_n C 5 dX11_linesAgainst_68 rfl ?_
      refine m_if_ne C 83 dX11_linesAgainst_69 (by decide) (fun _ => ?_) (fun h => absurd h (by decide))
      refine m_iconst C 0 dX11_linesAgainst_83 (by decide +kernel) ?_
      refine m_iadd C dX11_linesAgainst_84 ?_
      refine m_topi (nI ((v_la V i k True False n) + 0)) (nn_add rfl rfl) ?_
      refine m_topi (nI (v_la V i k True False (n + 1))) (congrArg nI (congrArg (fun q => v_la V i k True False n + q) (if_neg (by simp; omega)).symm)) ?_
      refine m_istore C [(4, .int (nI (v_la V i k True False (n + 1)))), (7, .int (nI (v_as V i k (n + 1)))), (6, .int (nI (v_sh V i (n + 1)))), (0, .ref (G.1 64)), (1, .int (nI i)), (2, .int (nI k)), (3, .int ((-1))), (5, .int (nI (n + 1)))] dX11_linesAgainst_85 (by decide) rfl ?_
      refine m_iinc C 7 (nI (n + 1 + 1)) [(5, .int (nI (n + 1 + 1))), (4, .int (nI (v_la V i k True False (n + 1)))), (7, .int (nI (v_as V i k (n + 1)))), (6, .int (nI (v_sh V i (n + 1)))), (0, .ref (G.1 64)), (1, .int (nI i)), (2, .int (nI k)), (3, .int ((-1)))] dX11_linesAgainst_87 rfl (nn_add rfl (show Int32.ofInt 1 = nI 1 from rfl)) (by decide) rfl ?_
      refine m_goto C 6 dX11_linesAgainst_90 (by decide) ?_
      exact m_sub [4, 5, 6, 7, 1, 0] rfl (ih6 (n + 1) (by omega) (by omega))
  exact m_sub [2, 3, 4, 5, 1, 0] rfl (L6 (_ + 1) 0 (Nat.zero_le _) (Nat.lt_succ_self _))

set_option maxHeartbeats 4000000 in
set_option maxRecDepth 100000 in
theorem c_X11_linesAgainst_01 (l : Launch) (G : Gl) (mu : Mu) (nu : Nu) (V : Vw) (hv : zm mu V) (i : Nat) (hi : i < v_N V) (k : Nat) (hk : k < 6) : Cf l G mX11_linesAgainst 4 [.ref (G.1 64), .int (nI i), .int (nI k), .int 1] mu nu (.int (nI (v_la V i k False True 9))) := by
  have hw := hv.1
  have hN7 := hw.1
  have hm7 := hw.2.2.1
  have ho8 := hw.2.2.2.2
  have hri := hw.2.1 i hi
  have hdi := v_dg_le hw hi
  refine Ct.of (lv := [(0, .ref (G.1 64)), (1, .int (nI i)), (2, .int (nI k)), (3, .int 1)]) rfl rfl (Nat.le_of_ble_eq_true rfl) rfl (fun X C => ?_)
  generalize hQ : g_E G X _ = Q
  replace C : Cx G 8 X cX11_linesAgainst RX11 (some .int) 4 := C
  show Mq l G 8 X Q 0 [(0, .ref (G.1 64)), (1, .int (nI i)), (2, .int (nI k)), (3, .int 1)] [] mu nu
  refine m_iconst C 0 dX11_linesAgainst_0 (by decide +kernel) ?_
  refine m_istore C [(4, .int 0), (0, .ref (G.1 64)), (1, .int (nI i)), (2, .int (nI k)), (3, .int 1)] dX11_linesAgainst_1 (by decide) rfl ?_
  refine m_iconst C 1 dX11_linesAgainst_3 (by decide +kernel) ?_
  refine m_istore C [(5, .int 1), (4, .int 0), (0, .ref (G.1 64)), (1, .int (nI i)), (2, .int (nI k)), (3, .int 1)] dX11_linesAgainst_4 (by decide) rfl ?_
  have L6 : ∀ (fu : Nat) (n : Nat) (hn : n ≤ 9), 9 - n < fu → Mq l G 8 X Q 6 [(0, .ref (G.1 64)), (1, .int (nI i)), (2, .int (nI k)), (3, .int 1), (4, .int (nI (v_la V i k False True n))), (5, .int (nI (n + 1)))] [] mu nu := by
    intro fu
    induction fu with
    | zero => intro n hn hm; exact absurd hm (Nat.not_lt_zero _)
    | succ fu ih6 =>
      intro n hn hm
      have hle := v_la_le (V := V) (i := i) (k := k) (less := False) (more := True) n
      refine m_iload C 5 dX11_linesAgainst_6 rfl ?_
      refine m_bipush C 10 dX11_linesAgainst_8 (by decide +kernel) ?_
      refine m_icmp_ge C 93 dX11_linesAgainst_10 (by decide) (fun hh1 => ?_) (fun hh1 => ?_)
      · replace hh1 := (ii_le (nn_i (a := 10) rfl (by omega)) (nn_i (a := n + 1) rfl (by omega))).mp hh1
        refine m_iload C 4 dX11_linesAgainst_93 rfl ?_
        refine m_iretf C hQ dX11_linesAgainst_95 rfl rfl ?_
        have e : n = 9 := by omega
        subst e; rfl
      replace hh1 := mt (ii_le (nn_i (a := 10) rfl (by omega)) (nn_i (a := n + 1) rfl (by omega))).mpr hh1
      have hs1 := v_sh_le hw hi (n := n + 1) (by omega)
      have hs2 := v_as_le hw hi (k := k) (n := n + 1) (by omega)
      refine m_aload_n C 0 dX11_linesAgainst_13 rfl ?_
      refine m_iload_n C 1 dX11_linesAgainst_14 rfl ?_
      refine m_iload C 5 dX11_linesAgainst_15 rfl ?_
      refine m_callVf C 64 (by decide) rfl rfl (c_X11_showsOf l G mu nu V hv i (by omega) (n + 1) (by omega) (by omega)) wkX11_142 (by decide) rfl rfl (Nat.le_of_ble_eq_true rfl) dX11_linesAgainst_17 ?_
      refine m_istore C [(6, .int (nI (v_sh V i (n + 1)))), (0, .ref (G.1 64)), (1, .int (nI i)), (2, .int (nI k)), (3, .int 1), (4, .int (nI (v_la V i k False True n))), (5, .int (nI (n + 1)))] dX11_linesAgainst_20 (by decide) rfl ?_
      refine m_iload_n C 3 dX11_linesAgainst_22 rfl ?_
      refine m_aload_n C 1 dX11_linesAgainst_23 rfl ?_
      refine m_iload_n C 2 dX11_linesAgainst_24 rfl ?_
      refine m_callVf C 64 (by decide) rfl rfl (c_X11_digitOf l G mu nu V hv i (by omega)) wkX11_123 (by decide) rfl rfl (Nat.le_of_ble_eq_true rfl) dX11_linesAgainst_25 ?_
      refine m_aload_n C 1 dX11_linesAgainst_28 rfl ?_
      refine gfX11_7 C dX11_linesAgainst_29 ?_
      refine m_bipush C 24 dX11_linesAgainst_32 (by decide +kernel) ?_
      refine m_iload_n C 2 dX11_linesAgainst_34 rfl ?_
      refine m_iadd C dX11_linesAgainst_35 ?_
      refine m_topi (nI (24 + i)) (nn_add rfl rfl) ?_
      refine m_iald C 65 (by decide) sa_65 (24 + i) rfl (by omega) (by decide) dX11_linesAgainst_36 ?_
      refine m_topi (nI (v_mk V i)) (zm_mk hv hi) ?_
      refine m_iload C 6 dX11_linesAgainst_37 rfl ?_
      refine m_callSf C (c_X11_showsBy l G mu nu k (by omega) (v_dg V i) (v_mk V i) (n + 1) (by omega) (by omega) (by omega) (by omega)) wkX11_126 (by decide) rfl rfl (Nat.le_of_ble_eq_true rfl) dX11_linesAgainst_39 ?_
      refine m_topi (nI (v_as V i k (n + 1))) rfl ?_
      refine m_istore C [(7, .int (nI (v_as V i k (n + 1)))), (6, .int (nI (v_sh V i (n + 1)))), (0, .ref (G.1 64)), (1, .int (nI i)), (2, .int (nI k)), (3, .int 1), (4, .int (nI (v_la V i k False True n))), (5, .int (nI (n + 1)))] dX11_linesAgainst_42 (by decide) rfl ?_
      refine m_iload C 6 dX11_linesAgainst_44 rfl ?_
      refine m_iload_n C 5 dX11_linesAgainst_46 rfl ?_
      refine m_if_ge C 57 dX11_linesAgainst_47 (by decide) (fun _ => ?_) (fun h => absurd (by decide) h)
      refine m_iload_n C 5 dX11_linesAgainst_57 rfl ?_
      refine m_if_le C 68 dX11_linesAgainst_58 (by decide) (fun h => absurd h (by decide)) (fun _ => ?_)
      refine m_iload C 1 dX11_linesAgainst_61 rfl ?_
      refine m_iload C 0 dX11_linesAgainst_63 rfl ?_
      refine m_icmp_gt C 79 dX11_linesAgainst_65 (by decide) (fun hh2 => ?_) (fun hh2 => ?_)
      · replace hh2 := (ii_lt (nn_i (a := v_as V i k (n + 1)) rfl (by omega)) (nn_i (a := v_sh V i (n + 1)) rfl (by omega))).mp hh2
        refine m_iconst C 1 dX11_linesAgainst_79 (by decide +kernel) ?_
        refine m_goto C 84 dX11_linesAgainst_80 (by decide) ?_
        refine m_iadd C dX11_linesAgainst_84 ?_
        refine m_topi (nI ((v_la V i k False True n) + 1)) (nn_add rfl rfl) ?_
        refine m_topi (nI (v_la V i k False True (n + 1))) (congrArg nI (congrArg (fun q => v_la V i k False True n + q) (if_pos (by simp; omega)).symm)) ?_
        refine m_istore C [(4, .int (nI (v_la V i k False True (n + 1)))), (7, .int (nI (v_as V i k (n + 1)))), (6, .int (nI (v_sh V i (n + 1)))), (0, .ref (G.1 64)), (1, .int (nI i)), (2, .int (nI k)), (3, .int 1), (5, .int (nI (n + 1)))] dX11_linesAgainst_85 (by decide) rfl ?_
        refine m_iinc C 7 (nI (n + 1 + 1)) [(5, .int (nI (n + 1 + 1))), (4, .int (nI (v_la V i k False True (n + 1)))), (7, .int (nI (v_as V i k (n + 1)))), (6, .int (nI (v_sh V i (n + 1)))), (0, .ref (G.1 64)), (1, .int (nI i)), (2, .int (nI k)), (3, .int 1)] dX11_linesAgainst_87 rfl (nn_add rfl (show Int32.ofInt 1 = nI 1 from rfl)) (by decide) rfl ?_
        refine m_goto C 6 dX11_linesAgainst_90 (by decide) ?_
        exact m_sub [4, 5, 6, 7, 1, 0] rfl (ih6 (n + 1) (by omega) (by omega))
      replace hh2 := mt (ii_lt (nn_i (a := v_as V i k (n + 1)) rfl (by omega)) (nn_i (a := v_sh V i (n + 1)) rfl (by omega))).mpr hh2
      refine m_iload_n C 5 dX11_linesAgainst_68 rfl ?_
      refine m_if_ne C 83 dX11_linesAgainst_69 (by decide) (fun _ => ?_) (fun h => absurd h (by decide))
      refine m_iconst C 0 dX11_linesAgainst_83 (by decide +kernel) ?_
      refine m_iadd C dX11_linesAgainst_84 ?_
      refine m_topi (nI ((v_la V i k False True n) + 0)) (nn_add rfl rfl) ?_
      refine m_topi (nI (v_la V i k False True (n + 1))) (congrArg nI (congrArg (fun q => v_la V i k False True n + q) (if_neg (by simp; omega)).symm)) ?_
      refine m_istore C [(4, .int (nI (v_la V i k False True (n + 1)))), (7, .int (nI (v_as V i k (n + 1)))), (6, .int (nI (v_sh V i (n + 1)))), (0, .ref (G.1 64)), (1, .int (nI i)), (2, .int (nI k)), (3, .int 1), (5, .int (nI (n + 1)))] dX11_linesAgainst_85 (by decide) rfl ?_
      refine m_iinc C 7 (nI (n + 1 + 1)) [(5, .int (nI (n + 1 + 1))), (4, .int (nI (v_la V i k False True (n + 1)))), (7, .int (nI (v_as V i k (n + 1)))), (6, .int (nI (v_sh V i (n + 1)))), (0, .ref (G.1 64)), (1, .int (nI i)), (2, .int (nI k)), (3, .int 1)] dX11_linesAgainst_87 rfl (nn_add rfl (show Int32.ofInt 1 = nI 1 from rfl)) (by decide) rfl ?_
      refine m_goto C 6 dX11_linesAgainst_90 (by decide) ?_
      exact m_sub [4, 5, 6, 7, 1, 0] rfl (ih6 (n + 1) (by omega) (by omega))
  exact m_sub [2, 3, 4, 5, 1, 0] rfl (L6 (_ + 1) 0 (Nat.zero_le _) (Nat.lt_succ_self _))

set_option maxHeartbeats 4000000 in
set_option maxRecDepth 100000 in
theorem c_X11_linesAgainst_11 (l : Launch) (G : Gl) (mu : Mu) (nu : Nu) (V : Vw) (hv : zm mu V) (i : Nat) (hi : i < v_N V) (k : Nat) (hk : k < 6) : Cf l G mX11_linesAgainst 4 [.ref (G.1 64), .int (nI i), .int (nI k), .int 0] mu nu (.int (nI (v_la V i k True True 9))) := by
  have hw := hv.1
  have hN7 := hw.1
  have hm7 := hw.2.2.1
  have ho8 := hw.2.2.2.2
  have hri := hw.2.1 i hi
  have hdi := v_dg_le hw hi
  refine Ct.of (lv := [(0, .ref (G.1 64)), (1, .int (nI i)), (2, .int (nI k)), (3, .int 0)]) rfl rfl (Nat.le_of_ble_eq_true rfl) rfl (fun X C => ?_)
  generalize hQ : g_E G X _ = Q
  replace C : Cx G 8 X cX11_linesAgainst RX11 (some .int) 4 := C
  show Mq l G 8 X Q 0 [(0, .ref (G.1 64)), (1, .int (nI i)), (2, .int (nI k)), (3, .int 0)] [] mu nu
  refine m_iconst C 0 dX11_linesAgainst_0 (by decide +kernel) ?_
  refine m_istore C [(4, .int 0), (0, .ref (G.1 64)), (1, .int (nI i)), (2, .int (nI k)), (3, .int 0)] dX11_linesAgainst_1 (by decide) rfl ?_
  refine m_iconst C 1 dX11_linesAgainst_3 (by decide +kernel) ?_
  refine m_istore C [(5, .int 1), (4, .int 0), (0, .ref (G.1 64)), (1, .int (nI i)), (2, .int (nI k)), (3, .int 0)] dX11_linesAgainst_4 (by decide) rfl ?_
  have L6 : ∀ (fu : Nat) (n : Nat) (hn : n ≤ 9), 9 - n < fu → Mq l G 8 X Q 6 [(0, .ref (G.1 64)), (1, .int (nI i)), (2, .int (nI k)), (3, .int 0), (4, .int (nI (v_la V i k True True n))), (5, .int (nI (n + 1)))] [] mu nu := by
    intro fu
    induction fu with
    | zero => intro n hn hm; exact absurd hm (Nat.not_lt_zero _)
    | succ fu ih6 =>
      intro n hn hm
      have hle := v_la_le (V := V) (i := i) (k := k) (less := True) (more := True) n
      refine m_iload C 5 dX11_linesAgainst_6 rfl ?_
      refine m_bipush C 10 dX11_linesAgainst_8 (by decide +kernel) ?_
      refine m_icmp_ge C 93 dX11_linesAgainst_10 (by decide) (fun hh1 => ?_) (fun hh1 => ?_)
      · replace hh1 := (ii_le (nn_i (a := 10) rfl (by omega)) (nn_i (a := n + 1) rfl (by omega))).mp hh1
        refine m_iload C 4 dX11_linesAgainst_93 rfl ?_
        refine m_iretf C hQ dX11_linesAgainst_95 rfl rfl ?_
        have e : n = 9 := by omega
        subst e; rfl
      replace hh1 := mt (ii_le (nn_i (a := 10) rfl (by omega)) (nn_i (a := n + 1) rfl (by omega))).mpr hh1
      have hs1 := v_sh_le hw hi (n := n + 1) (by omega)
      have hs2 := v_as_le hw hi (k := k) (n := n + 1) (by omega)
      refine m_aload_n C 0 dX11_linesAgainst_13 rfl ?_
      refine m_iload_n C 1 dX11_linesAgainst_14 rfl ?_
      refine m_iload C 5 dX11_linesAgainst_15 rfl ?_
      refine m_callVf C 64 (by decide) rfl rfl (c_X11_showsOf l G mu nu V hv i (by omega) (n + 1) (by omega) (by omega)) wkX11_142 (by decide) rfl rfl (Nat.le_of_ble_eq_true rfl) dX11_linesAgainst_17 ?_
      refine m_istore C [(6, .int (nI (v_sh V i (n + 1)))), (0, .ref (G.1 64)), (1, .int (nI i)), (2, .int (nI k)), (3, .int 0), (4, .int (nI (v_la V i k True True n))), (5, .int (nI (n + 1)))] dX11_linesAgainst_20 (by decide) rfl ?_
      refine m_iload_n C 3 dX11_linesAgainst_22 rfl ?_
      refine m_aload_n C 1 dX11_linesAgainst_23 rfl ?_
      refine m_iload_n C 2 dX11_linesAgainst_24 rfl ?_
      refine m_callVf C 64 (by decide) rfl rfl (c_X11_digitOf l G mu nu V hv i (by omega)) wkX11_123 (by decide) rfl rfl (Nat.le_of_ble_eq_true rfl) dX11_linesAgainst_25 ?_
      refine m_aload_n C 1 dX11_linesAgainst_28 rfl ?_
      refine gfX11_7 C dX11_linesAgainst_29 ?_
      refine m_bipush C 24 dX11_linesAgainst_32 (by decide +kernel) ?_
      refine m_iload_n C 2 dX11_linesAgainst_34 rfl ?_
      refine m_iadd C dX11_linesAgainst_35 ?_
      refine m_topi (nI (24 + i)) (nn_add rfl rfl) ?_
      refine m_iald C 65 (by decide) sa_65 (24 + i) rfl (by omega) (by decide) dX11_linesAgainst_36 ?_
      refine m_topi (nI (v_mk V i)) (zm_mk hv hi) ?_
      refine m_iload C 6 dX11_linesAgainst_37 rfl ?_
      refine m_callSf C (c_X11_showsBy l G mu nu k (by omega) (v_dg V i) (v_mk V i) (n + 1) (by omega) (by omega) (by omega) (by omega)) wkX11_126 (by decide) rfl rfl (Nat.le_of_ble_eq_true rfl) dX11_linesAgainst_39 ?_
      refine m_topi (nI (v_as V i k (n + 1))) rfl ?_
      refine m_istore C [(7, .int (nI (v_as V i k (n + 1)))), (6, .int (nI (v_sh V i (n + 1)))), (0, .ref (G.1 64)), (1, .int (nI i)), (2, .int (nI k)), (3, .int 0), (4, .int (nI (v_la V i k True True n))), (5, .int (nI (n + 1)))] dX11_linesAgainst_42 (by decide) rfl ?_
      refine m_iload C 6 dX11_linesAgainst_44 rfl ?_
      refine m_iload_n C 5 dX11_linesAgainst_46 rfl ?_
      refine m_if_ge C 57 dX11_linesAgainst_47 (by decide) (fun _ => ?_) (fun h => absurd (by decide) h)
      refine m_iload_n C 5 dX11_linesAgainst_57 rfl ?_
      refine m_if_le C 68 dX11_linesAgainst_58 (by decide) (fun _ => ?_) (fun h => absurd (by decide) h)
      refine m_iload_n C 5 dX11_linesAgainst_68 rfl ?_
      refine m_if_ne C 83 dX11_linesAgainst_69 (by decide) (fun h => absurd h (by decide)) (fun _ => ?_)
      refine m_iload C 1 dX11_linesAgainst_72 rfl ?_
      refine m_iload C 0 dX11_linesAgainst_74 rfl ?_
      refine m_icmp_eq C 83 dX11_linesAgainst_76 (by decide) (fun hh2 => ?_) (fun hh2 => ?_)
      · replace hh2 := (ii_eq (nn_i (a := v_sh V i (n + 1)) rfl (by omega)) (nn_i (a := v_as V i k (n + 1)) rfl (by omega))).mp hh2
        refine m_iconst C 0 dX11_linesAgainst_83 (by decide +kernel) ?_
        refine m_iadd C dX11_linesAgainst_84 ?_
        refine m_topi (nI ((v_la V i k True True n) + 0)) (nn_add rfl rfl) ?_
        refine m_topi (nI (v_la V i k True True (n + 1))) (congrArg nI (congrArg (fun q => v_la V i k True True n + q) (if_neg (by simp; omega)).symm)) ?_
        refine m_istore C [(4, .int (nI (v_la V i k True True (n + 1)))), (7, .int (nI (v_as V i k (n + 1)))), (6, .int (nI (v_sh V i (n + 1)))), (0, .ref (G.1 64)), (1, .int (nI i)), (2, .int (nI k)), (3, .int 0), (5, .int (nI (n + 1)))] dX11_linesAgainst_85 (by decide) rfl ?_
        refine m_iinc C 7 (nI (n + 1 + 1)) [(5, .int (nI (n + 1 + 1))), (4, .int (nI (v_la V i k True True (n + 1)))), (7, .int (nI (v_as V i k (n + 1)))), (6, .int (nI (v_sh V i (n + 1)))), (0, .ref (G.1 64)), (1, .int (nI i)), (2, .int (nI k)), (3, .int 0)] dX11_linesAgainst_87 rfl (nn_add rfl (show Int32.ofInt 1 = nI 1 from rfl)) (by decide) rfl ?_
        refine m_goto C 6 dX11_linesAgainst_90 (by decide) ?_
        exact m_sub [4, 5, 6, 7, 1, 0] rfl (ih6 (n + 1) (by omega) (by omega))
      replace hh2 := mt (ii_eq (nn_i (a := v_sh V i (n + 1)) rfl (by omega)) (nn_i (a := v_as V i k (n + 1)) rfl (by omega))).mpr hh2
      refine m_iconst C 1 dX11_linesAgainst_79 (by decide +kernel) ?_
      refine m_goto C 84 dX11_linesAgainst_80 (by decide) ?_
      refine m_iadd C dX11_linesAgainst_84 ?_
      refine m_topi (nI ((v_la V i k True True n) + 1)) (nn_add rfl rfl) ?_
      refine m_topi (nI (v_la V i k True True (n + 1))) (congrArg nI (congrArg (fun q => v_la V i k True True n + q) (if_pos (by simp; omega)).symm)) ?_
      refine m_istore C [(4, .int (nI (v_la V i k True True (n + 1)))), (7, .int (nI (v_as V i k (n + 1)))), (6, .int (nI (v_sh V i (n + 1)))), (0, .ref (G.1 64)), (1, .int (nI i)), (2, .int (nI k)), (3, .int 0), (5, .int (nI (n + 1)))] dX11_linesAgainst_85 (by decide) rfl ?_
      refine m_iinc C 7 (nI (n + 1 + 1)) [(5, .int (nI (n + 1 + 1))), (4, .int (nI (v_la V i k True True (n + 1)))), (7, .int (nI (v_as V i k (n + 1)))), (6, .int (nI (v_sh V i (n + 1)))), (0, .ref (G.1 64)), (1, .int (nI i)), (2, .int (nI k)), (3, .int 0)] dX11_linesAgainst_87 rfl (nn_add rfl (show Int32.ofInt 1 = nI 1 from rfl)) (by decide) rfl ?_
      refine m_goto C 6 dX11_linesAgainst_90 (by decide) ?_
      exact m_sub [4, 5, 6, 7, 1, 0] rfl (ih6 (n + 1) (by omega) (by omega))
  exact m_sub [2, 3, 4, 5, 1, 0] rfl (L6 (_ + 1) 0 (Nat.zero_le _) (Nat.lt_succ_self _))

set_option maxHeartbeats 4000000 in
set_option maxRecDepth 100000 in
theorem c_X11_readBy (l : Launch) (G : Gl) (mu : Mu) (nu : Nu) (V : Vw) (hv : zm mu V) (n : Nat) (h1 : 1 ≤ n) (h9 : n ≤ 9) : Cf l G mX11_readBy 4 [.ref (G.1 64), .int (nI n)] mu nu (.int (nI (v_rd V n (v_m V)))) := by
  have hw := hv.1
  have hN7 := hw.1
  have hm7 := hw.2.2.1
  have ho8 := hw.2.2.2.2
  refine Ct.of (lv := [(0, .ref (G.1 64)), (1, .int (nI n))]) rfl rfl (Nat.le_of_ble_eq_true rfl) rfl (fun X C => ?_)
  generalize hQ : g_E G X _ = Q
  replace C : Cx G 4 X cX11_readBy RX11 (some .int) 4 := C
  show Mq l G 4 X Q 0 [(0, .ref (G.1 64)), (1, .int (nI n))] [] mu nu
  refine m_iconst C 0 dX11_readBy_0 (by decide +kernel) ?_
  refine m_istore_n C [(2, .int 0), (0, .ref (G.1 64)), (1, .int (nI n))] dX11_readBy_1 (by decide) rfl ?_
  refine m_iconst C 0 dX11_readBy_2 (by decide +kernel) ?_
  refine m_istore_n C [(3, .int 0), (2, .int 0), (0, .ref (G.1 64)), (1, .int (nI n))] dX11_readBy_3 (by decide) rfl ?_
  have L4 : ∀ (fu : Nat) (p : Nat) (hp : p ≤ v_m V), v_m V - p < fu → Mq l G 4 X Q 4 [(0, .ref (G.1 64)), (1, .int (nI n)), (2, .int (nI (v_rd V n p))), (3, .int (nI p))] [] mu nu := by
    intro fu
    induction fu with
    | zero => intro p hp hm; exact absurd hm (Nat.not_lt_zero _)
    | succ fu ih4 =>
      intro p hp hm
      refine m_iload_n C 3 dX11_readBy_4 rfl ?_
      refine m_aload_n C 0 dX11_readBy_5 rfl ?_
      refine gfX11_7 C dX11_readBy_6 ?_
      refine m_iconst C 1 dX11_readBy_9 (by decide +kernel) ?_
      refine m_iald C 65 (by decide) sa_65 1 rfl (by omega) (by decide) dX11_readBy_10 ?_
      refine m_topi (nI (v_m V)) hv.2.2.1 ?_
      refine m_icmp_ge C 39 dX11_readBy_11 (by decide) (fun hh1 => ?_) (fun hh1 => ?_)
      · replace hh1 := (ii_le (nn_i (a := v_m V) rfl (by omega)) (nn_i (a := p) rfl (by omega))).mp hh1
        refine m_iload_n C 2 dX11_readBy_39 rfl ?_
        refine m_iretf C hQ dX11_readBy_40 rfl rfl ?_
        have e : p = v_m V := by omega
        subst e; rfl
      replace hh1 := mt (ii_le (nn_i (a := v_m V) rfl (by omega)) (nn_i (a := p) rfl (by omega))).mpr hh1
      have hfp := hw.2.2.2.1 p (by omega)
      have hri := hw.2.1 _ hfp
      have hdi := v_dg_le hw hfp
      refine m_bipush C 10 dX11_readBy_14 (by decide +kernel) ?_
      refine m_iload_n C 2 dX11_readBy_16 rfl ?_
      refine m_imul C dX11_readBy_17 ?_
      refine m_topi (nI (10 * (v_rd V n p))) (nn_mul rfl rfl) ?_
      refine m_aload_n C 0 dX11_readBy_18 rfl ?_
      refine m_aload_n C 0 dX11_readBy_19 rfl ?_
      refine gfX11_7 C dX11_readBy_20 ?_
      refine m_iconst C 3 dX11_readBy_23 (by decide +kernel) ?_
      refine m_iload_n C 3 dX11_readBy_24 rfl ?_
      refine m_iadd C dX11_readBy_25 ?_
      refine m_topi (nI (3 + p)) (nn_add rfl rfl) ?_
      refine m_iald C 65 (by decide) sa_65 (3 + p) rfl (by omega) (by decide) dX11_readBy_26 ?_
      refine m_topi (nI (v_fr V p)) (zm_fr hv (show p < v_m V by omega)) ?_
      refine m_iload_n C 1 dX11_readBy_27 rfl ?_
      refine m_callVf C 64 (by decide) rfl rfl (c_X11_showsOf l G mu nu V hv (v_fr V p) (by omega) n (by omega) (by omega)) wkX11_142 (by decide) rfl rfl (Nat.le_of_ble_eq_true rfl) dX11_readBy_28 ?_
      refine m_iadd C dX11_readBy_31 ?_
      refine m_topi (nI ((10 * (v_rd V n p)) + (v_sh V (v_fr V p) n))) (nn_add rfl rfl) ?_
      refine m_topi (nI (v_rd V n (p + 1))) rfl ?_
      refine m_istore_n C [(2, .int (nI (v_rd V n (p + 1)))), (0, .ref (G.1 64)), (1, .int (nI n)), (3, .int (nI p))] dX11_readBy_32 (by decide) rfl ?_
      refine m_iinc C 3 (nI (p + 1)) [(3, .int (nI (p + 1))), (2, .int (nI (v_rd V n (p + 1)))), (0, .ref (G.1 64)), (1, .int (nI n))] dX11_readBy_33 rfl (nn_add rfl (show Int32.ofInt 1 = nI 1 from rfl)) (by decide) rfl ?_
      refine m_goto C 4 dX11_readBy_36 (by decide) ?_
      exact m_sub [2, 3, 1, 0] rfl (ih4 (p + 1) (by omega) (by omega))
  exact m_sub [2, 3, 1, 0] rfl (L4 (_ + 1) 0 (Nat.zero_le _) (Nat.lt_succ_self _))

set_option maxHeartbeats 4000000 in
set_option maxRecDepth 100000 in
theorem c_X11_rightBy (l : Launch) (G : Gl) (mu : Mu) (nu : Nu) (V : Vw) (hv : zm mu V) (n : Nat) : Cf l G mX11_rightBy 3 [.ref (G.1 64), .int (nI n)] mu nu (.int (nI (v_rt V (v_m V) * n))) := by
  have hw := hv.1
  have hN7 := hw.1
  have hm7 := hw.2.2.1
  have ho8 := hw.2.2.2.2
  refine Ct.of (lv := [(0, .ref (G.1 64)), (1, .int (nI n))]) rfl rfl (Nat.le_of_ble_eq_true rfl) rfl (fun X C => ?_)
  generalize hQ : g_E G X _ = Q
  replace C : Cx G 4 X cX11_rightBy RX11 (some .int) 3 := C
  show Mq l G 4 X Q 0 [(0, .ref (G.1 64)), (1, .int (nI n))] [] mu nu
  refine m_iconst C 0 dX11_rightBy_0 (by decide +kernel) ?_
  refine m_istore_n C [(2, .int 0), (0, .ref (G.1 64)), (1, .int (nI n))] dX11_rightBy_1 (by decide) rfl ?_
  refine m_iconst C 0 dX11_rightBy_2 (by decide +kernel) ?_
  refine m_istore_n C [(3, .int 0), (2, .int 0), (0, .ref (G.1 64)), (1, .int (nI n))] dX11_rightBy_3 (by decide) rfl ?_
  have L4 : ∀ (fu : Nat) (p : Nat) (hp : p ≤ v_m V), v_m V - p < fu → Mq l G 4 X Q 4 [(0, .ref (G.1 64)), (1, .int (nI n)), (2, .int (nI (v_rt V p))), (3, .int (nI p))] [] mu nu := by
    intro fu
    induction fu with
    | zero => intro p hp hm; exact absurd hm (Nat.not_lt_zero _)
    | succ fu ih4 =>
      intro p hp hm
      refine m_iload_n C 3 dX11_rightBy_4 rfl ?_
      refine m_aload_n C 0 dX11_rightBy_5 rfl ?_
      refine gfX11_7 C dX11_rightBy_6 ?_
      refine m_iconst C 1 dX11_rightBy_9 (by decide +kernel) ?_
      refine m_iald C 65 (by decide) sa_65 1 rfl (by omega) (by decide) dX11_rightBy_10 ?_
      refine m_topi (nI (v_m V)) hv.2.2.1 ?_
      refine m_icmp_ge C 38 dX11_rightBy_11 (by decide) (fun hh1 => ?_) (fun hh1 => ?_)
      · replace hh1 := (ii_le (nn_i (a := v_m V) rfl (by omega)) (nn_i (a := p) rfl (by omega))).mp hh1
        refine m_iload_n C 2 dX11_rightBy_38 rfl ?_
        refine m_iload_n C 1 dX11_rightBy_39 rfl ?_
        refine m_imul C dX11_rightBy_40 ?_
        refine m_topi (nI ((v_rt V p) * n)) (nn_mul rfl rfl) ?_
        refine m_iretf C hQ dX11_rightBy_41 rfl rfl ?_
        have e : p = v_m V := by omega
        subst e; rfl
      replace hh1 := mt (ii_le (nn_i (a := v_m V) rfl (by omega)) (nn_i (a := p) rfl (by omega))).mpr hh1
      have hfp := hw.2.2.2.1 p (by omega)
      have hri := hw.2.1 _ hfp
      have hdi := v_dg_le hw hfp
      refine m_bipush C 10 dX11_rightBy_14 (by decide +kernel) ?_
      refine m_iload_n C 2 dX11_rightBy_16 rfl ?_
      refine m_imul C dX11_rightBy_17 ?_
      refine m_topi (nI (10 * (v_rt V p))) (nn_mul rfl rfl) ?_
      refine m_aload_n C 0 dX11_rightBy_18 rfl ?_
      refine m_aload_n C 0 dX11_rightBy_19 rfl ?_
      refine gfX11_7 C dX11_rightBy_20 ?_
      refine m_iconst C 3 dX11_rightBy_23 (by decide +kernel) ?_
      refine m_iload_n C 3 dX11_rightBy_24 rfl ?_
      refine m_iadd C dX11_rightBy_25 ?_
      refine m_topi (nI (3 + p)) (nn_add rfl rfl) ?_
      refine m_iald C 65 (by decide) sa_65 (3 + p) rfl (by omega) (by decide) dX11_rightBy_26 ?_
      refine m_topi (nI (v_fr V p)) (zm_fr hv (show p < v_m V by omega)) ?_
      refine m_callVf C 64 (by decide) rfl rfl (c_X11_digitOf l G mu nu V hv (v_fr V p) (by omega)) wkX11_123 (by decide) rfl rfl (Nat.le_of_ble_eq_true rfl) dX11_rightBy_27 ?_
      refine m_iadd C dX11_rightBy_30 ?_
      refine m_topi (nI ((10 * (v_rt V p)) + (v_dg V (v_fr V p)))) (nn_add rfl rfl) ?_
      refine m_topi (nI (v_rt V (p + 1))) rfl ?_
      refine m_istore_n C [(2, .int (nI (v_rt V (p + 1)))), (0, .ref (G.1 64)), (1, .int (nI n)), (3, .int (nI p))] dX11_rightBy_31 (by decide) rfl ?_
      refine m_iinc C 3 (nI (p + 1)) [(3, .int (nI (p + 1))), (2, .int (nI (v_rt V (p + 1)))), (0, .ref (G.1 64)), (1, .int (nI n))] dX11_rightBy_32 rfl (nn_add rfl (show Int32.ofInt 1 = nI 1 from rfl)) (by decide) rfl ?_
      refine m_goto C 4 dX11_rightBy_35 (by decide) ?_
      exact m_sub [2, 3, 1, 0] rfl (ih4 (p + 1) (by omega) (by omega))
  exact m_sub [2, 3, 1, 0] rfl (L4 (_ + 1) 0 (Nat.zero_le _) (Nat.lt_succ_self _))

set_option maxHeartbeats 4000000 in
set_option maxRecDepth 100000 in
theorem c_X11_readWith (l : Launch) (G : Gl) (mu : Mu) (nu : Nu) (V : Vw) (hv : zm mu V) (n : Nat) (h1 : 1 ≤ n) (h9 : n ≤ 9) (pl : Nat) (hpl : pl < 7) (d : Nat) (hd : d ≤ 9) : Cf l G mX11_readWith 4 [.ref (G.1 64), .int (nI n), .int (nI pl), .int (nI d)] mu nu (.int (nI (v_rw V pl d n (v_m V)))) := by
  have hw := hv.1
  have hN7 := hw.1
  have hm7 := hw.2.2.1
  have ho8 := hw.2.2.2.2
  refine Ct.of (lv := [(0, .ref (G.1 64)), (1, .int (nI n)), (2, .int (nI pl)), (3, .int (nI d))]) rfl rfl (Nat.le_of_ble_eq_true rfl) rfl (fun X C => ?_)
  generalize hQ : g_E G X _ = Q
  replace C : Cx G 7 X cX11_readWith RX11 (some .int) 4 := C
  show Mq l G 7 X Q 0 [(0, .ref (G.1 64)), (1, .int (nI n)), (2, .int (nI pl)), (3, .int (nI d))] [] mu nu
  refine m_iconst C 0 dX11_readWith_0 (by decide +kernel) ?_
  refine m_istore C [(4, .int 0), (0, .ref (G.1 64)), (1, .int (nI n)), (2, .int (nI pl)), (3, .int (nI d))] dX11_readWith_1 (by decide) rfl ?_
  refine m_iconst C 0 dX11_readWith_3 (by decide +kernel) ?_
  refine m_istore C [(5, .int 0), (4, .int 0), (0, .ref (G.1 64)), (1, .int (nI n)), (2, .int (nI pl)), (3, .int (nI d))] dX11_readWith_4 (by decide) rfl ?_
  have L6 : ∀ (fu : Nat) (p : Nat) (hp : p ≤ v_m V), v_m V - p < fu → Mq l G 7 X Q 6 [(0, .ref (G.1 64)), (1, .int (nI n)), (2, .int (nI pl)), (3, .int (nI d)), (4, .int (nI (v_rw V pl d n p))), (5, .int (nI p))] [] mu nu := by
    intro fu
    induction fu with
    | zero => intro p hp hm; exact absurd hm (Nat.not_lt_zero _)
    | succ fu ih6 =>
      intro p hp hm
      refine m_iload C 5 dX11_readWith_6 rfl ?_
      refine m_aload_n C 0 dX11_readWith_8 rfl ?_
      refine gfX11_7 C dX11_readWith_9 ?_
      refine m_iconst C 1 dX11_readWith_12 (by decide +kernel) ?_
      refine m_iald C 65 (by decide) sa_65 1 rfl (by omega) (by decide) dX11_readWith_13 ?_
      refine m_topi (nI (v_m V)) hv.2.2.1 ?_
      refine m_icmp_ge C 82 dX11_readWith_14 (by decide) (fun hh1 => ?_) (fun hh1 => ?_)
      · replace hh1 := (ii_le (nn_i (a := v_m V) rfl (by omega)) (nn_i (a := p) rfl (by omega))).mp hh1
        refine m_iload C 4 dX11_readWith_82 rfl ?_
        refine m_iretf C hQ dX11_readWith_84 rfl rfl ?_
        have e : p = v_m V := by omega
        subst e; rfl
      replace hh1 := mt (ii_le (nn_i (a := v_m V) rfl (by omega)) (nn_i (a := p) rfl (by omega))).mpr hh1
      have hfp := hw.2.2.2.1 p (by omega)
      have hri := hw.2.1 _ hfp
      have hdi := v_dg_le hw hfp
      refine m_aload_n C 0 dX11_readWith_17 rfl ?_
      refine gfX11_7 C dX11_readWith_18 ?_
      refine m_iconst C 3 dX11_readWith_21 (by decide +kernel) ?_
      refine m_iload C 5 dX11_readWith_22 rfl ?_
      refine m_iadd C dX11_readWith_24 ?_
      refine m_topi (nI (3 + p)) (nn_add rfl rfl) ?_
      refine m_iald C 65 (by decide) sa_65 (3 + p) rfl (by omega) (by decide) dX11_readWith_25 ?_
      refine m_topi (nI (v_fr V p)) (zm_fr hv (show p < v_m V by omega)) ?_
      refine m_istore C [(6, .int (nI (v_fr V p))), (0, .ref (G.1 64)), (1, .int (nI n)), (2, .int (nI pl)), (3, .int (nI d)), (4, .int (nI (v_rw V pl d n p))), (5, .int (nI p))] dX11_readWith_26 (by decide) rfl ?_
      refine m_bipush C 10 dX11_readWith_28 (by decide +kernel) ?_
      refine m_iload C 5 dX11_readWith_30 rfl ?_
      refine m_imul C dX11_readWith_32 ?_
      refine m_topi (nI (10 * (v_rw V pl d n p))) (nn_mul rfl rfl) ?_
      refine m_aload_n C 1 dX11_readWith_33 rfl ?_
      refine gfX11_7 C dX11_readWith_34 ?_
      refine m_bipush C 10 dX11_readWith_37 (by decide +kernel) ?_
      refine m_iload C 0 dX11_readWith_39 rfl ?_
      refine m_iadd C dX11_readWith_41 ?_
      refine m_topi (nI (10 + (v_fr V p))) (nn_add rfl rfl) ?_
      refine m_iald C 65 (by decide) sa_65 (10 + (v_fr V p)) rfl (by omega) (by decide) dX11_readWith_42 ?_
      refine m_topi (nI (v_kd V (v_fr V p))) (zm_kd hv hfp) ?_
      refine m_iload C 6 dX11_readWith_43 rfl ?_
      refine m_iload_n C 3 dX11_readWith_45 rfl ?_
      refine m_icmp_ne C 53 dX11_readWith_46 (by decide) (fun hh2 => ?_) (fun hh2 => ?_)
      · replace hh2 := mt (ii_eq (nn_i (a := p) rfl (by omega)) (nn_i (a := pl) rfl (by omega))).mpr hh2
        refine m_aload_n C 1 dX11_readWith_53 rfl ?_
        refine m_iload C 0 dX11_readWith_54 rfl ?_
        refine m_callVf C 64 (by decide) rfl rfl (c_X11_digitOf l G mu nu V hv (v_fr V p) (by omega)) wkX11_123 (by decide) rfl rfl (Nat.le_of_ble_eq_true rfl) dX11_readWith_56 ?_
        refine m_aload_n C 1 dX11_readWith_59 rfl ?_
        refine gfX11_7 C dX11_readWith_60 ?_
        refine m_bipush C 24 dX11_readWith_63 (by decide +kernel) ?_
        refine m_iload C 0 dX11_readWith_65 rfl ?_
        refine m_iadd C dX11_readWith_67 ?_
        refine m_topi (nI (24 + (v_fr V p))) (nn_add rfl rfl) ?_
        refine m_iald C 65 (by decide) sa_65 (24 + (v_fr V p)) rfl (by omega) (by decide) dX11_readWith_68 ?_
        refine m_topi (nI (v_mk V (v_fr V p))) (zm_mk hv hfp) ?_
        refine m_iload_n C 2 dX11_readWith_69 rfl ?_
        refine m_callSf C (c_X11_showsBy l G mu nu (v_kd V (v_fr V p)) (by omega) (v_dg V (v_fr V p)) (v_mk V (v_fr V p)) n (by omega) (by omega) (by omega) (by omega)) wkX11_126 (by decide) rfl rfl (Nat.le_of_ble_eq_true rfl) dX11_readWith_70 ?_
        refine m_iadd C dX11_readWith_73 ?_
        refine m_topi (nI ((10 * (v_rw V pl d n p)) + (s_sh (v_kd V (v_fr V p)) (v_dg V (v_fr V p)) (v_mk V (v_fr V p)) n))) (nn_add rfl rfl) ?_
        refine m_topi (nI (v_rw V pl d n (p + 1))) (congrArg nI (congrArg (fun z => 10 * v_rw V pl d n p + s_sh (v_kd V (v_fr V p)) z (v_mk V (v_fr V p)) n) (if_neg (by omega)).symm)) ?_
        refine m_istore C [(4, .int (nI (v_rw V pl d n (p + 1)))), (6, .int (nI (v_fr V p))), (0, .ref (G.1 64)), (1, .int (nI n)), (2, .int (nI pl)), (3, .int (nI d)), (5, .int (nI p))] dX11_readWith_74 (by decide) rfl ?_
        refine m_iinc C 6 (nI (p + 1)) [(5, .int (nI (p + 1))), (4, .int (nI (v_rw V pl d n (p + 1)))), (6, .int (nI (v_fr V p))), (0, .ref (G.1 64)), (1, .int (nI n)), (2, .int (nI pl)), (3, .int (nI d))] dX11_readWith_76 rfl (nn_add rfl (show Int32.ofInt 1 = nI 1 from rfl)) (by decide) rfl ?_
        refine m_goto C 6 dX11_readWith_79 (by decide) ?_
        exact m_sub [3, 4, 5, 6, 1, 0] rfl (ih6 (p + 1) (by omega) (by omega))
      replace hh2 := (ii_eq (nn_i (a := p) rfl (by omega)) (nn_i (a := pl) rfl (by omega))).mp hh2
      refine m_iload_n C 4 dX11_readWith_49 rfl ?_
      refine m_goto C 59 dX11_readWith_50 (by decide) ?_
      refine m_aload_n C 1 dX11_readWith_59 rfl ?_
      refine gfX11_7 C dX11_readWith_60 ?_
      refine m_bipush C 24 dX11_readWith_63 (by decide +kernel) ?_
      refine m_iload C 0 dX11_readWith_65 rfl ?_
      refine m_iadd C dX11_readWith_67 ?_
      refine m_topi (nI (24 + (v_fr V p))) (nn_add rfl rfl) ?_
      refine m_iald C 65 (by decide) sa_65 (24 + (v_fr V p)) rfl (by omega) (by decide) dX11_readWith_68 ?_
      refine m_topi (nI (v_mk V (v_fr V p))) (zm_mk hv hfp) ?_
      refine m_iload_n C 2 dX11_readWith_69 rfl ?_
      refine m_callSf C (c_X11_showsBy l G mu nu (v_kd V (v_fr V p)) (by omega) d (v_mk V (v_fr V p)) n (by omega) (by omega) (by omega) (by omega)) wkX11_126 (by decide) rfl rfl (Nat.le_of_ble_eq_true rfl) dX11_readWith_70 ?_
      refine m_iadd C dX11_readWith_73 ?_
      refine m_topi (nI ((10 * (v_rw V pl d n p)) + (s_sh (v_kd V (v_fr V p)) d (v_mk V (v_fr V p)) n))) (nn_add rfl rfl) ?_
      refine m_topi (nI (v_rw V pl d n (p + 1))) (congrArg nI (congrArg (fun z => 10 * v_rw V pl d n p + s_sh (v_kd V (v_fr V p)) z (v_mk V (v_fr V p)) n) (if_pos (by omega)).symm)) ?_
      refine m_istore C [(4, .int (nI (v_rw V pl d n (p + 1)))), (6, .int (nI (v_fr V p))), (0, .ref (G.1 64)), (1, .int (nI n)), (2, .int (nI pl)), (3, .int (nI d)), (5, .int (nI p))] dX11_readWith_74 (by decide) rfl ?_
      refine m_iinc C 6 (nI (p + 1)) [(5, .int (nI (p + 1))), (4, .int (nI (v_rw V pl d n (p + 1)))), (6, .int (nI (v_fr V p))), (0, .ref (G.1 64)), (1, .int (nI n)), (2, .int (nI pl)), (3, .int (nI d))] dX11_readWith_76 rfl (nn_add rfl (show Int32.ofInt 1 = nI 1 from rfl)) (by decide) rfl ?_
      refine m_goto C 6 dX11_readWith_79 (by decide) ?_
      exact m_sub [3, 4, 5, 6, 1, 0] rfl (ih6 (p + 1) (by omega) (by omega))
  exact m_sub [2, 3, 4, 5, 1, 0] rfl (L6 (_ + 1) 0 (Nat.zero_le _) (Nat.lt_succ_self _))

set_option maxHeartbeats 4000000 in
set_option maxRecDepth 100000 in
theorem c_X11_readWithout (l : Launch) (G : Gl) (mu : Mu) (nu : Nu) (V : Vw) (hv : zm mu V) (n : Nat) (h1 : 1 ≤ n) (h9 : n ≤ 9) (set : Nat) (hs : set < 128) : Cf l G mX11_readWithout 4 [.ref (G.1 64), .int (nI n), .int (nI set)] mu nu (.int (nI (v_rx V n set (v_m V)))) := by
  have hw := hv.1
  have hN7 := hw.1
  have hm7 := hw.2.2.1
  have ho8 := hw.2.2.2.2
  refine Ct.of (lv := [(0, .ref (G.1 64)), (1, .int (nI n)), (2, .int (nI set))]) rfl rfl (Nat.le_of_ble_eq_true rfl) rfl (fun X C => ?_)
  generalize hQ : g_E G X _ = Q
  replace C : Cx G 5 X cX11_readWithout RX11 (some .int) 4 := C
  show Mq l G 5 X Q 0 [(0, .ref (G.1 64)), (1, .int (nI n)), (2, .int (nI set))] [] mu nu
  refine m_iconst C 0 dX11_readWithout_0 (by decide +kernel) ?_
  refine m_istore_n C [(3, .int 0), (0, .ref (G.1 64)), (1, .int (nI n)), (2, .int (nI set))] dX11_readWithout_1 (by decide) rfl ?_
  refine m_iconst C 0 dX11_readWithout_2 (by decide +kernel) ?_
  refine m_istore C [(4, .int 0), (3, .int 0), (0, .ref (G.1 64)), (1, .int (nI n)), (2, .int (nI set))] dX11_readWithout_3 (by decide) rfl ?_
  have L5 : ∀ (fu : Nat) (p : Nat) (hp : p ≤ v_m V), v_m V - p < fu → Mq l G 5 X Q 5 [(0, .ref (G.1 64)), (1, .int (nI n)), (2, .int (nI set)), (3, .int (nI (v_rx V n set p))), (4, .int (nI p))] [] mu nu := by
    intro fu
    induction fu with
    | zero => intro p hp hm; exact absurd hm (Nat.not_lt_zero _)
    | succ fu ih5 =>
      intro p hp hm
      have hdv := Nat.div_le_self set (2 ^ p)
      refine m_iload C 4 dX11_readWithout_5 rfl ?_
      refine m_aload_n C 0 dX11_readWithout_7 rfl ?_
      refine gfX11_7 C dX11_readWithout_8 ?_
      refine m_iconst C 1 dX11_readWithout_11 (by decide +kernel) ?_
      refine m_iald C 65 (by decide) sa_65 1 rfl (by omega) (by decide) dX11_readWithout_12 ?_
      refine m_topi (nI (v_m V)) hv.2.2.1 ?_
      refine m_icmp_ge C 55 dX11_readWithout_13 (by decide) (fun hh1 => ?_) (fun hh1 => ?_)
      · replace hh1 := (ii_le (nn_i (a := v_m V) rfl (by omega)) (nn_i (a := p) rfl (by omega))).mp hh1
        refine m_iload_n C 3 dX11_readWithout_55 rfl ?_
        refine m_iretf C hQ dX11_readWithout_56 rfl rfl ?_
        have e : p = v_m V := by omega
        subst e; rfl
      replace hh1 := mt (ii_le (nn_i (a := v_m V) rfl (by omega)) (nn_i (a := p) rfl (by omega))).mpr hh1
      have hfp := hw.2.2.2.1 p (by omega)
      have hri := hw.2.1 _ hfp
      have hdi := v_dg_le hw hfp
      refine m_bipush C 10 dX11_readWithout_16 (by decide +kernel) ?_
      refine m_iload_n C 3 dX11_readWithout_18 rfl ?_
      refine m_imul C dX11_readWithout_19 ?_
      refine m_topi (nI (10 * (v_rx V n set p))) (nn_mul rfl rfl) ?_
      refine m_iload_n C 2 dX11_readWithout_20 rfl ?_
      refine m_iload C 4 dX11_readWithout_21 rfl ?_
      refine m_callSf C (c_X11_has l G mu nu set p (by omega) (by omega)) wkX11_119 (by decide) rfl rfl (Nat.le_of_ble_eq_true rfl) dX11_readWithout_23 ?_
      refine m_if_eq C 33 dX11_readWithout_26 (by decide) (fun hh2 => ?_) (fun hh2 => ?_)
      · replace hh2 := bI_eq0.mp hh2
        refine m_aload_n C 0 dX11_readWithout_33 rfl ?_
        refine m_aload_n C 0 dX11_readWithout_34 rfl ?_
        refine gfX11_7 C dX11_readWithout_35 ?_
        refine m_iconst C 3 dX11_readWithout_38 (by decide +kernel) ?_
        refine m_iload C 4 dX11_readWithout_39 rfl ?_
        refine m_iadd C dX11_readWithout_41 ?_
        refine m_topi (nI (3 + p)) (nn_add rfl rfl) ?_
        refine m_iald C 65 (by decide) sa_65 (3 + p) rfl (by omega) (by decide) dX11_readWithout_42 ?_
        refine m_topi (nI (v_fr V p)) (zm_fr hv (show p < v_m V by omega)) ?_
        refine m_iload_n C 1 dX11_readWithout_43 rfl ?_
        refine m_callVf C 64 (by decide) rfl rfl (c_X11_showsOf l G mu nu V hv (v_fr V p) (by omega) n (by omega) (by omega)) wkX11_142 (by decide) rfl rfl (Nat.le_of_ble_eq_true rfl) dX11_readWithout_44 ?_
        refine m_iadd C dX11_readWithout_47 ?_
        refine m_topi (nI ((10 * (v_rx V n set p)) + (v_sh V (v_fr V p) n))) (nn_add rfl rfl) ?_
        refine m_topi (nI (v_rx V n set (p + 1))) (congrArg nI (congrArg (fun z => 10 * v_rx V n set p + z) (if_neg (by omega)).symm)) ?_
        refine m_istore_n C [(3, .int (nI (v_rx V n set (p + 1)))), (0, .ref (G.1 64)), (1, .int (nI n)), (2, .int (nI set)), (4, .int (nI p))] dX11_readWithout_48 (by decide) rfl ?_
        refine m_iinc C 4 (nI (p + 1)) [(4, .int (nI (p + 1))), (3, .int (nI (v_rx V n set (p + 1)))), (0, .ref (G.1 64)), (1, .int (nI n)), (2, .int (nI set))] dX11_readWithout_49 rfl (nn_add rfl (show Int32.ofInt 1 = nI 1 from rfl)) (by decide) rfl ?_
        refine m_goto C 5 dX11_readWithout_52 (by decide) ?_
        exact m_sub [2, 3, 4, 1, 0] rfl (ih5 (p + 1) (by omega) (by omega))
      replace hh2 := bI_ne0.mp hh2
      refine m_iconst C 0 dX11_readWithout_29 (by decide +kernel) ?_
      refine m_goto C 47 dX11_readWithout_30 (by decide) ?_
      refine m_iadd C dX11_readWithout_47 ?_
      refine m_topi (nI ((10 * (v_rx V n set p)) + 0)) (nn_add rfl rfl) ?_
      refine m_topi (nI (v_rx V n set (p + 1))) (congrArg nI (congrArg (fun z => 10 * v_rx V n set p + z) (if_pos (by omega)).symm)) ?_
      refine m_istore_n C [(3, .int (nI (v_rx V n set (p + 1)))), (0, .ref (G.1 64)), (1, .int (nI n)), (2, .int (nI set)), (4, .int (nI p))] dX11_readWithout_48 (by decide) rfl ?_
      refine m_iinc C 4 (nI (p + 1)) [(4, .int (nI (p + 1))), (3, .int (nI (v_rx V n set (p + 1)))), (0, .ref (G.1 64)), (1, .int (nI n)), (2, .int (nI set))] dX11_readWithout_49 rfl (nn_add rfl (show Int32.ofInt 1 = nI 1 from rfl)) (by decide) rfl ?_
      refine m_goto C 5 dX11_readWithout_52 (by decide) ?_
      exact m_sub [2, 3, 4, 1, 0] rfl (ih5 (p + 1) (by omega) (by omega))
  exact m_sub [2, 3, 4, 1, 0] rfl (L5 (_ + 1) 0 (Nat.zero_le _) (Nat.lt_succ_self _))

set_option maxHeartbeats 4000000 in
set_option maxRecDepth 100000 in
theorem c_X11_framed (l : Launch) (G : Gl) (mu : Mu) (nu : Nu) (V : Vw) (hv : zm mu V) : Cf l G mX11_framed 1 [.ref (G.1 64)] mu nu (.int (nI (s_bits (v_F V)))) := by
  have hw := hv.1
  have hN7 := hw.1
  have hm7 := hw.2.2.1
  have ho8 := hw.2.2.2.2
  refine Ct.of (lv := [(0, .ref (G.1 64))]) rfl rfl (Nat.le_of_ble_eq_true rfl) rfl (fun X C => ?_)
  generalize hQ : g_E G X _ = Q
  replace C : Cx G 3 X cX11_framed RX11 (some .int) 1 := C
  show Mq l G 3 X Q 0 [(0, .ref (G.1 64))] [] mu nu
  refine m_iconst C 0 dX11_framed_0 (by decide +kernel) ?_
  refine m_istore_n C [(1, .int 0), (0, .ref (G.1 64))] dX11_framed_1 (by decide) rfl ?_
  refine m_iconst C 0 dX11_framed_2 (by decide +kernel) ?_
  refine m_istore_n C [(2, .int 0), (1, .int 0), (0, .ref (G.1 64))] dX11_framed_3 (by decide) rfl ?_
  have L4 : ∀ (fu : Nat) (p : Nat) (hp : p ≤ v_m V), v_m V - p < fu → Mq l G 3 X Q 4 [(0, .ref (G.1 64)), (1, .int (nI (((v_F V).take p).foldl (fun b i => b ||| 2 ^ i) 0))), (2, .int (nI p))] [] mu nu := by
    intro fu
    induction fu with
    | zero => intro p hp hm; exact absurd hm (Nat.not_lt_zero _)
    | succ fu ih4 =>
      intro p hp hm
      refine m_iload_n C 2 dX11_framed_4 rfl ?_
      refine m_aload_n C 0 dX11_framed_5 rfl ?_
      refine gfX11_7 C dX11_framed_6 ?_
      refine m_iconst C 1 dX11_framed_9 (by decide +kernel) ?_
      refine m_iald C 65 (by decide) sa_65 1 rfl (by omega) (by decide) dX11_framed_10 ?_
      refine m_topi (nI (v_m V)) hv.2.2.1 ?_
      refine m_icmp_ge C 33 dX11_framed_11 (by decide) (fun hh1 => ?_) (fun hh1 => ?_)
      · replace hh1 := (ii_le (nn_i (a := v_m V) rfl (by omega)) (nn_i (a := p) rfl (by omega))).mp hh1
        refine m_iload_n C 1 dX11_framed_33 rfl ?_
        refine m_iretf C hQ dX11_framed_34 rfl rfl ?_
        have e : p = v_m V := by omega
        subst e; exact congrArg (fun F => nI (s_bits F)) (List.take_length (l := v_F V))
      replace hh1 := mt (ii_le (nn_i (a := v_m V) rfl (by omega)) (nn_i (a := p) rfl (by omega))).mpr hh1
      have hfp := hw.2.2.2.1 p (by omega)
      have hri := hw.2.1 _ hfp
      have hdi := v_dg_le hw hfp
      refine m_iload_n C 1 dX11_framed_14 rfl ?_
      refine m_iconst C 1 dX11_framed_15 (by decide +kernel) ?_
      refine m_aload_n C 0 dX11_framed_16 rfl ?_
      refine gfX11_7 C dX11_framed_17 ?_
      refine m_iconst C 3 dX11_framed_20 (by decide +kernel) ?_
      refine m_iload_n C 2 dX11_framed_21 rfl ?_
      refine m_iadd C dX11_framed_22 ?_
      refine m_topi (nI (3 + p)) (nn_add rfl rfl) ?_
      refine m_iald C 65 (by decide) sa_65 (3 + p) rfl (by omega) (by decide) dX11_framed_23 ?_
      refine m_topi (nI (v_fr V p)) (zm_fr hv (show p < v_m V by omega)) ?_
      refine m_ishl C dX11_framed_24 ?_
      refine m_topi (nI (2 ^ (v_fr V p))) (nn_shl1 rfl (by omega)) ?_
      refine m_ior C dX11_framed_25 ?_
      refine m_topi (nI ((((v_F V).take p).foldl (fun b i => b ||| 2 ^ i) 0) ||| (2 ^ (v_fr V p)))) (nn_or rfl rfl) ?_
      refine m_topi (nI (((v_F V).take (p + 1)).foldl (fun b i => b ||| 2 ^ i) 0)) (congrArg nI (ft_succ (F := v_F V) (g := fun b i => b ||| 2 ^ i) (show p < v_m V by omega)).symm) ?_
      refine m_istore_n C [(1, .int (nI (((v_F V).take (p + 1)).foldl (fun b i => b ||| 2 ^ i) 0))), (0, .ref (G.1 64)), (2, .int (nI p))] dX11_framed_26 (by decide) rfl ?_
      refine m_iinc C 2 (nI (p + 1)) [(2, .int (nI (p + 1))), (1, .int (nI (((v_F V).take (p + 1)).foldl (fun b i => b ||| 2 ^ i) 0))), (0, .ref (G.1 64))] dX11_framed_27 rfl (nn_add rfl (show Int32.ofInt 1 = nI 1 from rfl)) (by decide) rfl ?_
      refine m_goto C 4 dX11_framed_30 (by decide) ?_
      exact m_sub [2, 1, 0] rfl (ih4 (p + 1) (by omega) (by omega))
  exact m_sub [2, 1, 0] rfl (L4 (_ + 1) 0 (Nat.zero_le _) (Nat.lt_succ_self _))

set_option maxHeartbeats 4000000 in
set_option maxRecDepth 100000 in
theorem c_X11_manyOf (l : Launch) (G : Gl) (mu : Mu) (nu : Nu) (V : Vw) (hv : zm mu V) (t : Nat) (ht : 1 ≤ t) (ht5 : t ≤ 5) : Cf l G mX11_manyOf 2 [.ref (G.1 64), .int (nI t)] mu nu (.int (nI (v_ho V t (v_N V)))) := by
  have hw := hv.1
  have hN7 := hw.1
  have hm7 := hw.2.2.1
  have ho8 := hw.2.2.2.2
  refine Ct.of (lv := [(0, .ref (G.1 64)), (1, .int (nI t))]) rfl rfl (Nat.le_of_ble_eq_true rfl) rfl (fun X C => ?_)
  generalize hQ : g_E G X _ = Q
  replace C : Cx G 4 X cX11_manyOf RX11 (some .int) 2 := C
  show Mq l G 4 X Q 0 [(0, .ref (G.1 64)), (1, .int (nI t))] [] mu nu
  refine m_iconst C 0 dX11_manyOf_0 (by decide +kernel) ?_
  refine m_istore_n C [(2, .int 0), (0, .ref (G.1 64)), (1, .int (nI t))] dX11_manyOf_1 (by decide) rfl ?_
  refine m_iconst C 0 dX11_manyOf_2 (by decide +kernel) ?_
  refine m_istore_n C [(3, .int 0), (2, .int 0), (0, .ref (G.1 64)), (1, .int (nI t))] dX11_manyOf_3 (by decide) rfl ?_
  have L4 : ∀ (fu : Nat) (i : Nat) (hi : i ≤ v_N V), v_N V - i < fu → Mq l G 4 X Q 4 [(0, .ref (G.1 64)), (1, .int (nI t)), (2, .int (nI (v_ho V t i))), (3, .int (nI i))] [] mu nu := by
    intro fu
    induction fu with
    | zero => intro i hi hm; exact absurd hm (Nat.not_lt_zero _)
    | succ fu ih4 =>
      intro i hi hm
      refine m_iload_n C 3 dX11_manyOf_4 rfl ?_
      refine m_aload_n C 0 dX11_manyOf_5 rfl ?_
      refine gfX11_7 C dX11_manyOf_6 ?_
      refine m_iconst C 0 dX11_manyOf_9 (by decide +kernel) ?_
      refine m_iald C 65 (by decide) sa_65 0 rfl (by omega) (by decide) dX11_manyOf_10 ?_
      refine m_topi (nI (v_N V)) hv.2.1 ?_
      refine m_icmp_ge C 44 dX11_manyOf_11 (by decide) (fun hh1 => ?_) (fun hh1 => ?_)
      · replace hh1 := (ii_le (nn_i (a := v_N V) rfl (by omega)) (nn_i (a := i) rfl (by omega))).mp hh1
        refine m_iload_n C 2 dX11_manyOf_44 rfl ?_
        refine m_iretf C hQ dX11_manyOf_45 rfl rfl ?_
        have e : i = v_N V := by omega
        subst e; rfl
      replace hh1 := mt (ii_le (nn_i (a := v_N V) rfl (by omega)) (nn_i (a := i) rfl (by omega))).mpr hh1
      have hi2 : i < v_N V := by omega
      have hri := hw.2.1 i hi2
      refine m_iload_n C 2 dX11_manyOf_14 rfl ?_
      refine m_aload_n C 0 dX11_manyOf_15 rfl ?_
      refine gfX11_7 C dX11_manyOf_16 ?_
      refine m_bipush C 10 dX11_manyOf_19 (by decide +kernel) ?_
      refine m_iload_n C 3 dX11_manyOf_21 rfl ?_
      refine m_iadd C dX11_manyOf_22 ?_
      refine m_topi (nI (10 + i)) (nn_add rfl rfl) ?_
      refine m_iald C 65 (by decide) sa_65 (10 + i) rfl (by omega) (by decide) dX11_manyOf_23 ?_
      refine m_topi (nI (v_kd V i)) (zm_kd hv hi2) ?_
      refine m_iload_n C 1 dX11_manyOf_24 rfl ?_
      refine m_callSf C (c_X11_isA l G mu nu (v_kd V i) t (by omega) (by omega)) wkX11_145 (by decide) rfl rfl (Nat.le_of_ble_eq_true rfl) dX11_manyOf_25 ?_
      refine m_if_eq C 35 dX11_manyOf_28 (by decide) (fun hh2 => ?_) (fun hh2 => ?_)
      · replace hh2 := bI_eq0.mp hh2
        refine m_iconst C 0 dX11_manyOf_35 (by decide +kernel) ?_
        refine m_iadd C dX11_manyOf_36 ?_
        refine m_topi (nI ((v_ho V t i) + 0)) (nn_add rfl rfl) ?_
        refine m_topi (nI (v_ho V t (i + 1))) (congrArg nI (congrArg (fun q => v_ho V t i + q) (if_neg (by assumption)).symm)) ?_
        refine m_istore_n C [(2, .int (nI (v_ho V t (i + 1)))), (0, .ref (G.1 64)), (1, .int (nI t)), (3, .int (nI i))] dX11_manyOf_37 (by decide) rfl ?_
        refine m_iinc C 3 (nI (i + 1)) [(3, .int (nI (i + 1))), (2, .int (nI (v_ho V t (i + 1)))), (0, .ref (G.1 64)), (1, .int (nI t))] dX11_manyOf_38 rfl (nn_add rfl (show Int32.ofInt 1 = nI 1 from rfl)) (by decide) rfl ?_
        refine m_goto C 4 dX11_manyOf_41 (by decide) ?_
        exact m_sub [2, 3, 1, 0] rfl (ih4 (i + 1) (by omega) (by omega))
      replace hh2 := bI_ne0.mp hh2
      refine m_iconst C 1 dX11_manyOf_31 (by decide +kernel) ?_
      refine m_goto C 36 dX11_manyOf_32 (by decide) ?_
      refine m_iadd C dX11_manyOf_36 ?_
      refine m_topi (nI ((v_ho V t i) + 1)) (nn_add rfl rfl) ?_
      refine m_topi (nI (v_ho V t (i + 1))) (congrArg nI (congrArg (fun q => v_ho V t i + q) (if_pos (by assumption)).symm)) ?_
      refine m_istore_n C [(2, .int (nI (v_ho V t (i + 1)))), (0, .ref (G.1 64)), (1, .int (nI t)), (3, .int (nI i))] dX11_manyOf_37 (by decide) rfl ?_
      refine m_iinc C 3 (nI (i + 1)) [(3, .int (nI (i + 1))), (2, .int (nI (v_ho V t (i + 1)))), (0, .ref (G.1 64)), (1, .int (nI t))] dX11_manyOf_38 rfl (nn_add rfl (show Int32.ofInt 1 = nI 1 from rfl)) (by decide) rfl ?_
      refine m_goto C 4 dX11_manyOf_41 (by decide) ?_
      exact m_sub [2, 3, 1, 0] rfl (ih4 (i + 1) (by omega) (by omega))
  exact m_sub [2, 3, 1, 0] rfl (L4 (_ + 1) 0 (Nat.zero_le _) (Nat.lt_succ_self _))
