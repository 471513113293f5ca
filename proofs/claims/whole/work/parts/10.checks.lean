set_option maxHeartbeats 4000000 in
set_option maxRecDepth 100000 in
theorem c_X10_isRow (l : Launch) (G : Gl) (mu : Mu) (nu : Nu) (r : Int32) : Cf l G mX10_isRow 1 [.int r] mu nu (.int (bI (0 ≤ r.toInt ∧ r.toInt < 6))) := by
  refine Ct.of (lv := [(0, .int r)]) rfl rfl (Nat.le_of_ble_eq_true rfl) rfl (fun X C => ?_)
  generalize hQ : g_E G X _ = Q
  replace C : Cx G 1 X cX10_isRow RX10 (some .boolean) 1 := C
  show Mq l G 1 X Q 0 [(0, .int r)] [] mu nu
  refine m_iload_n C 0 dX10_isRow_0 rfl ?_
  refine m_if_lt C 14 dX10_isRow_1 (by decide) (fun hh1 => ?_) (fun hh1 => ?_)
  · replace hh1 := (ii_lt (rfl : (r).toInt = _) (nn_i (a := 0) rfl (by omega))).mp hh1
    refine m_iconst C 0 dX10_isRow_14 (by decide +kernel) ?_
    refine m_zretf C hQ dX10_isRow_15 rfl rfl rfl ?_
    exact bI_f (by omega)
  replace hh1 := mt (ii_lt (rfl : (r).toInt = _) (nn_i (a := 0) rfl (by omega))).mpr hh1
  refine m_iload_n C 0 dX10_isRow_4 rfl ?_
  refine m_bipush C 6 dX10_isRow_5 (by decide +kernel) ?_
  refine m_icmp_ge C 14 dX10_isRow_7 (by decide) (fun hh2 => ?_) (fun hh2 => ?_)
  · replace hh2 := (ii_le (nn_i (a := 6) rfl (by omega)) (rfl : (r).toInt = _)).mp hh2
    refine m_iconst C 0 dX10_isRow_14 (by decide +kernel) ?_
    refine m_zretf C hQ dX10_isRow_15 rfl rfl rfl ?_
    exact bI_f (by omega)
  replace hh2 := mt (ii_le (nn_i (a := 6) rfl (by omega)) (rfl : (r).toInt = _)).mpr hh2
  refine m_iconst C 1 dX10_isRow_10 (by decide +kernel) ?_
  refine m_goto C 15 dX10_isRow_11 (by decide) ?_
  refine m_zretf C hQ dX10_isRow_15 rfl rfl rfl ?_
  exact bI_t (by omega)

set_option maxHeartbeats 4000000 in
set_option maxRecDepth 100000 in
theorem c_X10_isText (l : Launch) (G : Gl) (mu : Mu) (nu : Nu) (r : Int32) : Cf l G mX10_isText 1 [.int r] mu nu (.int (bI (0 ≤ r.toInt ∧ r.toInt < 4))) := by
  refine Ct.of (lv := [(0, .int r)]) rfl rfl (Nat.le_of_ble_eq_true rfl) rfl (fun X C => ?_)
  generalize hQ : g_E G X _ = Q
  replace C : Cx G 1 X cX10_isText RX10 (some .boolean) 1 := C
  show Mq l G 1 X Q 0 [(0, .int r)] [] mu nu
  refine m_iload_n C 0 dX10_isText_0 rfl ?_
  refine m_if_lt C 13 dX10_isText_1 (by decide) (fun hh1 => ?_) (fun hh1 => ?_)
  · replace hh1 := (ii_lt (rfl : (r).toInt = _) (nn_i (a := 0) rfl (by omega))).mp hh1
    refine m_iconst C 0 dX10_isText_13 (by decide +kernel) ?_
    refine m_zretf C hQ dX10_isText_14 rfl rfl rfl ?_
    exact bI_f (by omega)
  replace hh1 := mt (ii_lt (rfl : (r).toInt = _) (nn_i (a := 0) rfl (by omega))).mpr hh1
  refine m_iload_n C 0 dX10_isText_4 rfl ?_
  refine m_iconst C 4 dX10_isText_5 (by decide +kernel) ?_
  refine m_icmp_ge C 13 dX10_isText_6 (by decide) (fun hh2 => ?_) (fun hh2 => ?_)
  · replace hh2 := (ii_le (nn_i (a := 4) rfl (by omega)) (rfl : (r).toInt = _)).mp hh2
    refine m_iconst C 0 dX10_isText_13 (by decide +kernel) ?_
    refine m_zretf C hQ dX10_isText_14 rfl rfl rfl ?_
    exact bI_f (by omega)
  replace hh2 := mt (ii_le (nn_i (a := 4) rfl (by omega)) (rfl : (r).toInt = _)).mpr hh2
  refine m_iconst C 1 dX10_isText_9 (by decide +kernel) ?_
  refine m_goto C 14 dX10_isText_10 (by decide) ?_
  refine m_zretf C hQ dX10_isText_14 rfl rfl rfl ?_
  exact bI_t (by omega)

set_option maxHeartbeats 4000000 in
set_option maxRecDepth 100000 in
theorem c_X10_isKeepingPlace (l : Launch) (G : Gl) (mu : Mu) (nu : Nu) (r : Int32) : Cf l G mX10_isKeepingPlace 1 [.int r] mu nu (.int (bI (0 ≤ r.toInt ∧ r.toInt < 3))) := by
  refine Ct.of (lv := [(0, .int r)]) rfl rfl (Nat.le_of_ble_eq_true rfl) rfl (fun X C => ?_)
  generalize hQ : g_E G X _ = Q
  replace C : Cx G 1 X cX10_isKeepingPlace RX10 (some .boolean) 1 := C
  show Mq l G 1 X Q 0 [(0, .int r)] [] mu nu
  refine m_iload_n C 0 dX10_isKeepingPlace_0 rfl ?_
  refine m_if_lt C 13 dX10_isKeepingPlace_1 (by decide) (fun hh1 => ?_) (fun hh1 => ?_)
  · replace hh1 := (ii_lt (rfl : (r).toInt = _) (nn_i (a := 0) rfl (by omega))).mp hh1
    refine m_iconst C 0 dX10_isKeepingPlace_13 (by decide +kernel) ?_
    refine m_zretf C hQ dX10_isKeepingPlace_14 rfl rfl rfl ?_
    exact bI_f (by omega)
  replace hh1 := mt (ii_lt (rfl : (r).toInt = _) (nn_i (a := 0) rfl (by omega))).mpr hh1
  refine m_iload_n C 0 dX10_isKeepingPlace_4 rfl ?_
  refine m_iconst C 3 dX10_isKeepingPlace_5 (by decide +kernel) ?_
  refine m_icmp_ge C 13 dX10_isKeepingPlace_6 (by decide) (fun hh2 => ?_) (fun hh2 => ?_)
  · replace hh2 := (ii_le (nn_i (a := 3) rfl (by omega)) (rfl : (r).toInt = _)).mp hh2
    refine m_iconst C 0 dX10_isKeepingPlace_13 (by decide +kernel) ?_
    refine m_zretf C hQ dX10_isKeepingPlace_14 rfl rfl rfl ?_
    exact bI_f (by omega)
  replace hh2 := mt (ii_le (nn_i (a := 3) rfl (by omega)) (rfl : (r).toInt = _)).mpr hh2
  refine m_iconst C 1 dX10_isKeepingPlace_9 (by decide +kernel) ?_
  refine m_goto C 14 dX10_isKeepingPlace_10 (by decide) ?_
  refine m_zretf C hQ dX10_isKeepingPlace_14 rfl rfl rfl ?_
  exact bI_t (by omega)

set_option maxHeartbeats 4000000 in
set_option maxRecDepth 100000 in
theorem c_X10_isLine (l : Launch) (G : Gl) (mu : Mu) (nu : Nu) (r : Int32) : Cf l G mX10_isLine 1 [.int r] mu nu (.int (bI (1 ≤ r.toInt ∧ r.toInt < 10))) := by
  refine Ct.of (lv := [(0, .int r)]) rfl rfl (Nat.le_of_ble_eq_true rfl) rfl (fun X C => ?_)
  generalize hQ : g_E G X _ = Q
  replace C : Cx G 1 X cX10_isLine RX10 (some .boolean) 1 := C
  show Mq l G 1 X Q 0 [(0, .int r)] [] mu nu
  refine m_iload_n C 0 dX10_isLine_0 rfl ?_
  refine m_iconst C 1 dX10_isLine_1 (by decide +kernel) ?_
  refine m_icmp_lt C 15 dX10_isLine_2 (by decide) (fun hh1 => ?_) (fun hh1 => ?_)
  · replace hh1 := (ii_lt (rfl : (r).toInt = _) (nn_i (a := 1) rfl (by omega))).mp hh1
    refine m_iconst C 0 dX10_isLine_15 (by decide +kernel) ?_
    refine m_zretf C hQ dX10_isLine_16 rfl rfl rfl ?_
    exact bI_f (by omega)
  replace hh1 := mt (ii_lt (rfl : (r).toInt = _) (nn_i (a := 1) rfl (by omega))).mpr hh1
  refine m_iload_n C 0 dX10_isLine_5 rfl ?_
  refine m_bipush C 9 dX10_isLine_6 (by decide +kernel) ?_
  refine m_icmp_gt C 15 dX10_isLine_8 (by decide) (fun hh2 => ?_) (fun hh2 => ?_)
  · replace hh2 := (ii_lt (nn_i (a := 9) rfl (by omega)) (rfl : (r).toInt = _)).mp hh2
    refine m_iconst C 0 dX10_isLine_15 (by decide +kernel) ?_
    refine m_zretf C hQ dX10_isLine_16 rfl rfl rfl ?_
    exact bI_f (by omega)
  replace hh2 := mt (ii_lt (nn_i (a := 9) rfl (by omega)) (rfl : (r).toInt = _)).mpr hh2
  refine m_iconst C 1 dX10_isLine_11 (by decide +kernel) ?_
  refine m_goto C 16 dX10_isLine_12 (by decide) ?_
  refine m_zretf C hQ dX10_isLine_16 rfl rfl rfl ?_
  exact bI_t (by omega)

set_option maxHeartbeats 4000000 in
set_option maxRecDepth 100000 in
theorem c_X10_isTwelfths (l : Launch) (G : Gl) (mu : Mu) (nu : Nu) (r : Int32) : Cf l G mX10_isTwelfths 1 [.int r] mu nu (.int (bI (0 ≤ r.toInt ∧ r.toInt < 13))) := by
  refine Ct.of (lv := [(0, .int r)]) rfl rfl (Nat.le_of_ble_eq_true rfl) rfl (fun X C => ?_)
  generalize hQ : g_E G X _ = Q
  replace C : Cx G 1 X cX10_isTwelfths RX10 (some .boolean) 1 := C
  show Mq l G 1 X Q 0 [(0, .int r)] [] mu nu
  refine m_iload_n C 0 dX10_isTwelfths_0 rfl ?_
  refine m_if_lt C 14 dX10_isTwelfths_1 (by decide) (fun hh1 => ?_) (fun hh1 => ?_)
  · replace hh1 := (ii_lt (rfl : (r).toInt = _) (nn_i (a := 0) rfl (by omega))).mp hh1
    refine m_iconst C 0 dX10_isTwelfths_14 (by decide +kernel) ?_
    refine m_zretf C hQ dX10_isTwelfths_15 rfl rfl rfl ?_
    exact bI_f (by omega)
  replace hh1 := mt (ii_lt (rfl : (r).toInt = _) (nn_i (a := 0) rfl (by omega))).mpr hh1
  refine m_iload_n C 0 dX10_isTwelfths_4 rfl ?_
  refine m_bipush C 12 dX10_isTwelfths_5 (by decide +kernel) ?_
  refine m_icmp_gt C 14 dX10_isTwelfths_7 (by decide) (fun hh2 => ?_) (fun hh2 => ?_)
  · replace hh2 := (ii_lt (nn_i (a := 12) rfl (by omega)) (rfl : (r).toInt = _)).mp hh2
    refine m_iconst C 0 dX10_isTwelfths_14 (by decide +kernel) ?_
    refine m_zretf C hQ dX10_isTwelfths_15 rfl rfl rfl ?_
    exact bI_f (by omega)
  replace hh2 := mt (ii_lt (nn_i (a := 12) rfl (by omega)) (rfl : (r).toInt = _)).mpr hh2
  refine m_iconst C 1 dX10_isTwelfths_10 (by decide +kernel) ?_
  refine m_goto C 15 dX10_isTwelfths_11 (by decide) ?_
  refine m_zretf C hQ dX10_isTwelfths_15 rfl rfl rfl ?_
  exact bI_t (by omega)

set_option maxHeartbeats 4000000 in
set_option maxRecDepth 100000 in
theorem c_X10_isFigure (l : Launch) (G : Gl) (mu : Mu) (nu : Nu) (r : Int32) : Cf l G mX10_isFigure 1 [.int r] mu nu (.int (bI (48 ≤ r.toInt ∧ r.toInt < 58))) := by
  refine Ct.of (lv := [(0, .int r)]) rfl rfl (Nat.le_of_ble_eq_true rfl) rfl (fun X C => ?_)
  generalize hQ : g_E G X _ = Q
  replace C : Cx G 1 X cX10_isFigure RX10 (some .boolean) 1 := C
  show Mq l G 1 X Q 0 [(0, .int r)] [] mu nu
  refine m_iload_n C 0 dX10_isFigure_0 rfl ?_
  refine m_bipush C 48 dX10_isFigure_1 (by decide +kernel) ?_
  refine m_icmp_lt C 16 dX10_isFigure_3 (by decide) (fun hh1 => ?_) (fun hh1 => ?_)
  · replace hh1 := (ii_lt (rfl : (r).toInt = _) (nn_i (a := 48) rfl (by omega))).mp hh1
    refine m_iconst C 0 dX10_isFigure_16 (by decide +kernel) ?_
    refine m_zretf C hQ dX10_isFigure_17 rfl rfl rfl ?_
    exact bI_f (by omega)
  replace hh1 := mt (ii_lt (rfl : (r).toInt = _) (nn_i (a := 48) rfl (by omega))).mpr hh1
  refine m_iload_n C 0 dX10_isFigure_6 rfl ?_
  refine m_bipush C 58 dX10_isFigure_7 (by decide +kernel) ?_
  refine m_icmp_ge C 16 dX10_isFigure_9 (by decide) (fun hh2 => ?_) (fun hh2 => ?_)
  · replace hh2 := (ii_le (nn_i (a := 58) rfl (by omega)) (rfl : (r).toInt = _)).mp hh2
    refine m_iconst C 0 dX10_isFigure_16 (by decide +kernel) ?_
    refine m_zretf C hQ dX10_isFigure_17 rfl rfl rfl ?_
    exact bI_f (by omega)
  replace hh2 := mt (ii_le (nn_i (a := 58) rfl (by omega)) (rfl : (r).toInt = _)).mpr hh2
  refine m_iconst C 1 dX10_isFigure_12 (by decide +kernel) ?_
  refine m_goto C 17 dX10_isFigure_13 (by decide) ?_
  refine m_zretf C hQ dX10_isFigure_17 rfl rfl rfl ?_
  exact bI_t (by omega)
