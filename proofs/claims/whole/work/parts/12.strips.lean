theorem ii_sub {x y : Int32} {a b : Int} (hx : x.toInt = a) (hy : y.toInt = b) (h1 : -2147483648 ≤ a - b) (h2 : a - b < 2147483648) : (x - y).toInt = a - b := by
  rw [Int32.toInt_sub, hx, hy, Int.bmod_eq_of_le] <;> omega
theorem ii_add {x y : Int32} {a b : Int} (hx : x.toInt = a) (hy : y.toInt = b) (h1 : -2147483648 ≤ a + b) (h2 : a + b < 2147483648) : (x + y).toInt = a + b := by
  rw [Int32.toInt_add, hx, hy, Int.bmod_eq_of_le] <;> omega
theorem fill_step {mu : Mu} {q k : Nat} {w : Int32} {f : Nat → Int32} : mu_up (mu_row mu q (fun j => if j < k then w else f j)) q k w = mu_row mu q (fun j => if j < k + 1 then w else f j) := by
  funext c j
  unfold mu_up mu_row upd
  by_cases hc : c = q
  · simp only [hc, if_true]
    by_cases h1 : j = k
    · rw [if_pos h1, if_pos (by omega)]
    · rw [if_neg h1]
      by_cases h2 : j < k
      · rw [if_pos h2, if_pos (by omega)]
      · rw [if_neg h2, if_neg (by omega)]
  · simp only [hc, if_false]
theorem copy_step {mu : Mu} {q k : Nat} {g f : Nat → Int32} : mu_up (mu_row mu q (fun j => if j < k then g j else f j)) q k (g k) = mu_row mu q (fun j => if j < k + 1 then g j else f j) := by
  funext c j
  unfold mu_up mu_row upd
  by_cases hc : c = q
  · simp only [hc, if_true]
    by_cases h1 : j = k
    · rw [if_pos h1, if_pos (by omega), h1]
    · rw [if_neg h1]
      by_cases h2 : j < k
      · rw [if_pos h2, if_pos (by omega)]
      · rw [if_neg h2, if_neg (by omega)]
  · simp only [hc, if_false]
theorem fill_0 {mu : Mu} {q : Nat} {g f : Nat → Int32} (h : f = mu q) : mu = mu_row mu q (fun j => if j < 0 then g j else f j) := by
  funext c j
  unfold mu_row
  by_cases hc : c = q
  · simp [hc, h]
  · simp [hc]
set_option maxHeartbeats 4000000 in
set_option maxRecDepth 100000 in
theorem c_X7_isThere (l : Launch) (G : Gl) (mu : Mu) (nu : Nu) (c : Nat) (hc : stc c) : Cf l G mX7_isThere 1 [.ref (G.1 c)] mu nu (.int (bI (¬ (mu c 1).toInt = -1))) := by
  refine Ct.of (lv := [(0, .ref (G.1 c))]) rfl rfl (Nat.le_of_ble_eq_true rfl) rfl (fun X C => ?_)
  generalize hQ : g_E G X _ = Q
  replace C : Cx G 1 X cX7_isThere RX7 (some .boolean) 1 := C
  show Mq l G 1 X Q 0 [(0, .ref (G.1 c))] [] mu nu
  refine m_aload_n C 0 dX7_isThere_0 rfl ?_
  refine gfX7_15 C c hc dX7_isThere_1 ?_
  refine m_iconst C (-1) dX7_isThere_4 (by decide +kernel) ?_
  refine m_icmp_eq C 12 dX7_isThere_5 (by decide) (fun hh1 => ?_) (fun hh1 => ?_)
  · replace hh1 := (ii_eq (rfl : (mu c 1).toInt = _) (show ((-1) : Int32).toInt = (-1) from by decide +kernel)).mp hh1
    refine m_iconst C 0 dX7_isThere_12 (by decide +kernel) ?_
    refine m_zretf C hQ dX7_isThere_13 rfl rfl rfl ?_
    exact bI_f (by omega)
  replace hh1 := mt (ii_eq (rfl : (mu c 1).toInt = _) (show ((-1) : Int32).toInt = (-1) from by decide +kernel)).mpr hh1
  refine m_iconst C 1 dX7_isThere_8 (by decide +kernel) ?_
  refine m_goto C 13 dX7_isThere_9 (by decide) ?_
  refine m_zretf C hQ dX7_isThere_13 rfl rfl rfl ?_
  exact bI_t (by omega)

set_option maxHeartbeats 4000000 in
set_option maxRecDepth 100000 in
theorem c_X7_holds (l : Launch) (G : Gl) (mu : Mu) (nu : Nu) (c : Nat) (hc : stc c) (i n : Int32) (z : Nat) (hz : mu c 1 = nI z) (hz60 : z ≤ 60) (hn : 0 ≤ n.toInt) : Cf l G mX7_holds 1 [.ref (G.1 c), .int i, .int n] mu nu (.int (bI (0 ≤ i.toInt ∧ i.toInt + n.toInt ≤ z))) := by
  have hn2 := n.toInt_lt
  refine Ct.of (lv := [(0, .ref (G.1 c)), (1, .int i), (2, .int n)]) rfl rfl (Nat.le_of_ble_eq_true rfl) rfl (fun X C => ?_)
  generalize hQ : g_E G X _ = Q
  replace C : Cx G 3 X cX7_holds RX7 (some .boolean) 1 := C
  show Mq l G 3 X Q 0 [(0, .ref (G.1 c)), (1, .int i), (2, .int n)] [] mu nu
  refine m_iload_n C 1 dX7_holds_0 rfl ?_
  refine m_if_lt C 18 dX7_holds_1 (by decide) (fun hh1 => ?_) (fun hh1 => ?_)
  · replace hh1 := (ii_lt (rfl : (i).toInt = _) (nn_i (a := 0) rfl (by omega))).mp hh1
    refine m_iconst C 0 dX7_holds_18 (by decide +kernel) ?_
    refine m_zretf C hQ dX7_holds_19 rfl rfl rfl ?_
    exact bI_f (by omega)
  replace hh1 := mt (ii_lt (rfl : (i).toInt = _) (nn_i (a := 0) rfl (by omega))).mpr hh1
  refine m_iload_n C 1 dX7_holds_4 rfl ?_
  refine m_aload_n C 0 dX7_holds_5 rfl ?_
  refine gfX7_15 C c hc dX7_holds_6 ?_
  refine m_topi (nI z) hz ?_
  refine m_iload_n C 2 dX7_holds_9 rfl ?_
  refine m_isub C dX7_holds_10 ?_
  refine m_icmp_gt C 18 dX7_holds_11 (by decide) (fun hh2 => ?_) (fun hh2 => ?_)
  · replace hh2 := (ii_lt (ii_sub (nn_i (a := z) rfl (by omega)) rfl (by omega) (by omega)) (rfl : (i).toInt = _)).mp hh2
    refine m_iconst C 0 dX7_holds_18 (by decide +kernel) ?_
    refine m_zretf C hQ dX7_holds_19 rfl rfl rfl ?_
    exact bI_f (by omega)
  replace hh2 := mt (ii_lt (ii_sub (nn_i (a := z) rfl (by omega)) rfl (by omega) (by omega)) (rfl : (i).toInt = _)).mpr hh2
  refine m_iconst C 1 dX7_holds_14 (by decide +kernel) ?_
  refine m_goto C 19 dX7_holds_15 (by decide) ?_
  refine m_zretf C hQ dX7_holds_19 rfl rfl rfl ?_
  exact bI_t (by omega)

set_option maxHeartbeats 4000000 in
set_option maxRecDepth 100000 in
theorem c_X7_make (l : Launch) (G : Gl) (mu : Mu) (nu : Nu) (c : Nat) (hc : stc c) (n : Nat) (w : Int32) (hn : n ≤ 60) : Cv l G mX7_make 1 [.ref (G.1 c), .int (nI n), .int w] mu nu (fun m n2 => m = mu_row (mu_up mu c 1 (nI n)) (c + 1) (fun j => if j < n then w else mu (c + 1) j) ∧ n2 = nu) := by
  refine Ct.of (lv := [(0, .ref (G.1 c)), (1, .int (nI n)), (2, .int w)]) rfl rfl (Nat.le_of_ble_eq_true rfl) rfl (fun X C => ?_)
  generalize hQ : g_E G X _ = Q
  replace C : Cx G 4 X cX7_make RX7 none 1 := C
  show Mq l G 4 X Q 0 [(0, .ref (G.1 c)), (1, .int (nI n)), (2, .int w)] [] mu nu
  refine m_aload_n C 0 dX7_make_0 rfl ?_
  refine m_iload_n C 1 dX7_make_1 rfl ?_
  refine pfX7_15 C c hc dX7_make_2 ?_
  refine m_nameM (fun mu1 emu1 => ?_)
  refine m_iconst C 0 dX7_make_5 (by decide +kernel) ?_
  refine m_istore_n C [(3, .int 0), (0, .ref (G.1 c)), (1, .int (nI n)), (2, .int w)] dX7_make_6 (by decide) rfl ?_
  have L7 : ∀ (fu : Nat) (k : Nat) (m : Mu) (hk : k ≤ n) (em : m = mu_row (mu_up mu c 1 (nI n)) (c + 1) (fun j => if j < k then w else mu (c + 1) j)), n - k < fu → Mq l G 4 X Q 7 [(0, .ref (G.1 c)), (1, .int (nI n)), (2, .int w), (3, .int (nI k))] [] m nu := by
    intro fu
    induction fu with
    | zero => intro k m hk em hm; exact absurd hm (Nat.not_lt_zero _)
    | succ fu ih7 =>
      intro k m hk em hm
      refine m_iload_n C 3 dX7_make_7 rfl ?_
      refine m_iload_n C 1 dX7_make_8 rfl ?_
      refine m_icmp_ge C 34 dX7_make_9 (by decide) (fun hh2 => ?_) (fun hh2 => ?_)
      · replace hh2 := (ii_le (nn_i (a := n) rfl (by omega)) (nn_i (a := k) rfl (by omega))).mp hh2
        refine m_vretv C hQ dX7_make_34 ?_
        have e : k = n := by omega
        subst e; exact ⟨em, rfl⟩
      replace hh2 := mt (ii_le (nn_i (a := n) rfl (by omega)) (nn_i (a := k) rfl (by omega))).mpr hh2
      refine m_iload_n C 3 dX7_make_12 rfl ?_
      refine m_aload_n C 0 dX7_make_13 rfl ?_
      refine gfX7_9 C c hc dX7_make_14 ?_
      refine m_alenI C (c + 1) (stc_lt1 hc) (sa_strip hc) dX7_make_17 ?_
      refine m_icmp_ge C 34 dX7_make_18 (by decide) (fun hh3 => ?_) (fun hh3 => ?_)
      · replace hh3 := (ii_le (nn_i (a := 60) rfl (by omega)) (nn_i (a := k) rfl (by omega))).mp hh3
        refine m_vretv C hQ dX7_make_34 ?_
        have e : k = n := by omega
        subst e; exact ⟨em, rfl⟩
      replace hh3 := mt (ii_le (nn_i (a := 60) rfl (by omega)) (nn_i (a := k) rfl (by omega))).mpr hh3
      refine m_aload_n C 0 dX7_make_21 rfl ?_
      refine gfX7_9 C c hc dX7_make_22 ?_
      refine m_iload_n C 3 dX7_make_25 rfl ?_
      refine m_iload_n C 2 dX7_make_26 rfl ?_
      refine m_iast C (c + 1) (stc_lt1 hc) (sa_strip hc) k rfl (by omega) (by decide) dX7_make_27 ?_
      refine m_nameM (fun mu4 emu4 => ?_)
      refine m_iinc C 3 (nI (k + 1)) [(3, .int (nI (k + 1))), (0, .ref (G.1 c)), (1, .int (nI n)), (2, .int w)] dX7_make_28 rfl (nn_add rfl (show Int32.ofInt 1 = nI 1 from rfl)) (by decide) rfl ?_
      refine m_goto C 7 dX7_make_31 (by decide) ?_
      exact m_sub [1, 2, 3, 0] rfl (ih7 (k + 1) mu4 (by omega) (by rw [emu4, em, fill_step]) (by omega))
  exact m_sub [1, 2, 3, 0] rfl (L7 (_ + 1) 0 mu1 (Nat.zero_le _) (by rw [emu1]; exact fill_0 (g := fun _ => w) (mu_up_ne (by omega)).symm) (Nat.lt_succ_self _))

set_option maxHeartbeats 4000000 in
set_option maxRecDepth 100000 in
theorem c_X7_take (l : Launch) (G : Gl) (mu : Mu) (nu : Nu) (c : Nat) (hc : stc c) (n : Nat) (hn : n ≤ 7) : Cv l G mX7_take 2 [.ref (G.1 c), .ref (G.1 62), .int (nI n)] mu nu (fun m n2 => m = mu_row (mu_up mu c 1 (nI n)) (c + 1) (fun j => if j < n then mu 62 j else mu (c + 1) j) ∧ n2 = nu) := by
  refine Ct.of (lv := [(0, .ref (G.1 c)), (1, .ref (G.1 62)), (2, .int (nI n))]) rfl rfl (Nat.le_of_ble_eq_true rfl) rfl (fun X C => ?_)
  generalize hQ : g_E G X _ = Q
  replace C : Cx G 4 X cX7_take RX7 none 2 := C
  show Mq l G 4 X Q 0 [(0, .ref (G.1 c)), (1, .ref (G.1 62)), (2, .int (nI n))] [] mu nu
  refine m_aload_n C 0 dX7_take_0 rfl ?_
  refine m_iload_n C 2 dX7_take_1 rfl ?_
  refine m_aload_n C 1 dX7_take_2 rfl ?_
  refine m_alenI C 62 (by decide) sa_62 dX7_take_3 ?_
  refine m_min C wkX7_19 (by decide) (Nat.le_of_ble_eq_true rfl) dX7_take_4 ?_
  refine m_topi (nI (min n 7)) (nn_min rfl rfl (by omega) (by omega)) ?_
  refine m_topi (nI n) (congrArg nI (Nat.min_eq_left hn)) ?_
  refine pfX7_15 C c hc dX7_take_7 ?_
  refine m_nameM (fun mu1 emu1 => ?_)
  refine m_iconst C 0 dX7_take_10 (by decide +kernel) ?_
  refine m_istore_n C [(3, .int 0), (0, .ref (G.1 c)), (1, .ref (G.1 62)), (2, .int (nI n))] dX7_take_11 (by decide) rfl ?_
  have L12 : ∀ (fu : Nat) (k : Nat) (m : Mu) (hk : k ≤ n) (em : m = mu_row (mu_up mu c 1 (nI n)) (c + 1) (fun j => if j < k then mu 62 j else mu (c + 1) j)), n - k < fu → Mq l G 4 X Q 12 [(0, .ref (G.1 c)), (1, .ref (G.1 62)), (2, .int (nI n)), (3, .int (nI k))] [] m nu := by
    intro fu
    induction fu with
    | zero => intro k m hk em hm; exact absurd hm (Nat.not_lt_zero _)
    | succ fu ih12 =>
      intro k m hk em hm
      have hc2 : c + 1 ≠ 62 ∧ c ≠ 62 := by unfold stc at hc; omega
      have hm1 : m c 1 = nI n := by rw [em, mu_row_ne (by omega), mu_up_at]
      have h62 : m 62 k = mu 62 k := by rw [em, mu_row_ne (fun e => hc2.1 e.symm), mu_up_ne (fun e => hc2.2 e.symm)]
      refine m_iload_n C 3 dX7_take_12 rfl ?_
      refine m_aload_n C 0 dX7_take_13 rfl ?_
      refine gfX7_15 C c hc dX7_take_14 ?_
      refine m_topi (nI n) hm1 ?_
      refine m_icmp_ge C 35 dX7_take_17 (by decide) (fun hh2 => ?_) (fun hh2 => ?_)
      · replace hh2 := (ii_le (nn_i (a := n) rfl (by omega)) (nn_i (a := k) rfl (by omega))).mp hh2
        refine m_vretv C hQ dX7_take_35 ?_
        have e : k = n := by omega
        subst e; exact ⟨em, rfl⟩
      replace hh2 := mt (ii_le (nn_i (a := n) rfl (by omega)) (nn_i (a := k) rfl (by omega))).mpr hh2
      refine m_aload_n C 0 dX7_take_20 rfl ?_
      refine gfX7_9 C c hc dX7_take_21 ?_
      refine m_iload_n C 3 dX7_take_24 rfl ?_
      refine m_aload_n C 1 dX7_take_25 rfl ?_
      refine m_iload_n C 3 dX7_take_26 rfl ?_
      refine m_iald C 62 (by decide) sa_62 k rfl (by omega) (by decide) dX7_take_27 ?_
      refine m_iast C (c + 1) (stc_lt1 hc) (sa_strip hc) k rfl (by omega) (by decide) dX7_take_28 ?_
      refine m_nameM (fun mu3 emu3 => ?_)
      refine m_iinc C 3 (nI (k + 1)) [(3, .int (nI (k + 1))), (0, .ref (G.1 c)), (1, .ref (G.1 62)), (2, .int (nI n))] dX7_take_29 rfl (nn_add rfl (show Int32.ofInt 1 = nI 1 from rfl)) (by decide) rfl ?_
      refine m_goto C 12 dX7_take_32 (by decide) ?_
      exact m_sub [1, 2, 3, 0] rfl (ih12 (k + 1) mu3 (by omega) (by rw [emu3, h62, em, copy_step]) (by omega))
  exact m_sub [1, 2, 3, 0] rfl (L12 (_ + 1) 0 mu1 (Nat.zero_le _) (by rw [emu1]; exact fill_0 (g := mu 62) (mu_up_ne (by omega)).symm) (Nat.lt_succ_self _))
