set_option maxHeartbeats 4000000 in
set_option maxRecDepth 100000 in
theorem c_X10_laid (l : Launch) (G : Gl) (mu : Mu) (nu : Nu) (z : Zt) (hz : ZC mu nu z) (i : Int32) : Ci l G mX10_laid 4 [.ref (G.1 0), .int i] mu nu (PC mu nu (s_laid z i)) := by
  have hv : zv mu (z_V z) := hz.1
  have hw := hv.1
  have hN7 := hw.1
  have hm7 := hw.2.2.1
  have ho8 := hw.2.2.2.2
  have hcz : ((v_N (z_V z) : Nat) : Int) = ((z_N z : Nat) : Int) := rfl
  have hd40 : (z_B z).2.2.length ≤ 40 := hz.2.1.2.2.1
  have hwf : z_wf (z_N z) ((z_B z).1, (z_B z).2.1) := zb_wf hz.2.1
  have hzN : z_N z ≤ 7 := hN7
  have hml : v_m (z_V z) = (z_B z).1.length := rfl
  refine Ct.of (lv := [(0, .ref (G.1 0)), (1, .int i)]) rfl rfl (Nat.le_of_ble_eq_true rfl) rfl (fun X C => ?_)
  generalize hQ : g_E G X _ = Q
  replace C : Cx G 2 X cX10_laid RX10 (some .int) 4 := C
  show Mq l G 2 X Q 0 [(0, .ref (G.1 0)), (1, .int i)] [] mu nu
  refine m_aload_n C 0 dX10_laid_0 rfl ?_
  refine m_iload_n C 1 dX10_laid_1 rfl ?_
  refine m_callVf C 0 (by decide) rfl rfl (c_X10_isRod l G mu nu (z_V z) hv i) wkX10_137 (by decide) rfl rfl (Nat.le_of_ble_eq_true rfl) dX10_laid_2 ?_
  refine m_if_ne C 10 dX10_laid_5 (by decide) (fun hh1 => ?_) (fun hh1 => ?_)
  · replace hh1 := bI_ne0.mp hh1
    obtain ⟨ei, ki⟩ := ix_eq (x := i) (by omega)
    refine m_aload_n C 0 dX10_laid_10 rfl ?_
    refine gfX10_53 C dX10_laid_11 ?_
    refine m_iload_n C 1 dX10_laid_14 rfl ?_
    refine m_topi (nI (ix i)) ei ?_
    refine m_callVf C 38 (by decide) rfl rfl (c_X0_placeOf l G mu nu 38 bnc_38 (v_F (z_V z)) (v_ov (z_V z)) hv.2.2.2 (ix i) (by omega)) wkX10_165 (by decide) rfl rfl (Nat.le_of_ble_eq_true rfl) dX10_laid_15 ?_
    refine m_bipush C (-9) dX10_laid_18 (by decide +kernel) ?_
    refine m_icmp_eq C 26 dX10_laid_20 (by decide) (fun hh2 => ?_) (fun hh2 => ?_)
    · replace hh2 := (ii_eq (rfl : (s_pl (v_F (z_V z)) (ix i)).toInt = _) (show ((-9) : Int32).toInt = (-9) from by decide +kernel)).mp hh2
      have hnp : ¬ ix i ∈ (z_B z).1 := (s_pl_t (F := (z_B z).1) (i := ix i) (by omega)).mp hh2
      refine m_aload_n C 0 dX10_laid_26 rfl ?_
      refine gfX10_53 C dX10_laid_27 ?_
      refine m_callVf C 38 (by decide) rfl rfl (c_X0_isFull l G mu nu 38 bnc_38 (z_B z).2.2.length hz.2.1.2.1 hd40) wkX10_168 (by decide) rfl rfl (Nat.le_of_ble_eq_true rfl) dX10_laid_30 ?_
      refine m_if_eq C 39 dX10_laid_33 (by decide) (fun hh3 => ?_) (fun hh3 => ?_)
      · replace hh3 := bI_eq0.mp hh3
        refine m_aload_n C 0 dX10_laid_39 rfl ?_
        refine gfX10_53 C dX10_laid_40 ?_
        refine m_iconst C 1 dX10_laid_43 (by decide +kernel) ?_
        refine m_iload_n C 1 dX10_laid_44 rfl ?_
        refine m_topi (nI (ix i)) ei ?_
        refine m_iconst C 0 dX10_laid_45 (by decide +kernel) ?_
        refine m_callVv C 38 (by decide) rfl rfl (c_X0_act l G mu nu 38 bnc_38 1 (ix i) 0 (z_N z) (z_B z).1 (z_B z).2.1 (z_B z).2.2 hz.2.1 (by omega) (a_lay hzN hwf (i := ix i) (by omega) hnp).1 (a_lay hzN hwf (i := ix i) (by omega) hnp).2.1 (a_lay hzN hwf (i := ix i) (by omega) hnp).2.2) wkX10_171 (by decide) rfl rfl (Nat.le_of_ble_eq_true rfl) dX10_laid_46 (fun m4 n4 hp4 => ?_)
        refine m_aload_n C 0 dX10_laid_49 rfl ?_
        refine gfX10_53 C dX10_laid_50 ?_
        refine gfX10_175 C 38 bnc_38 dX10_laid_53 ?_
        refine m_topi (nI ((z_B z).1.length + 1)) (hp4.1.1.1.1.trans (congrArg nI (by simp [s_fw]))) ?_
        refine m_ireti C hQ dX10_laid_56 ?_
        obtain ⟨⟨hb, hf⟩, hn2⟩ := hp4
        obtain ⟨q1, q2⟩ := zc_bench hz hb hf
        rw [hn2]; exact PC_of (by unfold s_laid; rw [if_neg (by omega), if_neg hnp, if_neg (by omega)]; rfl) q1 q2
      replace hh3 := bI_ne0.mp hh3
      refine m_bipush C (-2) dX10_laid_36 (by decide +kernel) ?_
      refine m_ireti C hQ dX10_laid_38 ?_
      exact PC_of (by unfold s_laid; rw [if_neg (by omega), if_neg hnp, if_pos (by omega)]) hz zcl_rfl
    replace hh2 := mt (ii_eq (rfl : (s_pl (v_F (z_V z)) (ix i)).toInt = _) (show ((-9) : Int32).toInt = (-9) from by decide +kernel)).mpr hh2
    refine m_bipush C (-4) dX10_laid_23 (by decide +kernel) ?_
    refine m_ireti C hQ dX10_laid_25 ?_
    exact PC_of (by unfold s_laid; rw [if_neg (by omega), if_pos (Decidable.not_not.mp (mt (s_pl_t (F := (z_B z).1) (i := ix i) (by omega)).mpr hh2))]) hz zcl_rfl
  replace hh1 := bI_eq0.mp hh1
  refine m_iconst C (-1) dX10_laid_8 (by decide +kernel) ?_
  refine m_ireti C hQ dX10_laid_9 ?_
  exact PC_of (by unfold s_laid; rw [if_pos (by omega)]) hz zcl_rfl

set_option maxHeartbeats 4000000 in
set_option maxRecDepth 100000 in
theorem c_X10_lift (l : Launch) (G : Gl) (mu : Mu) (nu : Nu) (z : Zt) (hz : ZC mu nu z) : Ci l G mX10_lift 4 [.ref (G.1 0)] mu nu (PC mu nu (s_lift z)) := by
  have hv : zv mu (z_V z) := hz.1
  have hw := hv.1
  have hN7 := hw.1
  have hm7 := hw.2.2.1
  have ho8 := hw.2.2.2.2
  have hcz : ((v_N (z_V z) : Nat) : Int) = ((z_N z : Nat) : Int) := rfl
  have hd40 : (z_B z).2.2.length ≤ 40 := hz.2.1.2.2.1
  have hwf : z_wf (z_N z) ((z_B z).1, (z_B z).2.1) := zb_wf hz.2.1
  have hzN : z_N z ≤ 7 := hN7
  have hml : v_m (z_V z) = (z_B z).1.length := rfl
  refine Ct.of (lv := [(0, .ref (G.1 0))]) rfl rfl (Nat.le_of_ble_eq_true rfl) rfl (fun X C => ?_)
  generalize hQ : g_E G X _ = Q
  replace C : Cx G 2 X cX10_lift RX10 (some .int) 4 := C
  show Mq l G 2 X Q 0 [(0, .ref (G.1 0))] [] mu nu
  refine m_aload_n C 0 dX10_lift_0 rfl ?_
  refine gfX10_53 C dX10_lift_1 ?_
  refine gfX10_175 C 38 bnc_38 dX10_lift_4 ?_
  refine m_topi (nI (v_m (z_V z))) (zv_m hv) ?_
  refine m_if_ne C 13 dX10_lift_7 (by decide) (fun hh1 => ?_) (fun hh1 => ?_)
  · replace hh1 := mt (ii_eq (nn_i (a := v_m (z_V z)) rfl (by omega)) (nn_i (a := 0) rfl (by omega))).mpr hh1
    refine m_aload_n C 0 dX10_lift_13 rfl ?_
    refine gfX10_53 C dX10_lift_14 ?_
    refine m_callVf C 38 (by decide) rfl rfl (c_X0_isFull l G mu nu 38 bnc_38 (z_B z).2.2.length hz.2.1.2.1 hd40) wkX10_168 (by decide) rfl rfl (Nat.le_of_ble_eq_true rfl) dX10_lift_17 ?_
    refine m_if_eq C 26 dX10_lift_20 (by decide) (fun hh2 => ?_) (fun hh2 => ?_)
    · replace hh2 := bI_eq0.mp hh2
      refine m_aload_n C 0 dX10_lift_26 rfl ?_
      refine gfX10_53 C dX10_lift_27 ?_
      refine m_callVf C 38 (by decide) rfl rfl (c_X0_lastRod l G mu nu 38 bnc_38 (z_B z).1 (z_B z).2.1 hz.2.1.1) wkX10_178 (by decide) rfl rfl (Nat.le_of_ble_eq_true rfl) dX10_lift_30 ?_
      refine m_topi (nI ((z_B z).1.getD ((z_B z).1.length - 1) 0)) (if_pos (by omega)) ?_
      refine m_istore_n C [(1, .int (nI ((z_B z).1.getD ((z_B z).1.length - 1) 0))), (0, .ref (G.1 0))] dX10_lift_33 (by decide) rfl ?_
      refine m_aload_n C 1 dX10_lift_34 rfl ?_
      refine gfX10_53 C dX10_lift_35 ?_
      refine m_iconst C 2 dX10_lift_38 (by decide +kernel) ?_
      refine m_iload_n C 0 dX10_lift_39 rfl ?_
      refine m_iconst C 0 dX10_lift_40 (by decide +kernel) ?_
      refine m_callVv C 38 (by decide) rfl rfl (c_X0_act l G mu nu 38 bnc_38 2 ((z_B z).1.getD ((z_B z).1.length - 1) 0) 0 (z_N z) (z_B z).1 (z_B z).2.1 (z_B z).2.2 hz.2.1 (by omega) (a_lift hzN hwf (by show 0 < (z_B z).1.length; omega)).1 (a_lift hzN hwf (by show 0 < (z_B z).1.length; omega)).2.1 (a_lift hzN hwf (by show 0 < (z_B z).1.length; omega)).2.2) wkX10_171 (by decide) rfl rfl (Nat.le_of_ble_eq_true rfl) dX10_lift_41 (fun m3 n3 hp3 => ?_)
      refine m_iload_n C 0 dX10_lift_44 rfl ?_
      refine m_ireti C hQ dX10_lift_45 ?_
      obtain ⟨⟨hb, hf⟩, hn2⟩ := hp3
      obtain ⟨q1, q2⟩ := zc_bench hz hb hf
      rw [hn2]; exact PC_of (by unfold s_lift; rw [if_neg (by omega), if_neg (by omega)]; rfl) q1 q2
    replace hh2 := bI_ne0.mp hh2
    refine m_bipush C (-2) dX10_lift_23 (by decide +kernel) ?_
    refine m_ireti C hQ dX10_lift_25 ?_
    exact PC_of (by unfold s_lift; rw [if_neg (by omega), if_pos (by omega)]) hz zcl_rfl
  replace hh1 := (ii_eq (nn_i (a := v_m (z_V z)) rfl (by omega)) (nn_i (a := 0) rfl (by omega))).mp hh1
  refine m_bipush C (-4) dX10_lift_10 (by decide +kernel) ?_
  refine m_ireti C hQ dX10_lift_12 ?_
  exact PC_of (by unfold s_lift; rw [if_pos (by omega)]) hz zcl_rfl

set_option maxHeartbeats 4000000 in
set_option maxRecDepth 100000 in
theorem c_X10_change (l : Launch) (G : Gl) (mu : Mu) (nu : Nu) (z : Zt) (hz : ZC mu nu z) (a b : Int32) : Ci l G mX10_change 4 [.ref (G.1 0), .int a, .int b] mu nu (PC mu nu (s_chg z a b)) := by
  have hv : zv mu (z_V z) := hz.1
  have hw := hv.1
  have hN7 := hw.1
  have hm7 := hw.2.2.1
  have ho8 := hw.2.2.2.2
  have hcz : ((v_N (z_V z) : Nat) : Int) = ((z_N z : Nat) : Int) := rfl
  have hd40 : (z_B z).2.2.length ≤ 40 := hz.2.1.2.2.1
  have hwf : z_wf (z_N z) ((z_B z).1, (z_B z).2.1) := zb_wf hz.2.1
  have hzN : z_N z ≤ 7 := hN7
  have hml : v_m (z_V z) = (z_B z).1.length := rfl
  refine Ct.of (lv := [(0, .ref (G.1 0)), (1, .int a), (2, .int b)]) rfl rfl (Nat.le_of_ble_eq_true rfl) rfl (fun X C => ?_)
  generalize hQ : g_E G X _ = Q
  replace C : Cx G 3 X cX10_change RX10 (some .int) 4 := C
  show Mq l G 3 X Q 0 [(0, .ref (G.1 0)), (1, .int a), (2, .int b)] [] mu nu
  refine m_iload_n C 1 dX10_change_0 rfl ?_
  refine m_iload_n C 2 dX10_change_1 rfl ?_
  refine m_icmp_eq C 27 dX10_change_2 (by decide) (fun hh1 => ?_) (fun hh1 => ?_)
  · replace hh1 := (ii_eq (rfl : (a).toInt = _) (rfl : (b).toInt = _)).mp hh1
    refine m_iconst C (-1) dX10_change_27 (by decide +kernel) ?_
    refine m_ireti C hQ dX10_change_28 ?_
    exact PC_of (by unfold s_chg; rw [if_pos (by omega)]) hz zcl_rfl
  replace hh1 := mt (ii_eq (rfl : (a).toInt = _) (rfl : (b).toInt = _)).mpr hh1
  refine m_aload_n C 0 dX10_change_5 rfl ?_
  refine gfX10_53 C dX10_change_6 ?_
  refine m_iload_n C 1 dX10_change_9 rfl ?_
  refine m_callVf C 38 (by decide) rfl rfl (c_X0_isTaken l G mu nu 38 bnc_38 (z_B z).1.length hz.2.1.1.1 (by omega) a) wkX10_182 (by decide) rfl rfl (Nat.le_of_ble_eq_true rfl) dX10_change_10 ?_
  refine m_if_eq C 27 dX10_change_13 (by decide) (fun hh2 => ?_) (fun hh2 => ?_)
  · replace hh2 := bI_eq0.mp hh2
    refine m_iconst C (-1) dX10_change_27 (by decide +kernel) ?_
    refine m_ireti C hQ dX10_change_28 ?_
    exact PC_of (by unfold s_chg; rw [if_pos (by omega)]) hz zcl_rfl
  replace hh2 := bI_ne0.mp hh2
  refine m_aload_n C 0 dX10_change_16 rfl ?_
  refine gfX10_53 C dX10_change_17 ?_
  refine m_iload_n C 2 dX10_change_20 rfl ?_
  refine m_callVf C 38 (by decide) rfl rfl (c_X0_isTaken l G mu nu 38 bnc_38 (z_B z).1.length hz.2.1.1.1 (by omega) b) wkX10_182 (by decide) rfl rfl (Nat.le_of_ble_eq_true rfl) dX10_change_21 ?_
  refine m_if_ne C 29 dX10_change_24 (by decide) (fun hh3 => ?_) (fun hh3 => ?_)
  · replace hh3 := bI_ne0.mp hh3
    obtain ⟨ea, ka⟩ := ix_eq (x := a) (by omega)
    obtain ⟨eb, kb⟩ := ix_eq (x := b) (by omega)
    refine m_aload_n C 0 dX10_change_29 rfl ?_
    refine gfX10_53 C dX10_change_30 ?_
    refine m_callVf C 38 (by decide) rfl rfl (c_X0_isFull l G mu nu 38 bnc_38 (z_B z).2.2.length hz.2.1.2.1 hd40) wkX10_168 (by decide) rfl rfl (Nat.le_of_ble_eq_true rfl) dX10_change_33 ?_
    refine m_if_eq C 42 dX10_change_36 (by decide) (fun hh4 => ?_) (fun hh4 => ?_)
    · replace hh4 := bI_eq0.mp hh4
      refine m_aload_n C 0 dX10_change_42 rfl ?_
      refine gfX10_53 C dX10_change_43 ?_
      refine m_iconst C 3 dX10_change_46 (by decide +kernel) ?_
      refine m_iload_n C 1 dX10_change_47 rfl ?_
      refine m_topi (nI (ix a)) ea ?_
      refine m_iload_n C 2 dX10_change_48 rfl ?_
      refine m_topi (nI (ix b)) eb ?_
      refine m_callVv C 38 (by decide) rfl rfl (c_X0_act l G mu nu 38 bnc_38 3 (ix a) (ix b) (z_N z) (z_B z).1 (z_B z).2.1 (z_B z).2.2 hz.2.1 (by omega) (a_swap hzN hwf (x := ix a) (y := ix b) (by show ix a < (z_B z).1.length; omega) (by show ix b < (z_B z).1.length; omega)).1 (a_swap hzN hwf (x := ix a) (y := ix b) (by show ix a < (z_B z).1.length; omega) (by show ix b < (z_B z).1.length; omega)).2.1 (a_swap hzN hwf (x := ix a) (y := ix b) (by show ix a < (z_B z).1.length; omega) (by show ix b < (z_B z).1.length; omega)).2.2) wkX10_171 (by decide) rfl rfl (Nat.le_of_ble_eq_true rfl) dX10_change_49 (fun m5 n5 hp5 => ?_)
      refine m_aload_n C 0 dX10_change_52 rfl ?_
      refine gfX10_53 C dX10_change_53 ?_
      refine gfX10_185 C 38 bnc_38 dX10_change_56 ?_
      refine m_iload_n C 1 dX10_change_59 rfl ?_
      refine m_topi (nI (ix a)) ea ?_
      refine m_iald C 39 (by decide) (sa_frame (c := 38) bnc_38) (ix a) rfl (by omega) (by decide) dX10_change_60 ?_
      refine m_topi (nI ((s_swap (z_B z).1 (ix a) (ix b)).getD (ix a) 0)) (hp5.1.1.1.2.2.1 (ix a) (by show ix a < (s_swap (z_B z).1 (ix a) (ix b)).length; rw [s_swap_len]; omega)) ?_
      refine m_ireti C hQ dX10_change_61 ?_
      obtain ⟨⟨hb, hf⟩, hn2⟩ := hp5
      obtain ⟨q1, q2⟩ := zc_bench hz hb hf
      rw [hn2]; exact PC_of (by unfold s_chg; rw [if_neg (by omega), if_neg (by omega)]; rfl) q1 q2
    replace hh4 := bI_ne0.mp hh4
    refine m_bipush C (-2) dX10_change_39 (by decide +kernel) ?_
    refine m_ireti C hQ dX10_change_41 ?_
    exact PC_of (by unfold s_chg; rw [if_neg (by omega), if_pos (by omega)]) hz zcl_rfl
  replace hh3 := bI_eq0.mp hh3
  refine m_iconst C (-1) dX10_change_27 (by decide +kernel) ?_
  refine m_ireti C hQ dX10_change_28 ?_
  exact PC_of (by unfold s_chg; rw [if_pos (by omega)]) hz zcl_rfl

set_option maxHeartbeats 4000000 in
set_option maxRecDepth 100000 in
theorem c_X10_over (l : Launch) (G : Gl) (mu : Mu) (nu : Nu) (z : Zt) (hz : ZC mu nu z) (i : Int32) : Ci l G mX10_over 4 [.ref (G.1 0), .int i] mu nu (PC mu nu (s_over z i)) := by
  have hv : zv mu (z_V z) := hz.1
  have hw := hv.1
  have hN7 := hw.1
  have hm7 := hw.2.2.1
  have ho8 := hw.2.2.2.2
  have hcz : ((v_N (z_V z) : Nat) : Int) = ((z_N z : Nat) : Int) := rfl
  have hd40 : (z_B z).2.2.length ≤ 40 := hz.2.1.2.2.1
  have hwf : z_wf (z_N z) ((z_B z).1, (z_B z).2.1) := zb_wf hz.2.1
  have hzN : z_N z ≤ 7 := hN7
  have hml : v_m (z_V z) = (z_B z).1.length := rfl
  refine Ct.of (lv := [(0, .ref (G.1 0)), (1, .int i)]) rfl rfl (Nat.le_of_ble_eq_true rfl) rfl (fun X C => ?_)
  generalize hQ : g_E G X _ = Q
  replace C : Cx G 2 X cX10_over RX10 (some .int) 4 := C
  show Mq l G 2 X Q 0 [(0, .ref (G.1 0)), (1, .int i)] [] mu nu
  refine m_aload_n C 0 dX10_over_0 rfl ?_
  refine m_iload_n C 1 dX10_over_1 rfl ?_
  refine m_callVf C 0 (by decide) rfl rfl (c_X10_isRod l G mu nu (z_V z) hv i) wkX10_137 (by decide) rfl rfl (Nat.le_of_ble_eq_true rfl) dX10_over_2 ?_
  refine m_if_ne C 10 dX10_over_5 (by decide) (fun hh1 => ?_) (fun hh1 => ?_)
  · replace hh1 := bI_ne0.mp hh1
    obtain ⟨ei, ki⟩ := ix_eq (x := i) (by omega)
    refine m_aload_n C 0 dX10_over_10 rfl ?_
    refine gfX10_53 C dX10_over_11 ?_
    refine m_callVf C 38 (by decide) rfl rfl (c_X0_isFull l G mu nu 38 bnc_38 (z_B z).2.2.length hz.2.1.2.1 hd40) wkX10_168 (by decide) rfl rfl (Nat.le_of_ble_eq_true rfl) dX10_over_14 ?_
    refine m_if_eq C 23 dX10_over_17 (by decide) (fun hh2 => ?_) (fun hh2 => ?_)
    · replace hh2 := bI_eq0.mp hh2
      refine m_aload_n C 0 dX10_over_23 rfl ?_
      refine gfX10_53 C dX10_over_24 ?_
      refine m_iconst C 4 dX10_over_27 (by decide +kernel) ?_
      refine m_iload_n C 1 dX10_over_28 rfl ?_
      refine m_topi (nI (ix i)) ei ?_
      refine m_iconst C 0 dX10_over_29 (by decide +kernel) ?_
      refine m_callVv C 38 (by decide) rfl rfl (c_X0_act l G mu nu 38 bnc_38 4 (ix i) 0 (z_N z) (z_B z).1 (z_B z).2.1 (z_B z).2.2 hz.2.1 (by omega) (a_turn hzN hwf (i := ix i) (by omega)).1 (a_turn hzN hwf (i := ix i) (by omega)).2.1 (a_turn hzN hwf (i := ix i) (by omega)).2.2) wkX10_171 (by decide) rfl rfl (Nat.le_of_ble_eq_true rfl) dX10_over_30 (fun m3 n3 hp3 => ?_)
      obtain ⟨⟨hb, hf⟩, hn2⟩ := hp3
      refine m_mem (mu2 := m3) (nu2 := nu) rfl hn2 ?_
      obtain ⟨q1, q2⟩ := zc_bench (B := b_do (z_B z) 4 (ix i) 0) hz hb hf
      refine m_aload_n C 0 dX10_over_33 rfl ?_
      refine m_iload_n C 1 dX10_over_34 rfl ?_
      refine m_topi (nI (ix i)) ei ?_
      refine m_callVf C 0 (by decide) rfl rfl (c_X10_digitNow l G m3 nu (z_V (u_bn z (b_do (z_B z) 4 (ix i) 0))) q1.1 (ix i) (by show ix i < z_N z; omega)) wkX10_188 (by decide) rfl rfl (Nat.le_of_ble_eq_true rfl) dX10_over_35 ?_
      refine m_ireti C hQ dX10_over_38 ?_
      exact PC_of (by unfold s_over; rw [if_neg (by omega), if_neg (by omega)]) q1 q2
    replace hh2 := bI_ne0.mp hh2
    refine m_bipush C (-2) dX10_over_20 (by decide +kernel) ?_
    refine m_ireti C hQ dX10_over_22 ?_
    exact PC_of (by unfold s_over; rw [if_neg (by omega), if_pos (by omega)]) hz zcl_rfl
  replace hh1 := bI_eq0.mp hh1
  refine m_iconst C (-1) dX10_over_8 (by decide +kernel) ?_
  refine m_ireti C hQ dX10_over_9 ?_
  exact PC_of (by unfold s_over; rw [if_pos (by omega)]) hz zcl_rfl

set_option maxHeartbeats 4000000 in
set_option maxRecDepth 100000 in
theorem c_X10_undo (l : Launch) (G : Gl) (mu : Mu) (nu : Nu) (z : Zt) (hz : ZC mu nu z) (n : Int32) : Ci l G mX10_undo 4 [.ref (G.1 0), .int n] mu nu (PC mu nu (s_undo z n)) := by
  have hv : zv mu (z_V z) := hz.1
  have hw := hv.1
  have hN7 := hw.1
  have hm7 := hw.2.2.1
  have ho8 := hw.2.2.2.2
  have hcz : ((v_N (z_V z) : Nat) : Int) = ((z_N z : Nat) : Int) := rfl
  have hd40 : (z_B z).2.2.length ≤ 40 := hz.2.1.2.2.1
  have hwf : z_wf (z_N z) ((z_B z).1, (z_B z).2.1) := zb_wf hz.2.1
  have hzN : z_N z ≤ 7 := hN7
  have hml : v_m (z_V z) = (z_B z).1.length := rfl
  refine Ct.of (lv := [(0, .ref (G.1 0)), (1, .int n)]) rfl rfl (Nat.le_of_ble_eq_true rfl) rfl (fun X C => ?_)
  generalize hQ : g_E G X _ = Q
  replace C : Cx G 4 X cX10_undo RX10 (some .int) 4 := C
  show Mq l G 4 X Q 0 [(0, .ref (G.1 0)), (1, .int n)] [] mu nu
  refine m_iload_n C 1 dX10_undo_0 rfl ?_
  refine m_if_lt C 15 dX10_undo_1 (by decide) (fun hh1 => ?_) (fun hh1 => ?_)
  · replace hh1 := (ii_lt (rfl : (n).toInt = _) (nn_i (a := 0) rfl (by omega))).mp hh1
    refine m_iconst C (-1) dX10_undo_15 (by decide +kernel) ?_
    refine m_ireti C hQ dX10_undo_16 ?_
    exact PC_of (by unfold s_undo; rw [if_pos (by omega)]) hz zcl_rfl
  replace hh1 := mt (ii_lt (rfl : (n).toInt = _) (nn_i (a := 0) rfl (by omega))).mpr hh1
  refine m_iload_n C 1 dX10_undo_4 rfl ?_
  refine m_aload_n C 0 dX10_undo_5 rfl ?_
  refine gfX10_53 C dX10_undo_6 ?_
  refine gfX10_191 C 38 bnc_38 dX10_undo_9 ?_
  refine m_topi (nI ((z_B z).2.2.length)) hz.2.1.2.1 ?_
  refine m_icmp_le C 17 dX10_undo_12 (by decide) (fun hh2 => ?_) (fun hh2 => ?_)
  · replace hh2 := (ii_le (rfl : (n).toInt = _) (nn_i (a := (z_B z).2.2.length) rfl (by omega))).mp hh2
    obtain ⟨en, kn⟩ := ix_eq (x := n) (by omega)
    refine m_aload_n C 0 dX10_undo_17 rfl ?_
    refine gfX10_53 C dX10_undo_18 ?_
    refine gfX10_191 C 38 bnc_38 dX10_undo_21 ?_
    refine m_topi (nI ((z_B z).2.2.length)) hz.2.1.2.1 ?_
    refine m_iload_n C 1 dX10_undo_24 rfl ?_
    refine m_topi (nI (ix n)) en ?_
    refine m_isub C dX10_undo_25 ?_
    refine m_topi (nI (((z_B z).2.2.length) - (ix n))) (nn_sub rfl rfl (by omega)) ?_
    refine m_istore_n C [(2, .int (nI (((z_B z).2.2.length) - (ix n)))), (0, .ref (G.1 0)), (1, .int n)] dX10_undo_26 (by decide) rfl ?_
    refine m_iconst C 0 dX10_undo_27 (by decide +kernel) ?_
    refine m_istore_n C [(3, .int 0), (2, .int (nI (((z_B z).2.2.length) - (ix n)))), (0, .ref (G.1 0)), (1, .int n)] dX10_undo_28 (by decide) rfl ?_
    have L29 : ∀ (fu : Nat) (k : Nat) (m : Mu) (hk : k ≤ (z_B z).2.2.length - ix n) (hmb : z_b m 38 (z_N z) (b_un (z_B z) ((z_B z).2.2.length - k))) (hmf : z_fr mu m 38), (z_B z).2.2.length - ix n - k < fu → Mq l G 4 X Q 29 [(0, .ref (G.1 0)), (1, .int n), (2, .int (nI (((z_B z).2.2.length) - (ix n)))), (3, .int (nI k))] [] m nu := by
      intro fu
      induction fu with
      | zero => intro k m hk hmb hmf hm; exact absurd hm (Nat.not_lt_zero _)
      | succ fu ih29 =>
        intro k m hk hmb hmf hm
        refine m_iload_n C 3 dX10_undo_29 rfl ?_
        refine m_iload_n C 2 dX10_undo_30 rfl ?_
        refine m_icmp_ge C 47 dX10_undo_31 (by decide) (fun hh3 => ?_) (fun hh3 => ?_)
        · replace hh3 := (ii_le (nn_i (a := ((z_B z).2.2.length) - (ix n)) rfl (by omega)) (nn_i (a := k) rfl (by omega))).mp hh3
          refine m_iload_n C 2 dX10_undo_47 rfl ?_
          refine m_ireti C hQ dX10_undo_48 ?_
          have ek : (z_B z).2.2.length - k = ix n := by omega
          rw [ek] at hmb
          obtain ⟨q1, q2⟩ := zc_bench hz hmb hmf
          exact PC_of (by unfold s_undo; rw [if_neg (by omega)]) q1 q2
        replace hh3 := mt (ii_le (nn_i (a := ((z_B z).2.2.length) - (ix n)) rfl (by omega)) (nn_i (a := k) rfl (by omega))).mpr hh3
        refine m_aload_n C 0 dX10_undo_34 rfl ?_
        refine gfX10_53 C dX10_undo_35 ?_
        refine m_callVv C 38 (by decide) rfl rfl (c_X0_takeBack l G m nu 38 bnc_38 (z_N z) (s_at (z_B z) ((z_B z).2.2.length - (k + 1) + 1)).1 (s_at (z_B z) ((z_B z).2.2.length - (k + 1) + 1)).2 ((z_B z).2.2.take ((z_B z).2.2.length - (k + 1))) (s_at (z_B z) ((z_B z).2.2.length - (k + 1))) (by rw [← b_un_succ (by omega), show (z_B z).2.2.length - (k + 1) + 1 = (z_B z).2.2.length - k by omega]; exact hmb)) wkX10_194 (by decide) rfl rfl (Nat.le_of_ble_eq_true rfl) dX10_undo_38 (fun m4 n4 hp4 => ?_)
        obtain ⟨⟨hb1, hf1⟩, hn2⟩ := hp4
        refine m_mem (mu2 := m4) (nu2 := nu) rfl hn2 ?_
        refine m_iinc C 3 (nI (k + 1)) [(3, .int (nI (k + 1))), (0, .ref (G.1 0)), (1, .int n), (2, .int (nI (((z_B z).2.2.length) - (ix n))))] dX10_undo_41 rfl (nn_add rfl (show Int32.ofInt 1 = nI 1 from rfl)) (by decide) rfl ?_
        refine m_goto C 29 dX10_undo_44 (by decide) ?_
        exact m_sub [1, 2, 3, 0] rfl (ih29 (k + 1) m4 (by omega) hb1 (⟨fun c hc => (hf1.1 c hc).trans (hmf.1 c hc), hf1.2.trans hmf.2⟩) (by omega))
    exact m_sub [2, 3, 1, 0] rfl (L29 (_ + 1) 0 mu (Nat.zero_le _) (by rw [Nat.sub_zero, b_un_all]; exact hz.2.1) (⟨fun _ _ => rfl, rfl⟩) (Nat.lt_succ_self _))
  replace hh2 := mt (ii_le (rfl : (n).toInt = _) (nn_i (a := (z_B z).2.2.length) rfl (by omega))).mpr hh2
  refine m_iconst C (-1) dX10_undo_15 (by decide +kernel) ?_
  refine m_ireti C hQ dX10_undo_16 ?_
  exact PC_of (by unfold s_undo; rw [if_pos (by omega)]) hz zcl_rfl

set_option maxHeartbeats 4000000 in
set_option maxRecDepth 100000 in
theorem c_X10_keep (l : Launch) (G : Gl) (mu : Mu) (nu : Nu) (z : Zt) (hz : ZC mu nu z) (k : Int32) : Ci l G mX10_keep 3 [.ref (G.1 0), .int k] mu nu (PC mu nu (s_keep z k)) := by
  have hv : zv mu (z_V z) := hz.1
  have hw := hv.1
  have hN7 := hw.1
  have hm7 := hw.2.2.1
  have ho8 := hw.2.2.2.2
  have hcz : ((v_N (z_V z) : Nat) : Int) = ((z_N z : Nat) : Int) := rfl
  have hd40 : (z_B z).2.2.length ≤ 40 := hz.2.1.2.2.1
  have hwf : z_wf (z_N z) ((z_B z).1, (z_B z).2.1) := zb_wf hz.2.1
  have hzN : z_N z ≤ 7 := hN7
  have hml : v_m (z_V z) = (z_B z).1.length := rfl
  refine Ct.of (lv := [(0, .ref (G.1 0)), (1, .int k)]) rfl rfl (Nat.le_of_ble_eq_true rfl) rfl (fun X C => ?_)
  generalize hQ : g_E G X _ = Q
  replace C : Cx G 2 X cX10_keep RX10 (some .int) 3 := C
  show Mq l G 2 X Q 0 [(0, .ref (G.1 0)), (1, .int k)] [] mu nu
  refine m_iload_n C 1 dX10_keep_0 rfl ?_
  refine m_callSf C (c_X10_isKeepingPlace l G mu nu k) wkX10_197 (by decide) rfl rfl (Nat.le_of_ble_eq_true rfl) dX10_keep_1 ?_
  refine m_if_ne C 9 dX10_keep_4 (by decide) (fun hh1 => ?_) (fun hh1 => ?_)
  · replace hh1 := bI_ne0.mp hh1
    obtain ⟨ek, kk⟩ := ix_eq (x := k) (by omega)
    refine m_aload_n C 0 dX10_keep_9 rfl ?_
    refine gfX10_134 C dX10_keep_10 ?_
    refine m_topi (nI (z_N z)) hv.2.1 ?_
    refine m_if_ne C 19 dX10_keep_13 (by decide) (fun hh2 => ?_) (fun hh2 => ?_)
    · replace hh2 := mt (ii_eq (nn_i (a := z_N z) rfl (by omega)) (nn_i (a := 0) rfl (by omega))).mpr hh2
      refine m_aload_n C 0 dX10_keep_19 rfl ?_
      refine gfX10_57 C dX10_keep_20 ?_
      refine m_iload_n C 1 dX10_keep_23 rfl ?_
      refine m_topi (nI (ix k)) ek ?_
      refine m_aald C 43 (by decide) 4 rfl ra_43 (ix k) (G.1 (44 + 5 * (ix k))) rfl (by omega) (by decide) rfl dX10_keep_24 ?_
      refine m_aload_n C 0 dX10_keep_25 rfl ?_
      refine gfX10_53 C dX10_keep_26 ?_
      refine m_callVv C (44 + 5 * (ix k)) (bnc_lt (bnc_kept (by omega))) (sh_bench (bnc_kept (by omega)) _ _) rfl (c_X0_become l G mu nu (44 + 5 * ix k) (bnc_kept (by omega)) 38 bnc_38 (by omega)) wkX10_200 (by decide) rfl rfl (Nat.le_of_ble_eq_true rfl) dX10_keep_29 (fun m3 n3 hp3 => ?_)
      refine m_aload_n C 0 dX10_keep_32 rfl ?_
      refine gfX10_57 C dX10_keep_33 ?_
      refine m_iload_n C 1 dX10_keep_36 rfl ?_
      refine m_topi (nI (ix k)) ek ?_
      refine m_aald C 43 (by decide) 4 rfl ra_43 (ix k) (G.1 (44 + 5 * (ix k))) rfl (by omega) (by decide) rfl dX10_keep_37 ?_
      refine m_iconst C 1 dX10_keep_38 (by decide +kernel) ?_
      refine pfX10_130 C (44 + 5 * (ix k)) (bnc_kept (by omega)) rfl rfl dX10_keep_39 ?_
      refine m_nameM (fun mu4 emu4 => ?_)
      refine m_aload_n C 0 dX10_keep_42 rfl ?_
      refine gfX10_53 C dX10_keep_43 ?_
      refine gfX10_191 C 38 bnc_38 dX10_keep_46 ?_
      refine m_topi (nI ((z_B z).2.2.length)) (by rw [emu4, mu_up_ne (by omega), hp3.1.2.1 38 (by omega)]; exact hz.2.1.2.1) ?_
      refine m_ireti C hQ dX10_keep_49 ?_
      obtain ⟨⟨hcp, hfr⟩, hn2⟩ := hp3
      obtain ⟨q1, q2⟩ := zc_kp hz (k := ix k) (by omega) hcp hfr emu4
      rw [hn2]; exact PC_of (by unfold s_keep; rw [if_neg (by omega), if_neg (by omega)]) q1 q2
    replace hh2 := (ii_eq (nn_i (a := z_N z) rfl (by omega)) (nn_i (a := 0) rfl (by omega))).mp hh2
    refine m_bipush C (-4) dX10_keep_16 (by decide +kernel) ?_
    refine m_ireti C hQ dX10_keep_18 ?_
    exact PC_of (by unfold s_keep; rw [if_neg (by omega), if_pos (by omega)]) hz zcl_rfl
  replace hh1 := bI_eq0.mp hh1
  refine m_iconst C (-1) dX10_keep_7 (by decide +kernel) ?_
  refine m_ireti C hQ dX10_keep_8 ?_
  exact PC_of (by unfold s_keep; rw [if_pos (by omega)]) hz zcl_rfl

set_option maxHeartbeats 4000000 in
set_option maxRecDepth 100000 in
theorem c_X10_on (l : Launch) (G : Gl) (mu : Mu) (nu : Nu) (z : Zt) (hz : ZC mu nu z) (k : Int32) : Ci l G mX10_on 3 [.ref (G.1 0), .int k] mu nu (PC mu nu (s_on z k)) := by
  have hv : zv mu (z_V z) := hz.1
  have hw := hv.1
  have hN7 := hw.1
  have hm7 := hw.2.2.1
  have ho8 := hw.2.2.2.2
  have hcz : ((v_N (z_V z) : Nat) : Int) = ((z_N z : Nat) : Int) := rfl
  have hd40 : (z_B z).2.2.length ≤ 40 := hz.2.1.2.2.1
  have hwf : z_wf (z_N z) ((z_B z).1, (z_B z).2.1) := zb_wf hz.2.1
  have hzN : z_N z ≤ 7 := hN7
  have hml : v_m (z_V z) = (z_B z).1.length := rfl
  refine Ct.of (lv := [(0, .ref (G.1 0)), (1, .int k)]) rfl rfl (Nat.le_of_ble_eq_true rfl) rfl (fun X C => ?_)
  generalize hQ : g_E G X _ = Q
  replace C : Cx G 2 X cX10_on RX10 (some .int) 3 := C
  show Mq l G 2 X Q 0 [(0, .ref (G.1 0)), (1, .int k)] [] mu nu
  refine m_iload_n C 1 dX10_on_0 rfl ?_
  refine m_callSf C (c_X10_isKeepingPlace l G mu nu k) wkX10_197 (by decide) rfl rfl (Nat.le_of_ble_eq_true rfl) dX10_on_1 ?_
  refine m_if_ne C 9 dX10_on_4 (by decide) (fun hh1 => ?_) (fun hh1 => ?_)
  · replace hh1 := bI_ne0.mp hh1
    obtain ⟨ek, kk⟩ := ix_eq (x := k) (by omega)
    refine m_aload_n C 0 dX10_on_9 rfl ?_
    refine gfX10_57 C dX10_on_10 ?_
    refine m_iload_n C 1 dX10_on_13 rfl ?_
    refine m_topi (nI (ix k)) ek ?_
    refine m_aald C 43 (by decide) 4 rfl ra_43 (ix k) (G.1 (44 + 5 * (ix k))) rfl (by omega) (by decide) rfl dX10_on_14 ?_
    refine gfX10_130 C (44 + 5 * (ix k)) (bnc_kept (by omega)) dX10_on_15 ?_
    refine m_topi (bI ((z_kp z (ix k)).isSome = true)) ((hz.2.2.1 (ix k) (by omega)).1) ?_
    refine m_if_ne C 27 dX10_on_18 (by decide) (fun hh2 => ?_) (fun hh2 => ?_)
    · replace hh2 := bI_ne0.mp hh2
      obtain ⟨B, hke⟩ := Option.isSome_iff_exists.mp (by assumption : (z_kp z (ix k)).isSome = true)
      have hzb := (hz.2.2.1 (ix k) (by omega)).2 B hke
      have hB40 := hzb.2.2.1
      refine m_aload_n C 0 dX10_on_27 rfl ?_
      refine gfX10_53 C dX10_on_28 ?_
      refine m_aload_n C 0 dX10_on_31 rfl ?_
      refine gfX10_57 C dX10_on_32 ?_
      refine m_iload_n C 1 dX10_on_35 rfl ?_
      refine m_topi (nI (ix k)) ek ?_
      refine m_aald C 43 (by decide) 4 rfl ra_43 (ix k) (G.1 (44 + 5 * (ix k))) rfl (by omega) (by decide) rfl dX10_on_36 ?_
      refine m_callVv C 38 (by decide) rfl rfl (c_X0_become l G mu nu 38 bnc_38 (44 + 5 * ix k) (bnc_kept (by omega)) (by omega)) wkX10_200 (by decide) rfl rfl (Nat.le_of_ble_eq_true rfl) dX10_on_37 (fun m3 n3 hp3 => ?_)
      refine m_aload_n C 0 dX10_on_40 rfl ?_
      refine gfX10_53 C dX10_on_41 ?_
      refine gfX10_191 C 38 bnc_38 dX10_on_44 ?_
      refine m_topi (nI B.2.2.length) (by rw [hp3.1.1.2.2.1]; exact hzb.2.1) ?_
      refine m_ireti C hQ dX10_on_47 ?_
      obtain ⟨⟨hcp, hfr⟩, hn2⟩ := hp3
      obtain ⟨q1, q2⟩ := zc_bench hz (zb_cp hzb hcp) hfr
      rw [hn2]; exact PC_of (by unfold s_on; rw [if_neg (by omega)]; simp only [hke]) q1 q2
    replace hh2 := bI_eq0.mp hh2
    refine m_aload_n C 0 dX10_on_21 rfl ?_
    refine m_iconst C 1 dX10_on_22 (by decide +kernel) ?_
    refine m_callVi C 0 (by decide) rfl rfl (c_X10_found l G mu nu 1 (by decide)) wkX10_80 (by decide) rfl rfl (Nat.le_of_ble_eq_true rfl) dX10_on_23 (fun r4 m4 n4 hp4 => ?_)
    refine m_ireti C hQ dX10_on_26 ?_
    have hke := Option.not_isSome_iff_eq_none.mp (by assumption : ¬ (z_kp z (ix k)).isSome = true)
    exact PC_find hz (by decide) hp4 (by unfold s_on; rw [if_neg (by omega)]; simp only [hke])
  replace hh1 := bI_eq0.mp hh1
  refine m_iconst C (-1) dX10_on_7 (by decide +kernel) ?_
  refine m_ireti C hQ dX10_on_8 ?_
  exact PC_of (by unfold s_on; rw [if_pos (by omega)]) hz zcl_rfl
