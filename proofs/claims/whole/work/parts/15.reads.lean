abbrev Vw : Type := Nat × (Nat → Nat) × (Nat → Nat) × (Nat → Nat) × List Nat × Nat
def v_N (V : Vw) : Nat := V.1
def v_kd (V : Vw) : Nat → Nat := V.2.1
def v_d0 (V : Vw) : Nat → Nat := V.2.2.1
def v_mk (V : Vw) : Nat → Nat := V.2.2.2.1
def v_F (V : Vw) : List Nat := V.2.2.2.2.1
def v_ov (V : Vw) : Nat := V.2.2.2.2.2
def v_m (V : Vw) : Nat := (v_F V).length
def v_fr (V : Vw) (p : Nat) : Nat := (v_F V).getD p 0
def v_dg (V : Vw) (i : Nat) : Nat := if v_ov V / 2 ^ i % 2 = 1 then 9 - v_d0 V i else v_d0 V i
def v_as (V : Vw) (i k n : Nat) : Nat := s_sh k (v_dg V i) (v_mk V i) n
def v_sh (V : Vw) (i n : Nat) : Nat := v_as V i (v_kd V i) n
def v_wf (V : Vw) : Prop := v_N V ≤ 7 ∧ (∀ i, i < v_N V → v_kd V i < 6 ∧ v_d0 V i ≤ 9 ∧ v_mk V i ≤ 9) ∧ v_m V ≤ 7 ∧ (∀ p, p < v_m V → v_fr V p < v_N V) ∧ v_ov V < 128
/-- the class's memory holds this box, this frame -/
def zv (mu : Mu) (V : Vw) : Prop := v_wf V ∧ mu 0 4 = nI (v_N V) ∧ (∀ i, i < v_N V → mu (31 + i) 0 = nI (24 + v_kd V i) ∧ mu (31 + i) 1 = nI (v_kd V i) ∧ mu (31 + i) 2 = nI (v_d0 V i) ∧ mu (31 + i) 3 = nI (v_mk V i)) ∧ z_bs mu 38 (v_F V) (v_ov V)
theorem v_dg_le {V : Vw} (h : v_wf V) {i : Nat} (hi : i < v_N V) : v_dg V i ≤ 9 := by
  have := (h.2.1 i hi).2.1
  unfold v_dg
  split <;> omega
theorem v_as_le {V : Vw} (h : v_wf V) {i k n : Nat} (hi : i < v_N V) (hn : n ≤ 9) : v_as V i k n ≤ 81 := s_sh_le (v_dg_le h hi) hn
theorem v_sh_le {V : Vw} (h : v_wf V) {i n : Nat} (hi : i < v_N V) (hn : n ≤ 9) : v_sh V i n ≤ 81 := v_as_le h hi hn
/-- read off, the rod at a place having another digit -/
def v_rw (V : Vw) (pl : Int) (d n : Nat) : Nat → Nat
  | 0 => 0
  | p + 1 => 10 * v_rw V pl d n p + s_sh (v_kd V (v_fr V p)) (if (p : Int) = pl then d else v_dg V (v_fr V p)) (v_mk V (v_fr V p)) n
def v_rd (V : Vw) (n : Nat) : Nat → Nat
  | 0 => 0
  | p + 1 => 10 * v_rd V n p + v_sh V (v_fr V p) n
def v_rt (V : Vw) : Nat → Nat
  | 0 => 0
  | p + 1 => 10 * v_rt V p + v_dg V (v_fr V p)
/-- read off, some places having fallen out: those without a bit -/
def v_rl (V : Vw) (n set : Nat) : Nat → Nat
  | 0 => 0
  | p + 1 => 10 * v_rl V n set p + (if set / 2 ^ p % 2 = 1 then v_sh V (v_fr V p) n else 0)
theorem v_rw_rd (V : Vw) (n : Nat) : ∀ p, v_rw V (-9) 0 n p = v_rd V n p
  | 0 => rfl
  | p + 1 => by
    show 10 * v_rw V (-9) 0 n p + _ = 10 * v_rd V n p + v_sh V (v_fr V p) n
    rw [v_rw_rd V n p, if_neg (by omega)]
    rfl
theorem zv_d0 {mu : Mu} {V : Vw} (h : zv mu V) {i : Nat} (hi : i < v_N V) : mu (31 + i) 2 = nI (v_d0 V i) := (h.2.2.1 i hi).2.2.1
theorem zv_kd {mu : Mu} {V : Vw} (h : zv mu V) {i : Nat} (hi : i < v_N V) : mu (31 + i) 1 = nI (v_kd V i) := (h.2.2.1 i hi).2.1
theorem zv_mk {mu : Mu} {V : Vw} (h : zv mu V) {i : Nat} (hi : i < v_N V) : mu (31 + i) 3 = nI (v_mk V i) := (h.2.2.1 i hi).2.2.2
theorem zv_kr {mu : Mu} {V : Vw} (h : zv mu V) {i : Nat} (hi : i < v_N V) : (mu (31 + i) 0).toNatClampNeg = 24 + v_kd V i := by
  rw [(h.2.2.1 i hi).1, nI_clamp]
  have := (h.1.2.1 i hi).1
  omega
theorem zv_fr {mu : Mu} {V : Vw} (h : zv mu V) {p : Nat} (hp : p < v_m V) : mu 39 p = nI (v_fr V p) := h.2.2.2.2.2.1 p hp
theorem zv_m {mu : Mu} {V : Vw} (h : zv mu V) : mu 38 1 = nI (v_m V) := h.2.2.2.1
theorem zv_ov {mu : Mu} {V : Vw} (h : zv mu V) : mu 38 2 = nI (v_ov V) := h.2.2.2.2.2.2.1
def s_isA (k t : Nat) : Prop := k = t ∨ (t = 1 ∧ k = 4) ∨ (t = 2 ∧ k = 5)
theorem s_isA_iff {k t : Nat} : s_isA k t ↔ (k = t ∨ (t = 1 ∧ k = 4) ∨ (t = 2 ∧ k = 5)) := Iff.rfl
section
variable {l : Launch} {G : Gl} {nL : Nat} {X : Bx} {Q : State → Prop} {cc : ByteArray} {own : String} {ret : Option FieldType} {fr pc : Nat} {lv : List (Nat × Value)} {st : List Value} {mu : Mu} {nu : Nu}
theorem m_topr {a b : Nat} (h : a = b) (kk : Mq l G nL X Q pc lv (.ref b :: st) mu nu) : Mq l G nL X Q pc lv (.ref a :: st) mu nu := by rw [h]; exact kk
theorem m_shown (C : Cx G nL X cc RX10 ret fr) {k d m n : Nat} (hk : k < 6) (hd : d ≤ 9) (hm : m ≤ 9) (h1 : 1 ≤ n) (h9 : n ≤ 9) (hf : 4 ≤ fr) (hrm : (st.map fun v => v.category).sum ≤ 8) (dd : decode cc pc = .ok (.invokevirtual 336, 3))
    (kk : Mq l G nL X Q (pc + 3) lv (.int (nI (s_sh k d m n)) :: st) mu nu) : Mq l G nL X Q pc lv (.int (nI n) :: .int (nI m) :: .int (nI d) :: .ref (G.1 (24 + k)) :: st) mu nu := by
  have : k = 0 ∨ k = 1 ∨ k = 2 ∨ k = 3 ∨ k = 4 ∨ k = 5 := by omega
  rcases this with rfl | rfl | rfl | rfl | rfl | rfl
  · exact m_callOf C 24 (by decide) rfl rfl (c_X3_shown l G mu nu (G.1 24) d m n) wkX10_336_X3 (by omega) rfl rfl hrm dd kk
  · exact m_callOf C 25 (by decide) rfl rfl (c_X9_shown_25 l G mu nu d m n hd hm h1 h9) wkX10_336_X9 (by omega) rfl rfl hrm dd kk
  · exact m_callOf C 26 (by decide) rfl rfl (c_X8_shown_26 l G mu nu d m n hd hm h1 h9) wkX10_336_X8 (by omega) rfl rfl hrm dd kk
  · exact m_callOf C 27 (by decide) rfl rfl (c_X6_shown l G mu nu d m n hd hm h1 h9) wkX10_336_X6 (by omega) rfl rfl hrm dd kk
  · exact m_callOf C 28 (by decide) rfl rfl (c_X9_shown_28 l G mu nu d m n hd hm h1 h9) wkX10_336_X1 (by omega) rfl rfl hrm dd kk
  · exact m_callOf C 29 (by decide) rfl rfl (c_X2_shown l G mu nu d m n hd hm h1 h9) wkX10_336_X2 (by omega) rfl rfl hrm dd kk
theorem m_inst26 (C : Cx G nL X cc RX10 ret fr) {k : Nat} (hk : k < 6) (d : decode cc pc = .ok (.instanceof 26, 3)) (kk : Mq l G nL X Q (pc + 3) lv (.int (bI (k = 1 ∨ ((1 : Nat) = 1 ∧ k = 4) ∨ ((1 : Nat) = 2 ∧ k = 5))) :: st) mu nu) : Mq l G nL X Q pc lv (.ref (G.1 (24 + k)) :: st) mu nu := by
  have : k = 0 ∨ k = 1 ∨ k = 2 ∨ k = 3 ∨ k = 4 ∨ k = 5 := by omega
  rcases this with rfl | rfl | rfl | rfl | rfl | rfl
  · exact m_instN C 24 (by decide) rfl rfl wlX10_26 (by decide +kernel) d kk
  · exact m_instS C 25 (by decide) rfl rfl wlX10_26 d kk
  · exact m_instN C 26 (by decide) rfl rfl wlX10_26 (by decide +kernel) d kk
  · exact m_instN C 27 (by decide) rfl rfl wlX10_26 (by decide +kernel) d kk
  · exact m_instY C 28 (by decide) rfl rfl wlX10_26 wyX1_X9 d kk
  · exact m_instN C 29 (by decide) rfl rfl wlX10_26 (by decide +kernel) d kk
theorem m_inst29 (C : Cx G nL X cc RX10 ret fr) {k : Nat} (hk : k < 6) (d : decode cc pc = .ok (.instanceof 29, 3)) (kk : Mq l G nL X Q (pc + 3) lv (.int (bI (k = 2 ∨ ((2 : Nat) = 1 ∧ k = 4) ∨ ((2 : Nat) = 2 ∧ k = 5))) :: st) mu nu) : Mq l G nL X Q pc lv (.ref (G.1 (24 + k)) :: st) mu nu := by
  have : k = 0 ∨ k = 1 ∨ k = 2 ∨ k = 3 ∨ k = 4 ∨ k = 5 := by omega
  rcases this with rfl | rfl | rfl | rfl | rfl | rfl
  · exact m_instN C 24 (by decide) rfl rfl wlX10_29 (by decide +kernel) d kk
  · exact m_instN C 25 (by decide) rfl rfl wlX10_29 (by decide +kernel) d kk
  · exact m_instS C 26 (by decide) rfl rfl wlX10_29 d kk
  · exact m_instN C 27 (by decide) rfl rfl wlX10_29 (by decide +kernel) d kk
  · exact m_instN C 28 (by decide) rfl rfl wlX10_29 (by decide +kernel) d kk
  · exact m_instY C 29 (by decide) rfl rfl wlX10_29 wyX2_X8 d kk
theorem m_inst32 (C : Cx G nL X cc RX10 ret fr) {k : Nat} (hk : k < 6) (d : decode cc pc = .ok (.instanceof 32, 3)) (kk : Mq l G nL X Q (pc + 3) lv (.int (bI (k = 3 ∨ ((3 : Nat) = 1 ∧ k = 4) ∨ ((3 : Nat) = 2 ∧ k = 5))) :: st) mu nu) : Mq l G nL X Q pc lv (.ref (G.1 (24 + k)) :: st) mu nu := by
  have : k = 0 ∨ k = 1 ∨ k = 2 ∨ k = 3 ∨ k = 4 ∨ k = 5 := by omega
  rcases this with rfl | rfl | rfl | rfl | rfl | rfl
  · exact m_instN C 24 (by decide) rfl rfl wlX10_32 (by decide +kernel) d kk
  · exact m_instN C 25 (by decide) rfl rfl wlX10_32 (by decide +kernel) d kk
  · exact m_instN C 26 (by decide) rfl rfl wlX10_32 (by decide +kernel) d kk
  · exact m_instS C 27 (by decide) rfl rfl wlX10_32 d kk
  · exact m_instN C 28 (by decide) rfl rfl wlX10_32 (by decide +kernel) d kk
  · exact m_instN C 29 (by decide) rfl rfl wlX10_32 (by decide +kernel) d kk
theorem m_inst35 (C : Cx G nL X cc RX10 ret fr) {k : Nat} (hk : k < 6) (d : decode cc pc = .ok (.instanceof 35, 3)) (kk : Mq l G nL X Q (pc + 3) lv (.int (bI (k = 4 ∨ ((4 : Nat) = 1 ∧ k = 4) ∨ ((4 : Nat) = 2 ∧ k = 5))) :: st) mu nu) : Mq l G nL X Q pc lv (.ref (G.1 (24 + k)) :: st) mu nu := by
  have : k = 0 ∨ k = 1 ∨ k = 2 ∨ k = 3 ∨ k = 4 ∨ k = 5 := by omega
  rcases this with rfl | rfl | rfl | rfl | rfl | rfl
  · exact m_instN C 24 (by decide) rfl rfl wlX10_35 (by decide +kernel) d kk
  · exact m_instN C 25 (by decide) rfl rfl wlX10_35 (by decide +kernel) d kk
  · exact m_instN C 26 (by decide) rfl rfl wlX10_35 (by decide +kernel) d kk
  · exact m_instN C 27 (by decide) rfl rfl wlX10_35 (by decide +kernel) d kk
  · exact m_instS C 28 (by decide) rfl rfl wlX10_35 d kk
  · exact m_instN C 29 (by decide) rfl rfl wlX10_35 (by decide +kernel) d kk
theorem m_inst38 (C : Cx G nL X cc RX10 ret fr) {k : Nat} (hk : k < 6) (d : decode cc pc = .ok (.instanceof 38, 3)) (kk : Mq l G nL X Q (pc + 3) lv (.int (bI (k = 5 ∨ ((5 : Nat) = 1 ∧ k = 4) ∨ ((5 : Nat) = 2 ∧ k = 5))) :: st) mu nu) : Mq l G nL X Q pc lv (.ref (G.1 (24 + k)) :: st) mu nu := by
  have : k = 0 ∨ k = 1 ∨ k = 2 ∨ k = 3 ∨ k = 4 ∨ k = 5 := by omega
  rcases this with rfl | rfl | rfl | rfl | rfl | rfl
  · exact m_instN C 24 (by decide) rfl rfl wlX10_38 (by decide +kernel) d kk
  · exact m_instN C 25 (by decide) rfl rfl wlX10_38 (by decide +kernel) d kk
  · exact m_instN C 26 (by decide) rfl rfl wlX10_38 (by decide +kernel) d kk
  · exact m_instN C 27 (by decide) rfl rfl wlX10_38 (by decide +kernel) d kk
  · exact m_instN C 28 (by decide) rfl rfl wlX10_38 (by decide +kernel) d kk
  · exact m_instS C 29 (by decide) rfl rfl wlX10_38 d kk
end
def s_of (V : Vw) (i what : Nat) : Int32 := if what = 0 then nI (v_kd V i) else if what = 1 then nI (v_dg V i) else if what = 2 then nI (v_mk V i) else if what = 3 then s_pl (v_F V) i else nI (v_ov V / 2 ^ i % 2)
theorem s_of0 {V : Vw} {i w : Nat} (h : (w : Int) = 0) : nI (v_kd V i) = s_of V i w := by unfold s_of; rw [if_pos (by omega)]
theorem s_of1 {V : Vw} {i w : Nat} (h : (w : Int) = 1) : nI (v_dg V i) = s_of V i w := by unfold s_of; rw [if_neg (by omega), if_pos (by omega)]
theorem s_of2 {V : Vw} {i w : Nat} (h : (w : Int) = 2) : nI (v_mk V i) = s_of V i w := by unfold s_of; rw [if_neg (by omega), if_neg (by omega), if_pos (by omega)]
theorem s_of3 {V : Vw} {i w : Nat} (h : (w : Int) = 3) : s_pl (v_F V) i = s_of V i w := by unfold s_of; rw [if_neg (by omega), if_neg (by omega), if_neg (by omega), if_pos (by omega)]
theorem s_of4 {V : Vw} {i w : Nat} (h : 3 < (w : Int)) : nI (v_ov V / 2 ^ i % 2) = s_of V i w := by unfold s_of; rw [if_neg (by omega), if_neg (by omega), if_neg (by omega), if_neg (by omega)]
set_option maxHeartbeats 4000000 in
set_option maxRecDepth 100000 in
theorem c_X10_isRod (l : Launch) (G : Gl) (mu : Mu) (nu : Nu) (V : Vw) (hv : zv mu V) (i : Int32) : Cf l G mX10_isRod 1 [.ref (G.1 0), .int i] mu nu (.int (bI (0 ≤ i.toInt ∧ i.toInt < v_N V))) := by
  have hw := hv.1
  have hN7 := hw.1
  have hm7 := hw.2.2.1
  have ho8 := hw.2.2.2.2
  refine Ct.of (lv := [(0, .ref (G.1 0)), (1, .int i)]) rfl rfl (Nat.le_of_ble_eq_true rfl) rfl (fun X C => ?_)
  generalize hQ : g_E G X _ = Q
  replace C : Cx G 2 X cX10_isRod RX10 (some .boolean) 1 := C
  show Mq l G 2 X Q 0 [(0, .ref (G.1 0)), (1, .int i)] [] mu nu
  refine m_iload_n C 1 dX10_isRod_0 rfl ?_
  refine m_if_lt C 16 dX10_isRod_1 (by decide) (fun hh1 => ?_) (fun hh1 => ?_)
  · replace hh1 := (ii_lt (rfl : (i).toInt = _) (nn_i (a := 0) rfl (by omega))).mp hh1
    refine m_iconst C 0 dX10_isRod_16 (by decide +kernel) ?_
    refine m_zretf C hQ dX10_isRod_17 rfl rfl rfl ?_
    exact bI_f (by omega)
  replace hh1 := mt (ii_lt (rfl : (i).toInt = _) (nn_i (a := 0) rfl (by omega))).mpr hh1
  refine m_iload_n C 1 dX10_isRod_4 rfl ?_
  refine m_aload_n C 0 dX10_isRod_5 rfl ?_
  refine gfX10_134 C dX10_isRod_6 ?_
  refine m_topi (nI (v_N V)) hv.2.1 ?_
  refine m_icmp_ge C 16 dX10_isRod_9 (by decide) (fun hh2 => ?_) (fun hh2 => ?_)
  · replace hh2 := (ii_le (nn_i (a := v_N V) rfl (by omega)) (rfl : (i).toInt = _)).mp hh2
    refine m_iconst C 0 dX10_isRod_16 (by decide +kernel) ?_
    refine m_zretf C hQ dX10_isRod_17 rfl rfl rfl ?_
    exact bI_f (by omega)
  replace hh2 := mt (ii_le (nn_i (a := v_N V) rfl (by omega)) (rfl : (i).toInt = _)).mpr hh2
  refine m_iconst C 1 dX10_isRod_12 (by decide +kernel) ?_
  refine m_goto C 17 dX10_isRod_13 (by decide) ?_
  refine m_zretf C hQ dX10_isRod_17 rfl rfl rfl ?_
  exact bI_t (by omega)

set_option maxHeartbeats 4000000 in
set_option maxRecDepth 100000 in
theorem c_X10_digitNow (l : Launch) (G : Gl) (mu : Mu) (nu : Nu) (V : Vw) (hv : zv mu V) (i : Nat) (hi : i < v_N V) : Cf l G mX10_digitNow 2 [.ref (G.1 0), .int (nI i)] mu nu (.int (nI (v_dg V i))) := by
  have hw := hv.1
  have hN7 := hw.1
  have hm7 := hw.2.2.1
  have ho8 := hw.2.2.2.2
  have hri := hw.2.1 i hi
  refine Ct.of (lv := [(0, .ref (G.1 0)), (1, .int (nI i))]) rfl rfl (Nat.le_of_ble_eq_true rfl) rfl (fun X C => ?_)
  generalize hQ : g_E G X _ = Q
  replace C : Cx G 2 X cX10_digitNow RX10 (some .int) 2 := C
  show Mq l G 2 X Q 0 [(0, .ref (G.1 0)), (1, .int (nI i))] [] mu nu
  refine m_aload_n C 0 dX10_digitNow_0 rfl ?_
  refine gfX10_53 C dX10_digitNow_1 ?_
  refine m_iload_n C 1 dX10_digitNow_4 rfl ?_
  refine m_callVf C 38 (by decide) rfl rfl (c_X0_isOver l G mu nu 38 bnc_38 (v_ov V) i (zv_ov hv) (by omega) (by omega)) wkX10_333 (by decide) rfl rfl (Nat.le_of_ble_eq_true rfl) dX10_digitNow_5 ?_
  refine m_if_eq C 26 dX10_digitNow_8 (by decide) (fun hh1 => ?_) (fun hh1 => ?_)
  · replace hh1 := bI_eq0.mp hh1
    refine m_aload_n C 0 dX10_digitNow_26 rfl ?_
    refine gfX10_43 C dX10_digitNow_27 ?_
    refine m_iload_n C 1 dX10_digitNow_30 rfl ?_
    refine m_aald C 30 (by decide) 3 rfl ra_30 i (G.1 (31 + i)) rfl (by omega) (by decide) rfl dX10_digitNow_31 ?_
    refine gfX10_330 C (31 + i) (rdc_of (by omega)) dX10_digitNow_32 ?_
    refine m_topi (nI (v_d0 V i)) (zv_d0 hv hi) ?_
    refine m_iretf C hQ dX10_digitNow_35 rfl rfl ?_
    unfold v_dg; rw [if_neg (by assumption)]
  replace hh1 := bI_ne0.mp hh1
  refine m_bipush C 9 dX10_digitNow_11 (by decide +kernel) ?_
  refine m_aload_n C 0 dX10_digitNow_13 rfl ?_
  refine gfX10_43 C dX10_digitNow_14 ?_
  refine m_iload_n C 1 dX10_digitNow_17 rfl ?_
  refine m_aald C 30 (by decide) 3 rfl ra_30 i (G.1 (31 + i)) rfl (by omega) (by decide) rfl dX10_digitNow_18 ?_
  refine gfX10_330 C (31 + i) (rdc_of (by omega)) dX10_digitNow_19 ?_
  refine m_topi (nI (v_d0 V i)) (zv_d0 hv hi) ?_
  refine m_isub C dX10_digitNow_22 ?_
  refine m_topi (nI (9 - (v_d0 V i))) (nn_sub rfl rfl (by omega)) ?_
  refine m_goto C 35 dX10_digitNow_23 (by decide) ?_
  refine m_iretf C hQ dX10_digitNow_35 rfl rfl ?_
  unfold v_dg; rw [if_pos (by assumption)]

set_option maxHeartbeats 4000000 in
set_option maxRecDepth 100000 in
theorem c_X10_shownNow (l : Launch) (G : Gl) (mu : Mu) (nu : Nu) (V : Vw) (hv : zv mu V) (i : Nat) (hi : i < v_N V) (n : Nat) (h1 : 1 ≤ n) (h9 : n ≤ 9) : Cf l G mX10_shownNow 5 [.ref (G.1 0), .int (nI i), .int (nI n)] mu nu (.int (nI (v_sh V i n))) := by
  have hw := hv.1
  have hN7 := hw.1
  have hm7 := hw.2.2.1
  have ho8 := hw.2.2.2.2
  have hri := hw.2.1 i hi
  have hdi := v_dg_le hw hi
  refine Ct.of (lv := [(0, .ref (G.1 0)), (1, .int (nI i)), (2, .int (nI n))]) rfl rfl (Nat.le_of_ble_eq_true rfl) rfl (fun X C => ?_)
  generalize hQ : g_E G X _ = Q
  replace C : Cx G 3 X cX10_shownNow RX10 (some .int) 5 := C
  show Mq l G 3 X Q 0 [(0, .ref (G.1 0)), (1, .int (nI i)), (2, .int (nI n))] [] mu nu
  refine m_aload_n C 0 dX10_shownNow_0 rfl ?_
  refine gfX10_43 C dX10_shownNow_1 ?_
  refine m_iload_n C 1 dX10_shownNow_4 rfl ?_
  refine m_aald C 30 (by decide) 3 rfl ra_30 i (G.1 (31 + i)) rfl (by omega) (by decide) rfl dX10_shownNow_5 ?_
  refine gfX10_144 C (31 + i) (rdc_of (by omega)) dX10_shownNow_6 ?_
  refine m_topr (b := G.1 (24 + v_kd V i)) (congrArg G.1 (zv_kr hv hi)) ?_
  refine m_aload_n C 0 dX10_shownNow_9 rfl ?_
  refine m_iload_n C 1 dX10_shownNow_10 rfl ?_
  refine m_callVf C 0 (by decide) rfl rfl (c_X10_digitNow l G mu nu V hv i (by omega)) wkX10_188 (by decide) rfl rfl (Nat.le_of_ble_eq_true rfl) dX10_shownNow_11 ?_
  refine m_aload_n C 0 dX10_shownNow_14 rfl ?_
  refine gfX10_43 C dX10_shownNow_15 ?_
  refine m_iload_n C 1 dX10_shownNow_18 rfl ?_
  refine m_aald C 30 (by decide) 3 rfl ra_30 i (G.1 (31 + i)) rfl (by omega) (by decide) rfl dX10_shownNow_19 ?_
  refine gfX10_238 C (31 + i) (rdc_of (by omega)) dX10_shownNow_20 ?_
  refine m_topi (nI (v_mk V i)) (zv_mk hv hi) ?_
  refine m_iload_n C 2 dX10_shownNow_23 rfl ?_
  refine m_shown C (k := v_kd V i) (d := v_dg V i) (m := v_mk V i) (n := n) (by omega) (by omega) (by omega) (by omega) (by omega) (by decide) (Nat.le_of_ble_eq_true rfl) dX10_shownNow_24 ?_
  refine m_iretf C hQ dX10_shownNow_27 rfl rfl ?_
  rfl

set_option maxHeartbeats 4000000 in
set_option maxRecDepth 100000 in
theorem c_X10_shownAs (l : Launch) (G : Gl) (mu : Mu) (nu : Nu) (V : Vw) (hv : zv mu V) (i : Nat) (hi : i < v_N V) (k : Nat) (hk : k < 6) (n : Nat) (h1 : 1 ≤ n) (h9 : n ≤ 9) : Cf l G mX10_shownAs 5 [.ref (G.1 0), .int (nI i), .int (nI k), .int (nI n)] mu nu (.int (nI (v_as V i k n))) := by
  have hw := hv.1
  have hN7 := hw.1
  have hm7 := hw.2.2.1
  have ho8 := hw.2.2.2.2
  have hri := hw.2.1 i hi
  have hdi := v_dg_le hw hi
  refine Ct.of (lv := [(0, .ref (G.1 0)), (1, .int (nI i)), (2, .int (nI k)), (3, .int (nI n))]) rfl rfl (Nat.le_of_ble_eq_true rfl) rfl (fun X C => ?_)
  generalize hQ : g_E G X _ = Q
  replace C : Cx G 4 X cX10_shownAs RX10 (some .int) 5 := C
  show Mq l G 4 X Q 0 [(0, .ref (G.1 0)), (1, .int (nI i)), (2, .int (nI k)), (3, .int (nI n))] [] mu nu
  refine m_aload_n C 0 dX10_shownAs_0 rfl ?_
  refine gfX10_21 C dX10_shownAs_1 ?_
  refine m_iload_n C 2 dX10_shownAs_4 rfl ?_
  refine m_aald C 23 (by decide) 2 rfl ra_23 k (G.1 (24 + k)) rfl (by omega) (by decide) rfl dX10_shownAs_5 ?_
  refine m_aload_n C 0 dX10_shownAs_6 rfl ?_
  refine m_iload_n C 1 dX10_shownAs_7 rfl ?_
  refine m_callVf C 0 (by decide) rfl rfl (c_X10_digitNow l G mu nu V hv i (by omega)) wkX10_188 (by decide) rfl rfl (Nat.le_of_ble_eq_true rfl) dX10_shownAs_8 ?_
  refine m_aload_n C 0 dX10_shownAs_11 rfl ?_
  refine gfX10_43 C dX10_shownAs_12 ?_
  refine m_iload_n C 1 dX10_shownAs_15 rfl ?_
  refine m_aald C 30 (by decide) 3 rfl ra_30 i (G.1 (31 + i)) rfl (by omega) (by decide) rfl dX10_shownAs_16 ?_
  refine gfX10_238 C (31 + i) (rdc_of (by omega)) dX10_shownAs_17 ?_
  refine m_topi (nI (v_mk V i)) (zv_mk hv hi) ?_
  refine m_iload_n C 3 dX10_shownAs_20 rfl ?_
  refine m_shown C (k := k) (d := v_dg V i) (m := v_mk V i) (n := n) (by omega) (by omega) (by omega) (by omega) (by omega) (by decide) (Nat.le_of_ble_eq_true rfl) dX10_shownAs_21 ?_
  refine m_iretf C hQ dX10_shownAs_24 rfl rfl ?_
  rfl

set_option maxHeartbeats 4000000 in
set_option maxRecDepth 100000 in
theorem c_X10_ofRod (l : Launch) (G : Gl) (mu : Mu) (nu : Nu) (V : Vw) (hv : zv mu V) (i : Nat) (hi : i < v_N V) (w : Nat) (hw4 : w ≤ 4) : Cf l G mX10_ofRod 3 [.ref (G.1 0), .int (nI i), .int (nI w)] mu nu (.int (s_of V i w)) := by
  have hw := hv.1
  have hN7 := hw.1
  have hm7 := hw.2.2.1
  have ho8 := hw.2.2.2.2
  refine Ct.of (lv := [(0, .ref (G.1 0)), (1, .int (nI i)), (2, .int (nI w))]) rfl rfl (Nat.le_of_ble_eq_true rfl) rfl (fun X C => ?_)
  generalize hQ : g_E G X _ = Q
  replace C : Cx G 3 X cX10_ofRod RX10 (some .int) 3 := C
  show Mq l G 3 X Q 0 [(0, .ref (G.1 0)), (1, .int (nI i)), (2, .int (nI w))] [] mu nu
  refine m_iload_n C 2 dX10_ofRod_0 rfl ?_
  have hh1i : (nI w).toInt = ((w : Nat) : Int) := (nn_i (a := w) rfl (by omega))
  have hh1 : (((w : Nat) : Int) < 0 ∨ 3 < ((w : Nat) : Int)) ∨ ((w : Nat) : Int) = 0 ∨ ((w : Nat) : Int) = 1 ∨ ((w : Nat) : Int) = 2 ∨ ((w : Nat) : Int) = 3 := by omega
  rcases hh1 with hh1 | hh1 | hh1 | hh1 | hh1
  · refine m_tblOut C 67 dX10_ofRod_1 (by rw [hh1i]; exact hh1) (by decide) ?_
    refine m_aload_n C 0 dX10_ofRod_67 rfl ?_
    refine gfX10_53 C dX10_ofRod_68 ?_
    refine m_iload_n C 1 dX10_ofRod_71 rfl ?_
    refine m_callVf C 38 (by decide) rfl rfl (c_X0_isOver l G mu nu 38 bnc_38 (v_ov V) i (zv_ov hv) (by omega) (by omega)) wkX10_333 (by decide) rfl rfl (Nat.le_of_ble_eq_true rfl) dX10_ofRod_72 ?_
    refine m_if_eq C 82 dX10_ofRod_75 (by decide) (fun hh2 => ?_) (fun hh2 => ?_)
    · replace hh2 := bI_eq0.mp hh2
      refine m_iconst C 0 dX10_ofRod_82 (by decide +kernel) ?_
      refine m_iretf C hQ dX10_ofRod_83 rfl rfl ?_
      rw [← s_of4 (V := V) (i := i) (w := w) (by omega), show v_ov V / 2 ^ i % 2 = 0 by omega]; rfl
    replace hh2 := bI_ne0.mp hh2
    refine m_iconst C 1 dX10_ofRod_78 (by decide +kernel) ?_
    refine m_goto C 83 dX10_ofRod_79 (by decide) ?_
    refine m_iretf C hQ dX10_ofRod_83 rfl rfl ?_
    rw [← s_of4 (V := V) (i := i) (w := w) (by omega), show v_ov V / 2 ^ i % 2 = 1 by omega]; rfl
  · refine m_tblIn C 32 dX10_ofRod_1 (by rw [hh1i]; omega) (by rw [hh1i]; omega) (off := 31) (by rw [hh1i, hh1]; decide +kernel) (by decide) ?_
    refine m_aload_n C 0 dX10_ofRod_32 rfl ?_
    refine gfX10_43 C dX10_ofRod_33 ?_
    refine m_iload_n C 1 dX10_ofRod_36 rfl ?_
    refine m_aald C 30 (by decide) 3 rfl ra_30 i (G.1 (31 + i)) rfl (by omega) (by decide) rfl dX10_ofRod_37 ?_
    refine gfX10_327 C (31 + i) (rdc_of (by omega)) dX10_ofRod_38 ?_
    refine m_topi (nI (v_kd V i)) (zv_kd hv hi) ?_
    refine m_iretf C hQ dX10_ofRod_41 rfl rfl ?_
    exact s_of0 hh1
  · refine m_tblIn C 42 dX10_ofRod_1 (by rw [hh1i]; omega) (by rw [hh1i]; omega) (off := 41) (by rw [hh1i, hh1]; decide +kernel) (by decide) ?_
    refine m_aload_n C 0 dX10_ofRod_42 rfl ?_
    refine m_iload_n C 1 dX10_ofRod_43 rfl ?_
    refine m_callVf C 0 (by decide) rfl rfl (c_X10_digitNow l G mu nu V hv i (by omega)) wkX10_188 (by decide) rfl rfl (Nat.le_of_ble_eq_true rfl) dX10_ofRod_44 ?_
    refine m_iretf C hQ dX10_ofRod_47 rfl rfl ?_
    exact s_of1 hh1
  · refine m_tblIn C 48 dX10_ofRod_1 (by rw [hh1i]; omega) (by rw [hh1i]; omega) (off := 47) (by rw [hh1i, hh1]; decide +kernel) (by decide) ?_
    refine m_aload_n C 0 dX10_ofRod_48 rfl ?_
    refine gfX10_43 C dX10_ofRod_49 ?_
    refine m_iload_n C 1 dX10_ofRod_52 rfl ?_
    refine m_aald C 30 (by decide) 3 rfl ra_30 i (G.1 (31 + i)) rfl (by omega) (by decide) rfl dX10_ofRod_53 ?_
    refine gfX10_238 C (31 + i) (rdc_of (by omega)) dX10_ofRod_54 ?_
    refine m_topi (nI (v_mk V i)) (zv_mk hv hi) ?_
    refine m_iretf C hQ dX10_ofRod_57 rfl rfl ?_
    exact s_of2 hh1
  · refine m_tblIn C 58 dX10_ofRod_1 (by rw [hh1i]; omega) (by rw [hh1i]; omega) (off := 57) (by rw [hh1i, hh1]; decide +kernel) (by decide) ?_
    refine m_aload_n C 0 dX10_ofRod_58 rfl ?_
    refine gfX10_53 C dX10_ofRod_59 ?_
    refine m_iload_n C 1 dX10_ofRod_62 rfl ?_
    refine m_callVf C 38 (by decide) rfl rfl (c_X0_placeOf l G mu nu 38 bnc_38 (v_F V) (v_ov V) hv.2.2.2 i (by omega)) wkX10_165 (by decide) rfl rfl (Nat.le_of_ble_eq_true rfl) dX10_ofRod_63 ?_
    refine m_iretf C hQ dX10_ofRod_66 rfl rfl ?_
    exact s_of3 hh1

set_option maxHeartbeats 4000000 in
set_option maxRecDepth 100000 in
theorem c_X10_readWith (l : Launch) (G : Gl) (mu : Mu) (nu : Nu) (V : Vw) (hv : zv mu V) (pl : Int32) (d : Nat) (hd : d ≤ 9) (n : Nat) (h1 : 1 ≤ n) (h9 : n ≤ 9) : Cf l G mX10_readWith 5 [.ref (G.1 0), .int pl, .int (nI d), .int (nI n)] mu nu (.int (nI (v_rw V pl.toInt d n (v_m V)))) := by
  have hw := hv.1
  have hN7 := hw.1
  have hm7 := hw.2.2.1
  have ho8 := hw.2.2.2.2
  refine Ct.of (lv := [(0, .ref (G.1 0)), (1, .int pl), (2, .int (nI d)), (3, .int (nI n))]) rfl rfl (Nat.le_of_ble_eq_true rfl) rfl (fun X C => ?_)
  generalize hQ : g_E G X _ = Q
  replace C : Cx G 8 X cX10_readWith RX10 (some .int) 5 := C
  show Mq l G 8 X Q 0 [(0, .ref (G.1 0)), (1, .int pl), (2, .int (nI d)), (3, .int (nI n))] [] mu nu
  refine m_iconst C 0 dX10_readWith_0 (by decide +kernel) ?_
  refine m_istore C [(4, .int 0), (0, .ref (G.1 0)), (1, .int pl), (2, .int (nI d)), (3, .int (nI n))] dX10_readWith_1 (by decide) rfl ?_
  refine m_iconst C 0 dX10_readWith_3 (by decide +kernel) ?_
  refine m_istore C [(5, .int 0), (4, .int 0), (0, .ref (G.1 0)), (1, .int pl), (2, .int (nI d)), (3, .int (nI n))] dX10_readWith_4 (by decide) rfl ?_
  have L6 : ∀ (fu : Nat) (p : Nat) (hp : p ≤ v_m V), v_m V - p < fu → Mq l G 8 X Q 6 [(0, .ref (G.1 0)), (1, .int pl), (2, .int (nI d)), (3, .int (nI n)), (4, .int (nI (v_rw V pl.toInt d n p))), (5, .int (nI p))] [] mu nu := by
    intro fu
    induction fu with
    | zero => intro p hp hm; exact absurd hm (Nat.not_lt_zero _)
    | succ fu ih6 =>
      intro p hp hm
      refine m_iload C 5 dX10_readWith_6 rfl ?_
      refine m_aload_n C 0 dX10_readWith_8 rfl ?_
      refine gfX10_53 C dX10_readWith_9 ?_
      refine gfX10_175 C 38 bnc_38 dX10_readWith_12 ?_
      refine m_topi (nI (v_m V)) (zv_m hv) ?_
      refine m_icmp_ge C 91 dX10_readWith_15 (by decide) (fun hh1 => ?_) (fun hh1 => ?_)
      · replace hh1 := (ii_le (nn_i (a := v_m V) rfl (by omega)) (nn_i (a := p) rfl (by omega))).mp hh1
        refine m_iload C 4 dX10_readWith_91 rfl ?_
        refine m_iretf C hQ dX10_readWith_93 rfl rfl ?_
        have e : p = v_m V := by omega
        subst e; rfl
      replace hh1 := mt (ii_le (nn_i (a := v_m V) rfl (by omega)) (nn_i (a := p) rfl (by omega))).mpr hh1
      have hfp := hw.2.2.2.1 p (by omega)
      have hri := hw.2.1 _ hfp
      have hdi := v_dg_le hw hfp
      refine m_aload_n C 0 dX10_readWith_18 rfl ?_
      refine gfX10_43 C dX10_readWith_19 ?_
      refine m_aload_n C 0 dX10_readWith_22 rfl ?_
      refine gfX10_53 C dX10_readWith_23 ?_
      refine gfX10_185 C 38 bnc_38 dX10_readWith_26 ?_
      refine m_iload C 5 dX10_readWith_29 rfl ?_
      refine m_iald C 39 (by decide) (sa_frame (c := 38) bnc_38) p rfl (by omega) (by decide) dX10_readWith_31 ?_
      refine m_topi (nI (v_fr V p)) (zv_fr hv (by omega)) ?_
      refine m_aald C 30 (by decide) 3 rfl ra_30 (v_fr V p) (G.1 (31 + (v_fr V p))) rfl (by omega) (by decide) rfl dX10_readWith_32 ?_
      refine m_astore C [(6, .ref (G.1 (31 + (v_fr V p)))), (0, .ref (G.1 0)), (1, .int pl), (2, .int (nI d)), (3, .int (nI n)), (4, .int (nI (v_rw V pl.toInt d n p))), (5, .int (nI p))] dX10_readWith_33 (by decide) rfl ?_
      refine m_iload C 6 dX10_readWith_35 rfl ?_
      refine m_iload_n C 2 dX10_readWith_37 rfl ?_
      refine m_icmp_ne C 45 dX10_readWith_38 (by decide) (fun hh2 => ?_) (fun hh2 => ?_)
      · replace hh2 := mt (ii_eq (nn_i (a := p) rfl (by omega)) (rfl : (pl).toInt = _)).mpr hh2
        refine m_aload_n C 1 dX10_readWith_45 rfl ?_
        refine m_aload_n C 1 dX10_readWith_46 rfl ?_
        refine gfX10_53 C dX10_readWith_47 ?_
        refine gfX10_185 C 38 bnc_38 dX10_readWith_50 ?_
        refine m_iload C 6 dX10_readWith_53 rfl ?_
        refine m_iald C 39 (by decide) (sa_frame (c := 38) bnc_38) p rfl (by omega) (by decide) dX10_readWith_55 ?_
        refine m_topi (nI (v_fr V p)) (zv_fr hv (by omega)) ?_
        refine m_callVf C 0 (by decide) rfl rfl (c_X10_digitNow l G mu nu V hv (v_fr V p) (by omega)) wkX10_188 (by decide) rfl rfl (Nat.le_of_ble_eq_true rfl) dX10_readWith_56 ?_
        refine m_istore C [(7, .int (nI (v_dg V (v_fr V p)))), (6, .ref (G.1 (31 + (v_fr V p)))), (0, .ref (G.1 0)), (1, .int pl), (2, .int (nI d)), (3, .int (nI n)), (4, .int (nI (v_rw V pl.toInt d n p))), (5, .int (nI p))] dX10_readWith_59 (by decide) rfl ?_
        refine m_bipush C 10 dX10_readWith_61 (by decide +kernel) ?_
        refine m_iload C 6 dX10_readWith_63 rfl ?_
        refine m_imul C dX10_readWith_65 ?_
        refine m_topi (nI (10 * (v_rw V pl.toInt d n p))) (nn_mul rfl rfl) ?_
        refine m_aload C 1 dX10_readWith_66 rfl ?_
        refine gfX10_144 C (31 + (v_fr V p)) (rdc_of (by omega)) dX10_readWith_68 ?_
        refine m_topr (b := G.1 (24 + v_kd V (v_fr V p))) (congrArg G.1 (zv_kr hv hfp)) ?_
        refine m_iload C 0 dX10_readWith_71 rfl ?_
        refine m_aload C 1 dX10_readWith_73 rfl ?_
        refine gfX10_238 C (31 + (v_fr V p)) (rdc_of (by omega)) dX10_readWith_75 ?_
        refine m_topi (nI (v_mk V (v_fr V p))) (zv_mk hv hfp) ?_
        refine m_iload_n C 5 dX10_readWith_78 rfl ?_
        refine m_shown C (k := v_kd V (v_fr V p)) (d := v_dg V (v_fr V p)) (m := v_mk V (v_fr V p)) (n := n) (by omega) (by omega) (by omega) (by omega) (by omega) (by decide) (Nat.le_of_ble_eq_true rfl) dX10_readWith_79 ?_
        refine m_iadd C dX10_readWith_82 ?_
        refine m_topi (nI ((10 * (v_rw V pl.toInt d n p)) + (s_sh (v_kd V (v_fr V p)) (v_dg V (v_fr V p)) (v_mk V (v_fr V p)) n))) (nn_add rfl rfl) ?_
        refine m_topi (nI (v_rw V pl.toInt d n (p + 1))) (congrArg nI (congrArg (fun z => 10 * v_rw V pl.toInt d n p + s_sh (v_kd V (v_fr V p)) z (v_mk V (v_fr V p)) n) (if_neg (by assumption)).symm)) ?_
        refine m_istore C [(4, .int (nI (v_rw V pl.toInt d n (p + 1)))), (7, .int (nI (v_dg V (v_fr V p)))), (6, .ref (G.1 (31 + (v_fr V p)))), (0, .ref (G.1 0)), (1, .int pl), (2, .int (nI d)), (3, .int (nI n)), (5, .int (nI p))] dX10_readWith_83 (by decide) rfl ?_
        refine m_iinc C 7 (nI (p + 1)) [(5, .int (nI (p + 1))), (4, .int (nI (v_rw V pl.toInt d n (p + 1)))), (7, .int (nI (v_dg V (v_fr V p)))), (6, .ref (G.1 (31 + (v_fr V p)))), (0, .ref (G.1 0)), (1, .int pl), (2, .int (nI d)), (3, .int (nI n))] dX10_readWith_85 rfl (nn_add rfl (show Int32.ofInt 1 = nI 1 from rfl)) (by decide) rfl ?_
        refine m_goto C 6 dX10_readWith_88 (by decide) ?_
        exact m_sub [4, 5, 6, 7, 1, 0] rfl (ih6 (p + 1) (by omega) (by omega))
      replace hh2 := (ii_eq (nn_i (a := p) rfl (by omega)) (rfl : (pl).toInt = _)).mp hh2
      refine m_iload_n C 3 dX10_readWith_41 rfl ?_
      refine m_goto C 59 dX10_readWith_42 (by decide) ?_
      refine m_istore C [(7, .int (nI d)), (6, .ref (G.1 (31 + (v_fr V p)))), (0, .ref (G.1 0)), (1, .int pl), (2, .int (nI d)), (3, .int (nI n)), (4, .int (nI (v_rw V pl.toInt d n p))), (5, .int (nI p))] dX10_readWith_59 (by decide) rfl ?_
      refine m_bipush C 10 dX10_readWith_61 (by decide +kernel) ?_
      refine m_iload C 6 dX10_readWith_63 rfl ?_
      refine m_imul C dX10_readWith_65 ?_
      refine m_topi (nI (10 * (v_rw V pl.toInt d n p))) (nn_mul rfl rfl) ?_
      refine m_aload C 1 dX10_readWith_66 rfl ?_
      refine gfX10_144 C (31 + (v_fr V p)) (rdc_of (by omega)) dX10_readWith_68 ?_
      refine m_topr (b := G.1 (24 + v_kd V (v_fr V p))) (congrArg G.1 (zv_kr hv hfp)) ?_
      refine m_iload C 0 dX10_readWith_71 rfl ?_
      refine m_aload C 1 dX10_readWith_73 rfl ?_
      refine gfX10_238 C (31 + (v_fr V p)) (rdc_of (by omega)) dX10_readWith_75 ?_
      refine m_topi (nI (v_mk V (v_fr V p))) (zv_mk hv hfp) ?_
      refine m_iload_n C 5 dX10_readWith_78 rfl ?_
      refine m_shown C (k := v_kd V (v_fr V p)) (d := d) (m := v_mk V (v_fr V p)) (n := n) (by omega) (by omega) (by omega) (by omega) (by omega) (by decide) (Nat.le_of_ble_eq_true rfl) dX10_readWith_79 ?_
      refine m_iadd C dX10_readWith_82 ?_
      refine m_topi (nI ((10 * (v_rw V pl.toInt d n p)) + (s_sh (v_kd V (v_fr V p)) d (v_mk V (v_fr V p)) n))) (nn_add rfl rfl) ?_
      refine m_topi (nI (v_rw V pl.toInt d n (p + 1))) (congrArg nI (congrArg (fun z => 10 * v_rw V pl.toInt d n p + s_sh (v_kd V (v_fr V p)) z (v_mk V (v_fr V p)) n) (if_pos (by assumption)).symm)) ?_
      refine m_istore C [(4, .int (nI (v_rw V pl.toInt d n (p + 1)))), (7, .int (nI d)), (6, .ref (G.1 (31 + (v_fr V p)))), (0, .ref (G.1 0)), (1, .int pl), (2, .int (nI d)), (3, .int (nI n)), (5, .int (nI p))] dX10_readWith_83 (by decide) rfl ?_
      refine m_iinc C 7 (nI (p + 1)) [(5, .int (nI (p + 1))), (4, .int (nI (v_rw V pl.toInt d n (p + 1)))), (7, .int (nI d)), (6, .ref (G.1 (31 + (v_fr V p)))), (0, .ref (G.1 0)), (1, .int pl), (2, .int (nI d)), (3, .int (nI n))] dX10_readWith_85 rfl (nn_add rfl (show Int32.ofInt 1 = nI 1 from rfl)) (by decide) rfl ?_
      refine m_goto C 6 dX10_readWith_88 (by decide) ?_
      exact m_sub [4, 5, 6, 7, 1, 0] rfl (ih6 (p + 1) (by omega) (by omega))
  exact m_sub [2, 3, 4, 5, 1, 0] rfl (L6 (_ + 1) 0 (Nat.zero_le _) (Nat.lt_succ_self _))

set_option maxHeartbeats 4000000 in
set_option maxRecDepth 100000 in
theorem c_X10_readOff (l : Launch) (G : Gl) (mu : Mu) (nu : Nu) (V : Vw) (hv : zv mu V) (n : Nat) (h1 : 1 ≤ n) (h9 : n ≤ 9) : Cf l G mX10_readOff 6 [.ref (G.1 0), .int (nI n)] mu nu (.int (nI (v_rd V n (v_m V)))) := by
  refine Ct.of (lv := [(0, .ref (G.1 0)), (1, .int (nI n))]) rfl rfl (Nat.le_of_ble_eq_true rfl) rfl (fun X C => ?_)
  generalize hQ : g_E G X _ = Q
  replace C : Cx G 2 X cX10_readOff RX10 (some .int) 6 := C
  show Mq l G 2 X Q 0 [(0, .ref (G.1 0)), (1, .int (nI n))] [] mu nu
  refine m_aload_n C 0 dX10_readOff_0 rfl ?_
  refine m_bipush C (-9) dX10_readOff_1 (by decide +kernel) ?_
  refine m_iconst C 0 dX10_readOff_3 (by decide +kernel) ?_
  refine m_iload_n C 1 dX10_readOff_4 rfl ?_
  refine m_callVf C 0 (by decide) rfl rfl (c_X10_readWith l G mu nu V hv (-9) 0 (by omega) n h1 h9) wkX10_342 (by decide) rfl rfl (Nat.le_of_ble_eq_true rfl) dX10_readOff_5 ?_
  refine m_iretf C hQ dX10_readOff_8 rfl rfl ?_
  exact congrArg nI (v_rw_rd V n (v_m V))

set_option maxHeartbeats 4000000 in
set_option maxRecDepth 100000 in
theorem c_X10_rightBy (l : Launch) (G : Gl) (mu : Mu) (nu : Nu) (V : Vw) (hv : zv mu V) (n : Nat) : Cf l G mX10_rightBy 3 [.ref (G.1 0), .int (nI n)] mu nu (.int (nI (v_rt V (v_m V) * n))) := by
  have hw := hv.1
  have hN7 := hw.1
  have hm7 := hw.2.2.1
  have ho8 := hw.2.2.2.2
  refine Ct.of (lv := [(0, .ref (G.1 0)), (1, .int (nI n))]) rfl rfl (Nat.le_of_ble_eq_true rfl) rfl (fun X C => ?_)
  generalize hQ : g_E G X _ = Q
  replace C : Cx G 4 X cX10_rightBy RX10 (some .int) 3 := C
  show Mq l G 4 X Q 0 [(0, .ref (G.1 0)), (1, .int (nI n))] [] mu nu
  refine m_iconst C 0 dX10_rightBy_0 (by decide +kernel) ?_
  refine m_istore_n C [(2, .int 0), (0, .ref (G.1 0)), (1, .int (nI n))] dX10_rightBy_1 (by decide) rfl ?_
  refine m_iconst C 0 dX10_rightBy_2 (by decide +kernel) ?_
  refine m_istore_n C [(3, .int 0), (2, .int 0), (0, .ref (G.1 0)), (1, .int (nI n))] dX10_rightBy_3 (by decide) rfl ?_
  have L4 : ∀ (fu : Nat) (p : Nat) (hp : p ≤ v_m V), v_m V - p < fu → Mq l G 4 X Q 4 [(0, .ref (G.1 0)), (1, .int (nI n)), (2, .int (nI (v_rt V p))), (3, .int (nI p))] [] mu nu := by
    intro fu
    induction fu with
    | zero => intro p hp hm; exact absurd hm (Nat.not_lt_zero _)
    | succ fu ih4 =>
      intro p hp hm
      refine m_iload_n C 3 dX10_rightBy_4 rfl ?_
      refine m_aload_n C 0 dX10_rightBy_5 rfl ?_
      refine gfX10_53 C dX10_rightBy_6 ?_
      refine gfX10_175 C 38 bnc_38 dX10_rightBy_9 ?_
      refine m_topi (nI (v_m V)) (zv_m hv) ?_
      refine m_icmp_ge C 40 dX10_rightBy_12 (by decide) (fun hh1 => ?_) (fun hh1 => ?_)
      · replace hh1 := (ii_le (nn_i (a := v_m V) rfl (by omega)) (nn_i (a := p) rfl (by omega))).mp hh1
        refine m_iload_n C 2 dX10_rightBy_40 rfl ?_
        refine m_iload_n C 1 dX10_rightBy_41 rfl ?_
        refine m_imul C dX10_rightBy_42 ?_
        refine m_topi (nI ((v_rt V p) * n)) (nn_mul rfl rfl) ?_
        refine m_iretf C hQ dX10_rightBy_43 rfl rfl ?_
        have e : p = v_m V := by omega
        subst e; rfl
      replace hh1 := mt (ii_le (nn_i (a := v_m V) rfl (by omega)) (nn_i (a := p) rfl (by omega))).mpr hh1
      have hfp := hw.2.2.2.1 p (by omega)
      have hri := hw.2.1 _ hfp
      have hdi := v_dg_le hw hfp
      refine m_bipush C 10 dX10_rightBy_15 (by decide +kernel) ?_
      refine m_iload_n C 2 dX10_rightBy_17 rfl ?_
      refine m_imul C dX10_rightBy_18 ?_
      refine m_topi (nI (10 * (v_rt V p))) (nn_mul rfl rfl) ?_
      refine m_aload_n C 0 dX10_rightBy_19 rfl ?_
      refine m_aload_n C 0 dX10_rightBy_20 rfl ?_
      refine gfX10_53 C dX10_rightBy_21 ?_
      refine gfX10_185 C 38 bnc_38 dX10_rightBy_24 ?_
      refine m_iload_n C 3 dX10_rightBy_27 rfl ?_
      refine m_iald C 39 (by decide) (sa_frame (c := 38) bnc_38) p rfl (by omega) (by decide) dX10_rightBy_28 ?_
      refine m_topi (nI (v_fr V p)) (zv_fr hv (by omega)) ?_
      refine m_callVf C 0 (by decide) rfl rfl (c_X10_digitNow l G mu nu V hv (v_fr V p) (by omega)) wkX10_188 (by decide) rfl rfl (Nat.le_of_ble_eq_true rfl) dX10_rightBy_29 ?_
      refine m_iadd C dX10_rightBy_32 ?_
      refine m_topi (nI ((10 * (v_rt V p)) + (v_dg V (v_fr V p)))) (nn_add rfl rfl) ?_
      refine m_topi (nI (v_rt V (p + 1))) rfl ?_
      refine m_istore_n C [(2, .int (nI (v_rt V (p + 1)))), (0, .ref (G.1 0)), (1, .int (nI n)), (3, .int (nI p))] dX10_rightBy_33 (by decide) rfl ?_
      refine m_iinc C 3 (nI (p + 1)) [(3, .int (nI (p + 1))), (2, .int (nI (v_rt V (p + 1)))), (0, .ref (G.1 0)), (1, .int (nI n))] dX10_rightBy_34 rfl (nn_add rfl (show Int32.ofInt 1 = nI 1 from rfl)) (by decide) rfl ?_
      refine m_goto C 4 dX10_rightBy_37 (by decide) ?_
      exact m_sub [2, 3, 1, 0] rfl (ih4 (p + 1) (by omega) (by omega))
  exact m_sub [2, 3, 1, 0] rfl (L4 (_ + 1) 0 (Nat.zero_le _) (Nat.lt_succ_self _))

set_option maxHeartbeats 4000000 in
set_option maxRecDepth 100000 in
theorem c_X10_readOfLeft (l : Launch) (G : Gl) (mu : Mu) (nu : Nu) (V : Vw) (hv : zv mu V) (n : Nat) (h1 : 1 ≤ n) (h9 : n ≤ 9) (set : Nat) (hs : set < 128) : Cf l G mX10_readOfLeft 6 [.ref (G.1 0), .int (nI n), .int (nI set)] mu nu (.int (nI (v_rl V n set (v_m V)))) := by
  have hw := hv.1
  have hN7 := hw.1
  have hm7 := hw.2.2.1
  have ho8 := hw.2.2.2.2
  refine Ct.of (lv := [(0, .ref (G.1 0)), (1, .int (nI n)), (2, .int (nI set))]) rfl rfl (Nat.le_of_ble_eq_true rfl) rfl (fun X C => ?_)
  generalize hQ : g_E G X _ = Q
  replace C : Cx G 5 X cX10_readOfLeft RX10 (some .int) 6 := C
  show Mq l G 5 X Q 0 [(0, .ref (G.1 0)), (1, .int (nI n)), (2, .int (nI set))] [] mu nu
  refine m_iconst C 0 dX10_readOfLeft_0 (by decide +kernel) ?_
  refine m_istore_n C [(3, .int 0), (0, .ref (G.1 0)), (1, .int (nI n)), (2, .int (nI set))] dX10_readOfLeft_1 (by decide) rfl ?_
  refine m_iconst C 0 dX10_readOfLeft_2 (by decide +kernel) ?_
  refine m_istore C [(4, .int 0), (3, .int 0), (0, .ref (G.1 0)), (1, .int (nI n)), (2, .int (nI set))] dX10_readOfLeft_3 (by decide) rfl ?_
  have L5 : ∀ (fu : Nat) (p : Nat) (hp : p ≤ v_m V), v_m V - p < fu → Mq l G 5 X Q 5 [(0, .ref (G.1 0)), (1, .int (nI n)), (2, .int (nI set)), (3, .int (nI (v_rl V n set p))), (4, .int (nI p))] [] mu nu := by
    intro fu
    induction fu with
    | zero => intro p hp hm; exact absurd hm (Nat.not_lt_zero _)
    | succ fu ih5 =>
      intro p hp hm
      have hdv := Nat.div_le_self set (2 ^ p)
      refine m_iload C 4 dX10_readOfLeft_5 rfl ?_
      refine m_aload_n C 0 dX10_readOfLeft_7 rfl ?_
      refine gfX10_53 C dX10_readOfLeft_8 ?_
      refine gfX10_175 C 38 bnc_38 dX10_readOfLeft_11 ?_
      refine m_topi (nI (v_m V)) (zv_m hv) ?_
      refine m_icmp_ge C 58 dX10_readOfLeft_14 (by decide) (fun hh1 => ?_) (fun hh1 => ?_)
      · replace hh1 := (ii_le (nn_i (a := v_m V) rfl (by omega)) (nn_i (a := p) rfl (by omega))).mp hh1
        refine m_iload_n C 3 dX10_readOfLeft_58 rfl ?_
        refine m_iretf C hQ dX10_readOfLeft_59 rfl rfl ?_
        have e : p = v_m V := by omega
        subst e; rfl
      replace hh1 := mt (ii_le (nn_i (a := v_m V) rfl (by omega)) (nn_i (a := p) rfl (by omega))).mpr hh1
      have hfp := hw.2.2.2.1 p (by omega)
      have hri := hw.2.1 _ hfp
      have hdi := v_dg_le hw hfp
      refine m_bipush C 10 dX10_readOfLeft_17 (by decide +kernel) ?_
      refine m_iload_n C 3 dX10_readOfLeft_19 rfl ?_
      refine m_imul C dX10_readOfLeft_20 ?_
      refine m_topi (nI (10 * (v_rl V n set p))) (nn_mul rfl rfl) ?_
      refine m_iload_n C 2 dX10_readOfLeft_21 rfl ?_
      refine m_iload C 4 dX10_readOfLeft_22 rfl ?_
      refine m_ishr C dX10_readOfLeft_24 ?_
      refine m_topi (nI (set / 2 ^ p)) (nn_shr rfl rfl (by omega) (by omega)) ?_
      refine m_iconst C 1 dX10_readOfLeft_25 (by decide +kernel) ?_
      refine m_iand C dX10_readOfLeft_26 ?_
      refine m_topi (nI ((set / 2 ^ p) % 2)) (nn_and1 rfl (by omega)) ?_
      refine m_iconst C 1 dX10_readOfLeft_27 (by decide +kernel) ?_
      refine m_icmp_ne C 49 dX10_readOfLeft_28 (by decide) (fun hh2 => ?_) (fun hh2 => ?_)
      · replace hh2 := mt (ii_eq (nn_i (a := (set / 2 ^ p) % 2) rfl (by omega)) (nn_i (a := 1) rfl (by omega))).mpr hh2
        refine m_iconst C 0 dX10_readOfLeft_49 (by decide +kernel) ?_
        refine m_iadd C dX10_readOfLeft_50 ?_
        refine m_topi (nI ((10 * (v_rl V n set p)) + 0)) (nn_add rfl rfl) ?_
        refine m_topi (nI (v_rl V n set (p + 1))) (congrArg nI (congrArg (fun z => 10 * v_rl V n set p + z) (if_neg (by omega)).symm)) ?_
        refine m_istore_n C [(3, .int (nI (v_rl V n set (p + 1)))), (0, .ref (G.1 0)), (1, .int (nI n)), (2, .int (nI set)), (4, .int (nI p))] dX10_readOfLeft_51 (by decide) rfl ?_
        refine m_iinc C 4 (nI (p + 1)) [(4, .int (nI (p + 1))), (3, .int (nI (v_rl V n set (p + 1)))), (0, .ref (G.1 0)), (1, .int (nI n)), (2, .int (nI set))] dX10_readOfLeft_52 rfl (nn_add rfl (show Int32.ofInt 1 = nI 1 from rfl)) (by decide) rfl ?_
        refine m_goto C 5 dX10_readOfLeft_55 (by decide) ?_
        exact m_sub [2, 3, 4, 1, 0] rfl (ih5 (p + 1) (by omega) (by omega))
      replace hh2 := (ii_eq (nn_i (a := (set / 2 ^ p) % 2) rfl (by omega)) (nn_i (a := 1) rfl (by omega))).mp hh2
      refine m_aload_n C 0 dX10_readOfLeft_31 rfl ?_
      refine m_aload_n C 0 dX10_readOfLeft_32 rfl ?_
      refine gfX10_53 C dX10_readOfLeft_33 ?_
      refine gfX10_185 C 38 bnc_38 dX10_readOfLeft_36 ?_
      refine m_iload C 4 dX10_readOfLeft_39 rfl ?_
      refine m_iald C 39 (by decide) (sa_frame (c := 38) bnc_38) p rfl (by omega) (by decide) dX10_readOfLeft_41 ?_
      refine m_topi (nI (v_fr V p)) (zv_fr hv (by omega)) ?_
      refine m_iload_n C 1 dX10_readOfLeft_42 rfl ?_
      refine m_callVf C 0 (by decide) rfl rfl (c_X10_shownNow l G mu nu V hv (v_fr V p) (by omega) n (by omega) (by omega)) wkX10_162 (by decide) rfl rfl (Nat.le_of_ble_eq_true rfl) dX10_readOfLeft_43 ?_
      refine m_goto C 50 dX10_readOfLeft_46 (by decide) ?_
      refine m_iadd C dX10_readOfLeft_50 ?_
      refine m_topi (nI ((10 * (v_rl V n set p)) + (v_sh V (v_fr V p) n))) (nn_add rfl rfl) ?_
      refine m_topi (nI (v_rl V n set (p + 1))) (congrArg nI (congrArg (fun z => 10 * v_rl V n set p + z) (if_pos (by omega)).symm)) ?_
      refine m_istore_n C [(3, .int (nI (v_rl V n set (p + 1)))), (0, .ref (G.1 0)), (1, .int (nI n)), (2, .int (nI set)), (4, .int (nI p))] dX10_readOfLeft_51 (by decide) rfl ?_
      refine m_iinc C 4 (nI (p + 1)) [(4, .int (nI (p + 1))), (3, .int (nI (v_rl V n set (p + 1)))), (0, .ref (G.1 0)), (1, .int (nI n)), (2, .int (nI set))] dX10_readOfLeft_52 rfl (nn_add rfl (show Int32.ofInt 1 = nI 1 from rfl)) (by decide) rfl ?_
      refine m_goto C 5 dX10_readOfLeft_55 (by decide) ?_
      exact m_sub [2, 3, 4, 1, 0] rfl (ih5 (p + 1) (by omega) (by omega))
  exact m_sub [2, 3, 4, 1, 0] rfl (L5 (_ + 1) 0 (Nat.zero_le _) (Nat.lt_succ_self _))
