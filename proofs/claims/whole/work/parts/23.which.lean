theorem s_prs0 {x : Option (List Int32)} (h : s_prs x = 0) : ∃ xs, x = some xs ∧ xs.length % 2 = 0 ∧ ∀ k, k < xs.length / 2 → (1 ≤ (xs.getD (2 * k) 0).toInt ∧ (xs.getD (2 * k) 0).toInt < 10) ∧ 0 ≤ (xs.getD (2 * k + 1) 0).toInt ∧ (xs.getD (2 * k + 1) 0).toInt ≤ 999999999 := by
  cases x with
  | none => exact absurd (show 1 = 0 from h) (by decide)
  | some xs =>
    unfold s_prs at h
    dsimp only at h
    by_cases h1 : xs.length % 2 = 1
    · rw [if_pos h1] at h; exact absurd h (by decide)
    · rw [if_neg h1] at h
      by_cases h2 : ∀ k, k < xs.length / 2 → (1 ≤ (xs.getD (2 * k) 0).toInt ∧ (xs.getD (2 * k) 0).toInt < 10) ∧ 0 ≤ (xs.getD (2 * k + 1) 0).toInt ∧ (xs.getD (2 * k + 1) 0).toInt ≤ 999999999
      · exact ⟨xs, rfl, by omega, h2⟩
      · rw [if_neg h2] at h; exact absurd h (by decide)
theorem s_prs_le {x : Option (List Int32)} : s_prs x ≤ 5 := by
  cases x with
  | none => exact (show 1 ≤ 5 by decide)
  | some xs =>
    unfold s_prs
    dsimp only
    split
    · decide
    · split <;> decide
def s_row0 (x : Option (List Int32)) : List Int32 := match x with
  | none => []
  | some xs => xs
def s_db (kd m : Nat) (xs : List Int32) : Nat → Nat
  | 0 => 0
  | d + 1 => if ∀ j, j < xs.length / 2 → nI (s_sh kd d m (s_ln xs j)) = xs.getD (2 * j + 1) 0 then s_db kd m xs d ||| 2 ^ d else s_db kd m xs d
def s_digits (z : Zt) (i r : Int32) : Int32 × Zt := if ¬ (0 ≤ i.toInt ∧ i.toInt < z_N z) ∨ ¬ (0 ≤ r.toInt ∧ r.toInt < 6) then (-1, z) else if s_prs (z_rw z (ix r)) = 0 then (nI (s_db (v_kd (z_V z) (ix i)) (v_mk (z_V z) (ix i)) (s_row0 (z_rw z (ix r))) 10), z) else (-3, u_find z (s_prs (z_rw z (ix r))))
def s_kinds (z : Zt) (i r : Int32) : Int32 × Zt := if ¬ (0 ≤ i.toInt ∧ i.toInt < z_N z) ∨ ¬ (0 ≤ r.toInt ∧ r.toInt < 6) then (-1, z) else if s_prs (z_rw z (ix r)) = 0 then (nI (s_fk (v_dg (z_V z) (ix i)) (v_mk (z_V z) (ix i)) (s_row0 (z_rw z (ix r))) 6), z) else (-3, u_find z (s_prs (z_rw z (ix r))))
def v_tt (V : Vw) (i bits : Nat) : Nat → Nat × Nat
  | 0 => (1, v_pa V i bits 1 6)
  | k + 1 => if v_pa V i bits (k + 2) 6 < (v_tt V i bits k).2 then (k + 2, v_pa V i bits (k + 2) 6) else v_tt V i bits k
theorem v_tt_le {V : Vw} {i bits : Nat} : ∀ k, (v_tt V i bits k).2 ≤ 6 ∧ (v_tt V i bits k).1 ≤ k + 1
  | 0 => ⟨v_pa_le 6, Nat.le_refl _⟩
  | k + 1 => by
    obtain ⟨h1, h2⟩ := v_tt_le (V := V) (i := i) (bits := bits) k
    unfold v_tt
    split
    · exact ⟨v_pa_le 6, Nat.le_refl _⟩
    · exact ⟨h1, by omega⟩
def s_test (z : Zt) (i r : Int32) : Int32 × Zt := if ¬ (0 ≤ i.toInt ∧ i.toInt < z_N z) ∨ ¬ (0 ≤ r.toInt ∧ r.toInt < 6) then (-1, z) else if s_prs (z_rw z (ix r)) = 0 then (if s_fk (v_dg (z_V z) (ix i)) (v_mk (z_V z) (ix i)) (s_row0 (z_rw z (ix r))) 6 = 0 then (-9, z) else (nI (v_tt (z_V z) (ix i) (s_fk (v_dg (z_V z) (ix i)) (v_mk (z_V z) (ix i)) (s_row0 (z_rw z (ix r))) 6) 8).1, u_told z (nI (v_tt (z_V z) (ix i) (s_fk (v_dg (z_V z) (ix i)) (v_mk (z_V z) (ix i)) (s_row0 (z_rw z (ix r))) 6) 8).2))) else (-3, u_find z (s_prs (z_rw z (ix r))))
theorem s_fk_lt {d m : Nat} {xs : List Int32} : ∀ k, k ≤ 6 → s_fk d m xs k < 2 ^ k
  | 0, _ => Nat.zero_lt_one
  | k + 1, hk => by
    have h := s_fk_lt (d := d) (m := m) (xs := xs) k (by omega)
    unfold s_fk
    split
    · exact Nat.or_lt_two_pow (Nat.lt_of_lt_of_le h (Nat.pow_le_pow_right (by decide) (by omega))) (Nat.pow_lt_pow_right (by decide) (by omega))
    · exact Nat.lt_of_lt_of_le h (Nat.pow_le_pow_right (by decide) (by omega))
/-- other digits at a place: how many ways, the first -/
def v_od (V : Vw) (xs : List Int32) (p : Nat) (a : Nat × Nat) : Nat → Nat × Nat
  | 0 => a
  | d + 1 => if ¬ d = v_dg V (v_fr V p) ∧ ∀ k, k < xs.length / 2 → nI (v_rw V p d (s_ln xs k) (v_m V)) = xs.getD (2 * k + 1) 0 then ((v_od V xs p a d).1 + 1, if (v_od V xs p a d).1 = 0 then 10 * p + d else (v_od V xs p a d).2) else v_od V xs p a d
def v_op (V : Vw) (xs : List Int32) : Nat → Nat × Nat
  | 0 => (0, 0)
  | p + 1 => v_od V xs p (v_op V xs p) 10
theorem v_od_le {V : Vw} {xs : List Int32} {p : Nat} {a : Nat × Nat} : ∀ d, (v_od V xs p a d).1 ≤ a.1 + d
  | 0 => Nat.le_refl _
  | d + 1 => by
    have := v_od_le (V := V) (xs := xs) (p := p) (a := a) d
    unfold v_od
    split
    · exact Nat.succ_le_succ this
    · omega
theorem v_op_le {V : Vw} {xs : List Int32} : ∀ p, (v_op V xs p).1 ≤ 10 * p
  | 0 => Nat.le_refl _
  | p + 1 => by
    have h1 := v_op_le (V := V) (xs := xs) p
    have h2 := v_od_le (V := V) (xs := xs) (p := p) (a := v_op V xs p) 10
    show (v_od V xs p (v_op V xs p) 10).1 ≤ 10 * (p + 1)
    omega
def s_other (z : Zt) (r : Int32) : Int32 × Zt := if ¬ (0 ≤ r.toInt ∧ r.toInt < 6) then (-1, z) else if s_prs (z_rw z (ix r)) = 0 then (if (v_op (z_V z) (s_row0 (z_rw z (ix r))) (v_m (z_V z))).1 = 0 then (-9, z) else (nI (v_op (z_V z) (s_row0 (z_rw z (ix r))) (v_m (z_V z))).1, u_told z (nI (v_op (z_V z) (s_row0 (z_rw z (ix r))) (v_m (z_V z))).2))) else (-3, u_find z (s_prs (z_rw z (ix r))))
def s_d1 (z : Zt) : Nat → Int64
  | 0 => 17
  | w + 1 => 31 * s_d1 z w + (s_cnt z w).toInt64
def s_d2 (V : Vw) (h : Int64) (i : Nat) : Nat → Int64
  | 0 => h
  | w + 1 => 31 * s_d2 V h i w + (s_of V i w).toInt64
def s_d3 (V : Vw) (h : Int64) : Nat → Int64
  | 0 => h
  | i + 1 => s_d2 V (s_d3 V h i) i 5
def s_kd (x : Option Zb) : Int64 := match x with
  | none => -1
  | some B => lN B.2.2.length
def s_d4 (x : Nat → Option Zb) (h : Int64) : Nat → Int64
  | 0 => h
  | k + 1 => 31 * s_d4 x h k + s_kd (x k)
def s_dig (z : Zt) : Int64 := s_hs (z_tx z) (s_hs (z_rw z) (s_d4 (z_kp z) (s_d3 (z_V z) (s_d1 z 11) (z_N z)) 3) 6) 4
theorem m_lv {l : Launch} {G : Gl} {nL : Nat} {X : Bx} {Q : State → Prop} {pc : Nat} {lv lw : List (Nat × Value)} {st : List Value} {mu : Mu} {nu : Nu} (h : lv = lw) (kk : Mq l G nL X Q pc lw st mu nu) : Mq l G nL X Q pc lv st mu nu := by rw [h]; exact kk
theorem congrArg2 {α β γ : Type} {a a' : α} {b b' : β} (f : α → β → γ) (h1 : a = a') (h2 : b = b') : f a b = f a' b' := by rw [h1, h2]
set_option maxHeartbeats 4000000 in
set_option maxRecDepth 100000 in
theorem c_X10_mark (l : Launch) (G : Gl) (mu : Mu) (nu : Nu) (z : Zt) (hz : ZC mu nu z) (i k : Int32) : Ci l G mX10_mark 7 [.ref (G.1 0), .int i, .int k] mu nu (PC mu nu (s_mark z i k)) := by
  have hv : zv mu (z_V z) := hz.1
  have hw := hv.1
  have hN7 := hw.1
  have hm7 := hw.2.2.1
  have ho8 := hw.2.2.2.2
  have hcz : ((v_N (z_V z) : Nat) : Int) = ((z_N z : Nat) : Int) := rfl
  refine Ct.of (lv := [(0, .ref (G.1 0)), (1, .int i), (2, .int k)]) rfl rfl (Nat.le_of_ble_eq_true rfl) rfl (fun X C => ?_)
  generalize hQ : g_E G X _ = Q
  replace C : Cx G 3 X cX10_mark RX10 (some .int) 7 := C
  show Mq l G 3 X Q 0 [(0, .ref (G.1 0)), (1, .int i), (2, .int k)] [] mu nu
  refine m_aload_n C 0 dX10_mark_0 rfl ?_
  refine m_iload_n C 1 dX10_mark_1 rfl ?_
  refine m_callVf C 0 (by decide) rfl rfl (c_X10_isRod l G mu nu (z_V z) hv i) wkX10_137 (by decide) rfl rfl (Nat.le_of_ble_eq_true rfl) dX10_mark_2 ?_
  refine m_if_eq C 18 dX10_mark_5 (by decide) (fun hh1 => ?_) (fun hh1 => ?_)
  · replace hh1 := bI_eq0.mp hh1
    refine m_iconst C (-1) dX10_mark_18 (by decide +kernel) ?_
    refine m_ireti C hQ dX10_mark_19 ?_
    exact PC_of (by unfold s_mark; rw [if_pos (by omega)]) hz zcl_rfl
  replace hh1 := bI_ne0.mp hh1
  refine m_iload_n C 2 dX10_mark_8 rfl ?_
  refine m_if_le C 18 dX10_mark_9 (by decide) (fun hh2 => ?_) (fun hh2 => ?_)
  · replace hh2 := (ii_le (rfl : (k).toInt = _) (nn_i (a := 0) rfl (by omega))).mp hh2
    refine m_iconst C (-1) dX10_mark_18 (by decide +kernel) ?_
    refine m_ireti C hQ dX10_mark_19 ?_
    exact PC_of (by unfold s_mark; rw [if_pos (by omega)]) hz zcl_rfl
  replace hh2 := mt (ii_le (rfl : (k).toInt = _) (nn_i (a := 0) rfl (by omega))).mpr hh2
  refine m_iload_n C 2 dX10_mark_12 rfl ?_
  refine m_bipush C 6 dX10_mark_13 (by decide +kernel) ?_
  refine m_icmp_lt C 20 dX10_mark_15 (by decide) (fun hh3 => ?_) (fun hh3 => ?_)
  · replace hh3 := (ii_lt (rfl : (k).toInt = _) (nn_i (a := 6) rfl (by omega))).mp hh3
    obtain ⟨ei, ki⟩ := ix_eq (x := i) (by omega)
    have hi : ix i < v_N (z_V z) := by omega
    have hri := hw.2.1 (ix i) hi
    have hdi := v_dg_le hw hi
    obtain ⟨ek, kk⟩ := ix_eq (x := k) (by omega)
    refine m_aload_n C 0 dX10_mark_20 rfl ?_
    refine gfX10_43 C dX10_mark_21 ?_
    refine m_iload_n C 1 dX10_mark_24 rfl ?_
    refine m_topi (nI (ix i)) ei ?_
    refine m_aald C 30 (by decide) 3 rfl ra_30 (ix i) (G.1 (31 + (ix i))) rfl (by omega) (by decide) rfl dX10_mark_25 ?_
    refine gfX10_144 C (31 + (ix i)) (rdc_of (by omega)) dX10_mark_26 ?_
    refine m_topr (b := G.1 (24 + v_kd (z_V z) (ix i))) (congrArg G.1 (zv_kr hv hi)) ?_
    refine m_iload_n C 2 dX10_mark_29 rfl ?_
    refine m_topi (nI (ix k)) ek ?_
    refine m_callSf C (c_X10_isOfKind l G mu nu (v_kd (z_V z) (ix i)) hri.1 (ix k) (by omega) (by omega)) wkX10_148 (by decide) rfl rfl (Nat.le_of_ble_eq_true rfl) dX10_mark_30 ?_
    refine m_if_ne C 42 dX10_mark_33 (by decide) (fun hh4 => ?_) (fun hh4 => ?_)
    · replace hh4 := bI_ne0.mp hh4
      refine m_iload_n C 2 dX10_mark_42 rfl ?_
      refine m_topi (nI (ix k)) ek ?_
      have hh5i : (nI (ix k)).toInt = ((ix k : Nat) : Int) := (nn_i (a := ix k) rfl (by omega))
      have hh5 : (((ix k : Nat) : Int) < 1 ∨ 4 < ((ix k : Nat) : Int)) ∨ ((ix k : Nat) : Int) = 1 ∨ ((ix k : Nat) : Int) = 2 ∨ ((ix k : Nat) : Int) = 3 ∨ ((ix k : Nat) : Int) = 4 := by omega
      rcases hh5 with hh5 | hh5 | hh5 | hh5 | hh5
      · refine m_tblOut C 109 dX10_mark_43 (by rw [hh5i]; exact hh5) (by decide) ?_
        refine m_aload_n C 0 dX10_mark_109 rfl ?_
        refine m_iload_n C 1 dX10_mark_110 rfl ?_
        refine m_topi (nI (ix i)) ei ?_
        refine m_iconst C 2 dX10_mark_111 (by decide +kernel) ?_
        refine m_iconst C 1 dX10_mark_112 (by decide +kernel) ?_
        refine m_iconst C 1 dX10_mark_113 (by decide +kernel) ?_
        refine m_callVf C 0 (by decide) rfl rfl (c_X10_linesApart_11 l G mu nu (z_V z) hv (ix i) hi 2 (by decide)) wkX10_152 (by decide) rfl rfl (Nat.le_of_ble_eq_true rfl) dX10_mark_114 ?_
        refine m_ireti C hQ dX10_mark_117 ?_
        exact PC_of (by unfold s_mark; rw [if_neg (by omega), if_neg (by omega)]; unfold s_mkv; rw [if_neg (by omega), if_neg (by omega), if_neg (by omega), if_neg (by omega)]) hz zcl_rfl
      · refine m_tblIn C 72 dX10_mark_43 (by rw [hh5i]; omega) (by rw [hh5i]; omega) (off := 29) (by rw [hh5i, hh5]; decide +kernel) (by decide) ?_
        refine m_aload_n C 0 dX10_mark_72 rfl ?_
        refine m_iload_n C 1 dX10_mark_73 rfl ?_
        refine m_topi (nI (ix i)) ei ?_
        refine m_iconst C 0 dX10_mark_74 (by decide +kernel) ?_
        refine m_iconst C 1 dX10_mark_75 (by decide +kernel) ?_
        refine m_iconst C 0 dX10_mark_76 (by decide +kernel) ?_
        refine m_callVf C 0 (by decide) rfl rfl (c_X10_linesApart_10 l G mu nu (z_V z) hv (ix i) hi 0 (by decide)) wkX10_152 (by decide) rfl rfl (Nat.le_of_ble_eq_true rfl) dX10_mark_77 ?_
        refine m_ireti C hQ dX10_mark_80 ?_
        exact PC_of (by unfold s_mark; rw [if_neg (by omega), if_neg (by omega)]; unfold s_mkv; rw [if_pos (by omega)]) hz zcl_rfl
      · refine m_tblIn C 81 dX10_mark_43 (by rw [hh5i]; omega) (by rw [hh5i]; omega) (off := 38) (by rw [hh5i, hh5]; decide +kernel) (by decide) ?_
        refine m_aload_n C 0 dX10_mark_81 rfl ?_
        refine m_iload_n C 1 dX10_mark_82 rfl ?_
        refine m_topi (nI (ix i)) ei ?_
        refine m_iconst C 0 dX10_mark_83 (by decide +kernel) ?_
        refine m_iconst C 0 dX10_mark_84 (by decide +kernel) ?_
        refine m_iconst C 1 dX10_mark_85 (by decide +kernel) ?_
        refine m_callVf C 0 (by decide) rfl rfl (c_X10_linesApart_01 l G mu nu (z_V z) hv (ix i) hi 0 (by decide)) wkX10_152 (by decide) rfl rfl (Nat.le_of_ble_eq_true rfl) dX10_mark_86 ?_
        refine m_ireti C hQ dX10_mark_89 ?_
        exact PC_of (by unfold s_mark; rw [if_neg (by omega), if_neg (by omega)]; unfold s_mkv; rw [if_neg (by omega), if_pos (by omega)]) hz zcl_rfl
      · refine m_tblIn C 90 dX10_mark_43 (by rw [hh5i]; omega) (by rw [hh5i]; omega) (off := 47) (by rw [hh5i, hh5]; decide +kernel) (by decide) ?_
        refine m_sipush C 500 dX10_mark_90 (by decide +kernel) ?_
        refine m_aload_n C 0 dX10_mark_93 rfl ?_
        refine m_iload_n C 1 dX10_mark_94 rfl ?_
        refine m_topi (nI (ix i)) ei ?_
        refine m_callVf C 0 (by decide) rfl rfl (c_X10_slidBy l G mu nu (z_V z) hv (ix i) hi) wkX10_156 (by decide) rfl rfl (Nat.le_of_ble_eq_true rfl) dX10_mark_95 ?_
        refine m_iadd C dX10_mark_98 ?_
        refine m_ireti C hQ dX10_mark_99 ?_
        exact PC_of (by unfold s_mark; rw [if_neg (by omega), if_neg (by omega)]; unfold s_mkv; rw [if_neg (by omega), if_neg (by omega), if_pos (by omega)]) hz zcl_rfl
      · refine m_tblIn C 100 dX10_mark_43 (by rw [hh5i]; omega) (by rw [hh5i]; omega) (off := 57) (by rw [hh5i, hh5]; decide +kernel) (by decide) ?_
        refine m_aload_n C 0 dX10_mark_100 rfl ?_
        refine m_iload_n C 1 dX10_mark_101 rfl ?_
        refine m_topi (nI (ix i)) ei ?_
        refine m_iconst C 1 dX10_mark_102 (by decide +kernel) ?_
        refine m_iconst C 1 dX10_mark_103 (by decide +kernel) ?_
        refine m_iconst C 0 dX10_mark_104 (by decide +kernel) ?_
        refine m_callVf C 0 (by decide) rfl rfl (c_X10_linesApart_10 l G mu nu (z_V z) hv (ix i) hi 1 (by decide)) wkX10_152 (by decide) rfl rfl (Nat.le_of_ble_eq_true rfl) dX10_mark_105 ?_
        refine m_ireti C hQ dX10_mark_108 ?_
        exact PC_of (by unfold s_mark; rw [if_neg (by omega), if_neg (by omega)]; unfold s_mkv; rw [if_neg (by omega), if_neg (by omega), if_neg (by omega), if_pos (by omega)]) hz zcl_rfl
    replace hh4 := bI_eq0.mp hh4
    refine m_aload_n C 0 dX10_mark_36 rfl ?_
    refine m_iconst C 3 dX10_mark_37 (by decide +kernel) ?_
    refine m_callVi C 0 (by decide) rfl rfl (c_X10_found l G mu nu 3 (by decide)) wkX10_80 (by decide) rfl rfl (Nat.le_of_ble_eq_true rfl) dX10_mark_38 (fun r6 m6 n6 hp6 => ?_)
    refine m_ireti C hQ dX10_mark_41 ?_
    exact PC_find hz (by decide) hp6 (by unfold s_mark; rw [if_neg (by omega), if_pos (by omega)])
  replace hh3 := mt (ii_lt (rfl : (k).toInt = _) (nn_i (a := 6) rfl (by omega))).mpr hh3
  refine m_iconst C (-1) dX10_mark_18 (by decide +kernel) ?_
  refine m_ireti C hQ dX10_mark_19 ?_
  exact PC_of (by unfold s_mark; rw [if_pos (by omega)]) hz zcl_rfl

set_option maxHeartbeats 4000000 in
set_option maxRecDepth 100000 in
theorem c_X10_digits (l : Launch) (G : Gl) (mu : Mu) (nu : Nu) (z : Zt) (hz : ZC mu nu z) (i r : Int32) : Ci l G mX10_digits 6 [.ref (G.1 0), .int i, .int r] mu nu (PC mu nu (s_digits z i r)) := by
  have hv : zv mu (z_V z) := hz.1
  have hw := hv.1
  have hN7 := hw.1
  have hm7 := hw.2.2.1
  have ho8 := hw.2.2.2.2
  have hcz : ((v_N (z_V z) : Nat) : Int) = ((z_N z : Nat) : Int) := rfl
  refine Ct.of (lv := [(0, .ref (G.1 0)), (1, .int i), (2, .int r)]) rfl rfl (Nat.le_of_ble_eq_true rfl) rfl (fun X C => ?_)
  generalize hQ : g_E G X _ = Q
  replace C : Cx G 6 X cX10_digits RX10 (some .int) 6 := C
  show Mq l G 6 X Q 0 [(0, .ref (G.1 0)), (1, .int i), (2, .int r)] [] mu nu
  refine m_aload_n C 0 dX10_digits_0 rfl ?_
  refine m_iload_n C 1 dX10_digits_1 rfl ?_
  refine m_callVf C 0 (by decide) rfl rfl (c_X10_isRod l G mu nu (z_V z) hv i) wkX10_137 (by decide) rfl rfl (Nat.le_of_ble_eq_true rfl) dX10_digits_2 ?_
  refine m_if_eq C 15 dX10_digits_5 (by decide) (fun hh1 => ?_) (fun hh1 => ?_)
  · replace hh1 := bI_eq0.mp hh1
    refine m_iconst C (-1) dX10_digits_15 (by decide +kernel) ?_
    refine m_ireti C hQ dX10_digits_16 ?_
    exact PC_of (by unfold s_digits; rw [if_pos (by omega)]) hz zcl_rfl
  replace hh1 := bI_ne0.mp hh1
  refine m_iload_n C 2 dX10_digits_8 rfl ?_
  refine m_callSf C (c_X10_isRow l G mu nu r) wkX10_76 (by decide) rfl rfl (Nat.le_of_ble_eq_true rfl) dX10_digits_9 ?_
  refine m_if_ne C 17 dX10_digits_12 (by decide) (fun hh2 => ?_) (fun hh2 => ?_)
  · replace hh2 := bI_ne0.mp hh2
    obtain ⟨ei, ki⟩ := ix_eq (x := i) (by omega)
    have hi : ix i < v_N (z_V z) := by omega
    have hri := hw.2.1 (ix i) hi
    have hdi := v_dg_le hw hi
    obtain ⟨er, kr⟩ := ix_eq (x := r) (by omega)
    have hpl := s_prs_le (x := z_rw z (ix r))
    refine m_aload_n C 0 dX10_digits_17 rfl ?_
    refine gfX10_11 C dX10_digits_18 ?_
    refine m_iload_n C 2 dX10_digits_21 rfl ?_
    refine m_topi (nI (ix r)) er ?_
    refine m_aald C 1 (by decide) 1 rfl ra_1 (ix r) (G.1 (2 + 2 * (ix r))) rfl (by omega) (by decide) rfl dX10_digits_22 ?_
    refine m_callSf C (c_X10_unfitPairs l G mu nu (2 + 2 * ix r) (stc_row (by omega)) 40 (by decide) (z_rw z (ix r)) (hz.2.2.2.1 (ix r) (by omega))) wkX10_235 (by decide) rfl rfl (Nat.le_of_ble_eq_true rfl) dX10_digits_23 ?_
    refine m_istore_n C [(3, .int (nI (s_prs (z_rw z (ix r))))), (0, .ref (G.1 0)), (1, .int i), (2, .int r)] dX10_digits_26 (by decide) rfl ?_
    refine m_iload_n C 0 dX10_digits_27 rfl ?_
    refine m_if_eq C 37 dX10_digits_28 (by decide) (fun hh3 => ?_) (fun hh3 => ?_)
    · replace hh3 := (ii_eq (nn_i (a := s_prs (z_rw z (ix r))) rfl (by omega)) (nn_i (a := 0) rfl (by omega))).mp hh3
      obtain ⟨xs, hxe, hev, hok⟩ := s_prs0 (x := z_rw z (ix r)) (by omega)
      have hxs0 := hz.2.2.2.1 (ix r) (by omega)
      rw [hxe] at hxs0
      obtain ⟨hx1, hx2, hx3⟩ := hxs0
      have hx0 : s_row0 (z_rw z (ix r)) = xs := by rw [hxe]; rfl
      refine m_iconst C 0 dX10_digits_37 (by decide +kernel) ?_
      refine m_istore C [(4, .int 0), (3, .int (nI (s_prs (z_rw z (ix r))))), (0, .ref (G.1 0)), (1, .int i), (2, .int r)] dX10_digits_38 (by decide) rfl ?_
      refine m_iconst C 0 dX10_digits_40 (by decide +kernel) ?_
      refine m_istore C [(5, .int 0), (4, .int 0), (3, .int (nI (s_prs (z_rw z (ix r))))), (0, .ref (G.1 0)), (1, .int i), (2, .int r)] dX10_digits_41 (by decide) rfl ?_
      have L43 : ∀ (fu : Nat) (d : Nat) (hd : d ≤ 10), 10 - d < fu → Mq l G 6 X Q 43 [(0, .ref (G.1 0)), (1, .int i), (2, .int r), (3, .int (nI (s_prs (z_rw z (ix r))))), (4, .int (nI (s_db (v_kd (z_V z) (ix i)) (v_mk (z_V z) (ix i)) xs d))), (5, .int (nI d))] [] mu nu := by
        intro fu
        induction fu with
        | zero => intro d hd hm; exact absurd hm (Nat.not_lt_zero _)
        | succ fu ih43 =>
          intro d hd hm
          refine m_iload C 5 dX10_digits_43 rfl ?_
          refine m_bipush C 10 dX10_digits_45 (by decide +kernel) ?_
          refine m_icmp_ge C 97 dX10_digits_47 (by decide) (fun hh4 => ?_) (fun hh4 => ?_)
          · replace hh4 := (ii_le (nn_i (a := 10) rfl (by omega)) (nn_i (a := d) rfl (by omega))).mp hh4
            refine m_iload C 4 dX10_digits_97 rfl ?_
            refine m_ireti C hQ dX10_digits_99 ?_
            have e10 : d = 10 := by omega
            subst e10; exact PC_of (by unfold s_digits; rw [if_neg (by omega), if_pos (by omega), hx0]) hz zcl_rfl
          replace hh4 := mt (ii_le (nn_i (a := 10) rfl (by omega)) (nn_i (a := d) rfl (by omega))).mpr hh4
          refine m_aload_n C 0 dX10_digits_50 rfl ?_
          refine gfX10_43 C dX10_digits_51 ?_
          refine m_iload_n C 1 dX10_digits_54 rfl ?_
          refine m_topi (nI (ix i)) ei ?_
          refine m_aald C 30 (by decide) 3 rfl ra_30 (ix i) (G.1 (31 + (ix i))) rfl (by omega) (by decide) rfl dX10_digits_55 ?_
          refine gfX10_144 C (31 + (ix i)) (rdc_of (by omega)) dX10_digits_56 ?_
          refine m_topr (b := G.1 (24 + v_kd (z_V z) (ix i))) (congrArg G.1 (zv_kr hv hi)) ?_
          refine m_iload C 5 dX10_digits_59 rfl ?_
          refine m_aload_n C 0 dX10_digits_61 rfl ?_
          refine gfX10_43 C dX10_digits_62 ?_
          refine m_iload_n C 1 dX10_digits_65 rfl ?_
          refine m_topi (nI (ix i)) ei ?_
          refine m_aald C 30 (by decide) 3 rfl ra_30 (ix i) (G.1 (31 + (ix i))) rfl (by omega) (by decide) rfl dX10_digits_66 ?_
          refine gfX10_238 C (31 + (ix i)) (rdc_of (by omega)) dX10_digits_67 ?_
          refine m_topi (nI (v_mk (z_V z) (ix i))) (zv_mk hv hi) ?_
          refine m_aload_n C 0 dX10_digits_70 rfl ?_
          refine gfX10_11 C dX10_digits_71 ?_
          refine m_iload_n C 2 dX10_digits_74 rfl ?_
          refine m_topi (nI (ix r)) er ?_
          refine m_aald C 1 (by decide) 1 rfl ra_1 (ix r) (G.1 (2 + 2 * (ix r))) rfl (by omega) (by decide) rfl dX10_digits_75 ?_
          refine m_callSf C (c_X10_fits l G mu nu (v_kd (z_V z) (ix i)) hri.1 d (v_mk (z_V z) (ix i)) (by omega) hri.2.2 (2 + 2 * ix r) (stc_row (by omega)) xs hx1 (by omega) hx3 hev hok) wkX10_241 (by decide) rfl rfl (Nat.le_of_ble_eq_true rfl) dX10_digits_76 ?_
          refine m_if_eq C 91 dX10_digits_79 (by decide) (fun hh5 => ?_) (fun hh5 => ?_)
          · replace hh5 := bI_eq0.mp hh5
            refine m_iinc C 5 (nI (d + 1)) [(5, .int (nI (d + 1))), (0, .ref (G.1 0)), (1, .int i), (2, .int r), (3, .int (nI (s_prs (z_rw z (ix r))))), (4, .int (nI (s_db (v_kd (z_V z) (ix i)) (v_mk (z_V z) (ix i)) xs d)))] dX10_digits_91 rfl (nn_add rfl (show Int32.ofInt 1 = nI 1 from rfl)) (by decide) rfl ?_
            rw [show nI (s_db (v_kd (z_V z) (ix i)) (v_mk (z_V z) (ix i)) xs d) = nI (s_db (v_kd (z_V z) (ix i)) (v_mk (z_V z) (ix i)) xs (d + 1)) from congrArg nI (show s_db (v_kd (z_V z) (ix i)) (v_mk (z_V z) (ix i)) xs d = s_db (v_kd (z_V z) (ix i)) (v_mk (z_V z) (ix i)) xs (d + 1) from (if_neg (by assumption)).symm)]
            refine m_goto C 43 dX10_digits_94 (by decide) ?_
            exact m_sub [1, 2, 3, 4, 5, 0] rfl (ih43 (d + 1) (by omega) (by omega))
          replace hh5 := bI_ne0.mp hh5
          refine m_iload C 4 dX10_digits_82 rfl ?_
          refine m_iconst C 1 dX10_digits_84 (by decide +kernel) ?_
          refine m_iload C 5 dX10_digits_85 rfl ?_
          refine m_ishl C dX10_digits_87 ?_
          refine m_topi (nI (2 ^ d)) (nn_shl1 rfl (by omega)) ?_
          refine m_ior C dX10_digits_88 ?_
          refine m_topi (nI ((s_db (v_kd (z_V z) (ix i)) (v_mk (z_V z) (ix i)) xs d) ||| (2 ^ d))) (nn_or rfl rfl) ?_
          refine m_istore C [(4, .int (nI ((s_db (v_kd (z_V z) (ix i)) (v_mk (z_V z) (ix i)) xs d) ||| (2 ^ d)))), (0, .ref (G.1 0)), (1, .int i), (2, .int r), (3, .int (nI (s_prs (z_rw z (ix r))))), (5, .int (nI d))] dX10_digits_89 (by decide) rfl ?_
          refine m_iinc C 5 (nI (d + 1)) [(5, .int (nI (d + 1))), (4, .int (nI ((s_db (v_kd (z_V z) (ix i)) (v_mk (z_V z) (ix i)) xs d) ||| (2 ^ d)))), (0, .ref (G.1 0)), (1, .int i), (2, .int r), (3, .int (nI (s_prs (z_rw z (ix r)))))] dX10_digits_91 rfl (nn_add rfl (show Int32.ofInt 1 = nI 1 from rfl)) (by decide) rfl ?_
          rw [show nI ((s_db (v_kd (z_V z) (ix i)) (v_mk (z_V z) (ix i)) xs d) ||| (2 ^ d)) = nI (s_db (v_kd (z_V z) (ix i)) (v_mk (z_V z) (ix i)) xs (d + 1)) from congrArg nI (show (s_db (v_kd (z_V z) (ix i)) (v_mk (z_V z) (ix i)) xs d) ||| (2 ^ d) = s_db (v_kd (z_V z) (ix i)) (v_mk (z_V z) (ix i)) xs (d + 1) from (if_pos (by assumption)).symm)]
          refine m_goto C 43 dX10_digits_94 (by decide) ?_
          exact m_sub [2, 3, 4, 5, 1, 0] rfl (ih43 (d + 1) (by omega) (by omega))
      exact m_sub [3, 4, 5, 2, 1, 0] rfl (L43 (_ + 1) 0 (Nat.zero_le _) (Nat.lt_succ_self _))
    replace hh3 := mt (ii_eq (nn_i (a := s_prs (z_rw z (ix r))) rfl (by omega)) (nn_i (a := 0) rfl (by omega))).mpr hh3
    refine m_aload_n C 1 dX10_digits_31 rfl ?_
    refine m_iload_n C 0 dX10_digits_32 rfl ?_
    refine m_callVi C 0 (by decide) rfl rfl (c_X10_found l G mu nu (s_prs (z_rw z (ix r))) (by omega)) wkX10_80 (by decide) rfl rfl (Nat.le_of_ble_eq_true rfl) dX10_digits_33 (fun r6 m6 n6 hp6 => ?_)
    refine m_ireti C hQ dX10_digits_36 ?_
    exact PC_find hz (by omega) hp6 (by unfold s_digits; rw [if_neg (by omega), if_neg (by omega)])
  replace hh2 := bI_eq0.mp hh2
  refine m_iconst C (-1) dX10_digits_15 (by decide +kernel) ?_
  refine m_ireti C hQ dX10_digits_16 ?_
  exact PC_of (by unfold s_digits; rw [if_pos (by omega)]) hz zcl_rfl

set_option maxHeartbeats 4000000 in
set_option maxRecDepth 100000 in
theorem c_X10_kinds (l : Launch) (G : Gl) (mu : Mu) (nu : Nu) (z : Zt) (hz : ZC mu nu z) (i r : Int32) : Ci l G mX10_kinds 7 [.ref (G.1 0), .int i, .int r] mu nu (PC mu nu (s_kinds z i r)) := by
  have hv : zv mu (z_V z) := hz.1
  have hw := hv.1
  have hN7 := hw.1
  have hm7 := hw.2.2.1
  have ho8 := hw.2.2.2.2
  have hcz : ((v_N (z_V z) : Nat) : Int) = ((z_N z : Nat) : Int) := rfl
  refine Ct.of (lv := [(0, .ref (G.1 0)), (1, .int i), (2, .int r)]) rfl rfl (Nat.le_of_ble_eq_true rfl) rfl (fun X C => ?_)
  generalize hQ : g_E G X _ = Q
  replace C : Cx G 4 X cX10_kinds RX10 (some .int) 7 := C
  show Mq l G 4 X Q 0 [(0, .ref (G.1 0)), (1, .int i), (2, .int r)] [] mu nu
  refine m_aload_n C 0 dX10_kinds_0 rfl ?_
  refine m_iload_n C 1 dX10_kinds_1 rfl ?_
  refine m_callVf C 0 (by decide) rfl rfl (c_X10_isRod l G mu nu (z_V z) hv i) wkX10_137 (by decide) rfl rfl (Nat.le_of_ble_eq_true rfl) dX10_kinds_2 ?_
  refine m_if_eq C 15 dX10_kinds_5 (by decide) (fun hh1 => ?_) (fun hh1 => ?_)
  · replace hh1 := bI_eq0.mp hh1
    refine m_iconst C (-1) dX10_kinds_15 (by decide +kernel) ?_
    refine m_ireti C hQ dX10_kinds_16 ?_
    exact PC_of (by unfold s_kinds; rw [if_pos (by omega)]) hz zcl_rfl
  replace hh1 := bI_ne0.mp hh1
  refine m_iload_n C 2 dX10_kinds_8 rfl ?_
  refine m_callSf C (c_X10_isRow l G mu nu r) wkX10_76 (by decide) rfl rfl (Nat.le_of_ble_eq_true rfl) dX10_kinds_9 ?_
  refine m_if_ne C 17 dX10_kinds_12 (by decide) (fun hh2 => ?_) (fun hh2 => ?_)
  · replace hh2 := bI_ne0.mp hh2
    obtain ⟨ei, ki⟩ := ix_eq (x := i) (by omega)
    have hi : ix i < v_N (z_V z) := by omega
    have hri := hw.2.1 (ix i) hi
    have hdi := v_dg_le hw hi
    obtain ⟨er, kr⟩ := ix_eq (x := r) (by omega)
    have hpl := s_prs_le (x := z_rw z (ix r))
    refine m_aload_n C 0 dX10_kinds_17 rfl ?_
    refine gfX10_11 C dX10_kinds_18 ?_
    refine m_iload_n C 2 dX10_kinds_21 rfl ?_
    refine m_topi (nI (ix r)) er ?_
    refine m_aald C 1 (by decide) 1 rfl ra_1 (ix r) (G.1 (2 + 2 * (ix r))) rfl (by omega) (by decide) rfl dX10_kinds_22 ?_
    refine m_callSf C (c_X10_unfitPairs l G mu nu (2 + 2 * ix r) (stc_row (by omega)) 40 (by decide) (z_rw z (ix r)) (hz.2.2.2.1 (ix r) (by omega))) wkX10_235 (by decide) rfl rfl (Nat.le_of_ble_eq_true rfl) dX10_kinds_23 ?_
    refine m_istore_n C [(3, .int (nI (s_prs (z_rw z (ix r))))), (0, .ref (G.1 0)), (1, .int i), (2, .int r)] dX10_kinds_26 (by decide) rfl ?_
    refine m_iload_n C 0 dX10_kinds_27 rfl ?_
    refine m_if_eq C 37 dX10_kinds_28 (by decide) (fun hh3 => ?_) (fun hh3 => ?_)
    · replace hh3 := (ii_eq (nn_i (a := s_prs (z_rw z (ix r))) rfl (by omega)) (nn_i (a := 0) rfl (by omega))).mp hh3
      obtain ⟨xs, hxe, hev, hok⟩ := s_prs0 (x := z_rw z (ix r)) (by omega)
      have hxs0 := hz.2.2.2.1 (ix r) (by omega)
      rw [hxe] at hxs0
      obtain ⟨hx1, hx2, hx3⟩ := hxs0
      have hx0 : s_row0 (z_rw z (ix r)) = xs := by rw [hxe]; rfl
      refine m_aload_n C 1 dX10_kinds_37 rfl ?_
      refine m_iload_n C 2 dX10_kinds_38 rfl ?_
      refine m_topi (nI (ix i)) ei ?_
      refine m_aload_n C 1 dX10_kinds_39 rfl ?_
      refine gfX10_11 C dX10_kinds_40 ?_
      refine m_iload_n C 3 dX10_kinds_43 rfl ?_
      refine m_topi (nI (ix r)) er ?_
      refine m_aald C 1 (by decide) 1 rfl ra_1 (ix r) (G.1 (2 + 2 * (ix r))) rfl (by omega) (by decide) rfl dX10_kinds_44 ?_
      refine m_callVf C 0 (by decide) rfl rfl (c_X10_fittingKinds l G mu nu (z_V z) hv (ix i) hi (2 + 2 * ix r) (stc_row (by omega)) xs hx1 (by omega) hx3 hev hok) wkX10_245 (by decide) rfl rfl (Nat.le_of_ble_eq_true rfl) dX10_kinds_45 ?_
      refine m_ireti C hQ dX10_kinds_48 ?_
      exact PC_of (by unfold s_kinds; rw [if_neg (by omega), if_pos (by omega), hx0]) hz zcl_rfl
    replace hh3 := mt (ii_eq (nn_i (a := s_prs (z_rw z (ix r))) rfl (by omega)) (nn_i (a := 0) rfl (by omega))).mpr hh3
    refine m_aload_n C 1 dX10_kinds_31 rfl ?_
    refine m_iload_n C 0 dX10_kinds_32 rfl ?_
    refine m_callVi C 0 (by decide) rfl rfl (c_X10_found l G mu nu (s_prs (z_rw z (ix r))) (by omega)) wkX10_80 (by decide) rfl rfl (Nat.le_of_ble_eq_true rfl) dX10_kinds_33 (fun r4 m4 n4 hp4 => ?_)
    refine m_ireti C hQ dX10_kinds_36 ?_
    exact PC_find hz (by omega) hp4 (by unfold s_kinds; rw [if_neg (by omega), if_neg (by omega)])
  replace hh2 := bI_eq0.mp hh2
  refine m_iconst C (-1) dX10_kinds_15 (by decide +kernel) ?_
  refine m_ireti C hQ dX10_kinds_16 ?_
  exact PC_of (by unfold s_kinds; rw [if_pos (by omega)]) hz zcl_rfl

set_option maxHeartbeats 4000000 in
set_option maxRecDepth 100000 in
theorem c_X10_test (l : Launch) (G : Gl) (mu : Mu) (nu : Nu) (z : Zt) (hz : ZC mu nu z) (i r : Int32) : Ci l G mX10_test 7 [.ref (G.1 0), .int i, .int r] mu nu (PC mu nu (s_test z i r)) := by
  have hv : zv mu (z_V z) := hz.1
  have hw := hv.1
  have hN7 := hw.1
  have hm7 := hw.2.2.1
  have ho8 := hw.2.2.2.2
  have hcz : ((v_N (z_V z) : Nat) : Int) = ((z_N z : Nat) : Int) := rfl
  refine Ct.of (lv := [(0, .ref (G.1 0)), (1, .int i), (2, .int r)]) rfl rfl (Nat.le_of_ble_eq_true rfl) rfl (fun X C => ?_)
  generalize hQ : g_E G X _ = Q
  replace C : Cx G 9 X cX10_test RX10 (some .int) 7 := C
  show Mq l G 9 X Q 0 [(0, .ref (G.1 0)), (1, .int i), (2, .int r)] [] mu nu
  refine m_aload_n C 0 dX10_test_0 rfl ?_
  refine m_iload_n C 1 dX10_test_1 rfl ?_
  refine m_callVf C 0 (by decide) rfl rfl (c_X10_isRod l G mu nu (z_V z) hv i) wkX10_137 (by decide) rfl rfl (Nat.le_of_ble_eq_true rfl) dX10_test_2 ?_
  refine m_if_eq C 15 dX10_test_5 (by decide) (fun hh1 => ?_) (fun hh1 => ?_)
  · replace hh1 := bI_eq0.mp hh1
    refine m_iconst C (-1) dX10_test_15 (by decide +kernel) ?_
    refine m_ireti C hQ dX10_test_16 ?_
    exact PC_of (by unfold s_test; rw [if_pos (by omega)]) hz zcl_rfl
  replace hh1 := bI_ne0.mp hh1
  refine m_iload_n C 2 dX10_test_8 rfl ?_
  refine m_callSf C (c_X10_isRow l G mu nu r) wkX10_76 (by decide) rfl rfl (Nat.le_of_ble_eq_true rfl) dX10_test_9 ?_
  refine m_if_ne C 17 dX10_test_12 (by decide) (fun hh2 => ?_) (fun hh2 => ?_)
  · replace hh2 := bI_ne0.mp hh2
    obtain ⟨ei, ki⟩ := ix_eq (x := i) (by omega)
    have hi : ix i < v_N (z_V z) := by omega
    have hri := hw.2.1 (ix i) hi
    have hdi := v_dg_le hw hi
    obtain ⟨er, kr⟩ := ix_eq (x := r) (by omega)
    have hpl := s_prs_le (x := z_rw z (ix r))
    refine m_aload_n C 0 dX10_test_17 rfl ?_
    refine gfX10_11 C dX10_test_18 ?_
    refine m_iload_n C 2 dX10_test_21 rfl ?_
    refine m_topi (nI (ix r)) er ?_
    refine m_aald C 1 (by decide) 1 rfl ra_1 (ix r) (G.1 (2 + 2 * (ix r))) rfl (by omega) (by decide) rfl dX10_test_22 ?_
    refine m_callSf C (c_X10_unfitPairs l G mu nu (2 + 2 * ix r) (stc_row (by omega)) 40 (by decide) (z_rw z (ix r)) (hz.2.2.2.1 (ix r) (by omega))) wkX10_235 (by decide) rfl rfl (Nat.le_of_ble_eq_true rfl) dX10_test_23 ?_
    refine m_istore_n C [(3, .int (nI (s_prs (z_rw z (ix r))))), (0, .ref (G.1 0)), (1, .int i), (2, .int r)] dX10_test_26 (by decide) rfl ?_
    refine m_iload_n C 0 dX10_test_27 rfl ?_
    refine m_if_eq C 37 dX10_test_28 (by decide) (fun hh3 => ?_) (fun hh3 => ?_)
    · replace hh3 := (ii_eq (nn_i (a := s_prs (z_rw z (ix r))) rfl (by omega)) (nn_i (a := 0) rfl (by omega))).mp hh3
      obtain ⟨xs, hxe, hev, hok⟩ := s_prs0 (x := z_rw z (ix r)) (by omega)
      have hxs0 := hz.2.2.2.1 (ix r) (by omega)
      rw [hxe] at hxs0
      obtain ⟨hx1, hx2, hx3⟩ := hxs0
      have hx0 : s_row0 (z_rw z (ix r)) = xs := by rw [hxe]; rfl
      have hfk := s_fk_lt (d := v_dg (z_V z) (ix i)) (m := v_mk (z_V z) (ix i)) (xs := xs) 6 (by decide)
      refine m_aload_n C 1 dX10_test_37 rfl ?_
      refine m_iload_n C 2 dX10_test_38 rfl ?_
      refine m_topi (nI (ix i)) ei ?_
      refine m_aload_n C 1 dX10_test_39 rfl ?_
      refine gfX10_11 C dX10_test_40 ?_
      refine m_iload_n C 3 dX10_test_43 rfl ?_
      refine m_topi (nI (ix r)) er ?_
      refine m_aald C 1 (by decide) 1 rfl ra_1 (ix r) (G.1 (2 + 2 * (ix r))) rfl (by omega) (by decide) rfl dX10_test_44 ?_
      refine m_callVf C 0 (by decide) rfl rfl (c_X10_fittingKinds l G mu nu (z_V z) hv (ix i) hi (2 + 2 * ix r) (stc_row (by omega)) xs hx1 (by omega) hx3 hev hok) wkX10_245 (by decide) rfl rfl (Nat.le_of_ble_eq_true rfl) dX10_test_45 ?_
      refine m_istore C [(4, .int (nI (s_fk (v_dg (z_V z) (ix i)) (v_mk (z_V z) (ix i)) xs 6))), (3, .int (nI (s_prs (z_rw z (ix r))))), (0, .ref (G.1 0)), (1, .int i), (2, .int r)] dX10_test_48 (by decide) rfl ?_
      refine m_iload C 0 dX10_test_50 rfl ?_
      refine m_if_ne C 58 dX10_test_52 (by decide) (fun hh4 => ?_) (fun hh4 => ?_)
      · replace hh4 := mt (ii_eq (nn_i (a := s_fk (v_dg (z_V z) (ix i)) (v_mk (z_V z) (ix i)) xs 6) rfl (by omega)) (nn_i (a := 0) rfl (by omega))).mpr hh4
        refine m_iconst C 1 dX10_test_58 (by decide +kernel) ?_
        refine m_istore C [(5, .int 1), (4, .int (nI (s_fk (v_dg (z_V z) (ix i)) (v_mk (z_V z) (ix i)) xs 6))), (3, .int (nI (s_prs (z_rw z (ix r))))), (0, .ref (G.1 0)), (1, .int i), (2, .int r)] dX10_test_59 (by decide) rfl ?_
        refine m_aload_n C 3 dX10_test_61 rfl ?_
        refine m_iload_n C 4 dX10_test_62 rfl ?_
        refine m_topi (nI (ix i)) ei ?_
        refine m_iload C 1 dX10_test_63 rfl ?_
        refine m_iconst C 1 dX10_test_65 (by decide +kernel) ?_
        refine m_callVf C 0 (by decide) rfl rfl (c_X10_greatestPart l G mu nu (z_V z) hv (ix i) hi (s_fk (v_dg (z_V z) (ix i)) (v_mk (z_V z) (ix i)) xs 6) (by omega) 1 (by omega) (by omega)) wkX10_249 (by decide) rfl rfl (Nat.le_of_ble_eq_true rfl) dX10_test_66 ?_
        refine m_istore C [(6, .int (nI (v_pa (z_V z) (ix i) (s_fk (v_dg (z_V z) (ix i)) (v_mk (z_V z) (ix i)) xs 6) 1 6))), (5, .int 1), (4, .int (nI (s_fk (v_dg (z_V z) (ix i)) (v_mk (z_V z) (ix i)) xs 6))), (3, .int (nI (s_prs (z_rw z (ix r))))), (0, .ref (G.1 0)), (1, .int i), (2, .int r)] dX10_test_69 (by decide) rfl ?_
        refine m_iconst C 2 dX10_test_71 (by decide +kernel) ?_
        refine m_istore C [(7, .int 2), (6, .int (nI (v_pa (z_V z) (ix i) (s_fk (v_dg (z_V z) (ix i)) (v_mk (z_V z) (ix i)) xs 6) 1 6))), (5, .int 1), (4, .int (nI (s_fk (v_dg (z_V z) (ix i)) (v_mk (z_V z) (ix i)) xs 6))), (3, .int (nI (s_prs (z_rw z (ix r))))), (0, .ref (G.1 0)), (1, .int i), (2, .int r)] dX10_test_72 (by decide) rfl ?_
        have L74 : ∀ (fu : Nat) (k : Nat) (hk : k ≤ 8), 8 - k < fu → Mq l G 9 X Q 74 [(0, .ref (G.1 0)), (1, .int i), (2, .int r), (3, .int (nI (s_prs (z_rw z (ix r))))), (4, .int (nI (s_fk (v_dg (z_V z) (ix i)) (v_mk (z_V z) (ix i)) xs 6))), (5, .int (nI ((v_tt (z_V z) (ix i) (s_fk (v_dg (z_V z) (ix i)) (v_mk (z_V z) (ix i)) xs 6) k).1))), (6, .int (nI ((v_tt (z_V z) (ix i) (s_fk (v_dg (z_V z) (ix i)) (v_mk (z_V z) (ix i)) xs 6) k).2))), (7, .int (nI (k + 2)))] [] mu nu := by
          intro fu
          induction fu with
          | zero => intro k hk hm; exact absurd hm (Nat.not_lt_zero _)
          | succ fu ih74 =>
            intro k hk hm
            obtain ⟨ht1, ht2⟩ := v_tt_le (V := z_V z) (i := ix i) (bits := s_fk (v_dg (z_V z) (ix i)) (v_mk (z_V z) (ix i)) xs 6) k
            refine m_iload C 7 dX10_test_74 rfl ?_
            refine m_bipush C 9 dX10_test_76 (by decide +kernel) ?_
            refine m_icmp_gt C 113 dX10_test_78 (by decide) (fun hh5 => ?_) (fun hh5 => ?_)
            · replace hh5 := (ii_lt (nn_i (a := 9) rfl (by omega)) (nn_i (a := k + 2) rfl (by omega))).mp hh5
              refine m_aload_n C 0 dX10_test_113 rfl ?_
              refine m_iload C 6 dX10_test_114 rfl ?_
              refine pfX10_95 C dX10_test_116 ?_
              refine m_nameM (fun mu6 emu6 => ?_)
              refine m_iload C 5 dX10_test_119 rfl ?_
              refine m_ireti C hQ dX10_test_121 ?_
              have ek8 : k = 8 := by omega
              rw [emu6]; subst ek8; exact PC_of (by unfold s_test; rw [if_neg (by omega), if_pos (by omega), hx0, if_neg (by omega)]) (zc_told hz) zcl_told
            replace hh5 := mt (ii_lt (nn_i (a := 9) rfl (by omega)) (nn_i (a := k + 2) rfl (by omega))).mpr hh5
            refine m_aload_n C 0 dX10_test_81 rfl ?_
            refine m_iload_n C 1 dX10_test_82 rfl ?_
            refine m_topi (nI (ix i)) ei ?_
            refine m_iload C 4 dX10_test_83 rfl ?_
            refine m_iload C 7 dX10_test_85 rfl ?_
            refine m_callVf C 0 (by decide) rfl rfl (c_X10_greatestPart l G mu nu (z_V z) hv (ix i) hi (s_fk (v_dg (z_V z) (ix i)) (v_mk (z_V z) (ix i)) xs 6) (by omega) (k + 2) (by omega) (by omega)) wkX10_249 (by decide) rfl rfl (Nat.le_of_ble_eq_true rfl) dX10_test_87 ?_
            have hpk := v_pa_le (V := z_V z) (i := ix i) (bits := s_fk (v_dg (z_V z) (ix i)) (v_mk (z_V z) (ix i)) xs 6) (n := k + 2) 6
            refine m_istore C [(8, .int (nI (v_pa (z_V z) (ix i) (s_fk (v_dg (z_V z) (ix i)) (v_mk (z_V z) (ix i)) xs 6) (k + 2) 6))), (0, .ref (G.1 0)), (1, .int i), (2, .int r), (3, .int (nI (s_prs (z_rw z (ix r))))), (4, .int (nI (s_fk (v_dg (z_V z) (ix i)) (v_mk (z_V z) (ix i)) xs 6))), (5, .int (nI ((v_tt (z_V z) (ix i) (s_fk (v_dg (z_V z) (ix i)) (v_mk (z_V z) (ix i)) xs 6) k).1))), (6, .int (nI ((v_tt (z_V z) (ix i) (s_fk (v_dg (z_V z) (ix i)) (v_mk (z_V z) (ix i)) xs 6) k).2))), (7, .int (nI (k + 2)))] dX10_test_90 (by decide) rfl ?_
            refine m_iload C 0 dX10_test_92 rfl ?_
            refine m_iload C 7 dX10_test_94 rfl ?_
            refine m_icmp_ge C 107 dX10_test_96 (by decide) (fun hh7 => ?_) (fun hh7 => ?_)
            · replace hh7 := (ii_le (nn_i (a := (v_tt (z_V z) (ix i) (s_fk (v_dg (z_V z) (ix i)) (v_mk (z_V z) (ix i)) xs 6) k).2) rfl (by omega)) (nn_i (a := v_pa (z_V z) (ix i) (s_fk (v_dg (z_V z) (ix i)) (v_mk (z_V z) (ix i)) xs 6) (k + 2) 6) rfl (by omega))).mp hh7
              have et1 : nI ((v_tt (z_V z) (ix i) (s_fk (v_dg (z_V z) (ix i)) (v_mk (z_V z) (ix i)) xs 6) k).1) = nI (v_tt (z_V z) (ix i) (s_fk (v_dg (z_V z) (ix i)) (v_mk (z_V z) (ix i)) xs 6) (k + 1)).1 := (congrArg (fun q => nI q.1) (if_neg (by omega) : (v_tt (z_V z) (ix i) (s_fk (v_dg (z_V z) (ix i)) (v_mk (z_V z) (ix i)) xs 6) (k + 1)) = v_tt (z_V z) (ix i) (s_fk (v_dg (z_V z) (ix i)) (v_mk (z_V z) (ix i)) xs 6) k)).symm
              have et2 : nI ((v_tt (z_V z) (ix i) (s_fk (v_dg (z_V z) (ix i)) (v_mk (z_V z) (ix i)) xs 6) k).2) = nI (v_tt (z_V z) (ix i) (s_fk (v_dg (z_V z) (ix i)) (v_mk (z_V z) (ix i)) xs 6) (k + 1)).2 := (congrArg (fun q => nI q.2) (if_neg (by omega) : (v_tt (z_V z) (ix i) (s_fk (v_dg (z_V z) (ix i)) (v_mk (z_V z) (ix i)) xs 6) (k + 1)) = v_tt (z_V z) (ix i) (s_fk (v_dg (z_V z) (ix i)) (v_mk (z_V z) (ix i)) xs 6) k)).symm
              refine m_lv (lw := [(8, .int (nI (v_pa (z_V z) (ix i) (s_fk (v_dg (z_V z) (ix i)) (v_mk (z_V z) (ix i)) xs 6) (k + 2) 6))), (0, .ref (G.1 0)), (1, .int i), (2, .int r), (3, .int (nI (s_prs (z_rw z (ix r))))), (4, .int (nI (s_fk (v_dg (z_V z) (ix i)) (v_mk (z_V z) (ix i)) xs 6))), (5, .int (nI ((v_tt (z_V z) (ix i) (s_fk (v_dg (z_V z) (ix i)) (v_mk (z_V z) (ix i)) xs 6) (k + 1)).1))), (6, .int (nI ((v_tt (z_V z) (ix i) (s_fk (v_dg (z_V z) (ix i)) (v_mk (z_V z) (ix i)) xs 6) (k + 1)).2))), (7, .int (nI (k + 2)))]) (congrArg2 (fun a b => ([(8, .int (nI (v_pa (z_V z) (ix i) (s_fk (v_dg (z_V z) (ix i)) (v_mk (z_V z) (ix i)) xs 6) (k + 2) 6))), (0, .ref (G.1 0)), (1, .int i), (2, .int r), (3, .int (nI (s_prs (z_rw z (ix r))))), (4, .int (nI (s_fk (v_dg (z_V z) (ix i)) (v_mk (z_V z) (ix i)) xs 6))), (5, .int a), (6, .int b), (7, .int (nI (k + 2)))] : List (Nat × Value))) et1 et2) ?_
              refine m_iinc C 8 (nI (k + 2 + 1)) [(7, .int (nI (k + 2 + 1))), (8, .int (nI (v_pa (z_V z) (ix i) (s_fk (v_dg (z_V z) (ix i)) (v_mk (z_V z) (ix i)) xs 6) (k + 2) 6))), (0, .ref (G.1 0)), (1, .int i), (2, .int r), (3, .int (nI (s_prs (z_rw z (ix r))))), (4, .int (nI (s_fk (v_dg (z_V z) (ix i)) (v_mk (z_V z) (ix i)) xs 6))), (5, .int (nI ((v_tt (z_V z) (ix i) (s_fk (v_dg (z_V z) (ix i)) (v_mk (z_V z) (ix i)) xs 6) (k + 1)).1))), (6, .int (nI ((v_tt (z_V z) (ix i) (s_fk (v_dg (z_V z) (ix i)) (v_mk (z_V z) (ix i)) xs 6) (k + 1)).2)))] dX10_test_107 rfl (nn_add rfl (show Int32.ofInt 1 = nI 1 from rfl)) (by decide) rfl ?_
              refine m_goto C 74 dX10_test_110 (by decide) ?_
              exact m_sub [2, 3, 4, 5, 6, 7, 8, 0] rfl (ih74 (k + 1) (by omega) (by omega))
            replace hh7 := mt (ii_le (nn_i (a := (v_tt (z_V z) (ix i) (s_fk (v_dg (z_V z) (ix i)) (v_mk (z_V z) (ix i)) xs 6) k).2) rfl (by omega)) (nn_i (a := v_pa (z_V z) (ix i) (s_fk (v_dg (z_V z) (ix i)) (v_mk (z_V z) (ix i)) xs 6) (k + 2) 6) rfl (by omega))).mpr hh7
            refine m_iload C 0 dX10_test_99 rfl ?_
            refine m_istore C [(6, .int (nI (v_pa (z_V z) (ix i) (s_fk (v_dg (z_V z) (ix i)) (v_mk (z_V z) (ix i)) xs 6) (k + 2) 6))), (8, .int (nI (v_pa (z_V z) (ix i) (s_fk (v_dg (z_V z) (ix i)) (v_mk (z_V z) (ix i)) xs 6) (k + 2) 6))), (0, .ref (G.1 0)), (1, .int i), (2, .int r), (3, .int (nI (s_prs (z_rw z (ix r))))), (4, .int (nI (s_fk (v_dg (z_V z) (ix i)) (v_mk (z_V z) (ix i)) xs 6))), (5, .int (nI ((v_tt (z_V z) (ix i) (s_fk (v_dg (z_V z) (ix i)) (v_mk (z_V z) (ix i)) xs 6) k).1))), (7, .int (nI (k + 2)))] dX10_test_101 (by decide) rfl ?_
            refine m_iload C 8 dX10_test_103 rfl ?_
            refine m_istore C [(5, .int (nI (k + 2))), (6, .int (nI (v_pa (z_V z) (ix i) (s_fk (v_dg (z_V z) (ix i)) (v_mk (z_V z) (ix i)) xs 6) (k + 2) 6))), (8, .int (nI (v_pa (z_V z) (ix i) (s_fk (v_dg (z_V z) (ix i)) (v_mk (z_V z) (ix i)) xs 6) (k + 2) 6))), (0, .ref (G.1 0)), (1, .int i), (2, .int r), (3, .int (nI (s_prs (z_rw z (ix r))))), (4, .int (nI (s_fk (v_dg (z_V z) (ix i)) (v_mk (z_V z) (ix i)) xs 6))), (7, .int (nI (k + 2)))] dX10_test_105 (by decide) rfl ?_
            have et1 : nI (k + 2) = nI (v_tt (z_V z) (ix i) (s_fk (v_dg (z_V z) (ix i)) (v_mk (z_V z) (ix i)) xs 6) (k + 1)).1 := (congrArg (fun q => nI q.1) (if_pos (by omega) : (v_tt (z_V z) (ix i) (s_fk (v_dg (z_V z) (ix i)) (v_mk (z_V z) (ix i)) xs 6) (k + 1)) = (k + 2, v_pa (z_V z) (ix i) (s_fk (v_dg (z_V z) (ix i)) (v_mk (z_V z) (ix i)) xs 6) (k + 2) 6))).symm
            have et2 : nI (v_pa (z_V z) (ix i) (s_fk (v_dg (z_V z) (ix i)) (v_mk (z_V z) (ix i)) xs 6) (k + 2) 6) = nI (v_tt (z_V z) (ix i) (s_fk (v_dg (z_V z) (ix i)) (v_mk (z_V z) (ix i)) xs 6) (k + 1)).2 := (congrArg (fun q => nI q.2) (if_pos (by omega) : (v_tt (z_V z) (ix i) (s_fk (v_dg (z_V z) (ix i)) (v_mk (z_V z) (ix i)) xs 6) (k + 1)) = (k + 2, v_pa (z_V z) (ix i) (s_fk (v_dg (z_V z) (ix i)) (v_mk (z_V z) (ix i)) xs 6) (k + 2) 6))).symm
            refine m_lv (lw := [(5, .int (nI ((v_tt (z_V z) (ix i) (s_fk (v_dg (z_V z) (ix i)) (v_mk (z_V z) (ix i)) xs 6) (k + 1)).1))), (6, .int (nI ((v_tt (z_V z) (ix i) (s_fk (v_dg (z_V z) (ix i)) (v_mk (z_V z) (ix i)) xs 6) (k + 1)).2))), (8, .int (nI (v_pa (z_V z) (ix i) (s_fk (v_dg (z_V z) (ix i)) (v_mk (z_V z) (ix i)) xs 6) (k + 2) 6))), (0, .ref (G.1 0)), (1, .int i), (2, .int r), (3, .int (nI (s_prs (z_rw z (ix r))))), (4, .int (nI (s_fk (v_dg (z_V z) (ix i)) (v_mk (z_V z) (ix i)) xs 6))), (7, .int (nI (k + 2)))]) (congrArg2 (fun a b => ([(5, .int a), (6, .int b), (8, .int (nI (v_pa (z_V z) (ix i) (s_fk (v_dg (z_V z) (ix i)) (v_mk (z_V z) (ix i)) xs 6) (k + 2) 6))), (0, .ref (G.1 0)), (1, .int i), (2, .int r), (3, .int (nI (s_prs (z_rw z (ix r))))), (4, .int (nI (s_fk (v_dg (z_V z) (ix i)) (v_mk (z_V z) (ix i)) xs 6))), (7, .int (nI (k + 2)))] : List (Nat × Value))) et1 et2) ?_
            refine m_iinc C 8 (nI (k + 2 + 1)) [(7, .int (nI (k + 2 + 1))), (5, .int (nI ((v_tt (z_V z) (ix i) (s_fk (v_dg (z_V z) (ix i)) (v_mk (z_V z) (ix i)) xs 6) (k + 1)).1))), (6, .int (nI ((v_tt (z_V z) (ix i) (s_fk (v_dg (z_V z) (ix i)) (v_mk (z_V z) (ix i)) xs 6) (k + 1)).2))), (8, .int (nI (v_pa (z_V z) (ix i) (s_fk (v_dg (z_V z) (ix i)) (v_mk (z_V z) (ix i)) xs 6) (k + 2) 6))), (0, .ref (G.1 0)), (1, .int i), (2, .int r), (3, .int (nI (s_prs (z_rw z (ix r))))), (4, .int (nI (s_fk (v_dg (z_V z) (ix i)) (v_mk (z_V z) (ix i)) xs 6)))] dX10_test_107 rfl (nn_add rfl (show Int32.ofInt 1 = nI 1 from rfl)) (by decide) rfl ?_
            refine m_goto C 74 dX10_test_110 (by decide) ?_
            exact m_sub [4, 5, 6, 7, 8, 1, 2, 0] rfl (ih74 (k + 1) (by omega) (by omega))
        exact m_sub [5, 6, 7, 4, 3, 2, 1, 0] rfl (L74 (_ + 1) 0 (Nat.zero_le _) (Nat.lt_succ_self _))
      replace hh4 := (ii_eq (nn_i (a := s_fk (v_dg (z_V z) (ix i)) (v_mk (z_V z) (ix i)) xs 6) rfl (by omega)) (nn_i (a := 0) rfl (by omega))).mp hh4
      refine m_bipush C (-9) dX10_test_55 (by decide +kernel) ?_
      refine m_ireti C hQ dX10_test_57 ?_
      exact PC_of (by unfold s_test; rw [if_neg (by omega), if_pos (by omega), hx0, if_pos (by omega)]) hz zcl_rfl
    replace hh3 := mt (ii_eq (nn_i (a := s_prs (z_rw z (ix r))) rfl (by omega)) (nn_i (a := 0) rfl (by omega))).mpr hh3
    refine m_aload_n C 1 dX10_test_31 rfl ?_
    refine m_iload_n C 0 dX10_test_32 rfl ?_
    refine m_callVi C 0 (by decide) rfl rfl (c_X10_found l G mu nu (s_prs (z_rw z (ix r))) (by omega)) wkX10_80 (by decide) rfl rfl (Nat.le_of_ble_eq_true rfl) dX10_test_33 (fun r8 m8 n8 hp8 => ?_)
    refine m_ireti C hQ dX10_test_36 ?_
    exact PC_find hz (by omega) hp8 (by unfold s_test; rw [if_neg (by omega), if_neg (by omega)])
  replace hh2 := bI_eq0.mp hh2
  refine m_iconst C (-1) dX10_test_15 (by decide +kernel) ?_
  refine m_ireti C hQ dX10_test_16 ?_
  exact PC_of (by unfold s_test; rw [if_pos (by omega)]) hz zcl_rfl

set_option maxHeartbeats 4000000 in
set_option maxRecDepth 100000 in
theorem c_X10_other (l : Launch) (G : Gl) (mu : Mu) (nu : Nu) (z : Zt) (hz : ZC mu nu z) (r : Int32) : Ci l G mX10_other 7 [.ref (G.1 0), .int r] mu nu (PC mu nu (s_other z r)) := by
  have hv : zv mu (z_V z) := hz.1
  have hw := hv.1
  have hN7 := hw.1
  have hm7 := hw.2.2.1
  have ho8 := hw.2.2.2.2
  have hcz : ((v_N (z_V z) : Nat) : Int) = ((z_N z : Nat) : Int) := rfl
  refine Ct.of (lv := [(0, .ref (G.1 0)), (1, .int r)]) rfl rfl (Nat.le_of_ble_eq_true rfl) rfl (fun X C => ?_)
  generalize hQ : g_E G X _ = Q
  replace C : Cx G 7 X cX10_other RX10 (some .int) 7 := C
  show Mq l G 7 X Q 0 [(0, .ref (G.1 0)), (1, .int r)] [] mu nu
  refine m_iload_n C 1 dX10_other_0 rfl ?_
  refine m_callSf C (c_X10_isRow l G mu nu r) wkX10_76 (by decide) rfl rfl (Nat.le_of_ble_eq_true rfl) dX10_other_1 ?_
  refine m_if_ne C 9 dX10_other_4 (by decide) (fun hh1 => ?_) (fun hh1 => ?_)
  · replace hh1 := bI_ne0.mp hh1
    obtain ⟨er, kr⟩ := ix_eq (x := r) (by omega)
    have hpl := s_prs_le (x := z_rw z (ix r))
    refine m_aload_n C 0 dX10_other_9 rfl ?_
    refine gfX10_11 C dX10_other_10 ?_
    refine m_iload_n C 1 dX10_other_13 rfl ?_
    refine m_topi (nI (ix r)) er ?_
    refine m_aald C 1 (by decide) 1 rfl ra_1 (ix r) (G.1 (2 + 2 * (ix r))) rfl (by omega) (by decide) rfl dX10_other_14 ?_
    refine m_callSf C (c_X10_unfitPairs l G mu nu (2 + 2 * ix r) (stc_row (by omega)) 40 (by decide) (z_rw z (ix r)) (hz.2.2.2.1 (ix r) (by omega))) wkX10_235 (by decide) rfl rfl (Nat.le_of_ble_eq_true rfl) dX10_other_15 ?_
    refine m_istore_n C [(2, .int (nI (s_prs (z_rw z (ix r))))), (0, .ref (G.1 0)), (1, .int r)] dX10_other_18 (by decide) rfl ?_
    refine m_iload_n C 0 dX10_other_19 rfl ?_
    refine m_if_eq C 29 dX10_other_20 (by decide) (fun hh2 => ?_) (fun hh2 => ?_)
    · replace hh2 := (ii_eq (nn_i (a := s_prs (z_rw z (ix r))) rfl (by omega)) (nn_i (a := 0) rfl (by omega))).mp hh2
      obtain ⟨xs, hxe, hev, hok⟩ := s_prs0 (x := z_rw z (ix r)) (by omega)
      have hxs0 := hz.2.2.2.1 (ix r) (by omega)
      rw [hxe] at hxs0
      obtain ⟨hx1, hx2, hx3⟩ := hxs0
      have hx0 : s_row0 (z_rw z (ix r)) = xs := by rw [hxe]; rfl
      refine m_iconst C 0 dX10_other_29 (by decide +kernel) ?_
      refine m_istore_n C [(3, .int 0), (2, .int (nI (s_prs (z_rw z (ix r))))), (0, .ref (G.1 0)), (1, .int r)] dX10_other_30 (by decide) rfl ?_
      refine m_iconst C 0 dX10_other_31 (by decide +kernel) ?_
      refine m_istore C [(4, .int 0), (3, .int 0), (2, .int (nI (s_prs (z_rw z (ix r))))), (0, .ref (G.1 0)), (1, .int r)] dX10_other_32 (by decide) rfl ?_
      refine m_iconst C 0 dX10_other_34 (by decide +kernel) ?_
      refine m_istore C [(5, .int 0), (4, .int 0), (3, .int 0), (2, .int (nI (s_prs (z_rw z (ix r))))), (0, .ref (G.1 0)), (1, .int r)] dX10_other_35 (by decide) rfl ?_
      have L37 : ∀ (fu : Nat) (p : Nat) (hp : p ≤ v_m (z_V z)), v_m (z_V z) - p < fu → Mq l G 7 X Q 37 [(0, .ref (G.1 0)), (1, .int r), (2, .int (nI (s_prs (z_rw z (ix r))))), (3, .int (nI ((v_op (z_V z) xs p).1))), (4, .int (nI ((v_op (z_V z) xs p).2))), (5, .int (nI p))] [] mu nu := by
        intro fu
        induction fu with
        | zero => intro p hp hm; exact absurd hm (Nat.not_lt_zero _)
        | succ fu ih37 =>
          intro p hp hm
          have hpl := v_op_le (V := z_V z) (xs := xs) p
          refine m_iload C 5 dX10_other_37 rfl ?_
          refine m_aload_n C 0 dX10_other_39 rfl ?_
          refine gfX10_53 C dX10_other_40 ?_
          refine gfX10_175 C 38 bnc_38 dX10_other_43 ?_
          refine m_topi (nI (v_m (z_V z))) (zv_m hv) ?_
          refine m_icmp_ge C 124 dX10_other_46 (by decide) (fun hh3 => ?_) (fun hh3 => ?_)
          · replace hh3 := (ii_le (nn_i (a := v_m (z_V z)) rfl (by omega)) (nn_i (a := p) rfl (by omega))).mp hh3
            refine m_iload_n C 3 dX10_other_124 rfl ?_
            refine m_if_ne C 131 dX10_other_125 (by decide) (fun hh4 => ?_) (fun hh4 => ?_)
            · replace hh4 := mt (ii_eq (nn_i (a := (v_op (z_V z) xs p).1) rfl (by omega)) (nn_i (a := 0) rfl (by omega))).mpr hh4
              refine m_aload_n C 0 dX10_other_131 rfl ?_
              refine m_iload C 4 dX10_other_132 rfl ?_
              refine pfX10_95 C dX10_other_134 ?_
              refine m_nameM (fun mu5 emu5 => ?_)
              refine m_iload_n C 3 dX10_other_137 rfl ?_
              refine m_ireti C hQ dX10_other_138 ?_
              have ep : p = v_m (z_V z) := by omega
              rw [emu5]; subst ep; exact PC_of (by unfold s_other; rw [if_neg (by omega), if_pos (by omega), hx0, if_neg (by omega)]) (zc_told hz) zcl_told
            replace hh4 := (ii_eq (nn_i (a := (v_op (z_V z) xs p).1) rfl (by omega)) (nn_i (a := 0) rfl (by omega))).mp hh4
            refine m_bipush C (-9) dX10_other_128 (by decide +kernel) ?_
            refine m_ireti C hQ dX10_other_130 ?_
            have ep : p = v_m (z_V z) := by omega
            subst ep; exact PC_of (by unfold s_other; rw [if_neg (by omega), if_pos (by omega), hx0, if_pos (by omega)]) hz zcl_rfl
          replace hh3 := mt (ii_le (nn_i (a := v_m (z_V z)) rfl (by omega)) (nn_i (a := p) rfl (by omega))).mpr hh3
          have hfp := hw.2.2.2.1 p (by omega)
          have hdp := v_dg_le hw hfp
          refine m_iconst C 0 dX10_other_49 (by decide +kernel) ?_
          refine m_istore C [(6, .int 0), (0, .ref (G.1 0)), (1, .int r), (2, .int (nI (s_prs (z_rw z (ix r))))), (3, .int (nI ((v_op (z_V z) xs p).1))), (4, .int (nI ((v_op (z_V z) xs p).2))), (5, .int (nI p))] dX10_other_50 (by decide) rfl ?_
          have L52 : ∀ (fu : Nat) (d : Nat) (hd : d ≤ 10), 10 - d < fu → Mq l G 7 X Q 52 [(0, .ref (G.1 0)), (1, .int r), (2, .int (nI (s_prs (z_rw z (ix r))))), (3, .int (nI ((v_od (z_V z) xs p (v_op (z_V z) xs p) d).1))), (4, .int (nI ((v_od (z_V z) xs p (v_op (z_V z) xs p) d).2))), (5, .int (nI p)), (6, .int (nI d))] [] mu nu := by
            intro fu
            induction fu with
            | zero => intro d hd hm; exact absurd hm (Nat.not_lt_zero _)
            | succ fu ih52 =>
              intro d hd hm
              have hol := v_od_le (V := z_V z) (xs := xs) (p := p) (a := v_op (z_V z) xs p) d
              refine m_iload C 6 dX10_other_52 rfl ?_
              refine m_bipush C 10 dX10_other_54 (by decide +kernel) ?_
              refine m_icmp_ge C 118 dX10_other_56 (by decide) (fun hh6 => ?_) (fun hh6 => ?_)
              · replace hh6 := (ii_le (nn_i (a := 10) rfl (by omega)) (nn_i (a := d) rfl (by omega))).mp hh6
                have ed : d = 10 := by omega
                rw [ed]
                show Mq l G 7 X Q 118 [(0, .ref (G.1 0)), (1, .int r), (2, .int (nI (s_prs (z_rw z (ix r))))), (3, .int (nI ((v_op (z_V z) xs (p + 1)).1))), (4, .int (nI ((v_op (z_V z) xs (p + 1)).2))), (5, .int (nI p)), (6, .int (nI 10))] [] mu nu
                refine m_iinc C 5 (nI (p + 1)) [(5, .int (nI (p + 1))), (0, .ref (G.1 0)), (1, .int r), (2, .int (nI (s_prs (z_rw z (ix r))))), (3, .int (nI ((v_op (z_V z) xs (p + 1)).1))), (4, .int (nI ((v_op (z_V z) xs (p + 1)).2))), (6, .int (nI 10))] dX10_other_118 rfl (nn_add rfl (show Int32.ofInt 1 = nI 1 from rfl)) (by decide) rfl ?_
                refine m_goto C 37 dX10_other_121 (by decide) ?_
                exact m_sub [1, 2, 3, 4, 5, 0] rfl (ih37 (p + 1) (by omega) (by omega))
              replace hh6 := mt (ii_le (nn_i (a := 10) rfl (by omega)) (nn_i (a := d) rfl (by omega))).mpr hh6
              refine m_iload C 6 dX10_other_59 rfl ?_
              refine m_aload_n C 0 dX10_other_61 rfl ?_
              refine m_aload_n C 0 dX10_other_62 rfl ?_
              refine gfX10_53 C dX10_other_63 ?_
              refine gfX10_185 C 38 bnc_38 dX10_other_66 ?_
              refine m_iload C 5 dX10_other_69 rfl ?_
              refine m_iald C 39 (by decide) (sa_frame (c := 38) bnc_38) p rfl (by omega) (by decide) dX10_other_71 ?_
              refine m_topi (nI (v_fr (z_V z) p)) (zv_fr hv (by omega)) ?_
              refine m_callVf C 0 (by decide) rfl rfl (c_X10_digitNow l G mu nu (z_V z) hv (v_fr (z_V z) p) (by omega)) wkX10_188 (by decide) rfl rfl (Nat.le_of_ble_eq_true rfl) dX10_other_72 ?_
              refine m_icmp_eq C 112 dX10_other_75 (by decide) (fun hh7 => ?_) (fun hh7 => ?_)
              · replace hh7 := (ii_eq (nn_i (a := d) rfl (by omega)) (nn_i (a := v_dg (z_V z) (v_fr (z_V z) p)) rfl (by omega))).mp hh7
                have et1 : nI ((v_od (z_V z) xs p (v_op (z_V z) xs p) d).1) = nI (v_od (z_V z) xs p (v_op (z_V z) xs p) (d + 1)).1 := (congrArg (fun q => nI q.1) (if_neg (fun q : ¬ d = v_dg (z_V z) (v_fr (z_V z) p) ∧ ∀ k, k < xs.length / 2 → nI (v_rw (z_V z) p d (s_ln xs k) (v_m (z_V z))) = xs.getD (2 * k + 1) 0 => q.1 (by omega)) : (v_od (z_V z) xs p (v_op (z_V z) xs p) (d + 1)) = v_od (z_V z) xs p (v_op (z_V z) xs p) d)).symm
                have et2 : nI ((v_od (z_V z) xs p (v_op (z_V z) xs p) d).2) = nI (v_od (z_V z) xs p (v_op (z_V z) xs p) (d + 1)).2 := (congrArg (fun q => nI q.2) (if_neg (fun q : ¬ d = v_dg (z_V z) (v_fr (z_V z) p) ∧ ∀ k, k < xs.length / 2 → nI (v_rw (z_V z) p d (s_ln xs k) (v_m (z_V z))) = xs.getD (2 * k + 1) 0 => q.1 (by omega)) : (v_od (z_V z) xs p (v_op (z_V z) xs p) (d + 1)) = v_od (z_V z) xs p (v_op (z_V z) xs p) d)).symm
                refine m_lv (lw := [(0, .ref (G.1 0)), (1, .int r), (2, .int (nI (s_prs (z_rw z (ix r))))), (3, .int (nI ((v_od (z_V z) xs p (v_op (z_V z) xs p) (d + 1)).1))), (4, .int (nI ((v_od (z_V z) xs p (v_op (z_V z) xs p) (d + 1)).2))), (5, .int (nI p)), (6, .int (nI d))]) (congrArg2 (fun a b => ([(0, .ref (G.1 0)), (1, .int r), (2, .int (nI (s_prs (z_rw z (ix r))))), (3, .int a), (4, .int b), (5, .int (nI p)), (6, .int (nI d))] : List (Nat × Value))) et1 et2) ?_
                refine m_iinc C 6 (nI (d + 1)) [(6, .int (nI (d + 1))), (0, .ref (G.1 0)), (1, .int r), (2, .int (nI (s_prs (z_rw z (ix r))))), (3, .int (nI ((v_od (z_V z) xs p (v_op (z_V z) xs p) (d + 1)).1))), (4, .int (nI ((v_od (z_V z) xs p (v_op (z_V z) xs p) (d + 1)).2))), (5, .int (nI p))] dX10_other_112 rfl (nn_add rfl (show Int32.ofInt 1 = nI 1 from rfl)) (by decide) rfl ?_
                refine m_goto C 52 dX10_other_115 (by decide) ?_
                exact m_sub [1, 2, 3, 4, 5, 6, 0] rfl (ih52 (d + 1) (by omega) (by omega))
              replace hh7 := mt (ii_eq (nn_i (a := d) rfl (by omega)) (nn_i (a := v_dg (z_V z) (v_fr (z_V z) p)) rfl (by omega))).mpr hh7
              refine m_aload_n C 0 dX10_other_78 rfl ?_
              refine m_iload C 5 dX10_other_79 rfl ?_
              refine m_iload C 6 dX10_other_81 rfl ?_
              refine m_aload_n C 0 dX10_other_83 rfl ?_
              refine gfX10_11 C dX10_other_84 ?_
              refine m_iload_n C 1 dX10_other_87 rfl ?_
              refine m_topi (nI (ix r)) er ?_
              refine m_aald C 1 (by decide) 1 rfl ra_1 (ix r) (G.1 (2 + 2 * (ix r))) rfl (by omega) (by decide) rfl dX10_other_88 ?_
              refine m_callVf C 0 (by decide) rfl rfl (c_X10_wasReadWith l G mu nu (z_V z) hv p (by omega) d (by omega) (2 + 2 * ix r) (stc_row (by omega)) xs hx1 (by omega) hx3 hev hok) wkX10_252 (by decide) rfl rfl (Nat.le_of_ble_eq_true rfl) dX10_other_89 ?_
              refine m_if_eq C 112 dX10_other_92 (by decide) (fun hh8 => ?_) (fun hh8 => ?_)
              · replace hh8 := bI_eq0.mp hh8
                have et1 : nI ((v_od (z_V z) xs p (v_op (z_V z) xs p) d).1) = nI (v_od (z_V z) xs p (v_op (z_V z) xs p) (d + 1)).1 := (congrArg (fun q => nI q.1) (if_neg (fun q : ¬ d = v_dg (z_V z) (v_fr (z_V z) p) ∧ ∀ k, k < xs.length / 2 → nI (v_rw (z_V z) p d (s_ln xs k) (v_m (z_V z))) = xs.getD (2 * k + 1) 0 => absurd q.2 (by assumption)) : (v_od (z_V z) xs p (v_op (z_V z) xs p) (d + 1)) = v_od (z_V z) xs p (v_op (z_V z) xs p) d)).symm
                have et2 : nI ((v_od (z_V z) xs p (v_op (z_V z) xs p) d).2) = nI (v_od (z_V z) xs p (v_op (z_V z) xs p) (d + 1)).2 := (congrArg (fun q => nI q.2) (if_neg (fun q : ¬ d = v_dg (z_V z) (v_fr (z_V z) p) ∧ ∀ k, k < xs.length / 2 → nI (v_rw (z_V z) p d (s_ln xs k) (v_m (z_V z))) = xs.getD (2 * k + 1) 0 => absurd q.2 (by assumption)) : (v_od (z_V z) xs p (v_op (z_V z) xs p) (d + 1)) = v_od (z_V z) xs p (v_op (z_V z) xs p) d)).symm
                refine m_lv (lw := [(0, .ref (G.1 0)), (1, .int r), (2, .int (nI (s_prs (z_rw z (ix r))))), (3, .int (nI ((v_od (z_V z) xs p (v_op (z_V z) xs p) (d + 1)).1))), (4, .int (nI ((v_od (z_V z) xs p (v_op (z_V z) xs p) (d + 1)).2))), (5, .int (nI p)), (6, .int (nI d))]) (congrArg2 (fun a b => ([(0, .ref (G.1 0)), (1, .int r), (2, .int (nI (s_prs (z_rw z (ix r))))), (3, .int a), (4, .int b), (5, .int (nI p)), (6, .int (nI d))] : List (Nat × Value))) et1 et2) ?_
                refine m_iinc C 6 (nI (d + 1)) [(6, .int (nI (d + 1))), (0, .ref (G.1 0)), (1, .int r), (2, .int (nI (s_prs (z_rw z (ix r))))), (3, .int (nI ((v_od (z_V z) xs p (v_op (z_V z) xs p) (d + 1)).1))), (4, .int (nI ((v_od (z_V z) xs p (v_op (z_V z) xs p) (d + 1)).2))), (5, .int (nI p))] dX10_other_112 rfl (nn_add rfl (show Int32.ofInt 1 = nI 1 from rfl)) (by decide) rfl ?_
                refine m_goto C 52 dX10_other_115 (by decide) ?_
                exact m_sub [1, 2, 3, 4, 5, 6, 0] rfl (ih52 (d + 1) (by omega) (by omega))
              replace hh8 := bI_ne0.mp hh8
              refine m_iload_n C 3 dX10_other_95 rfl ?_
              refine m_if_ne C 109 dX10_other_96 (by decide) (fun hh9 => ?_) (fun hh9 => ?_)
              · replace hh9 := mt (ii_eq (nn_i (a := (v_od (z_V z) xs p (v_op (z_V z) xs p) d).1) rfl (by omega)) (nn_i (a := 0) rfl (by omega))).mpr hh9
                refine m_iinc C 3 (nI ((v_od (z_V z) xs p (v_op (z_V z) xs p) d).1 + 1)) [(3, .int (nI ((v_od (z_V z) xs p (v_op (z_V z) xs p) d).1 + 1))), (0, .ref (G.1 0)), (1, .int r), (2, .int (nI (s_prs (z_rw z (ix r))))), (4, .int (nI ((v_od (z_V z) xs p (v_op (z_V z) xs p) d).2))), (5, .int (nI p)), (6, .int (nI d))] dX10_other_109 rfl (nn_add rfl (show Int32.ofInt 1 = nI 1 from rfl)) (by decide) rfl ?_
                have et1 : nI ((v_od (z_V z) xs p (v_op (z_V z) xs p) d).1 + 1) = nI (v_od (z_V z) xs p (v_op (z_V z) xs p) (d + 1)).1 := (congrArg (fun q => nI q.1) (if_pos (show ¬ d = v_dg (z_V z) (v_fr (z_V z) p) ∧ ∀ k, k < xs.length / 2 → nI (v_rw (z_V z) p d (s_ln xs k) (v_m (z_V z))) = xs.getD (2 * k + 1) 0 from ⟨by omega, by assumption⟩) : (v_od (z_V z) xs p (v_op (z_V z) xs p) (d + 1)) = ((v_od (z_V z) xs p (v_op (z_V z) xs p) d).1 + 1, if (v_od (z_V z) xs p (v_op (z_V z) xs p) d).1 = 0 then 10 * p + d else (v_od (z_V z) xs p (v_op (z_V z) xs p) d).2))).symm
                have et2 : nI ((v_od (z_V z) xs p (v_op (z_V z) xs p) d).2) = nI (v_od (z_V z) xs p (v_op (z_V z) xs p) (d + 1)).2 := (congrArg nI (if_neg (by omega)).symm).trans (congrArg (fun q => nI q.2) (if_pos (show ¬ d = v_dg (z_V z) (v_fr (z_V z) p) ∧ ∀ k, k < xs.length / 2 → nI (v_rw (z_V z) p d (s_ln xs k) (v_m (z_V z))) = xs.getD (2 * k + 1) 0 from ⟨by omega, by assumption⟩) : (v_od (z_V z) xs p (v_op (z_V z) xs p) (d + 1)) = ((v_od (z_V z) xs p (v_op (z_V z) xs p) d).1 + 1, if (v_od (z_V z) xs p (v_op (z_V z) xs p) d).1 = 0 then 10 * p + d else (v_od (z_V z) xs p (v_op (z_V z) xs p) d).2))).symm
                refine m_lv (lw := [(3, .int (nI ((v_od (z_V z) xs p (v_op (z_V z) xs p) (d + 1)).1))), (0, .ref (G.1 0)), (1, .int r), (2, .int (nI (s_prs (z_rw z (ix r))))), (4, .int (nI ((v_od (z_V z) xs p (v_op (z_V z) xs p) (d + 1)).2))), (5, .int (nI p)), (6, .int (nI d))]) (congrArg2 (fun a b => ([(3, .int a), (0, .ref (G.1 0)), (1, .int r), (2, .int (nI (s_prs (z_rw z (ix r))))), (4, .int b), (5, .int (nI p)), (6, .int (nI d))] : List (Nat × Value))) et1 et2) ?_
                refine m_iinc C 6 (nI (d + 1)) [(6, .int (nI (d + 1))), (3, .int (nI ((v_od (z_V z) xs p (v_op (z_V z) xs p) (d + 1)).1))), (0, .ref (G.1 0)), (1, .int r), (2, .int (nI (s_prs (z_rw z (ix r))))), (4, .int (nI ((v_od (z_V z) xs p (v_op (z_V z) xs p) (d + 1)).2))), (5, .int (nI p))] dX10_other_112 rfl (nn_add rfl (show Int32.ofInt 1 = nI 1 from rfl)) (by decide) rfl ?_
                refine m_goto C 52 dX10_other_115 (by decide) ?_
                exact m_sub [2, 3, 4, 1, 5, 6, 0] rfl (ih52 (d + 1) (by omega) (by omega))
              replace hh9 := (ii_eq (nn_i (a := (v_od (z_V z) xs p (v_op (z_V z) xs p) d).1) rfl (by omega)) (nn_i (a := 0) rfl (by omega))).mp hh9
              refine m_bipush C 10 dX10_other_99 (by decide +kernel) ?_
              refine m_iload C 5 dX10_other_101 rfl ?_
              refine m_imul C dX10_other_103 ?_
              refine m_topi (nI (10 * p)) (nn_mul rfl rfl) ?_
              refine m_iload C 6 dX10_other_104 rfl ?_
              refine m_iadd C dX10_other_106 ?_
              refine m_topi (nI ((10 * p) + d)) (nn_add rfl rfl) ?_
              refine m_istore C [(4, .int (nI ((10 * p) + d))), (0, .ref (G.1 0)), (1, .int r), (2, .int (nI (s_prs (z_rw z (ix r))))), (3, .int (nI ((v_od (z_V z) xs p (v_op (z_V z) xs p) d).1))), (5, .int (nI p)), (6, .int (nI d))] dX10_other_107 (by decide) rfl ?_
              refine m_iinc C 4 (nI ((v_od (z_V z) xs p (v_op (z_V z) xs p) d).1 + 1)) [(3, .int (nI ((v_od (z_V z) xs p (v_op (z_V z) xs p) d).1 + 1))), (4, .int (nI ((10 * p) + d))), (0, .ref (G.1 0)), (1, .int r), (2, .int (nI (s_prs (z_rw z (ix r))))), (5, .int (nI p)), (6, .int (nI d))] dX10_other_109 rfl (nn_add rfl (show Int32.ofInt 1 = nI 1 from rfl)) (by decide) rfl ?_
              have et1 : nI ((v_od (z_V z) xs p (v_op (z_V z) xs p) d).1 + 1) = nI (v_od (z_V z) xs p (v_op (z_V z) xs p) (d + 1)).1 := (congrArg (fun q => nI q.1) (if_pos (show ¬ d = v_dg (z_V z) (v_fr (z_V z) p) ∧ ∀ k, k < xs.length / 2 → nI (v_rw (z_V z) p d (s_ln xs k) (v_m (z_V z))) = xs.getD (2 * k + 1) 0 from ⟨by omega, by assumption⟩) : (v_od (z_V z) xs p (v_op (z_V z) xs p) (d + 1)) = ((v_od (z_V z) xs p (v_op (z_V z) xs p) d).1 + 1, if (v_od (z_V z) xs p (v_op (z_V z) xs p) d).1 = 0 then 10 * p + d else (v_od (z_V z) xs p (v_op (z_V z) xs p) d).2))).symm
              have et2 : nI ((10 * p) + d) = nI (v_od (z_V z) xs p (v_op (z_V z) xs p) (d + 1)).2 := (congrArg nI (if_pos (by omega)).symm).trans (congrArg (fun q => nI q.2) (if_pos (show ¬ d = v_dg (z_V z) (v_fr (z_V z) p) ∧ ∀ k, k < xs.length / 2 → nI (v_rw (z_V z) p d (s_ln xs k) (v_m (z_V z))) = xs.getD (2 * k + 1) 0 from ⟨by omega, by assumption⟩) : (v_od (z_V z) xs p (v_op (z_V z) xs p) (d + 1)) = ((v_od (z_V z) xs p (v_op (z_V z) xs p) d).1 + 1, if (v_od (z_V z) xs p (v_op (z_V z) xs p) d).1 = 0 then 10 * p + d else (v_od (z_V z) xs p (v_op (z_V z) xs p) d).2))).symm
              refine m_lv (lw := [(3, .int (nI ((v_od (z_V z) xs p (v_op (z_V z) xs p) (d + 1)).1))), (4, .int (nI ((v_od (z_V z) xs p (v_op (z_V z) xs p) (d + 1)).2))), (0, .ref (G.1 0)), (1, .int r), (2, .int (nI (s_prs (z_rw z (ix r))))), (5, .int (nI p)), (6, .int (nI d))]) (congrArg2 (fun a b => ([(3, .int a), (4, .int b), (0, .ref (G.1 0)), (1, .int r), (2, .int (nI (s_prs (z_rw z (ix r))))), (5, .int (nI p)), (6, .int (nI d))] : List (Nat × Value))) et1 et2) ?_
              refine m_iinc C 6 (nI (d + 1)) [(6, .int (nI (d + 1))), (3, .int (nI ((v_od (z_V z) xs p (v_op (z_V z) xs p) (d + 1)).1))), (4, .int (nI ((v_od (z_V z) xs p (v_op (z_V z) xs p) (d + 1)).2))), (0, .ref (G.1 0)), (1, .int r), (2, .int (nI (s_prs (z_rw z (ix r))))), (5, .int (nI p))] dX10_other_112 rfl (nn_add rfl (show Int32.ofInt 1 = nI 1 from rfl)) (by decide) rfl ?_
              refine m_goto C 52 dX10_other_115 (by decide) ?_
              exact m_sub [3, 4, 5, 1, 2, 6, 0] rfl (ih52 (d + 1) (by omega) (by omega))
          exact m_sub [1, 2, 3, 4, 5, 6, 0] rfl (L52 (_ + 1) 0 (Nat.zero_le _) (Nat.lt_succ_self _))
      exact m_sub [4, 5, 3, 2, 1, 0] rfl (L37 (_ + 1) 0 (Nat.zero_le _) (Nat.lt_succ_self _))
    replace hh2 := mt (ii_eq (nn_i (a := s_prs (z_rw z (ix r))) rfl (by omega)) (nn_i (a := 0) rfl (by omega))).mpr hh2
    refine m_aload_n C 1 dX10_other_23 rfl ?_
    refine m_iload_n C 0 dX10_other_24 rfl ?_
    refine m_callVi C 0 (by decide) rfl rfl (c_X10_found l G mu nu (s_prs (z_rw z (ix r))) (by omega)) wkX10_80 (by decide) rfl rfl (Nat.le_of_ble_eq_true rfl) dX10_other_25 (fun r10 m10 n10 hp10 => ?_)
    refine m_ireti C hQ dX10_other_28 ?_
    exact PC_find hz (by omega) hp10 (by unfold s_other; rw [if_neg (by omega), if_neg (by omega)])
  replace hh1 := bI_eq0.mp hh1
  refine m_iconst C (-1) dX10_other_7 (by decide +kernel) ?_
  refine m_ireti C hQ dX10_other_8 ?_
  exact PC_of (by unfold s_other; rw [if_pos (by omega)]) hz zcl_rfl
