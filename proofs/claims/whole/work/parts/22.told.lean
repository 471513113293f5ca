theorem v_rd_le {V : Vw} (h : v_wf V) {n : Nat} (hn : n ≤ 9) : ∀ p, p ≤ v_m V → v_rd V n p + 9 ≤ 9 * 10 ^ p
  | 0, _ => Nat.le_refl _
  | p + 1, hp => by
    have h1 := v_rd_le h hn p (by omega)
    have h2 := v_sh_le h (h.2.2.2.1 p (by omega)) hn
    show 10 * v_rd V n p + v_sh V (v_fr V p) n + 9 ≤ 9 * 10 ^ (p + 1)
    rw [Nat.pow_succ]; omega
theorem v_rt_le {V : Vw} (h : v_wf V) : ∀ p, p ≤ v_m V → v_rt V p + 1 ≤ 10 ^ p
  | 0, _ => Nat.le_refl _
  | p + 1, hp => by
    have h1 := v_rt_le h p (by omega)
    have h2 := v_dg_le h (h.2.2.2.1 p (by omega))
    show 10 * v_rt V p + v_dg V (v_fr V p) + 1 ≤ 10 ^ (p + 1)
    rw [Nat.pow_succ]; omega
theorem p10_7 {p : Nat} (h : p ≤ 7) : (10 : Nat) ^ p ≤ 10000000 := Nat.pow_le_pow_right (by decide) h
theorem v_rdb {V : Vw} (h : v_wf V) {n : Nat} (hn : n ≤ 9) : v_rd V n (v_m V) ≤ 90000000 := by
  have h1 := v_rd_le h hn (v_m V) (Nat.le_refl _)
  have h2 := p10_7 h.2.2.1
  omega
theorem v_rtb {V : Vw} (h : v_wf V) {n : Nat} (hn : n ≤ 9) : v_rt V (v_m V) * n ≤ 90000000 := by
  have h1 := v_rt_le h (v_m V) (Nat.le_refl _)
  have h2 := p10_7 h.2.2.1
  have h3 : v_rt V (v_m V) * n ≤ 10000000 * 9 := Nat.mul_le_mul (by omega) hn
  omega
def s_cpl (xs ys : List Int32) (i j n : Nat) : List Int32 := (List.range ys.length).map (fun p => if j ≤ p ∧ p < j + n then xs.getD (i + (p - j)) 0 else ys.getD p 0)
theorem s_cpl_gd {xs ys : List Int32} {i j n p : Nat} (h : p < ys.length) : (s_cpl xs ys i j n).getD p 0 = if j ≤ p ∧ p < j + n then xs.getD (i + (p - j)) 0 else ys.getD p 0 := by
  unfold s_cpl
  simp [List.getD, h]
def s_copy (z : Zt) (r i to j n : Int32) : Int32 × Zt := if ¬ (0 ≤ r.toInt ∧ r.toInt < 6) ∨ ¬ (0 ≤ to.toInt ∧ to.toInt < 6) then (-1, z) else if n.toInt < 0 then (-3, u_find z 5) else match z_rw z (ix r), z_rw z (ix to) with
  | some xs, some ys => if (0 ≤ i.toInt ∧ i.toInt + n.toInt ≤ xs.length) ∧ (0 ≤ j.toInt ∧ j.toInt + n.toInt ≤ ys.length) then (1, u_row z (ix to) (some (s_cpl xs ys (ix i) (ix j) (ix n)))) else (-3, u_find z 2)
  | _, _ => (-3, u_find z 1)
def s_sm (xs : List Int32) : Nat → Int64
  | 0 => 0
  | k + 1 => s_sm xs k + (xs.getD k 0).toInt64
def s_mean (z : Zt) (r : Int32) : Int32 × Zt := if ¬ (0 ≤ r.toInt ∧ r.toInt < 6) then (-1, z) else match z_rw z (ix r) with
  | none => (-3, u_find z 1)
  | some xs => if xs.length = 0 then (-3, u_find z 4) else (1, u_told z (s_sm xs xs.length / lN xs.length).toInt32)
def s_rod (z : Zt) (i w : Int32) : Int32 × Zt := if ¬ (0 ≤ i.toInt ∧ i.toInt < z_N z) ∨ ¬ (0 ≤ w.toInt ∧ w.toInt < 5) then (-1, z) else (1, u_told z (s_of (z_V z) (ix i) (ix w)))
def s_mkv (V : Vw) (i k : Nat) : Int32 := if k = 1 then nI (v_la V i 0 True False 9) else if k = 2 then nI (v_la V i 0 False True 9) else if k = 3 then 500 + (if v_mk V i = 0 then 0 else nI (v_sh V i (v_mk V i)) - nI (v_as V i 0 (v_mk V i))) else if k = 4 then nI (v_la V i 1 True False 9) else nI (v_la V i 2 True True 9)
def s_mark (z : Zt) (i k : Int32) : Int32 × Zt := if ¬ (0 ≤ i.toInt ∧ i.toInt < z_N z) ∨ ¬ (1 ≤ k.toInt ∧ k.toInt < 6) then (-1, z) else if ¬ (v_kd (z_V z) (ix i) = ix k ∨ (ix k = 1 ∧ v_kd (z_V z) (ix i) = 4) ∨ (ix k = 2 ∧ v_kd (z_V z) (ix i) = 5)) then (-3, u_find z 3) else (s_mkv (z_V z) (ix i) (ix k), z)
def s_shows (z : Zt) (i n : Int32) : Int32 × Zt := if ¬ (0 ≤ i.toInt ∧ i.toInt < z_N z) ∨ ¬ (1 ≤ n.toInt ∧ n.toInt < 10) then (-1, z) else (nI (v_sh (z_V z) (ix i) (ix n)), z)
def s_reads (z : Zt) (n : Int32) : Int32 × Zt := if ¬ (1 ≤ n.toInt ∧ n.toInt < 10) then (-1, z) else (nI (v_rd (z_V z) (ix n) (v_m (z_V z))), u_told z (nI (v_rt (z_V z) (v_m (z_V z)) * ix n)))
def v_wr (V : Vw) : Nat → Nat
  | 0 => 0
  | n + 1 => if v_rd V (n + 1) (v_m V) = v_rt V (v_m V) * (n + 1) then v_wr V n else v_wr V n ||| 2 ^ (n + 1)
def v_cc (V : Vw) (n : Nat) : Nat → Nat × Nat × Nat
  | 0 => (0, 0, 0)
  | k + 1 => ((v_sh V (v_fr V (v_m V - k - 1)) n + (v_cc V n k).1) / 10, (v_cc V n k).2.1 + (if 0 < (v_sh V (v_fr V (v_m V - k - 1)) n + (v_cc V n k).1) / 10 then 1 else 0), max (v_cc V n k).2.2 ((v_sh V (v_fr V (v_m V - k - 1)) n + (v_cc V n k).1) / 10))
theorem v_cc_le {V : Vw} (h : v_wf V) {n : Nat} (hn : n ≤ 9) : ∀ k, k ≤ v_m V → (v_cc V n k).1 ≤ 9 ∧ (v_cc V n k).2.1 ≤ k ∧ (v_cc V n k).2.2 ≤ 9
  | 0, _ => ⟨Nat.zero_le _, Nat.zero_le _, Nat.zero_le _⟩
  | k + 1, hk => by
    obtain ⟨h1, h2, h3⟩ := v_cc_le h hn k (by omega)
    have h4 := v_sh_le h (h.2.2.2.1 (v_m V - k - 1) (by omega)) hn
    have h5 : (v_sh V (v_fr V (v_m V - k - 1)) n + (v_cc V n k).1) / 10 ≤ 9 := by omega
    refine ⟨h5, ?_, ?_⟩
    · show (v_cc V n k).2.1 + (if 0 < (v_sh V (v_fr V (v_m V - k - 1)) n + (v_cc V n k).1) / 10 then 1 else 0) ≤ k + 1
      split <;> omega
    · show max (v_cc V n k).2.2 ((v_sh V (v_fr V (v_m V - k - 1)) n + (v_cc V n k).1) / 10) ≤ 9
      omega
def s_carr (z : Zt) (n : Int32) : Int32 × Zt := if ¬ (1 ≤ n.toInt ∧ n.toInt < 10) then (-1, z) else (nI (v_cc (z_V z) (ix n) (v_m (z_V z))).2.1, u_told z (nI (v_cc (z_V z) (ix n) (v_m (z_V z))).2.2))
def s_cnt (z : Zt) (w : Nat) : Int32 := if w = 0 then nI (z_N z) else if w = 1 then nI (v_m (z_V z)) else if w = 2 then nI (z_B z).2.2.length else if w = 3 then nI (v_rd (z_V z) 1 (v_m (z_V z))) else if w = 4 then nI (s_bits (v_F (z_V z))) else if w = 5 then nI (v_ov (z_V z)) else if w = 6 then nI (s_ct (z_rw z) 6) else if w = 7 then nI (s_ct (z_tx z) 4) else if w = 8 then nI (s_kc (z_kp z) 3) else if w = 9 then nI (v_ho (z_V z) 1 (z_N z)) else nI (v_ho (z_V z) 2 (z_N z))
def s_count (z : Zt) (w : Int32) : Int32 × Zt := if ¬ (0 ≤ w.toInt ∧ w.toInt < 11) then (-1, z) else (s_cnt z (ix w), z)
def s_fds (z : Zt) (f : Int32) : Int32 × Zt := if ¬ (1 ≤ f.toInt ∧ f.toInt < 6) then (-1, z) else ((z_ms z).2.2.2.2 (ix f), z)
theorem shl_dec {n : Nat} : nI (n + 1) - 1 + Int32.ofInt (-1) = nI n - 1 := by
  rw [nI_pred, show Int32.ofInt (-1) = -1 from by decide +kernel, ← Int32.sub_eq_add_neg]
theorem cc_dec {m k : Nat} (h : k < m) : nI (m - k) - 1 + Int32.ofInt (-1) = nI (m - (k + 1)) - 1 := by
  rw [show m - k = (m - (k + 1)) + 1 by omega]; exact shl_dec
theorem z_vN (z : Zt) : v_N (z_V z) = z_N z := rfl
set_option maxHeartbeats 4000000 in
set_option maxRecDepth 100000 in
theorem c_X10_copy (l : Launch) (G : Gl) (mu : Mu) (nu : Nu) (z : Zt) (hz : ZC mu nu z) (r i to j n : Int32) : Ci l G mX10_copy 3 [.ref (G.1 0), .int r, .int i, .int to, .int j, .int n] mu nu (PC mu nu (s_copy z r i to j n)) := by
  refine Ct.of (lv := [(0, .ref (G.1 0)), (1, .int r), (2, .int i), (3, .int to), (4, .int j), (5, .int n)]) rfl rfl (Nat.le_of_ble_eq_true rfl) rfl (fun X C => ?_)
  generalize hQ : g_E G X _ = Q
  replace C : Cx G 6 X cX10_copy RX10 (some .int) 3 := C
  show Mq l G 6 X Q 0 [(0, .ref (G.1 0)), (1, .int r), (2, .int i), (3, .int to), (4, .int j), (5, .int n)] [] mu nu
  refine m_iload_n C 1 dX10_copy_0 rfl ?_
  refine m_callSf C (c_X10_isRow l G mu nu r) wkX10_76 (by decide) rfl rfl (Nat.le_of_ble_eq_true rfl) dX10_copy_1 ?_
  refine m_if_eq C 14 dX10_copy_4 (by decide) (fun hh1 => ?_) (fun hh1 => ?_)
  · replace hh1 := bI_eq0.mp hh1
    refine m_iconst C (-1) dX10_copy_14 (by decide +kernel) ?_
    refine m_ireti C hQ dX10_copy_15 ?_
    exact PC_of (by unfold s_copy; rw [if_pos (by omega)]) hz zcl_rfl
  replace hh1 := bI_ne0.mp hh1
  refine m_iload_n C 3 dX10_copy_7 rfl ?_
  refine m_callSf C (c_X10_isRow l G mu nu to) wkX10_76 (by decide) rfl rfl (Nat.le_of_ble_eq_true rfl) dX10_copy_8 ?_
  refine m_if_ne C 16 dX10_copy_11 (by decide) (fun hh2 => ?_) (fun hh2 => ?_)
  · replace hh2 := bI_ne0.mp hh2
    obtain ⟨er, kr⟩ := ix_eq (x := r) (by omega)
    obtain ⟨eto, kto⟩ := ix_eq (x := to) (by omega)
    refine m_iload C 5 dX10_copy_16 rfl ?_
    refine m_if_ge C 27 dX10_copy_18 (by decide) (fun hh3 => ?_) (fun hh3 => ?_)
    · replace hh3 := (ii_le (nn_i (a := 0) rfl (by omega)) (rfl : (n).toInt = _)).mp hh3
      refine m_aload_n C 0 dX10_copy_27 rfl ?_
      refine gfX10_11 C dX10_copy_28 ?_
      refine m_iload_n C 1 dX10_copy_31 rfl ?_
      refine m_topi (nI (ix r)) er ?_
      refine m_aald C 1 (by decide) 1 rfl ra_1 (ix r) (G.1 (2 + 2 * (ix r))) rfl (by omega) (by decide) rfl dX10_copy_32 ?_
      refine m_callVf C (2 + 2 * (ix r)) (stc_lt (stc_row (by omega))) (sh_strip (stc_row (by omega)) _ _) rfl (c_X7_isThere l G mu nu (2 + 2 * (ix r)) (stc_row (by omega))) wkX10_99 (by decide) rfl rfl (Nat.le_of_ble_eq_true rfl) dX10_copy_33 ?_
      refine m_if_eq C 51 dX10_copy_36 (by decide) (fun hh4 => ?_) (fun hh4 => ?_)
      · replace hh4 := bI_eq0.mp hh4
        refine m_aload_n C 0 dX10_copy_51 rfl ?_
        refine m_iconst C 1 dX10_copy_52 (by decide +kernel) ?_
        refine m_callVi C 0 (by decide) rfl rfl (c_X10_found l G mu nu 1 (by decide)) wkX10_80 (by decide) rfl rfl (Nat.le_of_ble_eq_true rfl) dX10_copy_53 (fun r5 m5 n5 hp5 => ?_)
        refine m_ireti C hQ dX10_copy_56 ?_
        have hxe := zs_none (hz.2.2.2.1 (ix r) (by omega)) (by decide) (by omega)
        exact PC_find hz (by decide) hp5 (by unfold s_copy; rw [if_neg (by omega), if_neg (by omega)]; simp only [hxe])
      replace hh4 := bI_ne0.mp hh4
      refine m_aload_n C 0 dX10_copy_39 rfl ?_
      refine gfX10_11 C dX10_copy_40 ?_
      refine m_iload_n C 3 dX10_copy_43 rfl ?_
      refine m_topi (nI (ix to)) eto ?_
      refine m_aald C 1 (by decide) 1 rfl ra_1 (ix to) (G.1 (2 + 2 * (ix to))) rfl (by omega) (by decide) rfl dX10_copy_44 ?_
      refine m_callVf C (2 + 2 * (ix to)) (stc_lt (stc_row (by omega))) (sh_strip (stc_row (by omega)) _ _) rfl (c_X7_isThere l G mu nu (2 + 2 * (ix to)) (stc_row (by omega))) wkX10_99 (by decide) rfl rfl (Nat.le_of_ble_eq_true rfl) dX10_copy_45 ?_
      refine m_if_ne C 57 dX10_copy_48 (by decide) (fun hh6 => ?_) (fun hh6 => ?_)
      · replace hh6 := bI_ne0.mp hh6
        obtain ⟨xs, hx0, hx1, hx2, hx3⟩ := zs_some (hz.2.2.2.1 (ix r) (by omega)) (by decide) (by omega)
        obtain ⟨ys, hy0, hy1, hy2, hy3⟩ := zs_some (hz.2.2.2.1 (ix to) (by omega)) (by decide) (by omega)
        refine m_aload_n C 0 dX10_copy_57 rfl ?_
        refine gfX10_11 C dX10_copy_58 ?_
        refine m_iload_n C 1 dX10_copy_61 rfl ?_
        refine m_topi (nI (ix r)) er ?_
        refine m_aald C 1 (by decide) 1 rfl ra_1 (ix r) (G.1 (2 + 2 * (ix r))) rfl (by omega) (by decide) rfl dX10_copy_62 ?_
        refine m_iload_n C 2 dX10_copy_63 rfl ?_
        refine m_iload C 5 dX10_copy_64 rfl ?_
        refine m_callVf C (2 + 2 * (ix r)) (stc_lt (stc_row (by omega))) (sh_strip (stc_row (by omega)) _ _) rfl (c_X7_holds l G mu nu (2 + 2 * ix r) (stc_row (by omega)) i n xs.length hx1 (by omega) (by omega)) wkX10_106 (by decide) rfl rfl (Nat.le_of_ble_eq_true rfl) dX10_copy_66 ?_
        refine m_if_eq C 88 dX10_copy_69 (by decide) (fun hh7 => ?_) (fun hh7 => ?_)
        · replace hh7 := bI_eq0.mp hh7
          refine m_aload_n C 0 dX10_copy_88 rfl ?_
          refine m_iconst C 2 dX10_copy_89 (by decide +kernel) ?_
          refine m_callVi C 0 (by decide) rfl rfl (c_X10_found l G mu nu 2 (by decide)) wkX10_80 (by decide) rfl rfl (Nat.le_of_ble_eq_true rfl) dX10_copy_90 (fun r8 m8 n8 hp8 => ?_)
          refine m_ireti C hQ dX10_copy_93 ?_
          exact PC_find hz (by decide) hp8 (by unfold s_copy; rw [if_neg (by omega), if_neg (by omega)]; simp only [hx0, hy0]; rw [if_neg (by omega)])
        replace hh7 := bI_ne0.mp hh7
        refine m_aload_n C 0 dX10_copy_72 rfl ?_
        refine gfX10_11 C dX10_copy_73 ?_
        refine m_iload_n C 3 dX10_copy_76 rfl ?_
        refine m_topi (nI (ix to)) eto ?_
        refine m_aald C 1 (by decide) 1 rfl ra_1 (ix to) (G.1 (2 + 2 * (ix to))) rfl (by omega) (by decide) rfl dX10_copy_77 ?_
        refine m_iload C 4 dX10_copy_78 rfl ?_
        refine m_iload C 5 dX10_copy_80 rfl ?_
        refine m_callVf C (2 + 2 * (ix to)) (stc_lt (stc_row (by omega))) (sh_strip (stc_row (by omega)) _ _) rfl (c_X7_holds l G mu nu (2 + 2 * ix to) (stc_row (by omega)) j n ys.length hy1 (by omega) (by omega)) wkX10_106 (by decide) rfl rfl (Nat.le_of_ble_eq_true rfl) dX10_copy_82 ?_
        refine m_if_ne C 94 dX10_copy_85 (by decide) (fun hh9 => ?_) (fun hh9 => ?_)
        · replace hh9 := bI_ne0.mp hh9
          obtain ⟨ei, ki⟩ := ix_eq (x := i) (by omega)
          obtain ⟨ej, kj⟩ := ix_eq (x := j) (by omega)
          obtain ⟨en, kn⟩ := ix_eq (x := n) (by omega)
          refine m_aload_n C 0 dX10_copy_94 rfl ?_
          refine gfX10_11 C dX10_copy_95 ?_
          refine m_iload_n C 1 dX10_copy_98 rfl ?_
          refine m_topi (nI (ix r)) er ?_
          refine m_aald C 1 (by decide) 1 rfl ra_1 (ix r) (G.1 (2 + 2 * (ix r))) rfl (by omega) (by decide) rfl dX10_copy_99 ?_
          refine gfX10_92 C (2 + 2 * (ix r)) (stc_row (by omega)) dX10_copy_100 ?_
          refine m_iload_n C 2 dX10_copy_103 rfl ?_
          refine m_topi (nI (ix i)) ei ?_
          refine m_aload_n C 0 dX10_copy_104 rfl ?_
          refine gfX10_11 C dX10_copy_105 ?_
          refine m_iload_n C 3 dX10_copy_108 rfl ?_
          refine m_topi (nI (ix to)) eto ?_
          refine m_aald C 1 (by decide) 1 rfl ra_1 (ix to) (G.1 (2 + 2 * (ix to))) rfl (by omega) (by decide) rfl dX10_copy_109 ?_
          refine gfX10_92 C (2 + 2 * (ix to)) (stc_row (by omega)) dX10_copy_110 ?_
          refine m_iload C 4 dX10_copy_113 rfl ?_
          refine m_topi (nI (ix j)) ej ?_
          refine m_iload C 5 dX10_copy_115 rfl ?_
          refine m_topi (nI (ix n)) en ?_
          refine m_copy C (2 + 2 * (ix r) + 1) (2 + 2 * (ix to) + 1) (stc_lt1 (stc_row (by omega))) (stc_lt1 (stc_row (by omega))) (sa_strip (stc_row (by omega))) (sa_strip (stc_row (by omega))) (ix i) (ix j) (ix n) rfl rfl rfl (by omega) (by omega) (by decide) (by decide) wkX10_110 (by decide) (Nat.le_of_ble_eq_true rfl) dX10_copy_117 ?_
          refine m_nameM (fun mu10 emu10 => ?_)
          refine m_iconst C 1 dX10_copy_120 (by decide +kernel) ?_
          refine m_ireti C hQ dX10_copy_121 ?_
          obtain ⟨q1, q2⟩ := zc_row (x := some (s_cpl xs ys (ix i) (ix j) (ix n))) (m := mu10) hz (r := ix to) (by omega) (fun c c1 c2 => by rw [emu10, mu_row_ne (by omega)]) (by
            rw [emu10]
            refine ⟨by rw [mu_row_ne (by omega), hy1]; simp [s_cpl], by simpa [s_cpl] using hy2, fun p hp => ?_⟩
            have hp : p < ys.length := by simpa [s_cpl] using hp
            rw [mu_row_eq, s_cpl_gd hp]
            unfold va_cpy
            by_cases hq : ix j ≤ p ∧ p < ix j + ix n
            · rw [if_pos hq, if_pos hq]; exact hx3 _ (by omega)
            · rw [if_neg hq, if_neg hq]; exact hy3 p hp)
          exact PC_of (by unfold s_copy; rw [if_neg (by omega), if_neg (by omega)]; simp only [hx0, hy0]; rw [if_pos (by omega)]) q1 q2
        replace hh9 := bI_eq0.mp hh9
        refine m_aload_n C 0 dX10_copy_88 rfl ?_
        refine m_iconst C 2 dX10_copy_89 (by decide +kernel) ?_
        refine m_callVi C 0 (by decide) rfl rfl (c_X10_found l G mu nu 2 (by decide)) wkX10_80 (by decide) rfl rfl (Nat.le_of_ble_eq_true rfl) dX10_copy_90 (fun r11 m11 n11 hp11 => ?_)
        refine m_ireti C hQ dX10_copy_93 ?_
        exact PC_find hz (by decide) hp11 (by unfold s_copy; rw [if_neg (by omega), if_neg (by omega)]; simp only [hx0, hy0]; rw [if_neg (by omega)])
      replace hh6 := bI_eq0.mp hh6
      refine m_aload_n C 0 dX10_copy_51 rfl ?_
      refine m_iconst C 1 dX10_copy_52 (by decide +kernel) ?_
      refine m_callVi C 0 (by decide) rfl rfl (c_X10_found l G mu nu 1 (by decide)) wkX10_80 (by decide) rfl rfl (Nat.le_of_ble_eq_true rfl) dX10_copy_53 (fun r12 m12 n12 hp12 => ?_)
      refine m_ireti C hQ dX10_copy_56 ?_
      have hxe := zs_none (hz.2.2.2.1 (ix to) (by omega)) (by decide) (by omega)
      exact PC_find hz (by decide) hp12 (by unfold s_copy; rw [if_neg (by omega), if_neg (by omega)]; simp only [hxe]; cases z_rw z (ix r) <;> rfl)
    replace hh3 := mt (ii_le (nn_i (a := 0) rfl (by omega)) (rfl : (n).toInt = _)).mpr hh3
    refine m_aload_n C 0 dX10_copy_21 rfl ?_
    refine m_iconst C 5 dX10_copy_22 (by decide +kernel) ?_
    refine m_callVi C 0 (by decide) rfl rfl (c_X10_found l G mu nu 5 (by decide)) wkX10_80 (by decide) rfl rfl (Nat.le_of_ble_eq_true rfl) dX10_copy_23 (fun r13 m13 n13 hp13 => ?_)
    refine m_ireti C hQ dX10_copy_26 ?_
    exact PC_find hz (by decide) hp13 (by unfold s_copy; rw [if_neg (by omega), if_pos (by omega)])
  replace hh2 := bI_eq0.mp hh2
  refine m_iconst C (-1) dX10_copy_14 (by decide +kernel) ?_
  refine m_ireti C hQ dX10_copy_15 ?_
  exact PC_of (by unfold s_copy; rw [if_pos (by omega)]) hz zcl_rfl

set_option maxHeartbeats 4000000 in
set_option maxRecDepth 100000 in
theorem c_X10_mean (l : Launch) (G : Gl) (mu : Mu) (nu : Nu) (z : Zt) (hz : ZC mu nu z) (r : Int32) : Ci l G mX10_mean 3 [.ref (G.1 0), .int r] mu nu (PC mu nu (s_mean z r)) := by
  refine Ct.of (lv := [(0, .ref (G.1 0)), (1, .int r)]) rfl rfl (Nat.le_of_ble_eq_true rfl) rfl (fun X C => ?_)
  generalize hQ : g_E G X _ = Q
  replace C : Cx G 5 X cX10_mean RX10 (some .int) 3 := C
  show Mq l G 5 X Q 0 [(0, .ref (G.1 0)), (1, .int r)] [] mu nu
  refine m_iload_n C 1 dX10_mean_0 rfl ?_
  refine m_callSf C (c_X10_isRow l G mu nu r) wkX10_76 (by decide) rfl rfl (Nat.le_of_ble_eq_true rfl) dX10_mean_1 ?_
  refine m_if_ne C 9 dX10_mean_4 (by decide) (fun hh1 => ?_) (fun hh1 => ?_)
  · replace hh1 := bI_ne0.mp hh1
    obtain ⟨er, kr⟩ := ix_eq (x := r) (by omega)
    refine m_aload_n C 0 dX10_mean_9 rfl ?_
    refine gfX10_11 C dX10_mean_10 ?_
    refine m_iload_n C 1 dX10_mean_13 rfl ?_
    refine m_topi (nI (ix r)) er ?_
    refine m_aald C 1 (by decide) 1 rfl ra_1 (ix r) (G.1 (2 + 2 * (ix r))) rfl (by omega) (by decide) rfl dX10_mean_14 ?_
    refine m_callVf C (2 + 2 * (ix r)) (stc_lt (stc_row (by omega))) (sh_strip (stc_row (by omega)) _ _) rfl (c_X7_isThere l G mu nu (2 + 2 * (ix r)) (stc_row (by omega))) wkX10_99 (by decide) rfl rfl (Nat.le_of_ble_eq_true rfl) dX10_mean_15 ?_
    refine m_if_ne C 27 dX10_mean_18 (by decide) (fun hh2 => ?_) (fun hh2 => ?_)
    · replace hh2 := bI_ne0.mp hh2
      obtain ⟨xs, hxe, hx1, hx2, hx3⟩ := zs_some (hz.2.2.2.1 (ix r) (by omega)) (by decide) (by omega)
      refine m_aload_n C 0 dX10_mean_27 rfl ?_
      refine gfX10_11 C dX10_mean_28 ?_
      refine m_iload_n C 1 dX10_mean_31 rfl ?_
      refine m_topi (nI (ix r)) er ?_
      refine m_aald C 1 (by decide) 1 rfl ra_1 (ix r) (G.1 (2 + 2 * (ix r))) rfl (by omega) (by decide) rfl dX10_mean_32 ?_
      refine gfX10_103 C (2 + 2 * (ix r)) (stc_row (by omega)) dX10_mean_33 ?_
      refine m_topi (nI xs.length) hx1 ?_
      refine m_if_ne C 45 dX10_mean_36 (by decide) (fun hh3 => ?_) (fun hh3 => ?_)
      · replace hh3 := mt (ii_eq (nn_i (a := xs.length) rfl (by omega)) (nn_i (a := 0) rfl (by omega))).mpr hh3
        refine m_lconst C 0 dX10_mean_45 rfl ?_
        refine m_lstore_n C [(2, .long 0), (0, .ref (G.1 0)), (1, .int r)] dX10_mean_46 (by decide) rfl ?_
        refine m_iconst C 0 dX10_mean_47 (by decide +kernel) ?_
        refine m_istore C [(4, .int 0), (2, .long 0), (0, .ref (G.1 0)), (1, .int r)] dX10_mean_48 (by decide) rfl ?_
        have L50 : ∀ (fu : Nat) (k : Nat) (hk : k ≤ xs.length), xs.length - k < fu → Mq l G 5 X Q 50 [(0, .ref (G.1 0)), (1, .int r), (2, .long (s_sm xs k)), (4, .int (nI k))] [] mu nu := by
          intro fu
          induction fu with
          | zero => intro k hk hm; exact absurd hm (Nat.not_lt_zero _)
          | succ fu ih50 =>
            intro k hk hm
            refine m_iload C 3 dX10_mean_50 rfl ?_
            refine m_aload_n C 0 dX10_mean_52 rfl ?_
            refine gfX10_11 C dX10_mean_53 ?_
            refine m_iload_n C 1 dX10_mean_56 rfl ?_
            refine m_topi (nI (ix r)) er ?_
            refine m_aald C 1 (by decide) 1 rfl ra_1 (ix r) (G.1 (2 + 2 * (ix r))) rfl (by omega) (by decide) rfl dX10_mean_57 ?_
            refine gfX10_103 C (2 + 2 * (ix r)) (stc_row (by omega)) dX10_mean_58 ?_
            refine m_topi (nI xs.length) hx1 ?_
            refine m_icmp_ge C 86 dX10_mean_61 (by decide) (fun hh4 => ?_) (fun hh4 => ?_)
            · replace hh4 := (ii_le (nn_i (a := xs.length) rfl (by omega)) (nn_i (a := k) rfl (by omega))).mp hh4
              refine m_aload_n C 0 dX10_mean_86 rfl ?_
              refine m_lload_n C 2 dX10_mean_87 rfl ?_
              refine m_aload_n C 0 dX10_mean_88 rfl ?_
              refine gfX10_11 C dX10_mean_89 ?_
              refine m_iload_n C 1 dX10_mean_92 rfl ?_
              refine m_topi (nI (ix r)) er ?_
              refine m_aald C 1 (by decide) 1 rfl ra_1 (ix r) (G.1 (2 + 2 * (ix r))) rfl (by omega) (by decide) rfl dX10_mean_93 ?_
              refine gfX10_103 C (2 + 2 * (ix r)) (stc_row (by omega)) dX10_mean_94 ?_
              refine m_topi (nI xs.length) hx1 ?_
              refine m_i2l C dX10_mean_97 ?_
              refine m_topl (lN xs.length) (ln_i2l rfl (by omega)) ?_
              refine m_ldiv C dX10_mean_98 (ln_ne (by omega) (by omega)) ?_
              refine m_l2i C dX10_mean_99 ?_
              refine pfX10_95 C dX10_mean_100 ?_
              refine m_nameM (fun mu5 emu5 => ?_)
              refine m_iconst C 1 dX10_mean_103 (by decide +kernel) ?_
              refine m_ireti C hQ dX10_mean_104 ?_
              have ek : k = xs.length := by omega
              rw [emu5, ek]; exact PC_of (by unfold s_mean; rw [if_neg (by omega)]; simp only [hxe]; rw [if_neg (by omega)]) (zc_told hz) zcl_told
            replace hh4 := mt (ii_le (nn_i (a := xs.length) rfl (by omega)) (nn_i (a := k) rfl (by omega))).mpr hh4
            refine m_lload_n C 2 dX10_mean_64 rfl ?_
            refine m_aload_n C 0 dX10_mean_65 rfl ?_
            refine gfX10_11 C dX10_mean_66 ?_
            refine m_iload_n C 1 dX10_mean_69 rfl ?_
            refine m_topi (nI (ix r)) er ?_
            refine m_aald C 1 (by decide) 1 rfl ra_1 (ix r) (G.1 (2 + 2 * (ix r))) rfl (by omega) (by decide) rfl dX10_mean_70 ?_
            refine gfX10_92 C (2 + 2 * (ix r)) (stc_row (by omega)) dX10_mean_71 ?_
            refine m_iload C 3 dX10_mean_74 rfl ?_
            refine m_iald C (2 + 2 * (ix r) + 1) (stc_lt1 (stc_row (by omega))) (sa_strip (stc_row (by omega))) k rfl (by omega) (by decide) dX10_mean_76 ?_
            refine m_topi (xs.getD k 0) (hx3 _ (by omega)) ?_
            refine m_i2l C dX10_mean_77 ?_
            refine m_ladd C dX10_mean_78 ?_
            refine m_topl (s_sm xs (k + 1)) rfl ?_
            refine m_lstore_n C [(2, .long (s_sm xs (k + 1))), (0, .ref (G.1 0)), (1, .int r), (4, .int (nI k))] dX10_mean_79 (by decide) rfl ?_
            refine m_iinc C 3 (nI (k + 1)) [(4, .int (nI (k + 1))), (2, .long (s_sm xs (k + 1))), (0, .ref (G.1 0)), (1, .int r)] dX10_mean_80 rfl (nn_add rfl (show Int32.ofInt 1 = nI 1 from rfl)) (by decide) rfl ?_
            refine m_goto C 50 dX10_mean_83 (by decide) ?_
            exact m_sub [2, 3, 1, 0] rfl (ih50 (k + 1) (by omega) (by omega))
        exact m_sub [2, 3, 1, 0] rfl (L50 (_ + 1) 0 (Nat.zero_le _) (Nat.lt_succ_self _))
      replace hh3 := (ii_eq (nn_i (a := xs.length) rfl (by omega)) (nn_i (a := 0) rfl (by omega))).mp hh3
      refine m_aload_n C 0 dX10_mean_39 rfl ?_
      refine m_iconst C 4 dX10_mean_40 (by decide +kernel) ?_
      refine m_callVi C 0 (by decide) rfl rfl (c_X10_found l G mu nu 4 (by decide)) wkX10_80 (by decide) rfl rfl (Nat.le_of_ble_eq_true rfl) dX10_mean_41 (fun r6 m6 n6 hp6 => ?_)
      refine m_ireti C hQ dX10_mean_44 ?_
      exact PC_find hz (by decide) hp6 (by unfold s_mean; rw [if_neg (by omega)]; simp only [hxe]; rw [if_pos (by omega)])
    replace hh2 := bI_eq0.mp hh2
    refine m_aload_n C 0 dX10_mean_21 rfl ?_
    refine m_iconst C 1 dX10_mean_22 (by decide +kernel) ?_
    refine m_callVi C 0 (by decide) rfl rfl (c_X10_found l G mu nu 1 (by decide)) wkX10_80 (by decide) rfl rfl (Nat.le_of_ble_eq_true rfl) dX10_mean_23 (fun r7 m7 n7 hp7 => ?_)
    refine m_ireti C hQ dX10_mean_26 ?_
    have hxe := zs_none (hz.2.2.2.1 (ix r) (by omega)) (by decide) (by omega)
    exact PC_find hz (by decide) hp7 (by unfold s_mean; rw [if_neg (by omega)]; simp only [hxe])
  replace hh1 := bI_eq0.mp hh1
  refine m_iconst C (-1) dX10_mean_7 (by decide +kernel) ?_
  refine m_ireti C hQ dX10_mean_8 ?_
  exact PC_of (by unfold s_mean; rw [if_pos (by omega)]) hz zcl_rfl

set_option maxHeartbeats 4000000 in
set_option maxRecDepth 100000 in
theorem c_X10_rod (l : Launch) (G : Gl) (mu : Mu) (nu : Nu) (z : Zt) (hz : ZC mu nu z) (i w : Int32) : Ci l G mX10_rod 4 [.ref (G.1 0), .int i, .int w] mu nu (PC mu nu (s_rod z i w)) := by
  have hv : zv mu (z_V z) := hz.1
  have hw := hv.1
  have hN7 := hw.1
  have hm7 := hw.2.2.1
  have ho8 := hw.2.2.2.2
  have hcz : ((v_N (z_V z) : Nat) : Int) = ((z_N z : Nat) : Int) := rfl
  refine Ct.of (lv := [(0, .ref (G.1 0)), (1, .int i), (2, .int w)]) rfl rfl (Nat.le_of_ble_eq_true rfl) rfl (fun X C => ?_)
  generalize hQ : g_E G X _ = Q
  replace C : Cx G 3 X cX10_rod RX10 (some .int) 4 := C
  show Mq l G 3 X Q 0 [(0, .ref (G.1 0)), (1, .int i), (2, .int w)] [] mu nu
  refine m_aload_n C 0 dX10_rod_0 rfl ?_
  refine m_iload_n C 1 dX10_rod_1 rfl ?_
  refine m_callVf C 0 (by decide) rfl rfl (c_X10_isRod l G mu nu (z_V z) hv i) wkX10_137 (by decide) rfl rfl (Nat.le_of_ble_eq_true rfl) dX10_rod_2 ?_
  refine m_if_eq C 17 dX10_rod_5 (by decide) (fun hh1 => ?_) (fun hh1 => ?_)
  · replace hh1 := bI_eq0.mp hh1
    refine m_iconst C (-1) dX10_rod_17 (by decide +kernel) ?_
    refine m_ireti C hQ dX10_rod_18 ?_
    exact PC_of (by unfold s_rod; rw [if_pos (by omega)]) hz zcl_rfl
  replace hh1 := bI_ne0.mp hh1
  refine m_iload_n C 2 dX10_rod_8 rfl ?_
  refine m_if_lt C 17 dX10_rod_9 (by decide) (fun hh2 => ?_) (fun hh2 => ?_)
  · replace hh2 := (ii_lt (rfl : (w).toInt = _) (nn_i (a := 0) rfl (by omega))).mp hh2
    refine m_iconst C (-1) dX10_rod_17 (by decide +kernel) ?_
    refine m_ireti C hQ dX10_rod_18 ?_
    exact PC_of (by unfold s_rod; rw [if_pos (by omega)]) hz zcl_rfl
  replace hh2 := mt (ii_lt (rfl : (w).toInt = _) (nn_i (a := 0) rfl (by omega))).mpr hh2
  refine m_iload_n C 2 dX10_rod_12 rfl ?_
  refine m_iconst C 5 dX10_rod_13 (by decide +kernel) ?_
  refine m_icmp_lt C 19 dX10_rod_14 (by decide) (fun hh3 => ?_) (fun hh3 => ?_)
  · replace hh3 := (ii_lt (rfl : (w).toInt = _) (nn_i (a := 5) rfl (by omega))).mp hh3
    obtain ⟨ei, ki⟩ := ix_eq (x := i) (by omega)
    obtain ⟨ew, kw⟩ := ix_eq (x := w) (by omega)
    refine m_aload_n C 0 dX10_rod_19 rfl ?_
    refine m_aload_n C 0 dX10_rod_20 rfl ?_
    refine m_iload_n C 1 dX10_rod_21 rfl ?_
    refine m_topi (nI (ix i)) ei ?_
    refine m_iload_n C 2 dX10_rod_22 rfl ?_
    refine m_topi (nI (ix w)) ew ?_
    refine m_callVf C 0 (by decide) rfl rfl (c_X10_ofRod l G mu nu (z_V z) hv (ix i) (by omega) (ix w) (by omega)) wkX10_140 (by decide) rfl rfl (Nat.le_of_ble_eq_true rfl) dX10_rod_23 ?_
    refine pfX10_95 C dX10_rod_26 ?_
    refine m_nameM (fun mu4 emu4 => ?_)
    refine m_iconst C 1 dX10_rod_29 (by decide +kernel) ?_
    refine m_ireti C hQ dX10_rod_30 ?_
    rw [emu4]; exact PC_of (by unfold s_rod; rw [if_neg (by omega)]) (zc_told hz) zcl_told
  replace hh3 := mt (ii_lt (rfl : (w).toInt = _) (nn_i (a := 5) rfl (by omega))).mpr hh3
  refine m_iconst C (-1) dX10_rod_17 (by decide +kernel) ?_
  refine m_ireti C hQ dX10_rod_18 ?_
  exact PC_of (by unfold s_rod; rw [if_pos (by omega)]) hz zcl_rfl

set_option maxHeartbeats 4000000 in
set_option maxRecDepth 100000 in
theorem c_X10_shows (l : Launch) (G : Gl) (mu : Mu) (nu : Nu) (z : Zt) (hz : ZC mu nu z) (i n : Int32) : Ci l G mX10_shows 6 [.ref (G.1 0), .int i, .int n] mu nu (PC mu nu (s_shows z i n)) := by
  have hv : zv mu (z_V z) := hz.1
  have hw := hv.1
  have hN7 := hw.1
  have hm7 := hw.2.2.1
  have ho8 := hw.2.2.2.2
  have hcz : ((v_N (z_V z) : Nat) : Int) = ((z_N z : Nat) : Int) := rfl
  refine Ct.of (lv := [(0, .ref (G.1 0)), (1, .int i), (2, .int n)]) rfl rfl (Nat.le_of_ble_eq_true rfl) rfl (fun X C => ?_)
  generalize hQ : g_E G X _ = Q
  replace C : Cx G 3 X cX10_shows RX10 (some .int) 6 := C
  show Mq l G 3 X Q 0 [(0, .ref (G.1 0)), (1, .int i), (2, .int n)] [] mu nu
  refine m_aload_n C 0 dX10_shows_0 rfl ?_
  refine m_iload_n C 1 dX10_shows_1 rfl ?_
  refine m_callVf C 0 (by decide) rfl rfl (c_X10_isRod l G mu nu (z_V z) hv i) wkX10_137 (by decide) rfl rfl (Nat.le_of_ble_eq_true rfl) dX10_shows_2 ?_
  refine m_if_eq C 15 dX10_shows_5 (by decide) (fun hh1 => ?_) (fun hh1 => ?_)
  · replace hh1 := bI_eq0.mp hh1
    refine m_iconst C (-1) dX10_shows_15 (by decide +kernel) ?_
    refine m_ireti C hQ dX10_shows_16 ?_
    exact PC_of (by unfold s_shows; rw [if_pos (by omega)]) hz zcl_rfl
  replace hh1 := bI_ne0.mp hh1
  refine m_iload_n C 2 dX10_shows_8 rfl ?_
  refine m_callSf C (c_X10_isLine l G mu nu n) wkX10_159 (by decide) rfl rfl (Nat.le_of_ble_eq_true rfl) dX10_shows_9 ?_
  refine m_if_ne C 17 dX10_shows_12 (by decide) (fun hh2 => ?_) (fun hh2 => ?_)
  · replace hh2 := bI_ne0.mp hh2
    obtain ⟨ei, ki⟩ := ix_eq (x := i) (by omega)
    obtain ⟨en, kn⟩ := ix_eq (x := n) (by omega)
    refine m_aload_n C 0 dX10_shows_17 rfl ?_
    refine m_iload_n C 1 dX10_shows_18 rfl ?_
    refine m_topi (nI (ix i)) ei ?_
    refine m_iload_n C 2 dX10_shows_19 rfl ?_
    refine m_topi (nI (ix n)) en ?_
    refine m_callVf C 0 (by decide) rfl rfl (c_X10_shownNow l G mu nu (z_V z) hv (ix i) (by omega) (ix n) (by omega) (by omega)) wkX10_162 (by decide) rfl rfl (Nat.le_of_ble_eq_true rfl) dX10_shows_20 ?_
    refine m_ireti C hQ dX10_shows_23 ?_
    exact PC_of (by unfold s_shows; rw [if_neg (by omega)]) hz zcl_rfl
  replace hh2 := bI_eq0.mp hh2
  refine m_iconst C (-1) dX10_shows_15 (by decide +kernel) ?_
  refine m_ireti C hQ dX10_shows_16 ?_
  exact PC_of (by unfold s_shows; rw [if_pos (by omega)]) hz zcl_rfl

set_option maxHeartbeats 4000000 in
set_option maxRecDepth 100000 in
theorem c_X10_reads (l : Launch) (G : Gl) (mu : Mu) (nu : Nu) (z : Zt) (hz : ZC mu nu z) (n : Int32) : Ci l G mX10_reads 7 [.ref (G.1 0), .int n] mu nu (PC mu nu (s_reads z n)) := by
  have hv : zv mu (z_V z) := hz.1
  have hw := hv.1
  have hN7 := hw.1
  have hm7 := hw.2.2.1
  have ho8 := hw.2.2.2.2
  refine Ct.of (lv := [(0, .ref (G.1 0)), (1, .int n)]) rfl rfl (Nat.le_of_ble_eq_true rfl) rfl (fun X C => ?_)
  generalize hQ : g_E G X _ = Q
  replace C : Cx G 2 X cX10_reads RX10 (some .int) 7 := C
  show Mq l G 2 X Q 0 [(0, .ref (G.1 0)), (1, .int n)] [] mu nu
  refine m_iload_n C 1 dX10_reads_0 rfl ?_
  refine m_callSf C (c_X10_isLine l G mu nu n) wkX10_159 (by decide) rfl rfl (Nat.le_of_ble_eq_true rfl) dX10_reads_1 ?_
  refine m_if_ne C 9 dX10_reads_4 (by decide) (fun hh1 => ?_) (fun hh1 => ?_)
  · replace hh1 := bI_ne0.mp hh1
    obtain ⟨en, kn⟩ := ix_eq (x := n) (by omega)
    refine m_aload_n C 0 dX10_reads_9 rfl ?_
    refine m_aload_n C 0 dX10_reads_10 rfl ?_
    refine m_iload_n C 1 dX10_reads_11 rfl ?_
    refine m_topi (nI (ix n)) en ?_
    refine m_callVf C 0 (by decide) rfl rfl (c_X10_rightBy l G mu nu (z_V z) hv (ix n)) wkX10_204 (by decide) rfl rfl (Nat.le_of_ble_eq_true rfl) dX10_reads_12 ?_
    refine pfX10_95 C dX10_reads_15 ?_
    refine m_nameM (fun mu2 emu2 => ?_)
    have hvt : zv mu2 (z_V z) := by rw [emu2]; exact zv_keep hv (mu_up_an (by decide)) (fun c q _ => mu_up_ne (by omega))
    refine m_aload_n C 0 dX10_reads_18 rfl ?_
    refine m_iload_n C 1 dX10_reads_19 rfl ?_
    refine m_topi (nI (ix n)) en ?_
    refine m_callVf C 0 (by decide) rfl rfl (c_X10_readOff l G mu2 nu (z_V z) hvt (ix n) (by omega) (by omega)) wkX10_207 (by decide) rfl rfl (Nat.le_of_ble_eq_true rfl) dX10_reads_20 ?_
    refine m_ireti C hQ dX10_reads_23 ?_
    rw [emu2]; exact PC_of (by unfold s_reads; rw [if_neg (by omega)]) (zc_told hz) zcl_told
  replace hh1 := bI_eq0.mp hh1
  refine m_iconst C (-1) dX10_reads_7 (by decide +kernel) ?_
  refine m_ireti C hQ dX10_reads_8 ?_
  exact PC_of (by unfold s_reads; rw [if_pos (by omega)]) hz zcl_rfl

set_option maxHeartbeats 4000000 in
set_option maxRecDepth 100000 in
theorem c_X10_wrong (l : Launch) (G : Gl) (mu : Mu) (nu : Nu) (z : Zt) (hz : ZC mu nu z) : Ci l G mX10_wrong 7 [.ref (G.1 0)] mu nu (PC mu nu (nI (v_wr (z_V z) 9), z)) := by
  have hv : zv mu (z_V z) := hz.1
  have hw := hv.1
  have hN7 := hw.1
  have hm7 := hw.2.2.1
  have ho8 := hw.2.2.2.2
  refine Ct.of (lv := [(0, .ref (G.1 0))]) rfl rfl (Nat.le_of_ble_eq_true rfl) rfl (fun X C => ?_)
  generalize hQ : g_E G X _ = Q
  replace C : Cx G 3 X cX10_wrong RX10 (some .int) 7 := C
  show Mq l G 3 X Q 0 [(0, .ref (G.1 0))] [] mu nu
  refine m_iconst C 0 dX10_wrong_0 (by decide +kernel) ?_
  refine m_istore_n C [(1, .int 0), (0, .ref (G.1 0))] dX10_wrong_1 (by decide) rfl ?_
  refine m_iconst C 1 dX10_wrong_2 (by decide +kernel) ?_
  refine m_istore_n C [(2, .int 1), (1, .int 0), (0, .ref (G.1 0))] dX10_wrong_3 (by decide) rfl ?_
  have L4 : ∀ (fu : Nat) (n : Nat) (hn : n ≤ 9), 9 - n < fu → Mq l G 3 X Q 4 [(0, .ref (G.1 0)), (1, .int (nI (v_wr (z_V z) n))), (2, .int (nI (n + 1)))] [] mu nu := by
    intro fu
    induction fu with
    | zero => intro n hn hm; exact absurd hm (Nat.not_lt_zero _)
    | succ fu ih4 =>
      intro n hn hm
      refine m_iload_n C 2 dX10_wrong_4 rfl ?_
      refine m_bipush C 9 dX10_wrong_5 (by decide +kernel) ?_
      refine m_icmp_gt C 35 dX10_wrong_7 (by decide) (fun hh1 => ?_) (fun hh1 => ?_)
      · replace hh1 := (ii_lt (nn_i (a := 9) rfl (by omega)) (nn_i (a := n + 1) rfl (by omega))).mp hh1
        refine m_iload_n C 1 dX10_wrong_35 rfl ?_
        refine m_ireti C hQ dX10_wrong_36 ?_
        have e9 : n = 9 := by omega
        subst e9; exact PC_of rfl hz zcl_rfl
      replace hh1 := mt (ii_lt (nn_i (a := 9) rfl (by omega)) (nn_i (a := n + 1) rfl (by omega))).mpr hh1
      have hb1 := v_rdb hw (n := n + 1) (by omega)
      have hb2 := v_rtb hw (n := n + 1) (by omega)
      refine m_aload_n C 0 dX10_wrong_10 rfl ?_
      refine m_iload_n C 2 dX10_wrong_11 rfl ?_
      refine m_callVf C 0 (by decide) rfl rfl (c_X10_readOff l G mu nu (z_V z) hv (n + 1) (by omega) (by omega)) wkX10_207 (by decide) rfl rfl (Nat.le_of_ble_eq_true rfl) dX10_wrong_12 ?_
      refine m_aload_n C 0 dX10_wrong_15 rfl ?_
      refine m_iload_n C 2 dX10_wrong_16 rfl ?_
      refine m_callVf C 0 (by decide) rfl rfl (c_X10_rightBy l G mu nu (z_V z) hv (n + 1)) wkX10_204 (by decide) rfl rfl (Nat.le_of_ble_eq_true rfl) dX10_wrong_17 ?_
      refine m_icmp_eq C 29 dX10_wrong_20 (by decide) (fun hh2 => ?_) (fun hh2 => ?_)
      · replace hh2 := (ii_eq (nn_i (a := v_rd (z_V z) (n + 1) (v_m (z_V z))) rfl (by omega)) (nn_i (a := v_rt (z_V z) (v_m (z_V z)) * (n + 1)) rfl (by omega))).mp hh2
        refine m_iinc C 2 (nI (n + 1 + 1)) [(2, .int (nI (n + 1 + 1))), (0, .ref (G.1 0)), (1, .int (nI (v_wr (z_V z) n)))] dX10_wrong_29 rfl (nn_add rfl (show Int32.ofInt 1 = nI 1 from rfl)) (by decide) rfl ?_
        rw [show nI (v_wr (z_V z) n) = nI (v_wr (z_V z) (n + 1)) from congrArg nI (show v_wr (z_V z) n = v_wr (z_V z) (n + 1) from (if_pos (by omega)).symm)]
        refine m_goto C 4 dX10_wrong_32 (by decide) ?_
        exact m_sub [1, 2, 0] rfl (ih4 (n + 1) (by omega) (by omega))
      replace hh2 := mt (ii_eq (nn_i (a := v_rd (z_V z) (n + 1) (v_m (z_V z))) rfl (by omega)) (nn_i (a := v_rt (z_V z) (v_m (z_V z)) * (n + 1)) rfl (by omega))).mpr hh2
      refine m_iload_n C 1 dX10_wrong_23 rfl ?_
      refine m_iconst C 1 dX10_wrong_24 (by decide +kernel) ?_
      refine m_iload_n C 2 dX10_wrong_25 rfl ?_
      refine m_ishl C dX10_wrong_26 ?_
      refine m_topi (nI (2 ^ (n + 1))) (nn_shl1 rfl (by omega)) ?_
      refine m_ior C dX10_wrong_27 ?_
      refine m_topi (nI ((v_wr (z_V z) n) ||| (2 ^ (n + 1)))) (nn_or rfl rfl) ?_
      refine m_istore_n C [(1, .int (nI ((v_wr (z_V z) n) ||| (2 ^ (n + 1))))), (0, .ref (G.1 0)), (2, .int (nI (n + 1)))] dX10_wrong_28 (by decide) rfl ?_
      refine m_iinc C 2 (nI (n + 1 + 1)) [(2, .int (nI (n + 1 + 1))), (1, .int (nI ((v_wr (z_V z) n) ||| (2 ^ (n + 1))))), (0, .ref (G.1 0))] dX10_wrong_29 rfl (nn_add rfl (show Int32.ofInt 1 = nI 1 from rfl)) (by decide) rfl ?_
      rw [show nI ((v_wr (z_V z) n) ||| (2 ^ (n + 1))) = nI (v_wr (z_V z) (n + 1)) from congrArg nI (show (v_wr (z_V z) n) ||| (2 ^ (n + 1)) = v_wr (z_V z) (n + 1) from (if_neg (by omega)).symm)]
      refine m_goto C 4 dX10_wrong_32 (by decide) ?_
      exact m_sub [2, 1, 0] rfl (ih4 (n + 1) (by omega) (by omega))
  exact m_sub [2, 1, 0] rfl (L4 (_ + 1) 0 (Nat.zero_le _) (Nat.lt_succ_self _))

set_option maxHeartbeats 4000000 in
set_option maxRecDepth 100000 in
theorem c_X10_carries (l : Launch) (G : Gl) (mu : Mu) (nu : Nu) (z : Zt) (hz : ZC mu nu z) (n : Int32) : Ci l G mX10_carries 6 [.ref (G.1 0), .int n] mu nu (PC mu nu (s_carr z n)) := by
  have hv : zv mu (z_V z) := hz.1
  have hw := hv.1
  have hN7 := hw.1
  have hm7 := hw.2.2.1
  have ho8 := hw.2.2.2.2
  refine Ct.of (lv := [(0, .ref (G.1 0)), (1, .int n)]) rfl rfl (Nat.le_of_ble_eq_true rfl) rfl (fun X C => ?_)
  generalize hQ : g_E G X _ = Q
  replace C : Cx G 6 X cX10_carries RX10 (some .int) 6 := C
  show Mq l G 6 X Q 0 [(0, .ref (G.1 0)), (1, .int n)] [] mu nu
  refine m_iload_n C 1 dX10_carries_0 rfl ?_
  refine m_callSf C (c_X10_isLine l G mu nu n) wkX10_159 (by decide) rfl rfl (Nat.le_of_ble_eq_true rfl) dX10_carries_1 ?_
  refine m_if_ne C 9 dX10_carries_4 (by decide) (fun hh1 => ?_) (fun hh1 => ?_)
  · replace hh1 := bI_ne0.mp hh1
    obtain ⟨en, kn⟩ := ix_eq (x := n) (by omega)
    refine m_iconst C 0 dX10_carries_9 (by decide +kernel) ?_
    refine m_istore_n C [(2, .int 0), (0, .ref (G.1 0)), (1, .int n)] dX10_carries_10 (by decide) rfl ?_
    refine m_iconst C 0 dX10_carries_11 (by decide +kernel) ?_
    refine m_istore_n C [(3, .int 0), (2, .int 0), (0, .ref (G.1 0)), (1, .int n)] dX10_carries_12 (by decide) rfl ?_
    refine m_iconst C 0 dX10_carries_13 (by decide +kernel) ?_
    refine m_istore C [(4, .int 0), (3, .int 0), (2, .int 0), (0, .ref (G.1 0)), (1, .int n)] dX10_carries_14 (by decide) rfl ?_
    refine m_aload_n C 3 dX10_carries_16 rfl ?_
    refine gfX10_53 C dX10_carries_17 ?_
    refine gfX10_175 C 38 bnc_38 dX10_carries_20 ?_
    refine m_topi (nI (v_m (z_V z))) (zv_m hv) ?_
    refine m_iconst C 1 dX10_carries_23 (by decide +kernel) ?_
    refine m_isub C dX10_carries_24 ?_
    refine m_istore C [(5, .int ((nI (v_m (z_V z))) - 1)), (4, .int 0), (3, .int 0), (2, .int 0), (0, .ref (G.1 0)), (1, .int n)] dX10_carries_25 (by decide) rfl ?_
    have L27 : ∀ (fu : Nat) (k : Nat) (hk : k ≤ v_m (z_V z)), v_m (z_V z) - k < fu → Mq l G 6 X Q 27 [(0, .ref (G.1 0)), (1, .int n), (2, .int (nI ((v_cc (z_V z) (ix n) k).2.1))), (3, .int (nI ((v_cc (z_V z) (ix n) k).2.2))), (4, .int (nI ((v_cc (z_V z) (ix n) k).1))), (5, .int (nI (v_m (z_V z) - k) - 1))] [] mu nu := by
      intro fu
      induction fu with
      | zero => intro k hk hm; exact absurd hm (Nat.not_lt_zero _)
      | succ fu ih27 =>
        intro k hk hm
        obtain ⟨hc1, hc2, hc3⟩ := v_cc_le hw (n := ix n) (by omega) k hk
        refine m_iload C 5 dX10_carries_27 rfl ?_
        refine m_if_lt C 76 dX10_carries_29 (by decide) (fun hh2 => ?_) (fun hh2 => ?_)
        · replace hh2 := (ii_lt (ii_sub (nn_i (a := v_m (z_V z) - k) rfl (by omega)) (show (1 : Int32).toInt = 1 from by decide) (by omega) (by omega)) (nn_i (a := 0) rfl (by omega))).mp hh2
          refine m_aload_n C 0 dX10_carries_76 rfl ?_
          refine m_iload_n C 3 dX10_carries_77 rfl ?_
          refine pfX10_95 C dX10_carries_78 ?_
          refine m_nameM (fun mu3 emu3 => ?_)
          refine m_iload_n C 2 dX10_carries_81 rfl ?_
          refine m_ireti C hQ dX10_carries_82 ?_
          have ek : k = v_m (z_V z) := by omega
          rw [emu3, ek]; exact PC_of (by unfold s_carr; rw [if_neg (by omega)]) (zc_told hz) zcl_told
        replace hh2 := mt (ii_lt (ii_sub (nn_i (a := v_m (z_V z) - k) rfl (by omega)) (show (1 : Int32).toInt = 1 from by decide) (by omega) (by omega)) (nn_i (a := 0) rfl (by omega))).mpr hh2
        have hfp := hw.2.2.2.1 (v_m (z_V z) - k - 1) (by omega)
        have hsl := v_sh_le hw hfp (n := ix n) (by omega)
        refine m_aload_n C 0 dX10_carries_32 rfl ?_
        refine m_aload_n C 0 dX10_carries_33 rfl ?_
        refine gfX10_53 C dX10_carries_34 ?_
        refine gfX10_185 C 38 bnc_38 dX10_carries_37 ?_
        refine m_iload C 5 dX10_carries_40 rfl ?_
        refine m_topi (nI (v_m (z_V z) - k - 1)) (nn_sub rfl (show (1 : Int32) = nI 1 from rfl) (by omega)) ?_
        refine m_iald C 39 (by decide) (sa_frame (c := 38) bnc_38) (v_m (z_V z) - k - 1) rfl (by omega) (by decide) dX10_carries_42 ?_
        refine m_topi (nI (v_fr (z_V z) (v_m (z_V z) - k - 1))) (zv_fr hv (by omega)) ?_
        refine m_iload_n C 1 dX10_carries_43 rfl ?_
        refine m_topi (nI (ix n)) en ?_
        refine m_callVf C 0 (by decide) rfl rfl (c_X10_shownNow l G mu nu (z_V z) hv (v_fr (z_V z) (v_m (z_V z) - k - 1)) (by omega) (ix n) (by omega) (by omega)) wkX10_162 (by decide) rfl rfl (Nat.le_of_ble_eq_true rfl) dX10_carries_44 ?_
        refine m_iload C 4 dX10_carries_47 rfl ?_
        refine m_iadd C dX10_carries_49 ?_
        refine m_topi (nI ((v_sh (z_V z) (v_fr (z_V z) (v_m (z_V z) - k - 1)) (ix n)) + ((v_cc (z_V z) (ix n) k).1))) (nn_add rfl rfl) ?_
        refine m_bipush C 10 dX10_carries_50 (by decide +kernel) ?_
        refine m_idiv C dX10_carries_52 (by decide) ?_
        refine m_topi (nI (((v_sh (z_V z) (v_fr (z_V z) (v_m (z_V z) - k - 1)) (ix n)) + ((v_cc (z_V z) (ix n) k).1)) / 10)) (nn_div rfl rfl (by omega) (by omega) (by omega)) ?_
        refine m_topi (nI ((v_cc (z_V z) (ix n) (k + 1)).1)) rfl ?_
        refine m_istore C [(4, .int (nI ((v_cc (z_V z) (ix n) (k + 1)).1))), (0, .ref (G.1 0)), (1, .int n), (2, .int (nI ((v_cc (z_V z) (ix n) k).2.1))), (3, .int (nI ((v_cc (z_V z) (ix n) k).2.2))), (5, .int (nI (v_m (z_V z) - k) - 1))] dX10_carries_53 (by decide) rfl ?_
        have hcd9 : (v_cc (z_V z) (ix n) (k + 1)).1 ≤ 9 := (v_cc_le hw (n := ix n) (by omega) (k + 1) (by omega)).1
        refine m_iload C 0 dX10_carries_55 rfl ?_
        refine m_if_le C 63 dX10_carries_57 (by decide) (fun hh4 => ?_) (fun hh4 => ?_)
        · replace hh4 := (ii_le (nn_i (a := (v_cc (z_V z) (ix n) (k + 1)).1) rfl (by omega)) (nn_i (a := 0) rfl (by omega))).mp hh4
          have hcd : (v_cc (z_V z) (ix n) (k + 1)).1 = (v_sh (z_V z) (v_fr (z_V z) (v_m (z_V z) - k - 1)) (ix n) + (v_cc (z_V z) (ix n) k).1) / 10 := rfl
          refine m_iload_n C 4 dX10_carries_63 rfl ?_
          refine m_iload C 0 dX10_carries_64 rfl ?_
          refine m_max C wkX10_210 (by omega) (Nat.le_of_ble_eq_true rfl) dX10_carries_66 ?_
          refine m_topi (nI (max ((v_cc (z_V z) (ix n) k).2.2) ((v_cc (z_V z) (ix n) (k + 1)).1))) (nn_max rfl rfl (by omega) (by omega)) ?_
          refine m_topi (nI ((v_cc (z_V z) (ix n) (k + 1)).2.2)) rfl ?_
          refine m_istore_n C [(3, .int (nI ((v_cc (z_V z) (ix n) (k + 1)).2.2))), (4, .int (nI ((v_cc (z_V z) (ix n) (k + 1)).1))), (0, .ref (G.1 0)), (1, .int n), (2, .int (nI ((v_cc (z_V z) (ix n) k).2.1))), (5, .int (nI (v_m (z_V z) - k) - 1))] dX10_carries_69 (by decide) rfl ?_
          refine m_iinc C 5 (nI (v_m (z_V z) - (k + 1)) - 1) [(5, .int (nI (v_m (z_V z) - (k + 1)) - 1)), (3, .int (nI ((v_cc (z_V z) (ix n) (k + 1)).2.2))), (4, .int (nI ((v_cc (z_V z) (ix n) (k + 1)).1))), (0, .ref (G.1 0)), (1, .int n), (2, .int (nI ((v_cc (z_V z) (ix n) k).2.1)))] dX10_carries_70 rfl (cc_dec (by omega)) (by decide) rfl ?_
          rw [show nI ((v_cc (z_V z) (ix n) k).2.1) = nI ((v_cc (z_V z) (ix n) (k + 1)).2.1) from congrArg nI (show (v_cc (z_V z) (ix n) k).2.1 = (v_cc (z_V z) (ix n) (k + 1)).2.1 from (congrArg (fun q => (v_cc (z_V z) (ix n) k).2.1 + q) (if_neg (by omega) : (if 0 < (v_sh (z_V z) (v_fr (z_V z) (v_m (z_V z) - k - 1)) (ix n) + (v_cc (z_V z) (ix n) k).1) / 10 then 1 else 0) = 0)).symm)]
          refine m_goto C 27 dX10_carries_73 (by decide) ?_
          exact m_sub [3, 4, 5, 1, 2, 0] rfl (ih27 (k + 1) (by omega) (by omega))
        replace hh4 := mt (ii_le (nn_i (a := (v_cc (z_V z) (ix n) (k + 1)).1) rfl (by omega)) (nn_i (a := 0) rfl (by omega))).mpr hh4
        have hcd : (v_cc (z_V z) (ix n) (k + 1)).1 = (v_sh (z_V z) (v_fr (z_V z) (v_m (z_V z) - k - 1)) (ix n) + (v_cc (z_V z) (ix n) k).1) / 10 := rfl
        refine m_iinc C 3 (nI ((v_cc (z_V z) (ix n) k).2.1 + 1)) [(2, .int (nI ((v_cc (z_V z) (ix n) k).2.1 + 1))), (4, .int (nI ((v_cc (z_V z) (ix n) (k + 1)).1))), (0, .ref (G.1 0)), (1, .int n), (3, .int (nI ((v_cc (z_V z) (ix n) k).2.2))), (5, .int (nI (v_m (z_V z) - k) - 1))] dX10_carries_60 rfl (nn_add rfl (show Int32.ofInt 1 = nI 1 from rfl)) (by decide) rfl ?_
        refine m_iload_n C 4 dX10_carries_63 rfl ?_
        refine m_iload C 1 dX10_carries_64 rfl ?_
        refine m_max C wkX10_210 (by omega) (Nat.le_of_ble_eq_true rfl) dX10_carries_66 ?_
        refine m_topi (nI (max ((v_cc (z_V z) (ix n) k).2.2) ((v_cc (z_V z) (ix n) (k + 1)).1))) (nn_max rfl rfl (by omega) (by omega)) ?_
        refine m_topi (nI ((v_cc (z_V z) (ix n) (k + 1)).2.2)) rfl ?_
        refine m_istore_n C [(3, .int (nI ((v_cc (z_V z) (ix n) (k + 1)).2.2))), (2, .int (nI ((v_cc (z_V z) (ix n) k).2.1 + 1))), (4, .int (nI ((v_cc (z_V z) (ix n) (k + 1)).1))), (0, .ref (G.1 0)), (1, .int n), (5, .int (nI (v_m (z_V z) - k) - 1))] dX10_carries_69 (by decide) rfl ?_
        refine m_iinc C 5 (nI (v_m (z_V z) - (k + 1)) - 1) [(5, .int (nI (v_m (z_V z) - (k + 1)) - 1)), (3, .int (nI ((v_cc (z_V z) (ix n) (k + 1)).2.2))), (2, .int (nI ((v_cc (z_V z) (ix n) k).2.1 + 1))), (4, .int (nI ((v_cc (z_V z) (ix n) (k + 1)).1))), (0, .ref (G.1 0)), (1, .int n)] dX10_carries_70 rfl (cc_dec (by omega)) (by decide) rfl ?_
        rw [show nI ((v_cc (z_V z) (ix n) k).2.1 + 1) = nI ((v_cc (z_V z) (ix n) (k + 1)).2.1) from congrArg nI (show (v_cc (z_V z) (ix n) k).2.1 + 1 = (v_cc (z_V z) (ix n) (k + 1)).2.1 from (congrArg (fun q => (v_cc (z_V z) (ix n) k).2.1 + q) (if_pos (by omega) : (if 0 < (v_sh (z_V z) (v_fr (z_V z) (v_m (z_V z) - k - 1)) (ix n) + (v_cc (z_V z) (ix n) k).1) / 10 then 1 else 0) = 1)).symm)]
        refine m_goto C 27 dX10_carries_73 (by decide) ?_
        exact m_sub [4, 5, 2, 1, 3, 0] rfl (ih27 (k + 1) (by omega) (by omega))
    exact m_sub [4, 5, 3, 2, 1, 0] rfl (L27 (_ + 1) 0 (Nat.zero_le _) (Nat.lt_succ_self _))
  replace hh1 := bI_eq0.mp hh1
  refine m_iconst C (-1) dX10_carries_7 (by decide +kernel) ?_
  refine m_ireti C hQ dX10_carries_8 ?_
  exact PC_of (by unfold s_carr; rw [if_pos (by omega)]) hz zcl_rfl

set_option maxHeartbeats 4000000 in
set_option maxRecDepth 100000 in
theorem c_X10_asked (l : Launch) (G : Gl) (mu : Mu) (nu : Nu) (z : Zt) (hz : ZC mu nu z) : Ci l G mX10_asked 1 [.ref (G.1 0)] mu nu (PC mu nu ((z_ms z).1, z)) := by
  refine Ct.of (lv := [(0, .ref (G.1 0))]) rfl rfl (Nat.le_of_ble_eq_true rfl) rfl (fun X C => ?_)
  generalize hQ : g_E G X _ = Q
  replace C : Cx G 1 X cX10_asked RX10 (some .int) 1 := C
  show Mq l G 1 X Q 0 [(0, .ref (G.1 0))] [] mu nu
  refine m_aload_n C 0 dX10_asked_0 rfl ?_
  refine gfX10_95 C dX10_asked_1 ?_
  refine m_ireti C hQ dX10_asked_4 ?_
  exact PC_of (by rw [hz.2.2.2.2.2.1.1]) hz zcl_rfl

set_option maxHeartbeats 4000000 in
set_option maxRecDepth 100000 in
theorem c_X10_finding (l : Launch) (G : Gl) (mu : Mu) (nu : Nu) (z : Zt) (hz : ZC mu nu z) : Ci l G mX10_finding 1 [.ref (G.1 0)] mu nu (PC mu nu ((z_ms z).2.2.2.1, z)) := by
  refine Ct.of (lv := [(0, .ref (G.1 0))]) rfl rfl (Nat.le_of_ble_eq_true rfl) rfl (fun X C => ?_)
  generalize hQ : g_E G X _ = Q
  replace C : Cx G 1 X cX10_finding RX10 (some .int) 1 := C
  show Mq l G 1 X Q 0 [(0, .ref (G.1 0))] [] mu nu
  refine m_aload_n C 0 dX10_finding_0 rfl ?_
  refine gfX10_303 C dX10_finding_1 ?_
  refine m_ireti C hQ dX10_finding_4 ?_
  exact PC_of (by rw [hz.2.2.2.2.2.1.2.2.2.1]) hz zcl_rfl

set_option maxHeartbeats 4000000 in
set_option maxRecDepth 100000 in
theorem c_X10_upper (l : Launch) (G : Gl) (mu : Mu) (nu : Nu) (z : Zt) (hz : ZC mu nu z) : Cf l G mX10_upper 1 [.ref (G.1 0)] mu nu (.long (z_ms z).2.1) := by
  refine Ct.of (lv := [(0, .ref (G.1 0))]) rfl rfl (Nat.le_of_ble_eq_true rfl) rfl (fun X C => ?_)
  generalize hQ : g_E G X _ = Q
  replace C : Cx G 1 X cX10_upper RX10 (some .long) 1 := C
  show Mq l G 1 X Q 0 [(0, .ref (G.1 0))] [] mu nu
  refine m_aload_n C 0 dX10_upper_0 rfl ?_
  refine gfX10_287 C dX10_upper_1 ?_
  refine m_lretf C hQ dX10_upper_4 rfl rfl ?_
  exact hz.2.2.2.2.2.1.2.1

set_option maxHeartbeats 4000000 in
set_option maxRecDepth 100000 in
theorem c_X10_lower (l : Launch) (G : Gl) (mu : Mu) (nu : Nu) (z : Zt) (hz : ZC mu nu z) : Cf l G mX10_lower 1 [.ref (G.1 0)] mu nu (.long (z_ms z).2.2.1) := by
  refine Ct.of (lv := [(0, .ref (G.1 0))]) rfl rfl (Nat.le_of_ble_eq_true rfl) rfl (fun X C => ?_)
  generalize hQ : g_E G X _ = Q
  replace C : Cx G 1 X cX10_lower RX10 (some .long) 1 := C
  show Mq l G 1 X Q 0 [(0, .ref (G.1 0))] [] mu nu
  refine m_aload_n C 0 dX10_lower_0 rfl ?_
  refine gfX10_68 C dX10_lower_1 ?_
  refine m_lretf C hQ dX10_lower_4 rfl rfl ?_
  exact hz.2.2.2.2.2.1.2.2.1

set_option maxHeartbeats 4000000 in
set_option maxRecDepth 100000 in
theorem c_X10_findings (l : Launch) (G : Gl) (mu : Mu) (nu : Nu) (z : Zt) (hz : ZC mu nu z) (f : Int32) : Ci l G mX10_findings 1 [.ref (G.1 0), .int f] mu nu (PC mu nu (s_fds z f)) := by
  refine Ct.of (lv := [(0, .ref (G.1 0)), (1, .int f)]) rfl rfl (Nat.le_of_ble_eq_true rfl) rfl (fun X C => ?_)
  generalize hQ : g_E G X _ = Q
  replace C : Cx G 2 X cX10_findings RX10 (some .int) 1 := C
  show Mq l G 2 X Q 0 [(0, .ref (G.1 0)), (1, .int f)] [] mu nu
  refine m_iload_n C 1 dX10_findings_0 rfl ?_
  refine m_iconst C 1 dX10_findings_1 (by decide +kernel) ?_
  refine m_icmp_lt C 10 dX10_findings_2 (by decide) (fun hh1 => ?_) (fun hh1 => ?_)
  · replace hh1 := (ii_lt (rfl : (f).toInt = _) (nn_i (a := 1) rfl (by omega))).mp hh1
    refine m_iconst C (-1) dX10_findings_10 (by decide +kernel) ?_
    refine m_ireti C hQ dX10_findings_11 ?_
    exact PC_of (by unfold s_fds; rw [if_pos (by omega)]) hz zcl_rfl
  replace hh1 := mt (ii_lt (rfl : (f).toInt = _) (nn_i (a := 1) rfl (by omega))).mpr hh1
  refine m_iload_n C 1 dX10_findings_5 rfl ?_
  refine m_iconst C 5 dX10_findings_6 (by decide +kernel) ?_
  refine m_icmp_le C 12 dX10_findings_7 (by decide) (fun hh2 => ?_) (fun hh2 => ?_)
  · replace hh2 := (ii_le (rfl : (f).toInt = _) (nn_i (a := 5) rfl (by omega))).mp hh2
    obtain ⟨ef, kf⟩ := ix_eq (x := f) (by omega)
    refine m_aload_n C 0 dX10_findings_12 rfl ?_
    refine gfX10_72 C dX10_findings_13 ?_
    refine m_iload_n C 1 dX10_findings_16 rfl ?_
    refine m_topi (nI (ix f)) ef ?_
    refine m_iald C 63 (by decide) sa_63 (ix f) rfl (by omega) (by decide) dX10_findings_17 ?_
    refine m_ireti C hQ dX10_findings_18 ?_
    exact PC_of (by unfold s_fds; rw [if_neg (by omega), hz.2.2.2.2.2.1.2.2.2.2 (ix f) (by omega)]) hz zcl_rfl
  replace hh2 := mt (ii_le (rfl : (f).toInt = _) (nn_i (a := 5) rfl (by omega))).mpr hh2
  refine m_iconst C (-1) dX10_findings_10 (by decide +kernel) ?_
  refine m_ireti C hQ dX10_findings_11 ?_
  exact PC_of (by unfold s_fds; rw [if_pos (by omega)]) hz zcl_rfl
