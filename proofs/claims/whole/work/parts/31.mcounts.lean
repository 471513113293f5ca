theorem ll_add {x y : Int64} {a b : Int} (hx : x.toInt = a) (hy : y.toInt = b) (h1 : -9223372036854775808 ≤ a + b) (h2 : a + b < 9223372036854775808) : (x + y).toInt = a + b := by
  rw [Int64.toInt_add, hx, hy, Int.bmod_eq_of_le] <;> omega
theorem mk_eq {a b : Nat} : nI (500 + a) - nI b = 500 + (nI a - nI b) := by
  rw [← nI_add, Int32.sub_eq_add_neg, Int32.sub_eq_add_neg, Int32.add_assoc]; rfl
theorem zar_is {mu : Mu} {cs ca cap r : Nat} {x : Option (List Int32)} (h : z_ar mu cs ca cap r x) (hc : cap ≤ 60) : x.isSome = true ↔ 0 ≤ (mu cs r).toInt := by
  cases x with
  | none =>
    have h1 : mu cs r = -1 := h
    rw [h1]; decide
  | some xs =>
    have h1 : mu cs r = nI xs.length := h.1
    have h2 : xs.length ≤ cap := h.2.1
    rw [h1, nI_toInt (by omega)]
    exact ⟨fun _ => by omega, fun _ => rfl⟩
theorem zar_two {mu : Mu} {cs ca cap r : Nat} {x : Option (List Int32)} (h : z_ar mu cs ca cap r x) : (x = none ∧ mu cs r = -1) ∨ ∃ xs, x = some xs ∧ mu cs r = nI xs.length ∧ xs.length ≤ cap ∧ ∀ j, j < xs.length → mu ca (cap * r + j) = xs.getD j 0 := by
  cases x with
  | none => exact Or.inl ⟨rfl, h⟩
  | some xs => exact Or.inr ⟨xs, rfl, h⟩
theorem zwk_is {f : Nat → Int32} {R : Zr} {x : Option Zb} (h : z_wk f R x) (hR : R.1 ≤ 7) : x.isSome = true ↔ ¬ (f 0).toInt = 0 := by
  cases x with
  | none =>
    have h1 : f 0 = 0 := h
    rw [h1]; decide
  | some B =>
    have h1 : f 0 = nI R.1 := h.1.1
    have h2 : 0 < R.1 := h.2.2
    rw [h1, nI_toInt (by omega)]
    exact ⟨fun _ => by omega, fun _ => rfl⟩
/-- the digest is under way -/
def DG (mu : Mu) (nu : Nu) (z : Zt) (n1 : Nu) (h : Int64) : Prop := ZM mu n1 z ∧ z_cm mu nu mu n1 ∧ n1 64 23 = h
theorem zm_23 {mu : Mu} {nu : Nu} {z : Zt} {x : Int64} (h : ZM mu nu z) : ZM mu (nu_up nu 64 23 x) z := zm_keep h (fun _ _ _ => rfl) rfl rfl (nu_up_a (by decide)) (nu_up_a (by decide))
theorem dg_set {mu : Mu} {nu : Nu} {z : Zt} {x : Int64} (h : ZM mu nu z) : DG mu nu z (nu_up nu 64 23 x) x := ⟨zm_23 h, ⟨fun _ _ => rfl, fun c hc => nu_up_ne (by omega)⟩, nu_up_at⟩
theorem dg_mix {mu : Mu} {nu n1 n2 : Nu} {z : Zt} {h v w : Int64} (hd : DG mu nu z n1 h) (e : n2 = nu_up n1 64 23 (31 * n1 64 23 + v)) (ew : w = 31 * h + v) : DG mu nu z n2 w := by
  obtain ⟨h1, h2, h3⟩ := hd
  rw [e, ew, h3]
  exact ⟨zm_23 h1, h2.trans ⟨fun _ _ => rfl, fun c hc => nu_up_ne (by omega)⟩, nu_up_at⟩
set_option maxHeartbeats 4000000 in
set_option maxRecDepth 100000 in
theorem c_X11_copy (l : Launch) (G : Gl) (mu : Mu) (nu : Nu) (z : Zt) (hz : ZM mu nu z) (r i to j n : Int32) : Ci l G mX11_copy 3 [.ref (G.1 64), .int r, .int i, .int to, .int j, .int n] mu nu (PM mu nu (s_copy z r i to j n)) := by
  have hi_1 := i.toInt_lt
  have hj_1 := j.toInt_lt
  have hn_1 := n.toInt_lt
  refine Ct.of (lv := [(0, .ref (G.1 64)), (1, .int r), (2, .int i), (3, .int to), (4, .int j), (5, .int n)]) rfl rfl (Nat.le_of_ble_eq_true rfl) rfl (fun X C => ?_)
  generalize hQ : g_E G X _ = Q
  replace C : Cx G 7 X cX11_copy RX11 (some .int) 3 := C
  show Mq l G 7 X Q 0 [(0, .ref (G.1 64)), (1, .int r), (2, .int i), (3, .int to), (4, .int j), (5, .int n)] [] mu nu
  refine m_iload_n C 1 dX11_copy_0 rfl ?_
  refine m_callSf C (c_X11_isRow l G mu nu r) wkX11_76 (by decide) rfl rfl (Nat.le_of_ble_eq_true rfl) dX11_copy_1 ?_
  refine m_if_eq C 14 dX11_copy_4 (by decide) (fun hh1 => ?_) (fun hh1 => ?_)
  · replace hh1 := bI_eq0.mp hh1
    refine m_iconst C (-1) dX11_copy_14 (by decide +kernel) ?_
    refine m_ireti C hQ dX11_copy_15 ?_
    exact PM_of (by unfold s_copy; rw [if_pos (by omega)]) hz zcm_rfl
  replace hh1 := bI_ne0.mp hh1
  refine m_iload_n C 3 dX11_copy_7 rfl ?_
  refine m_callSf C (c_X11_isRow l G mu nu to) wkX11_76 (by decide) rfl rfl (Nat.le_of_ble_eq_true rfl) dX11_copy_8 ?_
  refine m_if_ne C 16 dX11_copy_11 (by decide) (fun hh2 => ?_) (fun hh2 => ?_)
  · replace hh2 := bI_ne0.mp hh2
    obtain ⟨er, kr⟩ := ix_eq (x := r) (by omega)
    obtain ⟨eto, kto⟩ := ix_eq (x := to) (by omega)
    refine m_iload C 5 dX11_copy_16 rfl ?_
    refine m_if_ge C 27 dX11_copy_18 (by decide) (fun hh3 => ?_) (fun hh3 => ?_)
    · replace hh3 := (ii_le (nn_i (a := 0) rfl (by omega)) (rfl : (n).toInt = _)).mp hh3
      refine m_aload_n C 0 dX11_copy_27 rfl ?_
      refine gfX11_13 C dX11_copy_28 ?_
      refine m_iload_n C 1 dX11_copy_31 rfl ?_
      refine m_topi (nI (ix r)) er ?_
      refine m_iald C 66 (by decide) sa_66 (ix r) rfl (by omega) (by decide) dX11_copy_32 ?_
      refine m_if_lt C 45 dX11_copy_33 (by decide) (fun hh4 => ?_) (fun hh4 => ?_)
      · replace hh4 := (ii_lt (rfl : (mu 66 (ix r)).toInt = _) (nn_i (a := 0) rfl (by omega))).mp hh4
        refine m_aload_n C 0 dX11_copy_45 rfl ?_
        refine m_iconst C 1 dX11_copy_46 (by decide +kernel) ?_
        refine m_callVi C 64 (by decide) rfl rfl (c_X11_finds l G mu nu 1 (by decide)) wkX11_80 (by decide) rfl rfl (Nat.le_of_ble_eq_true rfl) dX11_copy_47 (fun r5 m5 n5 hp5 => ?_)
        refine m_ireti C hQ dX11_copy_50 ?_
        have hxe := za_none (hz.2.2.2.2.1 (ix r) (by omega)) (by decide) (by omega)
        exact PM_find hz (by decide) hp5 (by unfold s_copy; rw [if_neg (by omega), if_neg (by omega)]; simp only [hxe])
      replace hh4 := mt (ii_lt (rfl : (mu 66 (ix r)).toInt = _) (nn_i (a := 0) rfl (by omega))).mpr hh4
      replace hh4 : 0 ≤ (mu 66 (ix r)).toInt := by omega
      obtain ⟨xs, hxe, hx1, hx2, hx3⟩ := za_some (hz.2.2.2.2.1 (ix r) (by omega)) hh4
      refine m_aload_n C 0 dX11_copy_36 rfl ?_
      refine gfX11_13 C dX11_copy_37 ?_
      refine m_iload_n C 3 dX11_copy_40 rfl ?_
      refine m_topi (nI (ix to)) eto ?_
      refine m_iald C 66 (by decide) sa_66 (ix to) rfl (by omega) (by decide) dX11_copy_41 ?_
      refine m_if_ge C 51 dX11_copy_42 (by decide) (fun hh6 => ?_) (fun hh6 => ?_)
      · replace hh6 := (ii_le (nn_i (a := 0) rfl (by omega)) (rfl : (mu 66 (ix to)).toInt = _)).mp hh6
        obtain ⟨xsT, hxeT, hx1T, hx2T, hx3T⟩ := za_some (hz.2.2.2.2.1 (ix to) (by omega)) hh6
        refine m_iload_n C 2 dX11_copy_51 rfl ?_
        refine m_if_lt C 95 dX11_copy_52 (by decide) (fun hh7 => ?_) (fun hh7 => ?_)
        · replace hh7 := (ii_lt (rfl : (i).toInt = _) (nn_i (a := 0) rfl (by omega))).mp hh7
          refine m_aload_n C 0 dX11_copy_95 rfl ?_
          refine m_iconst C 2 dX11_copy_96 (by decide +kernel) ?_
          refine m_callVi C 64 (by decide) rfl rfl (c_X11_finds l G mu nu 2 (by decide)) wkX11_80 (by decide) rfl rfl (Nat.le_of_ble_eq_true rfl) dX11_copy_97 (fun r8 m8 n8 hp8 => ?_)
          refine m_ireti C hQ dX11_copy_100 ?_
          exact PM_find hz (by decide) hp8 (by unfold s_copy; rw [if_neg (by omega), if_neg (by omega)]; simp only [hxe, hxeT]; rw [if_neg (by omega)])
        replace hh7 := mt (ii_lt (rfl : (i).toInt = _) (nn_i (a := 0) rfl (by omega))).mpr hh7
        refine m_iload C 4 dX11_copy_55 rfl ?_
        refine m_if_lt C 95 dX11_copy_57 (by decide) (fun hh9 => ?_) (fun hh9 => ?_)
        · replace hh9 := (ii_lt (rfl : (j).toInt = _) (nn_i (a := 0) rfl (by omega))).mp hh9
          refine m_aload_n C 0 dX11_copy_95 rfl ?_
          refine m_iconst C 2 dX11_copy_96 (by decide +kernel) ?_
          refine m_callVi C 64 (by decide) rfl rfl (c_X11_finds l G mu nu 2 (by decide)) wkX11_80 (by decide) rfl rfl (Nat.le_of_ble_eq_true rfl) dX11_copy_97 (fun r10 m10 n10 hp10 => ?_)
          refine m_ireti C hQ dX11_copy_100 ?_
          exact PM_find hz (by decide) hp10 (by unfold s_copy; rw [if_neg (by omega), if_neg (by omega)]; simp only [hxe, hxeT]; rw [if_neg (by omega)])
        replace hh9 := mt (ii_lt (rfl : (j).toInt = _) (nn_i (a := 0) rfl (by omega))).mpr hh9
        refine m_iload_n C 2 dX11_copy_60 rfl ?_
        refine m_i2l C dX11_copy_61 ?_
        refine m_iload C 5 dX11_copy_62 rfl ?_
        refine m_i2l C dX11_copy_64 ?_
        refine m_ladd C dX11_copy_65 ?_
        refine m_aload_n C 0 dX11_copy_66 rfl ?_
        refine gfX11_13 C dX11_copy_67 ?_
        refine m_iload_n C 1 dX11_copy_70 rfl ?_
        refine m_topi (nI (ix r)) er ?_
        refine m_iald C 66 (by decide) sa_66 (ix r) rfl (by omega) (by decide) dX11_copy_71 ?_
        refine m_topi (nI xs.length) hx1 ?_
        refine m_i2l C dX11_copy_72 ?_
        refine m_topl (lN xs.length) (ln_i2l rfl (by omega)) ?_
        refine m_lcmp C dX11_copy_73 ?_
        refine m_if_gt C 95 dX11_copy_74 (by decide) (fun hh11 => ?_) (fun hh11 => ?_)
        · replace hh11 := ((lg_cmp_gt _ _).trans (ll_lt (ln_i (a := xs.length) rfl (by omega)) (ll_add ((tl_i _).trans (rfl : (i).toInt = _)) ((tl_i _).trans (rfl : (n).toInt = _)) (by omega) (by omega)))).mp hh11
          refine m_aload_n C 0 dX11_copy_95 rfl ?_
          refine m_iconst C 2 dX11_copy_96 (by decide +kernel) ?_
          refine m_callVi C 64 (by decide) rfl rfl (c_X11_finds l G mu nu 2 (by decide)) wkX11_80 (by decide) rfl rfl (Nat.le_of_ble_eq_true rfl) dX11_copy_97 (fun r12 m12 n12 hp12 => ?_)
          refine m_ireti C hQ dX11_copy_100 ?_
          exact PM_find hz (by decide) hp12 (by unfold s_copy; rw [if_neg (by omega), if_neg (by omega)]; simp only [hxe, hxeT]; rw [if_neg (by omega)])
        replace hh11 := mt ((lg_cmp_gt _ _).trans (ll_lt (ln_i (a := xs.length) rfl (by omega)) (ll_add ((tl_i _).trans (rfl : (i).toInt = _)) ((tl_i _).trans (rfl : (n).toInt = _)) (by omega) (by omega)))).mpr hh11
        refine m_iload C 4 dX11_copy_77 rfl ?_
        refine m_i2l C dX11_copy_79 ?_
        refine m_iload C 5 dX11_copy_80 rfl ?_
        refine m_i2l C dX11_copy_82 ?_
        refine m_ladd C dX11_copy_83 ?_
        refine m_aload_n C 0 dX11_copy_84 rfl ?_
        refine gfX11_13 C dX11_copy_85 ?_
        refine m_iload_n C 3 dX11_copy_88 rfl ?_
        refine m_topi (nI (ix to)) eto ?_
        refine m_iald C 66 (by decide) sa_66 (ix to) rfl (by omega) (by decide) dX11_copy_89 ?_
        refine m_topi (nI xsT.length) hx1T ?_
        refine m_i2l C dX11_copy_90 ?_
        refine m_topl (lN xsT.length) (ln_i2l rfl (by omega)) ?_
        refine m_lcmp C dX11_copy_91 ?_
        refine m_if_le C 101 dX11_copy_92 (by decide) (fun hh13 => ?_) (fun hh13 => ?_)
        · replace hh13 := ((lg_cmp_le _ _).trans (ll_le (ll_add ((tl_i _).trans (rfl : (j).toInt = _)) ((tl_i _).trans (rfl : (n).toInt = _)) (by omega) (by omega)) (ln_i (a := xsT.length) rfl (by omega)))).mp hh13
          obtain ⟨ei, ki⟩ := ix_eq (x := i) (by omega)
          obtain ⟨ej, kj⟩ := ix_eq (x := j) (by omega)
          obtain ⟨en, kn⟩ := ix_eq (x := n) (by omega)
          refine m_iconst C 0 dX11_copy_101 (by decide +kernel) ?_
          refine m_istore C [(6, .int 0), (0, .ref (G.1 64)), (1, .int r), (2, .int i), (3, .int to), (4, .int j), (5, .int n)] dX11_copy_102 (by decide) rfl ?_
          have L104 : ∀ (fu : Nat) (k : Nat) (m : Mu) (hk : k ≤ ix n) (hm1 : ∀ c, c ≠ 71 → m c = mu c) (hm3 : ∀ q, q < k → m 71 q = xs.getD (ix i + q) 0), ix n - k < fu → Mq l G 7 X Q 104 [(0, .ref (G.1 64)), (1, .int r), (2, .int i), (3, .int to), (4, .int j), (5, .int n), (6, .int (nI k))] [] m nu := by
            intro fu
            induction fu with
            | zero => intro k m hk hm1 hm3 hm; exact absurd hm (Nat.not_lt_zero _)
            | succ fu ih104 =>
              intro k m hk hm1 hm3 hm
              refine m_iload C 6 dX11_copy_104 rfl ?_
              refine m_iload C 5 dX11_copy_106 rfl ?_
              refine m_topi (nI (ix n)) en ?_
              refine m_icmp_ge C 138 dX11_copy_108 (by decide) (fun hh14 => ?_) (fun hh14 => ?_)
              · replace hh14 := (ii_le (nn_i (a := ix n) rfl (by omega)) (nn_i (a := k) rfl (by omega))).mp hh14
                have ek : k = ix n := by omega
                refine m_iconst C 0 dX11_copy_138 (by decide +kernel) ?_
                refine m_istore C [(6, .int 0), (0, .ref (G.1 64)), (1, .int r), (2, .int i), (3, .int to), (4, .int j), (5, .int n)] dX11_copy_139 (by decide) rfl ?_
                have L141 : ∀ (fu : Nat) (k2 : Nat) (m2 : Mu) (hk2 : k2 ≤ ix n) (hq1 : ∀ c, c ≠ 67 → m2 c = m c) (hq2 : ∀ p, ¬ (40 * ix to + ix j ≤ p ∧ p < 40 * ix to + ix j + k2) → m2 67 p = mu 67 p) (hq3 : ∀ q, q < k2 → m2 67 (40 * ix to + ix j + q) = xs.getD (ix i + q) 0), ix n - k2 < fu → Mq l G 7 X Q 141 [(0, .ref (G.1 64)), (1, .int r), (2, .int i), (3, .int to), (4, .int j), (5, .int n), (6, .int (nI k2))] [] m2 nu := by
                  intro fu
                  induction fu with
                  | zero => intro k2 m2 hk2 hq1 hq2 hq3 hm; exact absurd hm (Nat.not_lt_zero _)
                  | succ fu ih141 =>
                    intro k2 m2 hk2 hq1 hq2 hq3 hm
                    refine m_iload C 6 dX11_copy_141 rfl ?_
                    refine m_iload C 5 dX11_copy_143 rfl ?_
                    refine m_topi (nI (ix n)) en ?_
                    refine m_icmp_ge C 176 dX11_copy_145 (by decide) (fun hh15 => ?_) (fun hh15 => ?_)
                    · replace hh15 := (ii_le (nn_i (a := ix n) rfl (by omega)) (nn_i (a := k2) rfl (by omega))).mp hh15
                      refine m_iconst C 1 dX11_copy_176 (by decide +kernel) ?_
                      refine m_ireti C hQ dX11_copy_177 ?_
                      have ek2 : k2 = ix n := by omega
                      subst ek2
                      have q1 := zm_row (x := some (s_cpl xs xsT (ix i) (ix j) (ix n))) (m := m2) hz (r := ix to) (by omega) (fun c c1 c2 c3 c4 => by rw [hq1 c c4, hm1 c (by omega)]) (fun t ht => by rw [hq1 66 (by decide), hm1 66 (by decide)]) (fun p hp => hq2 p (by omega)) ⟨by rw [hq1 66 (by decide), hm1 66 (by decide), hx1T]; simp [s_cpl], by simpa [s_cpl] using hx2T, fun p hp => by
                          have hp : p < xsT.length := by simpa [s_cpl] using hp
                          rw [s_cpl_gd hp]
                          by_cases hq : ix j ≤ p ∧ p < ix j + ix n
                          · rw [if_pos hq, ← hq3 (p - ix j) (by omega)]
                            congr 1; omega
                          · rw [if_neg hq, hq2 _ (by omega)]; exact hx3T p hp⟩
                      exact PM_of (by unfold s_copy; rw [if_neg (by omega), if_neg (by omega)]; simp only [hxe, hxeT]; rw [if_pos (by omega)]) q1 ⟨fun c hc => by rw [hq1 c (by omega), hm1 c (by omega)], fun _ _ => rfl⟩
                    replace hh15 := mt (ii_le (nn_i (a := ix n) rfl (by omega)) (nn_i (a := k2) rfl (by omega))).mpr hh15
                    refine m_aload_n C 0 dX11_copy_148 rfl ?_
                    refine gfX11_16 C dX11_copy_149 ?_
                    refine m_bipush C 40 dX11_copy_152 (by decide +kernel) ?_
                    refine m_iload_n C 3 dX11_copy_154 rfl ?_
                    refine m_topi (nI (ix to)) eto ?_
                    refine m_imul C dX11_copy_155 ?_
                    refine m_topi (nI (40 * (ix to))) (nn_mul rfl rfl) ?_
                    refine m_iload C 4 dX11_copy_156 rfl ?_
                    refine m_topi (nI (ix j)) ej ?_
                    refine m_iadd C dX11_copy_158 ?_
                    refine m_topi (nI ((40 * (ix to)) + (ix j))) (nn_add rfl rfl) ?_
                    refine m_iload C 6 dX11_copy_159 rfl ?_
                    refine m_iadd C dX11_copy_161 ?_
                    refine m_topi (nI (((40 * (ix to)) + (ix j)) + k2)) (nn_add rfl rfl) ?_
                    refine m_aload_n C 0 dX11_copy_162 rfl ?_
                    refine gfX11_32 C dX11_copy_163 ?_
                    refine m_iload C 6 dX11_copy_166 rfl ?_
                    refine m_iald C 71 (by decide) sa_71 k2 rfl (by omega) (by decide) dX11_copy_168 ?_
                    refine m_topi (xs.getD (ix i + k2) 0) (by rw [hq1 71 (by decide)]; exact hm3 k2 (by omega)) ?_
                    refine m_iast C 67 (by decide) sa_67 (((40 * (ix to)) + (ix j)) + k2) rfl (by omega) (by decide) dX11_copy_169 ?_
                    refine m_nameM (fun mu16 emu16 => ?_)
                    refine m_iinc C 6 (nI (k2 + 1)) [(6, .int (nI (k2 + 1))), (0, .ref (G.1 64)), (1, .int r), (2, .int i), (3, .int to), (4, .int j), (5, .int n)] dX11_copy_170 rfl (nn_add rfl (show Int32.ofInt 1 = nI 1 from rfl)) (by decide) rfl ?_
                    refine m_goto C 141 dX11_copy_173 (by decide) ?_
                    exact m_sub [1, 2, 3, 4, 5, 6, 0] rfl (ih141 (k2 + 1) mu16 (by omega) (fun c hc => by rw [emu16, mu_up_ne hc]; exact hq1 c hc) (fun p hp => by rw [emu16, mu_up_an (by omega)]; exact hq2 p (by omega)) (fun q hq => by
                              by_cases e : q = k2
                              · rw [e, emu16, mu_up_at]
                              · rw [emu16, mu_up_an (by omega)]; exact hq3 q (by omega)) (by omega))
                exact m_sub [1, 2, 3, 4, 5, 6, 0] rfl (L141 (_ + 1) 0 m (Nat.zero_le _) (fun c _ => rfl) (fun p _ => by rw [hm1 67 (by decide)]) (fun q hq => absurd hq (Nat.not_lt_zero _)) (Nat.lt_succ_self _))
              replace hh14 := mt (ii_le (nn_i (a := ix n) rfl (by omega)) (nn_i (a := k) rfl (by omega))).mpr hh14
              refine m_aload_n C 0 dX11_copy_111 rfl ?_
              refine gfX11_32 C dX11_copy_112 ?_
              refine m_iload C 6 dX11_copy_115 rfl ?_
              refine m_aload_n C 0 dX11_copy_117 rfl ?_
              refine gfX11_16 C dX11_copy_118 ?_
              refine m_bipush C 40 dX11_copy_121 (by decide +kernel) ?_
              refine m_iload_n C 1 dX11_copy_123 rfl ?_
              refine m_topi (nI (ix r)) er ?_
              refine m_imul C dX11_copy_124 ?_
              refine m_topi (nI (40 * (ix r))) (nn_mul rfl rfl) ?_
              refine m_iload_n C 2 dX11_copy_125 rfl ?_
              refine m_topi (nI (ix i)) ei ?_
              refine m_iadd C dX11_copy_126 ?_
              refine m_topi (nI ((40 * (ix r)) + (ix i))) (nn_add rfl rfl) ?_
              refine m_iload C 6 dX11_copy_127 rfl ?_
              refine m_iadd C dX11_copy_129 ?_
              refine m_topi (nI (((40 * (ix r)) + (ix i)) + k)) (nn_add rfl rfl) ?_
              refine m_iald C 67 (by decide) sa_67 (((40 * (ix r)) + (ix i)) + k) rfl (by omega) (by decide) dX11_copy_130 ?_
              refine m_topi (xs.getD (ix i + k) 0) (by rw [hm1 67 (by decide), Nat.add_assoc]; exact hx3 _ (by omega)) ?_
              refine m_iast C 71 (by decide) sa_71 k rfl (by omega) (by decide) dX11_copy_131 ?_
              refine m_nameM (fun mu17 emu17 => ?_)
              refine m_iinc C 6 (nI (k + 1)) [(6, .int (nI (k + 1))), (0, .ref (G.1 64)), (1, .int r), (2, .int i), (3, .int to), (4, .int j), (5, .int n)] dX11_copy_132 rfl (nn_add rfl (show Int32.ofInt 1 = nI 1 from rfl)) (by decide) rfl ?_
              refine m_goto C 104 dX11_copy_135 (by decide) ?_
              exact m_sub [1, 2, 3, 4, 5, 6, 0] rfl (ih104 (k + 1) mu17 (by omega) (fun c hc => by rw [emu17, mu_up_ne hc]; exact hm1 c hc) (fun q hq => by
                        by_cases e : q = k
                        · rw [e, emu17, mu_up_at]
                        · rw [emu17, mu_up_an e]; exact hm3 q (by omega)) (by omega))
          exact m_sub [1, 2, 3, 4, 5, 6, 0] rfl (L104 (_ + 1) 0 mu (Nat.zero_le _) (fun c _ => rfl) (fun q hq => absurd hq (Nat.not_lt_zero _)) (Nat.lt_succ_self _))
        replace hh13 := mt ((lg_cmp_le _ _).trans (ll_le (ll_add ((tl_i _).trans (rfl : (j).toInt = _)) ((tl_i _).trans (rfl : (n).toInt = _)) (by omega) (by omega)) (ln_i (a := xsT.length) rfl (by omega)))).mpr hh13
        refine m_aload_n C 0 dX11_copy_95 rfl ?_
        refine m_iconst C 2 dX11_copy_96 (by decide +kernel) ?_
        refine m_callVi C 64 (by decide) rfl rfl (c_X11_finds l G mu nu 2 (by decide)) wkX11_80 (by decide) rfl rfl (Nat.le_of_ble_eq_true rfl) dX11_copy_97 (fun r18 m18 n18 hp18 => ?_)
        refine m_ireti C hQ dX11_copy_100 ?_
        exact PM_find hz (by decide) hp18 (by unfold s_copy; rw [if_neg (by omega), if_neg (by omega)]; simp only [hxe, hxeT]; rw [if_neg (by omega)])
      replace hh6 := mt (ii_le (nn_i (a := 0) rfl (by omega)) (rfl : (mu 66 (ix to)).toInt = _)).mpr hh6
      refine m_aload_n C 0 dX11_copy_45 rfl ?_
      refine m_iconst C 1 dX11_copy_46 (by decide +kernel) ?_
      refine m_callVi C 64 (by decide) rfl rfl (c_X11_finds l G mu nu 1 (by decide)) wkX11_80 (by decide) rfl rfl (Nat.le_of_ble_eq_true rfl) dX11_copy_47 (fun r19 m19 n19 hp19 => ?_)
      refine m_ireti C hQ dX11_copy_50 ?_
      have hxeT := za_none (hz.2.2.2.2.1 (ix to) (by omega)) (by decide) (by omega)
      exact PM_find hz (by decide) hp19 (by unfold s_copy; rw [if_neg (by omega), if_neg (by omega)]; simp only [hxe, hxeT])
    replace hh3 := mt (ii_le (nn_i (a := 0) rfl (by omega)) (rfl : (n).toInt = _)).mpr hh3
    refine m_aload_n C 0 dX11_copy_21 rfl ?_
    refine m_iconst C 5 dX11_copy_22 (by decide +kernel) ?_
    refine m_callVi C 64 (by decide) rfl rfl (c_X11_finds l G mu nu 5 (by decide)) wkX11_80 (by decide) rfl rfl (Nat.le_of_ble_eq_true rfl) dX11_copy_23 (fun r20 m20 n20 hp20 => ?_)
    refine m_ireti C hQ dX11_copy_26 ?_
    exact PM_find hz (by decide) hp20 (by unfold s_copy; rw [if_neg (by omega), if_pos (by omega)])
  replace hh2 := bI_eq0.mp hh2
  refine m_iconst C (-1) dX11_copy_14 (by decide +kernel) ?_
  refine m_ireti C hQ dX11_copy_15 ?_
  exact PM_of (by unfold s_copy; rw [if_pos (by omega)]) hz zcm_rfl

set_option maxHeartbeats 4000000 in
set_option maxRecDepth 100000 in
theorem c_X11_rod (l : Launch) (G : Gl) (mu : Mu) (nu : Nu) (z : Zt) (hz : ZM mu nu z) (i w : Int32) : Ci l G mX11_rod 4 [.ref (G.1 64), .int i, .int w] mu nu (PM mu nu (s_rod z i w)) := by
  have hv : zm mu (z_V z) := zm_v hz
  have hw := hv.1
  have hN7 := hw.1
  have hm7 := hw.2.2.1
  have ho8 := hw.2.2.2.2
  have hcz : ((v_N (z_V z) : Nat) : Int) = ((z_N z : Nat) : Int) := rfl
  refine Ct.of (lv := [(0, .ref (G.1 64)), (1, .int i), (2, .int w)]) rfl rfl (Nat.le_of_ble_eq_true rfl) rfl (fun X C => ?_)
  generalize hQ : g_E G X _ = Q
  replace C : Cx G 3 X cX11_rod RX11 (some .int) 4 := C
  show Mq l G 3 X Q 0 [(0, .ref (G.1 64)), (1, .int i), (2, .int w)] [] mu nu
  refine m_aload_n C 0 dX11_rod_0 rfl ?_
  refine m_iload_n C 1 dX11_rod_1 rfl ?_
  refine m_callVf C 64 (by decide) rfl rfl (c_X11_isRod l G mu nu (z_V z) hv i) wkX11_133 (by decide) rfl rfl (Nat.le_of_ble_eq_true rfl) dX11_rod_2 ?_
  refine m_if_eq C 33 dX11_rod_5 (by decide) (fun hh1 => ?_) (fun hh1 => ?_)
  · replace hh1 := bI_eq0.mp hh1
    refine m_iconst C (-1) dX11_rod_33 (by decide +kernel) ?_
    refine m_ireti C hQ dX11_rod_34 ?_
    exact PM_of (by unfold s_rod; rw [if_pos (by omega)]) hz zcm_rfl
  replace hh1 := bI_ne0.mp hh1
  refine m_iload_n C 2 dX11_rod_8 rfl ?_
  refine m_i2l C dX11_rod_9 ?_
  refine m_lconst C 0 dX11_rod_10 rfl ?_
  refine m_ldc2 C 4 wcX11_136 dX11_rod_11 ?_
  refine m_callSf C (c_in (a := w.toInt) (b := ((0 : Nat) : Int)) (c := ((4 : Nat) : Int)) ((tl_i _).trans (rfl : (w).toInt = _)) (ln_i (a := 0) rfl (by omega)) (ln_i (a := 4) rfl (by omega))) wkX11_68 (by decide) rfl rfl (Nat.le_of_ble_eq_true rfl) dX11_rod_14 ?_
  refine m_if_eq C 33 dX11_rod_17 (by decide) (fun hh2 => ?_) (fun hh2 => ?_)
  · replace hh2 := bI_eq0.mp hh2
    refine m_iconst C (-1) dX11_rod_33 (by decide +kernel) ?_
    refine m_ireti C hQ dX11_rod_34 ?_
    exact PM_of (by unfold s_rod; rw [if_pos (by omega)]) hz zcm_rfl
  replace hh2 := bI_ne0.mp hh2
  obtain ⟨ei, ki⟩ := ix_eq (x := i) (by omega)
  have hi : ix i < v_N (z_V z) := by omega
  have hri := hw.2.1 (ix i) hi
  have hdi := v_dg_le hw hi
  obtain ⟨ew, kw⟩ := ix_eq (x := w) (by omega)
  refine m_aload_n C 0 dX11_rod_20 rfl ?_
  refine m_aload_n C 0 dX11_rod_21 rfl ?_
  refine m_iload_n C 1 dX11_rod_22 rfl ?_
  refine m_topi (nI (ix i)) ei ?_
  refine m_iload_n C 2 dX11_rod_23 rfl ?_
  refine m_topi (nI (ix w)) ew ?_
  refine m_callVf C 64 (by decide) rfl rfl (c_X11_rodOf l G mu nu (z_V z) hv (ix i) (by omega) (ix w) (by omega)) wkX11_138 (by decide) rfl rfl (Nat.le_of_ble_eq_true rfl) dX11_rod_24 ?_
  refine m_callVi C 64 (by decide) rfl rfl (c_X11_tells l G mu nu (s_of (z_V z) (ix i) (ix w))) wkX11_83 (by decide) rfl rfl (Nat.le_of_ble_eq_true rfl) dX11_rod_27 (fun r3 m3 n3 hp3 => ?_)
  refine m_goto C 34 dX11_rod_30 (by decide) ?_
  refine m_ireti C hQ dX11_rod_34 ?_
  exact PM_told hz zcm_rfl hp3 (by unfold s_rod; rw [if_neg (by omega)])

set_option maxHeartbeats 4000000 in
set_option maxRecDepth 100000 in
theorem c_X11_shows (l : Launch) (G : Gl) (mu : Mu) (nu : Nu) (z : Zt) (hz : ZM mu nu z) (i n : Int32) : Ci l G mX11_shows 6 [.ref (G.1 64), .int i, .int n] mu nu (PM mu nu (s_shows z i n)) := by
  have hv : zm mu (z_V z) := zm_v hz
  have hw := hv.1
  have hN7 := hw.1
  have hm7 := hw.2.2.1
  have ho8 := hw.2.2.2.2
  have hcz : ((v_N (z_V z) : Nat) : Int) = ((z_N z : Nat) : Int) := rfl
  refine Ct.of (lv := [(0, .ref (G.1 64)), (1, .int i), (2, .int n)]) rfl rfl (Nat.le_of_ble_eq_true rfl) rfl (fun X C => ?_)
  generalize hQ : g_E G X _ = Q
  replace C : Cx G 3 X cX11_shows RX11 (some .int) 6 := C
  show Mq l G 3 X Q 0 [(0, .ref (G.1 64)), (1, .int i), (2, .int n)] [] mu nu
  refine m_aload_n C 0 dX11_shows_0 rfl ?_
  refine m_iload_n C 1 dX11_shows_1 rfl ?_
  refine m_callVf C 64 (by decide) rfl rfl (c_X11_isRod l G mu nu (z_V z) hv i) wkX11_133 (by decide) rfl rfl (Nat.le_of_ble_eq_true rfl) dX11_shows_2 ?_
  refine m_if_eq C 24 dX11_shows_5 (by decide) (fun hh1 => ?_) (fun hh1 => ?_)
  · replace hh1 := bI_eq0.mp hh1
    refine m_iconst C (-1) dX11_shows_24 (by decide +kernel) ?_
    refine m_ireti C hQ dX11_shows_25 ?_
    exact PM_of (by unfold s_shows; rw [if_pos (by omega)]) hz zcm_rfl
  replace hh1 := bI_ne0.mp hh1
  refine m_iload_n C 2 dX11_shows_8 rfl ?_
  refine m_callSf C (c_X11_isLine l G mu nu n) wkX11_151 (by decide) rfl rfl (Nat.le_of_ble_eq_true rfl) dX11_shows_9 ?_
  refine m_if_eq C 24 dX11_shows_12 (by decide) (fun hh2 => ?_) (fun hh2 => ?_)
  · replace hh2 := bI_eq0.mp hh2
    refine m_iconst C (-1) dX11_shows_24 (by decide +kernel) ?_
    refine m_ireti C hQ dX11_shows_25 ?_
    exact PM_of (by unfold s_shows; rw [if_pos (by omega)]) hz zcm_rfl
  replace hh2 := bI_ne0.mp hh2
  obtain ⟨ei, ki⟩ := ix_eq (x := i) (by omega)
  have hi : ix i < v_N (z_V z) := by omega
  have hri := hw.2.1 (ix i) hi
  have hdi := v_dg_le hw hi
  obtain ⟨en, kn⟩ := ix_eq (x := n) (by omega)
  refine m_aload_n C 0 dX11_shows_15 rfl ?_
  refine m_iload_n C 1 dX11_shows_16 rfl ?_
  refine m_topi (nI (ix i)) ei ?_
  refine m_iload_n C 2 dX11_shows_17 rfl ?_
  refine m_topi (nI (ix n)) en ?_
  refine m_callVf C 64 (by decide) rfl rfl (c_X11_showsOf l G mu nu (z_V z) hv (ix i) (by omega) (ix n) (by omega) (by omega)) wkX11_142 (by decide) rfl rfl (Nat.le_of_ble_eq_true rfl) dX11_shows_18 ?_
  refine m_goto C 25 dX11_shows_21 (by decide) ?_
  refine m_ireti C hQ dX11_shows_25 ?_
  exact PM_of (by unfold s_shows; rw [if_neg (by omega)]) hz zcm_rfl

set_option maxHeartbeats 4000000 in
set_option maxRecDepth 100000 in
theorem c_X11_mark (l : Launch) (G : Gl) (mu : Mu) (nu : Nu) (z : Zt) (hz : ZM mu nu z) (i k : Int32) : Ci l G mX11_mark 7 [.ref (G.1 64), .int i, .int k] mu nu (PM mu nu (s_mark z i k)) := by
  have hv : zm mu (z_V z) := zm_v hz
  have hw := hv.1
  have hN7 := hw.1
  have hm7 := hw.2.2.1
  have ho8 := hw.2.2.2.2
  have hcz : ((v_N (z_V z) : Nat) : Int) = ((z_N z : Nat) : Int) := rfl
  refine Ct.of (lv := [(0, .ref (G.1 64)), (1, .int i), (2, .int k)]) rfl rfl (Nat.le_of_ble_eq_true rfl) rfl (fun X C => ?_)
  generalize hQ : g_E G X _ = Q
  replace C : Cx G 4 X cX11_mark RX11 (some .int) 7 := C
  show Mq l G 4 X Q 0 [(0, .ref (G.1 64)), (1, .int i), (2, .int k)] [] mu nu
  refine m_aload_n C 0 dX11_mark_0 rfl ?_
  refine m_iload_n C 1 dX11_mark_1 rfl ?_
  refine m_callVf C 64 (by decide) rfl rfl (c_X11_isRod l G mu nu (z_V z) hv i) wkX11_133 (by decide) rfl rfl (Nat.le_of_ble_eq_true rfl) dX11_mark_2 ?_
  refine m_if_eq C 20 dX11_mark_5 (by decide) (fun hh1 => ?_) (fun hh1 => ?_)
  · replace hh1 := bI_eq0.mp hh1
    refine m_iconst C (-1) dX11_mark_20 (by decide +kernel) ?_
    refine m_ireti C hQ dX11_mark_21 ?_
    exact PM_of (by unfold s_mark; rw [if_pos (by omega)]) hz zcm_rfl
  replace hh1 := bI_ne0.mp hh1
  refine m_iload_n C 2 dX11_mark_8 rfl ?_
  refine m_i2l C dX11_mark_9 ?_
  refine m_lconst C 1 dX11_mark_10 rfl ?_
  refine m_ldc2 C 5 wcX11_66 dX11_mark_11 ?_
  refine m_callSf C (c_in (a := k.toInt) (b := ((1 : Nat) : Int)) (c := ((5 : Nat) : Int)) ((tl_i _).trans (rfl : (k).toInt = _)) (ln_i (a := 1) rfl (by omega)) (ln_i (a := 5) rfl (by omega))) wkX11_68 (by decide) rfl rfl (Nat.le_of_ble_eq_true rfl) dX11_mark_14 ?_
  refine m_if_ne C 22 dX11_mark_17 (by decide) (fun hh2 => ?_) (fun hh2 => ?_)
  · replace hh2 := bI_ne0.mp hh2
    obtain ⟨ei, ki⟩ := ix_eq (x := i) (by omega)
    have hi : ix i < v_N (z_V z) := by omega
    have hri := hw.2.1 (ix i) hi
    have hdi := v_dg_le hw hi
    obtain ⟨ek, kk⟩ := ix_eq (x := k) (by omega)
    refine m_aload_n C 0 dX11_mark_22 rfl ?_
    refine gfX11_7 C dX11_mark_23 ?_
    refine m_bipush C 10 dX11_mark_26 (by decide +kernel) ?_
    refine m_iload_n C 1 dX11_mark_28 rfl ?_
    refine m_topi (nI (ix i)) ei ?_
    refine m_iadd C dX11_mark_29 ?_
    refine m_topi (nI (10 + (ix i))) (nn_add rfl rfl) ?_
    refine m_iald C 65 (by decide) sa_65 (10 + (ix i)) rfl (by omega) (by decide) dX11_mark_30 ?_
    refine m_topi (nI (v_kd (z_V z) (ix i))) (zm_kd hv hi) ?_
    refine m_iload_n C 2 dX11_mark_31 rfl ?_
    refine m_topi (nI (ix k)) ek ?_
    refine m_callSf C (c_X11_isA l G mu nu (v_kd (z_V z) (ix i)) (ix k) (by omega) (by omega)) wkX11_145 (by decide) rfl rfl (Nat.le_of_ble_eq_true rfl) dX11_mark_32 ?_
    refine m_if_ne C 44 dX11_mark_35 (by decide) (fun hh3 => ?_) (fun hh3 => ?_)
    · replace hh3 := bI_ne0.mp hh3
      refine m_aload_n C 0 dX11_mark_44 rfl ?_
      refine gfX11_7 C dX11_mark_45 ?_
      refine m_bipush C 24 dX11_mark_48 (by decide +kernel) ?_
      refine m_iload_n C 1 dX11_mark_50 rfl ?_
      refine m_topi (nI (ix i)) ei ?_
      refine m_iadd C dX11_mark_51 ?_
      refine m_topi (nI (24 + (ix i))) (nn_add rfl rfl) ?_
      refine m_iald C 65 (by decide) sa_65 (24 + (ix i)) rfl (by omega) (by decide) dX11_mark_52 ?_
      refine m_topi (nI (v_mk (z_V z) (ix i))) (zm_mk hv hi) ?_
      refine m_istore_n C [(3, .int (nI (v_mk (z_V z) (ix i)))), (0, .ref (G.1 64)), (1, .int i), (2, .int k)] dX11_mark_53 (by decide) rfl ?_
      refine m_iload_n C 3 dX11_mark_54 rfl ?_
      refine m_topi (nI (ix k)) ek ?_
      have hh4i : (nI (ix k)).toInt = ((ix k : Nat) : Int) := (nn_i (a := ix k) rfl (by omega))
      have hh4 : (((ix k : Nat) : Int) < 1 ∨ 4 < ((ix k : Nat) : Int)) ∨ ((ix k : Nat) : Int) = 1 ∨ ((ix k : Nat) : Int) = 2 ∨ ((ix k : Nat) : Int) = 3 ∨ ((ix k : Nat) : Int) = 4 := by omega
      rcases hh4 with hh4 | hh4 | hh4 | hh4 | hh4
      · refine m_tblOut C 137 dX11_mark_55 (by rw [hh4i]; exact hh4) (by decide) ?_
        refine m_aload_n C 1 dX11_mark_137 rfl ?_
        refine m_iload_n C 2 dX11_mark_138 rfl ?_
        refine m_topi (nI (ix i)) ei ?_
        refine m_iconst C 2 dX11_mark_139 (by decide +kernel) ?_
        refine m_iconst C 0 dX11_mark_140 (by decide +kernel) ?_
        refine m_callVf C 64 (by decide) rfl rfl (c_X11_linesAgainst_11 l G mu nu (z_V z) hv (ix i) hi 2 (by decide)) wkX11_148 (by decide) rfl rfl (Nat.le_of_ble_eq_true rfl) dX11_mark_141 ?_
        refine m_ireti C hQ dX11_mark_144 ?_
        exact PM_of (by unfold s_mark; rw [if_neg (by omega), if_neg (by omega)]; unfold s_mkv; rw [if_neg (by omega), if_neg (by omega), if_neg (by omega), if_neg (by omega)]) hz zcm_rfl
      · refine m_tblIn C 84 dX11_mark_55 (by rw [hh4i]; omega) (by rw [hh4i]; omega) (off := 29) (by rw [hh4i, hh4]; decide +kernel) (by decide) ?_
        refine m_aload_n C 1 dX11_mark_84 rfl ?_
        refine m_iload_n C 2 dX11_mark_85 rfl ?_
        refine m_topi (nI (ix i)) ei ?_
        refine m_iconst C 0 dX11_mark_86 (by decide +kernel) ?_
        refine m_iconst C (-1) dX11_mark_87 (by decide +kernel) ?_
        refine m_callVf C 64 (by decide) rfl rfl (c_X11_linesAgainst_10 l G mu nu (z_V z) hv (ix i) hi 0 (by decide)) wkX11_148 (by decide) rfl rfl (Nat.le_of_ble_eq_true rfl) dX11_mark_88 ?_
        refine m_ireti C hQ dX11_mark_91 ?_
        exact PM_of (by unfold s_mark; rw [if_neg (by omega), if_neg (by omega)]; unfold s_mkv; rw [if_pos (by omega)]) hz zcm_rfl
      · refine m_tblIn C 92 dX11_mark_55 (by rw [hh4i]; omega) (by rw [hh4i]; omega) (off := 37) (by rw [hh4i, hh4]; decide +kernel) (by decide) ?_
        refine m_aload_n C 1 dX11_mark_92 rfl ?_
        refine m_iload_n C 2 dX11_mark_93 rfl ?_
        refine m_topi (nI (ix i)) ei ?_
        refine m_iconst C 0 dX11_mark_94 (by decide +kernel) ?_
        refine m_iconst C 1 dX11_mark_95 (by decide +kernel) ?_
        refine m_callVf C 64 (by decide) rfl rfl (c_X11_linesAgainst_01 l G mu nu (z_V z) hv (ix i) hi 0 (by decide)) wkX11_148 (by decide) rfl rfl (Nat.le_of_ble_eq_true rfl) dX11_mark_96 ?_
        refine m_ireti C hQ dX11_mark_99 ?_
        exact PM_of (by unfold s_mark; rw [if_neg (by omega), if_neg (by omega)]; unfold s_mkv; rw [if_neg (by omega), if_pos (by omega)]) hz zcm_rfl
      · refine m_tblIn C 100 dX11_mark_55 (by rw [hh4i]; omega) (by rw [hh4i]; omega) (off := 45) (by rw [hh4i, hh4]; decide +kernel) (by decide) ?_
        refine m_iload_n C 0 dX11_mark_100 rfl ?_
        refine m_if_ne C 110 dX11_mark_101 (by decide) (fun hh5 => ?_) (fun hh5 => ?_)
        · replace hh5 := mt (ii_eq (nn_i (a := v_mk (z_V z) (ix i)) rfl (by omega)) (nn_i (a := 0) rfl (by omega))).mpr hh5
          refine m_sipush C 500 dX11_mark_110 (by decide +kernel) ?_
          refine m_aload_n C 1 dX11_mark_113 rfl ?_
          refine m_iload_n C 2 dX11_mark_114 rfl ?_
          refine m_topi (nI (ix i)) ei ?_
          refine m_iload_n C 0 dX11_mark_115 rfl ?_
          refine m_callVf C 64 (by decide) rfl rfl (c_X11_showsOf l G mu nu (z_V z) hv (ix i) (by omega) (v_mk (z_V z) (ix i)) (by omega) (by omega)) wkX11_142 (by decide) rfl rfl (Nat.le_of_ble_eq_true rfl) dX11_mark_116 ?_
          refine m_iadd C dX11_mark_119 ?_
          refine m_topi (nI (500 + (v_sh (z_V z) (ix i) (v_mk (z_V z) (ix i))))) (nn_add rfl rfl) ?_
          refine m_aload_n C 1 dX11_mark_120 rfl ?_
          refine m_iload_n C 2 dX11_mark_121 rfl ?_
          refine m_topi (nI (ix i)) ei ?_
          refine m_callVf C 64 (by decide) rfl rfl (c_X11_digitOf l G mu nu (z_V z) hv (ix i) (by omega)) wkX11_123 (by decide) rfl rfl (Nat.le_of_ble_eq_true rfl) dX11_mark_122 ?_
          refine m_iload_n C 0 dX11_mark_125 rfl ?_
          refine m_imul C dX11_mark_126 ?_
          refine m_topi (nI ((v_dg (z_V z) (ix i)) * (v_mk (z_V z) (ix i)))) (nn_mul rfl rfl) ?_
          refine m_isub C dX11_mark_127 ?_
          refine m_ireti C hQ dX11_mark_128 ?_
          exact PM_of (by unfold s_mark; rw [if_neg (by omega), if_neg (by omega)]; unfold s_mkv; rw [if_neg (by omega), if_neg (by omega), if_pos (by omega)]; rw [if_neg (by omega)]; exact congrArg (fun q => (q, z)) mk_eq.symm) hz zcm_rfl
        replace hh5 := (ii_eq (nn_i (a := v_mk (z_V z) (ix i)) rfl (by omega)) (nn_i (a := 0) rfl (by omega))).mp hh5
        refine m_sipush C 500 dX11_mark_104 (by decide +kernel) ?_
        refine m_goto C 128 dX11_mark_107 (by decide) ?_
        refine m_ireti C hQ dX11_mark_128 ?_
        exact PM_of (by unfold s_mark; rw [if_neg (by omega), if_neg (by omega)]; unfold s_mkv; rw [if_neg (by omega), if_neg (by omega), if_pos (by omega)]; rw [if_pos (by omega)]; rfl) hz zcm_rfl
      · refine m_tblIn C 129 dX11_mark_55 (by rw [hh4i]; omega) (by rw [hh4i]; omega) (off := 74) (by rw [hh4i, hh4]; decide +kernel) (by decide) ?_
        refine m_aload_n C 1 dX11_mark_129 rfl ?_
        refine m_iload_n C 2 dX11_mark_130 rfl ?_
        refine m_topi (nI (ix i)) ei ?_
        refine m_iconst C 1 dX11_mark_131 (by decide +kernel) ?_
        refine m_iconst C (-1) dX11_mark_132 (by decide +kernel) ?_
        refine m_callVf C 64 (by decide) rfl rfl (c_X11_linesAgainst_10 l G mu nu (z_V z) hv (ix i) hi 1 (by decide)) wkX11_148 (by decide) rfl rfl (Nat.le_of_ble_eq_true rfl) dX11_mark_133 ?_
        refine m_ireti C hQ dX11_mark_136 ?_
        exact PM_of (by unfold s_mark; rw [if_neg (by omega), if_neg (by omega)]; unfold s_mkv; rw [if_neg (by omega), if_neg (by omega), if_neg (by omega), if_pos (by omega)]) hz zcm_rfl
    replace hh3 := bI_eq0.mp hh3
    refine m_aload_n C 0 dX11_mark_38 rfl ?_
    refine m_iconst C 3 dX11_mark_39 (by decide +kernel) ?_
    refine m_callVi C 64 (by decide) rfl rfl (c_X11_finds l G mu nu 3 (by decide)) wkX11_80 (by decide) rfl rfl (Nat.le_of_ble_eq_true rfl) dX11_mark_40 (fun r6 m6 n6 hp6 => ?_)
    refine m_ireti C hQ dX11_mark_43 ?_
    exact PM_find hz (by decide) hp6 (by unfold s_mark; rw [if_neg (by omega), if_pos (by omega)])
  replace hh2 := bI_eq0.mp hh2
  refine m_iconst C (-1) dX11_mark_20 (by decide +kernel) ?_
  refine m_ireti C hQ dX11_mark_21 ?_
  exact PM_of (by unfold s_mark; rw [if_pos (by omega)]) hz zcm_rfl

set_option maxHeartbeats 4000000 in
set_option maxRecDepth 100000 in
theorem c_X11_reads (l : Launch) (G : Gl) (mu : Mu) (nu : Nu) (z : Zt) (hz : ZM mu nu z) (n : Int32) : Ci l G mX11_reads 7 [.ref (G.1 64), .int n] mu nu (PM mu nu (s_reads z n)) := by
  have hv : zm mu (z_V z) := zm_v hz
  have hw := hv.1
  have hN7 := hw.1
  have hm7 := hw.2.2.1
  have ho8 := hw.2.2.2.2
  refine Ct.of (lv := [(0, .ref (G.1 64)), (1, .int n)]) rfl rfl (Nat.le_of_ble_eq_true rfl) rfl (fun X C => ?_)
  generalize hQ : g_E G X _ = Q
  replace C : Cx G 2 X cX11_reads RX11 (some .int) 7 := C
  show Mq l G 2 X Q 0 [(0, .ref (G.1 64)), (1, .int n)] [] mu nu
  refine m_iload_n C 1 dX11_reads_0 rfl ?_
  refine m_callSf C (c_X11_isLine l G mu nu n) wkX11_151 (by decide) rfl rfl (Nat.le_of_ble_eq_true rfl) dX11_reads_1 ?_
  refine m_if_ne C 9 dX11_reads_4 (by decide) (fun hh1 => ?_) (fun hh1 => ?_)
  · replace hh1 := bI_ne0.mp hh1
    obtain ⟨en, kn⟩ := ix_eq (x := n) (by omega)
    refine m_aload_n C 0 dX11_reads_9 rfl ?_
    refine m_aload_n C 0 dX11_reads_10 rfl ?_
    refine m_iload_n C 1 dX11_reads_11 rfl ?_
    refine m_topi (nI (ix n)) en ?_
    refine m_callVf C 64 (by decide) rfl rfl (c_X11_rightBy l G mu nu (z_V z) hv (ix n)) wkX11_170 (by decide) rfl rfl (Nat.le_of_ble_eq_true rfl) dX11_reads_12 ?_
    refine pfX11_60 C dX11_reads_15 ?_
    refine m_nameM (fun mu2 emu2 => ?_)
    have hvt : zm mu2 (z_V z) := by
      have q := zm_v (zm_told (x := nI (v_rt (z_V z) (v_m (z_V z)) * ix n)) hz)
      rw [emu2]; exact q
    refine m_aload_n C 0 dX11_reads_18 rfl ?_
    refine m_iload_n C 1 dX11_reads_19 rfl ?_
    refine m_topi (nI (ix n)) en ?_
    refine m_callVf C 64 (by decide) rfl rfl (c_X11_readBy l G mu2 nu (z_V z) hvt (ix n) (by omega) (by omega)) wkX11_173 (by decide) rfl rfl (Nat.le_of_ble_eq_true rfl) dX11_reads_20 ?_
    refine m_ireti C hQ dX11_reads_23 ?_
    rw [emu2]; exact PM_of (by unfold s_reads; rw [if_neg (by omega)]) (zm_told hz) zcm_told
  replace hh1 := bI_eq0.mp hh1
  refine m_iconst C (-1) dX11_reads_7 (by decide +kernel) ?_
  refine m_ireti C hQ dX11_reads_8 ?_
  exact PM_of (by unfold s_reads; rw [if_pos (by omega)]) hz zcm_rfl

set_option maxHeartbeats 4000000 in
set_option maxRecDepth 100000 in
theorem c_X11_wrong (l : Launch) (G : Gl) (mu : Mu) (nu : Nu) (z : Zt) (hz : ZM mu nu z) : Ci l G mX11_wrong 7 [.ref (G.1 64)] mu nu (PM mu nu (nI (v_wr (z_V z) 9), z)) := by
  have hv : zm mu (z_V z) := zm_v hz
  have hw := hv.1
  have hN7 := hw.1
  have hm7 := hw.2.2.1
  have ho8 := hw.2.2.2.2
  refine Ct.of (lv := [(0, .ref (G.1 64))]) rfl rfl (Nat.le_of_ble_eq_true rfl) rfl (fun X C => ?_)
  generalize hQ : g_E G X _ = Q
  replace C : Cx G 3 X cX11_wrong RX11 (some .int) 7 := C
  show Mq l G 3 X Q 0 [(0, .ref (G.1 64))] [] mu nu
  refine m_iconst C 0 dX11_wrong_0 (by decide +kernel) ?_
  refine m_istore_n C [(1, .int 0), (0, .ref (G.1 64))] dX11_wrong_1 (by decide) rfl ?_
  refine m_iconst C 1 dX11_wrong_2 (by decide +kernel) ?_
  refine m_istore_n C [(2, .int 1), (1, .int 0), (0, .ref (G.1 64))] dX11_wrong_3 (by decide) rfl ?_
  have L4 : ∀ (fu : Nat) (n : Nat) (hn : n ≤ 9), 9 - n < fu → Mq l G 3 X Q 4 [(0, .ref (G.1 64)), (1, .int (nI (v_wr (z_V z) n))), (2, .int (nI (n + 1)))] [] mu nu := by
    intro fu
    induction fu with
    | zero => intro n hn hm; exact absurd hm (Nat.not_lt_zero _)
    | succ fu ih4 =>
      intro n hn hm
      refine m_iload_n C 2 dX11_wrong_4 rfl ?_
      refine m_bipush C 10 dX11_wrong_5 (by decide +kernel) ?_
      refine m_icmp_ge C 39 dX11_wrong_7 (by decide) (fun hh1 => ?_) (fun hh1 => ?_)
      · replace hh1 := (ii_le (nn_i (a := 10) rfl (by omega)) (nn_i (a := n + 1) rfl (by omega))).mp hh1
        refine m_iload_n C 1 dX11_wrong_39 rfl ?_
        refine m_ireti C hQ dX11_wrong_40 ?_
        have e9 : n = 9 := by omega
        subst e9; exact PM_of rfl hz zcm_rfl
      replace hh1 := mt (ii_le (nn_i (a := 10) rfl (by omega)) (nn_i (a := n + 1) rfl (by omega))).mpr hh1
      have hb1 := v_rdb hw (n := n + 1) (by omega)
      have hb2 := v_rtb hw (n := n + 1) (by omega)
      refine m_iload_n C 1 dX11_wrong_10 rfl ?_
      refine m_aload_n C 0 dX11_wrong_11 rfl ?_
      refine m_iload_n C 2 dX11_wrong_12 rfl ?_
      refine m_callVf C 64 (by decide) rfl rfl (c_X11_readBy l G mu nu (z_V z) hv (n + 1) (by omega) (by omega)) wkX11_173 (by decide) rfl rfl (Nat.le_of_ble_eq_true rfl) dX11_wrong_13 ?_
      refine m_aload_n C 0 dX11_wrong_16 rfl ?_
      refine m_iload_n C 2 dX11_wrong_17 rfl ?_
      refine m_callVf C 64 (by decide) rfl rfl (c_X11_rightBy l G mu nu (z_V z) hv (n + 1)) wkX11_170 (by decide) rfl rfl (Nat.le_of_ble_eq_true rfl) dX11_wrong_18 ?_
      refine m_icmp_eq C 30 dX11_wrong_21 (by decide) (fun hh2 => ?_) (fun hh2 => ?_)
      · replace hh2 := (ii_eq (nn_i (a := v_rd (z_V z) (n + 1) (v_m (z_V z))) rfl (by omega)) (nn_i (a := v_rt (z_V z) (v_m (z_V z)) * (n + 1)) rfl (by omega))).mp hh2
        refine m_iconst C 0 dX11_wrong_30 (by decide +kernel) ?_
        refine m_ior C dX11_wrong_31 ?_
        refine m_topi (nI ((v_wr (z_V z) n) ||| 0)) (nn_or rfl rfl) ?_
        refine m_topi (nI (v_wr (z_V z) (n + 1))) (congrArg nI ((if_pos (by omega) : v_wr (z_V z) (n + 1) = v_wr (z_V z) n).trans (Nat.or_zero _).symm).symm) ?_
        refine m_istore_n C [(1, .int (nI (v_wr (z_V z) (n + 1)))), (0, .ref (G.1 64)), (2, .int (nI (n + 1)))] dX11_wrong_32 (by decide) rfl ?_
        refine m_iinc C 2 (nI (n + 1 + 1)) [(2, .int (nI (n + 1 + 1))), (1, .int (nI (v_wr (z_V z) (n + 1)))), (0, .ref (G.1 64))] dX11_wrong_33 rfl (nn_add rfl (show Int32.ofInt 1 = nI 1 from rfl)) (by decide) rfl ?_
        refine m_goto C 4 dX11_wrong_36 (by decide) ?_
        exact m_sub [2, 1, 0] rfl (ih4 (n + 1) (by omega) (by omega))
      replace hh2 := mt (ii_eq (nn_i (a := v_rd (z_V z) (n + 1) (v_m (z_V z))) rfl (by omega)) (nn_i (a := v_rt (z_V z) (v_m (z_V z)) * (n + 1)) rfl (by omega))).mpr hh2
      refine m_iconst C 1 dX11_wrong_24 (by decide +kernel) ?_
      refine m_iload_n C 2 dX11_wrong_25 rfl ?_
      refine m_ishl C dX11_wrong_26 ?_
      refine m_topi (nI (2 ^ (n + 1))) (nn_shl1 rfl (by omega)) ?_
      refine m_goto C 31 dX11_wrong_27 (by decide) ?_
      refine m_ior C dX11_wrong_31 ?_
      refine m_topi (nI ((v_wr (z_V z) n) ||| (2 ^ (n + 1)))) (nn_or rfl rfl) ?_
      refine m_topi (nI (v_wr (z_V z) (n + 1))) (congrArg nI (if_neg (by omega) : v_wr (z_V z) (n + 1) = _).symm) ?_
      refine m_istore_n C [(1, .int (nI (v_wr (z_V z) (n + 1)))), (0, .ref (G.1 64)), (2, .int (nI (n + 1)))] dX11_wrong_32 (by decide) rfl ?_
      refine m_iinc C 2 (nI (n + 1 + 1)) [(2, .int (nI (n + 1 + 1))), (1, .int (nI (v_wr (z_V z) (n + 1)))), (0, .ref (G.1 64))] dX11_wrong_33 rfl (nn_add rfl (show Int32.ofInt 1 = nI 1 from rfl)) (by decide) rfl ?_
      refine m_goto C 4 dX11_wrong_36 (by decide) ?_
      exact m_sub [2, 1, 0] rfl (ih4 (n + 1) (by omega) (by omega))
  exact m_sub [2, 1, 0] rfl (L4 (_ + 1) 0 (Nat.zero_le _) (Nat.lt_succ_self _))

set_option maxHeartbeats 4000000 in
set_option maxRecDepth 100000 in
theorem c_X11_carries (l : Launch) (G : Gl) (mu : Mu) (nu : Nu) (z : Zt) (hz : ZM mu nu z) (n : Int32) : Ci l G mX11_carries 6 [.ref (G.1 64), .int n] mu nu (PM mu nu (s_carr z n)) := by
  have hv : zm mu (z_V z) := zm_v hz
  have hw := hv.1
  have hN7 := hw.1
  have hm7 := hw.2.2.1
  have ho8 := hw.2.2.2.2
  refine Ct.of (lv := [(0, .ref (G.1 64)), (1, .int n)]) rfl rfl (Nat.le_of_ble_eq_true rfl) rfl (fun X C => ?_)
  generalize hQ : g_E G X _ = Q
  replace C : Cx G 7 X cX11_carries RX11 (some .int) 6 := C
  show Mq l G 7 X Q 0 [(0, .ref (G.1 64)), (1, .int n)] [] mu nu
  refine m_iload_n C 1 dX11_carries_0 rfl ?_
  refine m_callSf C (c_X11_isLine l G mu nu n) wkX11_151 (by decide) rfl rfl (Nat.le_of_ble_eq_true rfl) dX11_carries_1 ?_
  refine m_if_ne C 9 dX11_carries_4 (by decide) (fun hh1 => ?_) (fun hh1 => ?_)
  · replace hh1 := bI_ne0.mp hh1
    obtain ⟨en, kn⟩ := ix_eq (x := n) (by omega)
    refine m_iconst C 0 dX11_carries_9 (by decide +kernel) ?_
    refine m_istore_n C [(2, .int 0), (0, .ref (G.1 64)), (1, .int n)] dX11_carries_10 (by decide) rfl ?_
    refine m_iconst C 0 dX11_carries_11 (by decide +kernel) ?_
    refine m_istore_n C [(3, .int 0), (2, .int 0), (0, .ref (G.1 64)), (1, .int n)] dX11_carries_12 (by decide) rfl ?_
    refine m_iconst C 0 dX11_carries_13 (by decide +kernel) ?_
    refine m_istore C [(4, .int 0), (3, .int 0), (2, .int 0), (0, .ref (G.1 64)), (1, .int n)] dX11_carries_14 (by decide) rfl ?_
    refine m_aload_n C 3 dX11_carries_16 rfl ?_
    refine gfX11_7 C dX11_carries_17 ?_
    refine m_iconst C 1 dX11_carries_20 (by decide +kernel) ?_
    refine m_iald C 65 (by decide) sa_65 1 rfl (by omega) (by decide) dX11_carries_21 ?_
    refine m_topi (nI (v_m (z_V z))) hv.2.2.1 ?_
    refine m_iconst C 1 dX11_carries_22 (by decide +kernel) ?_
    refine m_isub C dX11_carries_23 ?_
    refine m_istore C [(5, .int ((nI (v_m (z_V z))) - 1)), (4, .int 0), (3, .int 0), (2, .int 0), (0, .ref (G.1 64)), (1, .int n)] dX11_carries_24 (by decide) rfl ?_
    have L26 : ∀ (fu : Nat) (k : Nat) (hk : k ≤ v_m (z_V z)), v_m (z_V z) - k < fu → Mq l G 7 X Q 26 [(0, .ref (G.1 64)), (1, .int n), (2, .int (nI ((v_cc (z_V z) (ix n) k).1))), (3, .int (nI ((v_cc (z_V z) (ix n) k).2.1))), (4, .int (nI ((v_cc (z_V z) (ix n) k).2.2))), (5, .int (nI (v_m (z_V z) - k) - 1))] [] mu nu := by
      intro fu
      induction fu with
      | zero => intro k hk hm; exact absurd hm (Nat.not_lt_zero _)
      | succ fu ih26 =>
        intro k hk hm
        obtain ⟨hc1, hc2, hc3⟩ := v_cc_le hw (n := ix n) (by omega) k hk
        refine m_iload C 5 dX11_carries_26 rfl ?_
        refine m_if_lt C 90 dX11_carries_28 (by decide) (fun hh2 => ?_) (fun hh2 => ?_)
        · replace hh2 := (ii_lt (ii_sub (nn_i (a := v_m (z_V z) - k) rfl (by omega)) (show (1 : Int32).toInt = 1 from by decide) (by omega) (by omega)) (nn_i (a := 0) rfl (by omega))).mp hh2
          refine m_aload_n C 0 dX11_carries_90 rfl ?_
          refine m_iload C 4 dX11_carries_91 rfl ?_
          refine pfX11_60 C dX11_carries_93 ?_
          refine m_nameM (fun mu3 emu3 => ?_)
          refine m_iload_n C 3 dX11_carries_96 rfl ?_
          refine m_ireti C hQ dX11_carries_97 ?_
          have ek : k = v_m (z_V z) := by omega
          rw [emu3, ek]; exact PM_of (by unfold s_carr; rw [if_neg (by omega)]) (zm_told hz) zcm_told
        replace hh2 := mt (ii_lt (ii_sub (nn_i (a := v_m (z_V z) - k) rfl (by omega)) (show (1 : Int32).toInt = 1 from by decide) (by omega) (by omega)) (nn_i (a := 0) rfl (by omega))).mpr hh2
        have hfp := hw.2.2.2.1 (v_m (z_V z) - k - 1) (by omega)
        have hsl := v_sh_le hw hfp (n := ix n) (by omega)
        have hcd : (v_cc (z_V z) (ix n) (k + 1)).1 = (v_sh (z_V z) (v_fr (z_V z) (v_m (z_V z) - k - 1)) (ix n) + (v_cc (z_V z) (ix n) k).1) / 10 := rfl
        have hcx : (v_cc (z_V z) (ix n) (k + 1)).2.2 = max (v_cc (z_V z) (ix n) k).2.2 ((v_sh (z_V z) (v_fr (z_V z) (v_m (z_V z) - k - 1)) (ix n) + (v_cc (z_V z) (ix n) k).1) / 10) := rfl
        have hcd9 : (v_cc (z_V z) (ix n) (k + 1)).1 ≤ 9 := (v_cc_le hw (n := ix n) (by omega) (k + 1) (by omega)).1
        refine m_aload_n C 0 dX11_carries_31 rfl ?_
        refine m_aload_n C 0 dX11_carries_32 rfl ?_
        refine gfX11_7 C dX11_carries_33 ?_
        refine m_iconst C 3 dX11_carries_36 (by decide +kernel) ?_
        refine m_iload C 5 dX11_carries_37 rfl ?_
        refine m_topi (nI (v_m (z_V z) - k - 1)) (nn_sub rfl (show (1 : Int32) = nI 1 from rfl) (by omega)) ?_
        refine m_iadd C dX11_carries_39 ?_
        refine m_topi (nI (3 + (v_m (z_V z) - k - 1))) (nn_add rfl rfl) ?_
        refine m_iald C 65 (by decide) sa_65 (3 + (v_m (z_V z) - k - 1)) rfl (by omega) (by decide) dX11_carries_40 ?_
        refine m_topi (nI (v_fr (z_V z) (v_m (z_V z) - k - 1))) (zm_fr hv (by omega)) ?_
        refine m_iload_n C 1 dX11_carries_41 rfl ?_
        refine m_topi (nI (ix n)) en ?_
        refine m_callVf C 64 (by decide) rfl rfl (c_X11_showsOf l G mu nu (z_V z) hv (v_fr (z_V z) (v_m (z_V z) - k - 1)) (by omega) (ix n) (by omega) (by omega)) wkX11_142 (by decide) rfl rfl (Nat.le_of_ble_eq_true rfl) dX11_carries_42 ?_
        refine m_iload_n C 2 dX11_carries_45 rfl ?_
        refine m_iadd C dX11_carries_46 ?_
        refine m_topi (nI ((v_sh (z_V z) (v_fr (z_V z) (v_m (z_V z) - k - 1)) (ix n)) + ((v_cc (z_V z) (ix n) k).1))) (nn_add rfl rfl) ?_
        refine m_istore C [(6, .int (nI ((v_sh (z_V z) (v_fr (z_V z) (v_m (z_V z) - k - 1)) (ix n)) + ((v_cc (z_V z) (ix n) k).1)))), (0, .ref (G.1 64)), (1, .int n), (2, .int (nI ((v_cc (z_V z) (ix n) k).1))), (3, .int (nI ((v_cc (z_V z) (ix n) k).2.1))), (4, .int (nI ((v_cc (z_V z) (ix n) k).2.2))), (5, .int (nI (v_m (z_V z) - k) - 1))] dX11_carries_47 (by decide) rfl ?_
        refine m_iload C 0 dX11_carries_49 rfl ?_
        refine m_bipush C 10 dX11_carries_51 (by decide +kernel) ?_
        refine m_idiv C dX11_carries_53 (by decide) ?_
        refine m_topi (nI (((v_sh (z_V z) (v_fr (z_V z) (v_m (z_V z) - k - 1)) (ix n)) + ((v_cc (z_V z) (ix n) k).1)) / 10)) (nn_div rfl rfl (by omega) (by omega) (by omega)) ?_
        refine m_topi (nI ((v_cc (z_V z) (ix n) (k + 1)).1)) rfl ?_
        refine m_istore_n C [(2, .int (nI ((v_cc (z_V z) (ix n) (k + 1)).1))), (6, .int (nI ((v_sh (z_V z) (v_fr (z_V z) (v_m (z_V z) - k - 1)) (ix n)) + ((v_cc (z_V z) (ix n) k).1)))), (0, .ref (G.1 64)), (1, .int n), (3, .int (nI ((v_cc (z_V z) (ix n) k).2.1))), (4, .int (nI ((v_cc (z_V z) (ix n) k).2.2))), (5, .int (nI (v_m (z_V z) - k) - 1))] dX11_carries_54 (by decide) rfl ?_
        refine m_iload_n C 4 dX11_carries_55 rfl ?_
        refine m_iload C 1 dX11_carries_56 rfl ?_
        refine m_bipush C 10 dX11_carries_58 (by decide +kernel) ?_
        refine m_icmp_lt C 67 dX11_carries_60 (by decide) (fun hh4 => ?_) (fun hh4 => ?_)
        · replace hh4 := (ii_lt (nn_i (a := (v_sh (z_V z) (v_fr (z_V z) (v_m (z_V z) - k - 1)) (ix n)) + ((v_cc (z_V z) (ix n) k).1)) rfl (by omega)) (nn_i (a := 10) rfl (by omega))).mp hh4
          refine m_iconst C 0 dX11_carries_67 (by decide +kernel) ?_
          refine m_iadd C dX11_carries_68 ?_
          refine m_topi (nI (((v_cc (z_V z) (ix n) k).2.1) + 0)) (nn_add rfl rfl) ?_
          refine m_topi (nI ((v_cc (z_V z) (ix n) (k + 1)).2.1)) (congrArg nI (congrArg (fun q => (v_cc (z_V z) (ix n) k).2.1 + q) (if_neg (by omega) : (if 0 < (v_sh (z_V z) (v_fr (z_V z) (v_m (z_V z) - k - 1)) (ix n) + (v_cc (z_V z) (ix n) k).1) / 10 then 1 else 0) = 0)).symm) ?_
          refine m_istore_n C [(3, .int (nI ((v_cc (z_V z) (ix n) (k + 1)).2.1))), (2, .int (nI ((v_cc (z_V z) (ix n) (k + 1)).1))), (6, .int (nI ((v_sh (z_V z) (v_fr (z_V z) (v_m (z_V z) - k - 1)) (ix n)) + ((v_cc (z_V z) (ix n) k).1)))), (0, .ref (G.1 64)), (1, .int n), (4, .int (nI ((v_cc (z_V z) (ix n) k).2.2))), (5, .int (nI (v_m (z_V z) - k) - 1))] dX11_carries_69 (by decide) rfl ?_
          refine m_iload_n C 1 dX11_carries_70 rfl ?_
          refine m_iload C 5 dX11_carries_71 rfl ?_
          refine m_icmp_le C 80 dX11_carries_73 (by decide) (fun hh5 => ?_) (fun hh5 => ?_)
          · replace hh5 := (ii_le (nn_i (a := (v_cc (z_V z) (ix n) (k + 1)).1) rfl (by omega)) (nn_i (a := (v_cc (z_V z) (ix n) k).2.2) rfl (by omega))).mp hh5
            refine m_iload C 5 dX11_carries_80 rfl ?_
            refine m_topi (nI ((v_cc (z_V z) (ix n) (k + 1)).2.2)) (congrArg nI (by omega)) ?_
            refine m_istore C [(4, .int (nI ((v_cc (z_V z) (ix n) (k + 1)).2.2))), (3, .int (nI ((v_cc (z_V z) (ix n) (k + 1)).2.1))), (2, .int (nI ((v_cc (z_V z) (ix n) (k + 1)).1))), (6, .int (nI ((v_sh (z_V z) (v_fr (z_V z) (v_m (z_V z) - k - 1)) (ix n)) + ((v_cc (z_V z) (ix n) k).1)))), (0, .ref (G.1 64)), (1, .int n), (5, .int (nI (v_m (z_V z) - k) - 1))] dX11_carries_82 (by decide) rfl ?_
            refine m_iinc C 6 (nI (v_m (z_V z) - (k + 1)) - 1) [(5, .int (nI (v_m (z_V z) - (k + 1)) - 1)), (4, .int (nI ((v_cc (z_V z) (ix n) (k + 1)).2.2))), (3, .int (nI ((v_cc (z_V z) (ix n) (k + 1)).2.1))), (2, .int (nI ((v_cc (z_V z) (ix n) (k + 1)).1))), (6, .int (nI ((v_sh (z_V z) (v_fr (z_V z) (v_m (z_V z) - k - 1)) (ix n)) + ((v_cc (z_V z) (ix n) k).1)))), (0, .ref (G.1 64)), (1, .int n)] dX11_carries_84 rfl (cc_dec (by omega)) (by decide) rfl ?_
            refine m_goto C 26 dX11_carries_87 (by decide) ?_
            exact m_sub [5, 6, 3, 2, 1, 0] rfl (ih26 (k + 1) (by omega) (by omega))
          replace hh5 := mt (ii_le (nn_i (a := (v_cc (z_V z) (ix n) (k + 1)).1) rfl (by omega)) (nn_i (a := (v_cc (z_V z) (ix n) k).2.2) rfl (by omega))).mpr hh5
          refine m_iload_n C 1 dX11_carries_76 rfl ?_
          refine m_topi (nI ((v_cc (z_V z) (ix n) (k + 1)).2.2)) (congrArg nI (by omega)) ?_
          refine m_goto C 82 dX11_carries_77 (by decide) ?_
          refine m_istore C [(4, .int (nI ((v_cc (z_V z) (ix n) (k + 1)).2.2))), (3, .int (nI ((v_cc (z_V z) (ix n) (k + 1)).2.1))), (2, .int (nI ((v_cc (z_V z) (ix n) (k + 1)).1))), (6, .int (nI ((v_sh (z_V z) (v_fr (z_V z) (v_m (z_V z) - k - 1)) (ix n)) + ((v_cc (z_V z) (ix n) k).1)))), (0, .ref (G.1 64)), (1, .int n), (5, .int (nI (v_m (z_V z) - k) - 1))] dX11_carries_82 (by decide) rfl ?_
          refine m_iinc C 6 (nI (v_m (z_V z) - (k + 1)) - 1) [(5, .int (nI (v_m (z_V z) - (k + 1)) - 1)), (4, .int (nI ((v_cc (z_V z) (ix n) (k + 1)).2.2))), (3, .int (nI ((v_cc (z_V z) (ix n) (k + 1)).2.1))), (2, .int (nI ((v_cc (z_V z) (ix n) (k + 1)).1))), (6, .int (nI ((v_sh (z_V z) (v_fr (z_V z) (v_m (z_V z) - k - 1)) (ix n)) + ((v_cc (z_V z) (ix n) k).1)))), (0, .ref (G.1 64)), (1, .int n)] dX11_carries_84 rfl (cc_dec (by omega)) (by decide) rfl ?_
          refine m_goto C 26 dX11_carries_87 (by decide) ?_
          exact m_sub [5, 6, 3, 2, 1, 0] rfl (ih26 (k + 1) (by omega) (by omega))
        replace hh4 := mt (ii_lt (nn_i (a := (v_sh (z_V z) (v_fr (z_V z) (v_m (z_V z) - k - 1)) (ix n)) + ((v_cc (z_V z) (ix n) k).1)) rfl (by omega)) (nn_i (a := 10) rfl (by omega))).mpr hh4
        refine m_iconst C 1 dX11_carries_63 (by decide +kernel) ?_
        refine m_goto C 68 dX11_carries_64 (by decide) ?_
        refine m_iadd C dX11_carries_68 ?_
        refine m_topi (nI (((v_cc (z_V z) (ix n) k).2.1) + 1)) (nn_add rfl rfl) ?_
        refine m_topi (nI ((v_cc (z_V z) (ix n) (k + 1)).2.1)) (congrArg nI (congrArg (fun q => (v_cc (z_V z) (ix n) k).2.1 + q) (if_pos (by omega) : (if 0 < (v_sh (z_V z) (v_fr (z_V z) (v_m (z_V z) - k - 1)) (ix n) + (v_cc (z_V z) (ix n) k).1) / 10 then 1 else 0) = 1)).symm) ?_
        refine m_istore_n C [(3, .int (nI ((v_cc (z_V z) (ix n) (k + 1)).2.1))), (2, .int (nI ((v_cc (z_V z) (ix n) (k + 1)).1))), (6, .int (nI ((v_sh (z_V z) (v_fr (z_V z) (v_m (z_V z) - k - 1)) (ix n)) + ((v_cc (z_V z) (ix n) k).1)))), (0, .ref (G.1 64)), (1, .int n), (4, .int (nI ((v_cc (z_V z) (ix n) k).2.2))), (5, .int (nI (v_m (z_V z) - k) - 1))] dX11_carries_69 (by decide) rfl ?_
        refine m_iload_n C 1 dX11_carries_70 rfl ?_
        refine m_iload C 5 dX11_carries_71 rfl ?_
        refine m_icmp_le C 80 dX11_carries_73 (by decide) (fun hh6 => ?_) (fun hh6 => ?_)
        · replace hh6 := (ii_le (nn_i (a := (v_cc (z_V z) (ix n) (k + 1)).1) rfl (by omega)) (nn_i (a := (v_cc (z_V z) (ix n) k).2.2) rfl (by omega))).mp hh6
          refine m_iload C 5 dX11_carries_80 rfl ?_
          refine m_topi (nI ((v_cc (z_V z) (ix n) (k + 1)).2.2)) (congrArg nI (by omega)) ?_
          refine m_istore C [(4, .int (nI ((v_cc (z_V z) (ix n) (k + 1)).2.2))), (3, .int (nI ((v_cc (z_V z) (ix n) (k + 1)).2.1))), (2, .int (nI ((v_cc (z_V z) (ix n) (k + 1)).1))), (6, .int (nI ((v_sh (z_V z) (v_fr (z_V z) (v_m (z_V z) - k - 1)) (ix n)) + ((v_cc (z_V z) (ix n) k).1)))), (0, .ref (G.1 64)), (1, .int n), (5, .int (nI (v_m (z_V z) - k) - 1))] dX11_carries_82 (by decide) rfl ?_
          refine m_iinc C 6 (nI (v_m (z_V z) - (k + 1)) - 1) [(5, .int (nI (v_m (z_V z) - (k + 1)) - 1)), (4, .int (nI ((v_cc (z_V z) (ix n) (k + 1)).2.2))), (3, .int (nI ((v_cc (z_V z) (ix n) (k + 1)).2.1))), (2, .int (nI ((v_cc (z_V z) (ix n) (k + 1)).1))), (6, .int (nI ((v_sh (z_V z) (v_fr (z_V z) (v_m (z_V z) - k - 1)) (ix n)) + ((v_cc (z_V z) (ix n) k).1)))), (0, .ref (G.1 64)), (1, .int n)] dX11_carries_84 rfl (cc_dec (by omega)) (by decide) rfl ?_
          refine m_goto C 26 dX11_carries_87 (by decide) ?_
          exact m_sub [5, 6, 3, 2, 1, 0] rfl (ih26 (k + 1) (by omega) (by omega))
        replace hh6 := mt (ii_le (nn_i (a := (v_cc (z_V z) (ix n) (k + 1)).1) rfl (by omega)) (nn_i (a := (v_cc (z_V z) (ix n) k).2.2) rfl (by omega))).mpr hh6
        refine m_iload_n C 1 dX11_carries_76 rfl ?_
        refine m_topi (nI ((v_cc (z_V z) (ix n) (k + 1)).2.2)) (congrArg nI (by omega)) ?_
        refine m_goto C 82 dX11_carries_77 (by decide) ?_
        refine m_istore C [(4, .int (nI ((v_cc (z_V z) (ix n) (k + 1)).2.2))), (3, .int (nI ((v_cc (z_V z) (ix n) (k + 1)).2.1))), (2, .int (nI ((v_cc (z_V z) (ix n) (k + 1)).1))), (6, .int (nI ((v_sh (z_V z) (v_fr (z_V z) (v_m (z_V z) - k - 1)) (ix n)) + ((v_cc (z_V z) (ix n) k).1)))), (0, .ref (G.1 64)), (1, .int n), (5, .int (nI (v_m (z_V z) - k) - 1))] dX11_carries_82 (by decide) rfl ?_
        refine m_iinc C 6 (nI (v_m (z_V z) - (k + 1)) - 1) [(5, .int (nI (v_m (z_V z) - (k + 1)) - 1)), (4, .int (nI ((v_cc (z_V z) (ix n) (k + 1)).2.2))), (3, .int (nI ((v_cc (z_V z) (ix n) (k + 1)).2.1))), (2, .int (nI ((v_cc (z_V z) (ix n) (k + 1)).1))), (6, .int (nI ((v_sh (z_V z) (v_fr (z_V z) (v_m (z_V z) - k - 1)) (ix n)) + ((v_cc (z_V z) (ix n) k).1)))), (0, .ref (G.1 64)), (1, .int n)] dX11_carries_84 rfl (cc_dec (by omega)) (by decide) rfl ?_
        refine m_goto C 26 dX11_carries_87 (by decide) ?_
        exact m_sub [5, 6, 3, 2, 1, 0] rfl (ih26 (k + 1) (by omega) (by omega))
    exact m_sub [4, 5, 3, 2, 1, 0] rfl (L26 (_ + 1) 0 (Nat.zero_le _) (Nat.lt_succ_self _))
  replace hh1 := bI_eq0.mp hh1
  refine m_iconst C (-1) dX11_carries_7 (by decide +kernel) ?_
  refine m_ireti C hQ dX11_carries_8 ?_
  exact PM_of (by unfold s_carr; rw [if_pos (by omega)]) hz zcm_rfl

set_option maxHeartbeats 4000000 in
set_option maxRecDepth 100000 in
theorem c_X11_rowsThere (l : Launch) (G : Gl) (mu : Mu) (nu : Nu) (x : Nat → Option (List Int32)) (hx : ∀ r, r < 6 → z_ar mu 66 67 40 r (x r)) : Cf l G mX11_rowsThere 1 [.ref (G.1 64)] mu nu (.int (nI (s_ct x 6))) := by
  refine Ct.of (lv := [(0, .ref (G.1 64))]) rfl rfl (Nat.le_of_ble_eq_true rfl) rfl (fun X C => ?_)
  generalize hQ : g_E G X _ = Q
  replace C : Cx G 3 X cX11_rowsThere RX11 (some .int) 1 := C
  show Mq l G 3 X Q 0 [(0, .ref (G.1 64))] [] mu nu
  refine m_iconst C 0 dX11_rowsThere_0 (by decide +kernel) ?_
  refine m_istore_n C [(1, .int 0), (0, .ref (G.1 64))] dX11_rowsThere_1 (by decide) rfl ?_
  refine m_iconst C 0 dX11_rowsThere_2 (by decide +kernel) ?_
  refine m_istore_n C [(2, .int 0), (1, .int 0), (0, .ref (G.1 64))] dX11_rowsThere_3 (by decide) rfl ?_
  have L4 : ∀ (fu : Nat) (r : Nat) (hr : r ≤ 6), 6 - r < fu → Mq l G 3 X Q 4 [(0, .ref (G.1 64)), (1, .int (nI (s_ct x r))), (2, .int (nI r))] [] mu nu := by
    intro fu
    induction fu with
    | zero => intro r hr hm; exact absurd hm (Nat.not_lt_zero _)
    | succ fu ih4 =>
      intro r hr hm
      have hle := s_ct_le (x := x) r
      refine m_iload_n C 2 dX11_rowsThere_4 rfl ?_
      refine m_bipush C 6 dX11_rowsThere_5 (by decide +kernel) ?_
      refine m_icmp_ge C 33 dX11_rowsThere_7 (by decide) (fun hh1 => ?_) (fun hh1 => ?_)
      · replace hh1 := (ii_le (nn_i (a := 6) rfl (by omega)) (nn_i (a := r) rfl (by omega))).mp hh1
        refine m_iload_n C 1 dX11_rowsThere_33 rfl ?_
        refine m_iretf C hQ dX11_rowsThere_34 rfl rfl ?_
        have e : r = 6 := by omega
        subst e; rfl
      replace hh1 := mt (ii_le (nn_i (a := 6) rfl (by omega)) (nn_i (a := r) rfl (by omega))).mpr hh1
      refine m_iload_n C 1 dX11_rowsThere_10 rfl ?_
      refine m_aload_n C 0 dX11_rowsThere_11 rfl ?_
      refine gfX11_13 C dX11_rowsThere_12 ?_
      refine m_iload_n C 2 dX11_rowsThere_15 rfl ?_
      refine m_iald C 66 (by decide) sa_66 r rfl (by omega) (by decide) dX11_rowsThere_16 ?_
      refine m_if_ge C 24 dX11_rowsThere_17 (by decide) (fun hh2 => ?_) (fun hh2 => ?_)
      · replace hh2 := (ii_le (nn_i (a := 0) rfl (by omega)) (rfl : (mu 66 r).toInt = _)).mp hh2
        replace hh2 := (zar_is (hx r (by omega)) (by decide)).mpr hh2
        refine m_iconst C 1 dX11_rowsThere_24 (by decide +kernel) ?_
        refine m_iadd C dX11_rowsThere_25 ?_
        refine m_topi (nI ((s_ct x r) + 1)) (nn_add rfl rfl) ?_
        refine m_topi (nI (s_ct x (r + 1))) (congrArg nI (congrArg (fun q => s_ct x r + q) (if_pos (by assumption)).symm)) ?_
        refine m_istore_n C [(1, .int (nI (s_ct x (r + 1)))), (0, .ref (G.1 64)), (2, .int (nI r))] dX11_rowsThere_26 (by decide) rfl ?_
        refine m_iinc C 2 (nI (r + 1)) [(2, .int (nI (r + 1))), (1, .int (nI (s_ct x (r + 1)))), (0, .ref (G.1 64))] dX11_rowsThere_27 rfl (nn_add rfl (show Int32.ofInt 1 = nI 1 from rfl)) (by decide) rfl ?_
        refine m_goto C 4 dX11_rowsThere_30 (by decide) ?_
        exact m_sub [2, 1, 0] rfl (ih4 (r + 1) (by omega) (by omega))
      replace hh2 := mt (ii_le (nn_i (a := 0) rfl (by omega)) (rfl : (mu 66 r).toInt = _)).mpr hh2
      replace hh2 : ¬ (x r).isSome = true := mt (zar_is (hx r (by omega)) (by decide)).mp (by omega)
      refine m_iconst C 0 dX11_rowsThere_20 (by decide +kernel) ?_
      refine m_goto C 25 dX11_rowsThere_21 (by decide) ?_
      refine m_iadd C dX11_rowsThere_25 ?_
      refine m_topi (nI ((s_ct x r) + 0)) (nn_add rfl rfl) ?_
      refine m_topi (nI (s_ct x (r + 1))) (congrArg nI (congrArg (fun q => s_ct x r + q) (if_neg (by assumption)).symm)) ?_
      refine m_istore_n C [(1, .int (nI (s_ct x (r + 1)))), (0, .ref (G.1 64)), (2, .int (nI r))] dX11_rowsThere_26 (by decide) rfl ?_
      refine m_iinc C 2 (nI (r + 1)) [(2, .int (nI (r + 1))), (1, .int (nI (s_ct x (r + 1)))), (0, .ref (G.1 64))] dX11_rowsThere_27 rfl (nn_add rfl (show Int32.ofInt 1 = nI 1 from rfl)) (by decide) rfl ?_
      refine m_goto C 4 dX11_rowsThere_30 (by decide) ?_
      exact m_sub [2, 1, 0] rfl (ih4 (r + 1) (by omega) (by omega))
  exact m_sub [2, 1, 0] rfl (L4 (_ + 1) 0 (Nat.zero_le _) (Nat.lt_succ_self _))

set_option maxHeartbeats 4000000 in
set_option maxRecDepth 100000 in
theorem c_X11_textsThere (l : Launch) (G : Gl) (mu : Mu) (nu : Nu) (x : Nat → Option (List Int32)) (hx : ∀ r, r < 4 → z_ar mu 68 69 60 r (x r)) : Cf l G mX11_textsThere 1 [.ref (G.1 64)] mu nu (.int (nI (s_ct x 4))) := by
  refine Ct.of (lv := [(0, .ref (G.1 64))]) rfl rfl (Nat.le_of_ble_eq_true rfl) rfl (fun X C => ?_)
  generalize hQ : g_E G X _ = Q
  replace C : Cx G 3 X cX11_textsThere RX11 (some .int) 1 := C
  show Mq l G 3 X Q 0 [(0, .ref (G.1 64))] [] mu nu
  refine m_iconst C 0 dX11_textsThere_0 (by decide +kernel) ?_
  refine m_istore_n C [(1, .int 0), (0, .ref (G.1 64))] dX11_textsThere_1 (by decide) rfl ?_
  refine m_iconst C 0 dX11_textsThere_2 (by decide +kernel) ?_
  refine m_istore_n C [(2, .int 0), (1, .int 0), (0, .ref (G.1 64))] dX11_textsThere_3 (by decide) rfl ?_
  have L4 : ∀ (fu : Nat) (r : Nat) (hr : r ≤ 4), 4 - r < fu → Mq l G 3 X Q 4 [(0, .ref (G.1 64)), (1, .int (nI (s_ct x r))), (2, .int (nI r))] [] mu nu := by
    intro fu
    induction fu with
    | zero => intro r hr hm; exact absurd hm (Nat.not_lt_zero _)
    | succ fu ih4 =>
      intro r hr hm
      have hle := s_ct_le (x := x) r
      refine m_iload_n C 2 dX11_textsThere_4 rfl ?_
      refine m_iconst C 4 dX11_textsThere_5 (by decide +kernel) ?_
      refine m_icmp_ge C 32 dX11_textsThere_6 (by decide) (fun hh1 => ?_) (fun hh1 => ?_)
      · replace hh1 := (ii_le (nn_i (a := 4) rfl (by omega)) (nn_i (a := r) rfl (by omega))).mp hh1
        refine m_iload_n C 1 dX11_textsThere_32 rfl ?_
        refine m_iretf C hQ dX11_textsThere_33 rfl rfl ?_
        have e : r = 4 := by omega
        subst e; rfl
      replace hh1 := mt (ii_le (nn_i (a := 4) rfl (by omega)) (nn_i (a := r) rfl (by omega))).mpr hh1
      refine m_iload_n C 1 dX11_textsThere_9 rfl ?_
      refine m_aload_n C 0 dX11_textsThere_10 rfl ?_
      refine gfX11_19 C dX11_textsThere_11 ?_
      refine m_iload_n C 2 dX11_textsThere_14 rfl ?_
      refine m_iald C 68 (by decide) sa_68 r rfl (by omega) (by decide) dX11_textsThere_15 ?_
      refine m_if_ge C 23 dX11_textsThere_16 (by decide) (fun hh2 => ?_) (fun hh2 => ?_)
      · replace hh2 := (ii_le (nn_i (a := 0) rfl (by omega)) (rfl : (mu 68 r).toInt = _)).mp hh2
        replace hh2 := (zar_is (hx r (by omega)) (by decide)).mpr hh2
        refine m_iconst C 1 dX11_textsThere_23 (by decide +kernel) ?_
        refine m_iadd C dX11_textsThere_24 ?_
        refine m_topi (nI ((s_ct x r) + 1)) (nn_add rfl rfl) ?_
        refine m_topi (nI (s_ct x (r + 1))) (congrArg nI (congrArg (fun q => s_ct x r + q) (if_pos (by assumption)).symm)) ?_
        refine m_istore_n C [(1, .int (nI (s_ct x (r + 1)))), (0, .ref (G.1 64)), (2, .int (nI r))] dX11_textsThere_25 (by decide) rfl ?_
        refine m_iinc C 2 (nI (r + 1)) [(2, .int (nI (r + 1))), (1, .int (nI (s_ct x (r + 1)))), (0, .ref (G.1 64))] dX11_textsThere_26 rfl (nn_add rfl (show Int32.ofInt 1 = nI 1 from rfl)) (by decide) rfl ?_
        refine m_goto C 4 dX11_textsThere_29 (by decide) ?_
        exact m_sub [2, 1, 0] rfl (ih4 (r + 1) (by omega) (by omega))
      replace hh2 := mt (ii_le (nn_i (a := 0) rfl (by omega)) (rfl : (mu 68 r).toInt = _)).mpr hh2
      replace hh2 : ¬ (x r).isSome = true := mt (zar_is (hx r (by omega)) (by decide)).mp (by omega)
      refine m_iconst C 0 dX11_textsThere_19 (by decide +kernel) ?_
      refine m_goto C 24 dX11_textsThere_20 (by decide) ?_
      refine m_iadd C dX11_textsThere_24 ?_
      refine m_topi (nI ((s_ct x r) + 0)) (nn_add rfl rfl) ?_
      refine m_topi (nI (s_ct x (r + 1))) (congrArg nI (congrArg (fun q => s_ct x r + q) (if_neg (by assumption)).symm)) ?_
      refine m_istore_n C [(1, .int (nI (s_ct x (r + 1)))), (0, .ref (G.1 64)), (2, .int (nI r))] dX11_textsThere_25 (by decide) rfl ?_
      refine m_iinc C 2 (nI (r + 1)) [(2, .int (nI (r + 1))), (1, .int (nI (s_ct x (r + 1)))), (0, .ref (G.1 64))] dX11_textsThere_26 rfl (nn_add rfl (show Int32.ofInt 1 = nI 1 from rfl)) (by decide) rfl ?_
      refine m_goto C 4 dX11_textsThere_29 (by decide) ?_
      exact m_sub [2, 1, 0] rfl (ih4 (r + 1) (by omega) (by omega))
  exact m_sub [2, 1, 0] rfl (L4 (_ + 1) 0 (Nat.zero_le _) (Nat.lt_succ_self _))

set_option maxHeartbeats 4000000 in
set_option maxRecDepth 100000 in
theorem c_X11_boxesKept (l : Launch) (G : Gl) (mu : Mu) (nu : Nu) (R : Zr) (hR : R.1 ≤ 7) (x : Nat → Option Zb) (hx : ∀ k, k < 3 → z_wk (fun j => mu 65 (392 + 392 * k + j)) R (x k)) : Cf l G mX11_boxesKept 1 [.ref (G.1 64)] mu nu (.int (nI (s_kc x 3))) := by
  refine Ct.of (lv := [(0, .ref (G.1 64))]) rfl rfl (Nat.le_of_ble_eq_true rfl) rfl (fun X C => ?_)
  generalize hQ : g_E G X _ = Q
  replace C : Cx G 3 X cX11_boxesKept RX11 (some .int) 1 := C
  show Mq l G 3 X Q 0 [(0, .ref (G.1 64))] [] mu nu
  refine m_iconst C 0 dX11_boxesKept_0 (by decide +kernel) ?_
  refine m_istore_n C [(1, .int 0), (0, .ref (G.1 64))] dX11_boxesKept_1 (by decide) rfl ?_
  refine m_iconst C 0 dX11_boxesKept_2 (by decide +kernel) ?_
  refine m_istore_n C [(2, .int 0), (1, .int 0), (0, .ref (G.1 64))] dX11_boxesKept_3 (by decide) rfl ?_
  have L4 : ∀ (fu : Nat) (k : Nat) (hk : k ≤ 3), 3 - k < fu → Mq l G 3 X Q 4 [(0, .ref (G.1 64)), (1, .int (nI (s_kc x k))), (2, .int (nI k))] [] mu nu := by
    intro fu
    induction fu with
    | zero => intro k hk hm; exact absurd hm (Nat.not_lt_zero _)
    | succ fu ih4 =>
      intro k hk hm
      refine m_iload_n C 2 dX11_boxesKept_4 rfl ?_
      refine m_iconst C 3 dX11_boxesKept_5 (by decide +kernel) ?_
      refine m_icmp_ge C 42 dX11_boxesKept_6 (by decide) (fun hh1 => ?_) (fun hh1 => ?_)
      · replace hh1 := (ii_le (nn_i (a := 3) rfl (by omega)) (nn_i (a := k) rfl (by omega))).mp hh1
        refine m_iload_n C 1 dX11_boxesKept_42 rfl ?_
        refine m_iretf C hQ dX11_boxesKept_43 rfl rfl ?_
        have e : k = 3 := by omega
        subst e; rfl
      replace hh1 := mt (ii_le (nn_i (a := 3) rfl (by omega)) (nn_i (a := k) rfl (by omega))).mpr hh1
      refine m_iload_n C 1 dX11_boxesKept_9 rfl ?_
      refine m_aload_n C 0 dX11_boxesKept_10 rfl ?_
      refine gfX11_7 C dX11_boxesKept_11 ?_
      refine m_sipush C 392 dX11_boxesKept_14 (by decide +kernel) ?_
      refine m_sipush C 392 dX11_boxesKept_17 (by decide +kernel) ?_
      refine m_iload_n C 2 dX11_boxesKept_20 rfl ?_
      refine m_imul C dX11_boxesKept_21 ?_
      refine m_topi (nI (392 * k)) (nn_mul rfl rfl) ?_
      refine m_iadd C dX11_boxesKept_22 ?_
      refine m_topi (nI (392 + (392 * k))) (nn_add rfl rfl) ?_
      refine m_iconst C 0 dX11_boxesKept_23 (by decide +kernel) ?_
      refine m_iadd C dX11_boxesKept_24 ?_
      refine m_topi (nI ((392 + (392 * k)) + 0)) (nn_add rfl rfl) ?_
      refine m_iald C 65 (by decide) sa_65 ((392 + (392 * k)) + 0) rfl (by omega) (by decide) dX11_boxesKept_25 ?_
      refine m_if_ne C 33 dX11_boxesKept_26 (by decide) (fun hh2 => ?_) (fun hh2 => ?_)
      · replace hh2 := mt (ii_eq (rfl : (mu 65 ((392 + (392 * k)) + 0)).toInt = _) (nn_i (a := 0) rfl (by omega))).mpr hh2
        replace hh2 : (x k).isSome = true := (zwk_is (hx k (by omega)) hR).mpr (fun e => hh2 e)
        refine m_iconst C 1 dX11_boxesKept_33 (by decide +kernel) ?_
        refine m_iadd C dX11_boxesKept_34 ?_
        refine m_topi (nI ((s_kc x k) + 1)) (nn_add rfl rfl) ?_
        refine m_topi (nI (s_kc x (k + 1))) (congrArg nI (congrArg (fun q => s_kc x k + q) (if_pos (by assumption)).symm)) ?_
        refine m_istore_n C [(1, .int (nI (s_kc x (k + 1)))), (0, .ref (G.1 64)), (2, .int (nI k))] dX11_boxesKept_35 (by decide) rfl ?_
        refine m_iinc C 2 (nI (k + 1)) [(2, .int (nI (k + 1))), (1, .int (nI (s_kc x (k + 1)))), (0, .ref (G.1 64))] dX11_boxesKept_36 rfl (nn_add rfl (show Int32.ofInt 1 = nI 1 from rfl)) (by decide) rfl ?_
        refine m_goto C 4 dX11_boxesKept_39 (by decide) ?_
        exact m_sub [2, 1, 0] rfl (ih4 (k + 1) (by omega) (by omega))
      replace hh2 := (ii_eq (rfl : (mu 65 ((392 + (392 * k)) + 0)).toInt = _) (nn_i (a := 0) rfl (by omega))).mp hh2
      replace hh2 : ¬ (x k).isSome = true := fun e => (zwk_is (hx k (by omega)) hR).mp e (by assumption)
      refine m_iconst C 0 dX11_boxesKept_29 (by decide +kernel) ?_
      refine m_goto C 34 dX11_boxesKept_30 (by decide) ?_
      refine m_iadd C dX11_boxesKept_34 ?_
      refine m_topi (nI ((s_kc x k) + 0)) (nn_add rfl rfl) ?_
      refine m_topi (nI (s_kc x (k + 1))) (congrArg nI (congrArg (fun q => s_kc x k + q) (if_neg (by assumption)).symm)) ?_
      refine m_istore_n C [(1, .int (nI (s_kc x (k + 1)))), (0, .ref (G.1 64)), (2, .int (nI k))] dX11_boxesKept_35 (by decide) rfl ?_
      refine m_iinc C 2 (nI (k + 1)) [(2, .int (nI (k + 1))), (1, .int (nI (s_kc x (k + 1)))), (0, .ref (G.1 64))] dX11_boxesKept_36 rfl (nn_add rfl (show Int32.ofInt 1 = nI 1 from rfl)) (by decide) rfl ?_
      refine m_goto C 4 dX11_boxesKept_39 (by decide) ?_
      exact m_sub [2, 1, 0] rfl (ih4 (k + 1) (by omega) (by omega))
  exact m_sub [2, 1, 0] rfl (L4 (_ + 1) 0 (Nat.zero_le _) (Nat.lt_succ_self _))

set_option maxHeartbeats 4000000 in
set_option maxRecDepth 100000 in
theorem c_X11_count (l : Launch) (G : Gl) (mu : Mu) (nu : Nu) (z : Zt) (hz : ZM mu nu z) (w : Int32) : Cf l G mX11_count 7 [.ref (G.1 64), .int w] mu nu (.int (s_count z w).1) := by
  have hv : zm mu (z_V z) := zm_v hz
  have hw := hv.1
  have hN7 := hw.1
  have hm7 := hw.2.2.1
  have ho8 := hw.2.2.2.2
  refine Ct.of (lv := [(0, .ref (G.1 64)), (1, .int w)]) rfl rfl (Nat.le_of_ble_eq_true rfl) rfl (fun X C => ?_)
  generalize hQ : g_E G X _ = Q
  replace C : Cx G 2 X cX11_count RX11 (some .int) 7 := C
  show Mq l G 2 X Q 0 [(0, .ref (G.1 64)), (1, .int w)] [] mu nu
  refine m_iload_n C 1 dX11_count_0 rfl ?_
  have hh1i : w.toInt = w.toInt := (rfl : (w).toInt = _)
  have hh1 : (w.toInt < 0 ∨ 10 < w.toInt) ∨ w.toInt = 0 ∨ w.toInt = 1 ∨ w.toInt = 2 ∨ w.toInt = 3 ∨ w.toInt = 4 ∨ w.toInt = 5 ∨ w.toInt = 6 ∨ w.toInt = 7 ∨ w.toInt = 8 ∨ w.toInt = 9 ∨ w.toInt = 10 := by omega
  rcases hh1 with hh1 | hh1 | hh1 | hh1 | hh1 | hh1 | hh1 | hh1 | hh1 | hh1 | hh1 | hh1
  · refine m_tblOut C 127 dX11_count_1 (by rw [hh1i]; exact hh1) (by decide) ?_
    refine m_iconst C (-1) dX11_count_127 (by decide +kernel) ?_
    refine m_iretf C hQ dX11_count_128 rfl rfl ?_
    unfold s_count; rw [if_pos (by omega)]
  · refine m_tblIn C 60 dX11_count_1 (by rw [hh1i]; omega) (by rw [hh1i]; omega) (off := 59) (by rw [hh1i, hh1]; decide +kernel) (by decide) ?_
    refine m_aload_n C 0 dX11_count_60 rfl ?_
    refine gfX11_7 C dX11_count_61 ?_
    refine m_iconst C 0 dX11_count_64 (by decide +kernel) ?_
    refine m_iald C 65 (by decide) sa_65 0 rfl (by omega) (by decide) dX11_count_65 ?_
    refine m_topi (nI (z_N z)) hv.2.1 ?_
    refine m_iretf C hQ dX11_count_66 rfl rfl ?_
    unfold s_count; rw [if_neg (by omega)]; show _ = s_cnt z (ix w); rw [show ix w = 0 by unfold ix; omega]; rfl
  · refine m_tblIn C 67 dX11_count_1 (by rw [hh1i]; omega) (by rw [hh1i]; omega) (off := 66) (by rw [hh1i, hh1]; decide +kernel) (by decide) ?_
    refine m_aload_n C 0 dX11_count_67 rfl ?_
    refine gfX11_7 C dX11_count_68 ?_
    refine m_iconst C 1 dX11_count_71 (by decide +kernel) ?_
    refine m_iald C 65 (by decide) sa_65 1 rfl (by omega) (by decide) dX11_count_72 ?_
    refine m_topi (nI (v_m (z_V z))) hv.2.2.1 ?_
    refine m_iretf C hQ dX11_count_73 rfl rfl ?_
    unfold s_count; rw [if_neg (by omega)]; show _ = s_cnt z (ix w); rw [show ix w = 1 by unfold ix; omega]; rfl
  · refine m_tblIn C 74 dX11_count_1 (by rw [hh1i]; omega) (by rw [hh1i]; omega) (off := 73) (by rw [hh1i, hh1]; decide +kernel) (by decide) ?_
    refine m_aload_n C 0 dX11_count_74 rfl ?_
    refine gfX11_7 C dX11_count_75 ?_
    refine m_bipush C 31 dX11_count_78 (by decide +kernel) ?_
    refine m_iald C 65 (by decide) sa_65 31 rfl (by omega) (by decide) dX11_count_80 ?_
    refine m_topi (nI ((z_B z).2.2.length)) hz.2.1.2.2.2.2.2.1 ?_
    refine m_iretf C hQ dX11_count_81 rfl rfl ?_
    unfold s_count; rw [if_neg (by omega)]; show _ = s_cnt z (ix w); rw [show ix w = 2 by unfold ix; omega]; rfl
  · refine m_tblIn C 82 dX11_count_1 (by rw [hh1i]; omega) (by rw [hh1i]; omega) (off := 81) (by rw [hh1i, hh1]; decide +kernel) (by decide) ?_
    refine m_aload_n C 0 dX11_count_82 rfl ?_
    refine m_iconst C 1 dX11_count_83 (by decide +kernel) ?_
    refine m_callVf C 64 (by decide) rfl rfl (c_X11_readBy l G mu nu (z_V z) hv 1 (by omega) (by omega)) wkX11_173 (by decide) rfl rfl (Nat.le_of_ble_eq_true rfl) dX11_count_84 ?_
    refine m_iretf C hQ dX11_count_87 rfl rfl ?_
    unfold s_count; rw [if_neg (by omega)]; show _ = s_cnt z (ix w); rw [show ix w = 3 by unfold ix; omega]; rfl
  · refine m_tblIn C 88 dX11_count_1 (by rw [hh1i]; omega) (by rw [hh1i]; omega) (off := 87) (by rw [hh1i, hh1]; decide +kernel) (by decide) ?_
    refine m_aload_n C 0 dX11_count_88 rfl ?_
    refine m_callVf C 64 (by decide) rfl rfl (c_X11_framed l G mu nu (z_V z) hv) wkX11_235 (by decide) rfl rfl (Nat.le_of_ble_eq_true rfl) dX11_count_89 ?_
    refine m_iretf C hQ dX11_count_92 rfl rfl ?_
    unfold s_count; rw [if_neg (by omega)]; show _ = s_cnt z (ix w); rw [show ix w = 4 by unfold ix; omega]; rfl
  · refine m_tblIn C 93 dX11_count_1 (by rw [hh1i]; omega) (by rw [hh1i]; omega) (off := 92) (by rw [hh1i, hh1]; decide +kernel) (by decide) ?_
    refine m_aload_n C 0 dX11_count_93 rfl ?_
    refine gfX11_7 C dX11_count_94 ?_
    refine m_iconst C 2 dX11_count_97 (by decide +kernel) ?_
    refine m_iald C 65 (by decide) sa_65 2 rfl (by omega) (by decide) dX11_count_98 ?_
    refine m_topi (nI (v_ov (z_V z))) hv.2.2.2.1 ?_
    refine m_iretf C hQ dX11_count_99 rfl rfl ?_
    unfold s_count; rw [if_neg (by omega)]; show _ = s_cnt z (ix w); rw [show ix w = 5 by unfold ix; omega]; rfl
  · refine m_tblIn C 100 dX11_count_1 (by rw [hh1i]; omega) (by rw [hh1i]; omega) (off := 99) (by rw [hh1i, hh1]; decide +kernel) (by decide) ?_
    refine m_aload_n C 0 dX11_count_100 rfl ?_
    refine m_callVf C 64 (by decide) rfl rfl (c_X11_rowsThere l G mu nu (z_rw z) hz.2.2.2.2.1) wkX11_238 (by decide) rfl rfl (Nat.le_of_ble_eq_true rfl) dX11_count_101 ?_
    refine m_iretf C hQ dX11_count_104 rfl rfl ?_
    unfold s_count; rw [if_neg (by omega)]; show _ = s_cnt z (ix w); rw [show ix w = 6 by unfold ix; omega]; rfl
  · refine m_tblIn C 105 dX11_count_1 (by rw [hh1i]; omega) (by rw [hh1i]; omega) (off := 104) (by rw [hh1i, hh1]; decide +kernel) (by decide) ?_
    refine m_aload_n C 0 dX11_count_105 rfl ?_
    refine m_callVf C 64 (by decide) rfl rfl (c_X11_textsThere l G mu nu (z_tx z) hz.2.2.2.2.2.1) wkX11_241 (by decide) rfl rfl (Nat.le_of_ble_eq_true rfl) dX11_count_106 ?_
    refine m_iretf C hQ dX11_count_109 rfl rfl ?_
    unfold s_count; rw [if_neg (by omega)]; show _ = s_cnt z (ix w); rw [show ix w = 7 by unfold ix; omega]; rfl
  · refine m_tblIn C 110 dX11_count_1 (by rw [hh1i]; omega) (by rw [hh1i]; omega) (off := 109) (by rw [hh1i, hh1]; decide +kernel) (by decide) ?_
    refine m_aload_n C 0 dX11_count_110 rfl ?_
    refine m_callVf C 64 (by decide) rfl rfl (c_X11_boxesKept l G mu nu z.1 hN7 (z_kp z) hz.2.2.2.1) wkX11_244 (by decide) rfl rfl (Nat.le_of_ble_eq_true rfl) dX11_count_111 ?_
    refine m_iretf C hQ dX11_count_114 rfl rfl ?_
    unfold s_count; rw [if_neg (by omega)]; show _ = s_cnt z (ix w); rw [show ix w = 8 by unfold ix; omega]; rfl
  · refine m_tblIn C 115 dX11_count_1 (by rw [hh1i]; omega) (by rw [hh1i]; omega) (off := 114) (by rw [hh1i, hh1]; decide +kernel) (by decide) ?_
    refine m_aload_n C 0 dX11_count_115 rfl ?_
    refine m_iconst C 1 dX11_count_116 (by decide +kernel) ?_
    refine m_callVf C 64 (by decide) rfl rfl (c_X11_manyOf l G mu nu (z_V z) hv 1 (by decide) (by decide)) wkX11_247 (by decide) rfl rfl (Nat.le_of_ble_eq_true rfl) dX11_count_117 ?_
    refine m_iretf C hQ dX11_count_120 rfl rfl ?_
    unfold s_count; rw [if_neg (by omega)]; show _ = s_cnt z (ix w); rw [show ix w = 9 by unfold ix; omega]; rfl
  · refine m_tblIn C 121 dX11_count_1 (by rw [hh1i]; omega) (by rw [hh1i]; omega) (off := 120) (by rw [hh1i, hh1]; decide +kernel) (by decide) ?_
    refine m_aload_n C 0 dX11_count_121 rfl ?_
    refine m_iconst C 2 dX11_count_122 (by decide +kernel) ?_
    refine m_callVf C 64 (by decide) rfl rfl (c_X11_manyOf l G mu nu (z_V z) hv 2 (by decide) (by decide)) wkX11_247 (by decide) rfl rfl (Nat.le_of_ble_eq_true rfl) dX11_count_123 ?_
    refine m_iretf C hQ dX11_count_126 rfl rfl ?_
    unfold s_count; rw [if_neg (by omega)]; show _ = s_cnt z (ix w); rw [show ix w = 10 by unfold ix; omega]; rfl

set_option maxHeartbeats 4000000 in
set_option maxRecDepth 100000 in
theorem c_X11_mix (l : Launch) (G : Gl) (mu : Mu) (nu : Nu) (v : Int64) : Cv l G mX11_mix 1 [.ref (G.1 64), .long v] mu nu (fun m n2 => m = mu ∧ n2 = nu_up nu 64 23 (31 * nu 64 23 + v)) := by
  refine Ct.of (lv := [(0, .ref (G.1 64)), (1, .long v)]) rfl rfl (Nat.le_of_ble_eq_true rfl) rfl (fun X C => ?_)
  generalize hQ : g_E G X _ = Q
  replace C : Cx G 3 X cX11_mix RX11 none 1 := C
  show Mq l G 3 X Q 0 [(0, .ref (G.1 64)), (1, .long v)] [] mu nu
  refine m_aload_n C 0 dX11_mix_0 rfl ?_
  refine m_ldc2 C 31 wcX11_250 dX11_mix_1 ?_
  refine m_aload_n C 0 dX11_mix_4 rfl ?_
  refine gfX11_252 C dX11_mix_5 ?_
  refine m_lmul C dX11_mix_8 ?_
  refine m_lload_n C 1 dX11_mix_9 rfl ?_
  refine m_ladd C dX11_mix_10 ?_
  refine pfX11_252 C dX11_mix_11 ?_
  refine m_vretv C hQ dX11_mix_14 ?_
  exact ⟨rfl, rfl⟩

set_option maxHeartbeats 4000000 in
set_option maxRecDepth 100000 in
theorem c_X11_digest (l : Launch) (G : Gl) (mu : Mu) (nu : Nu) (z : Zt) (hz : ZM mu nu z) : Cl l G mX11_digest 8 [.ref (G.1 64)] mu nu (fun r m n2 => r = s_dig z ∧ ZM m n2 z ∧ z_cm mu nu m n2) := by
  have hv : zm mu (z_V z) := zm_v hz
  have hw := hv.1
  have hN7 := hw.1
  have hm7 := hw.2.2.1
  have ho8 := hw.2.2.2.2
  have hzN : z_N z ≤ 7 := hN7
  refine Ct.of (lv := [(0, .ref (G.1 64))]) rfl rfl (Nat.le_of_ble_eq_true rfl) rfl (fun X C => ?_)
  generalize hQ : g_E G X _ = Q
  replace C : Cx G 3 X cX11_digest RX11 (some .long) 8 := C
  show Mq l G 3 X Q 0 [(0, .ref (G.1 64))] [] mu nu
  refine m_aload_n C 0 dX11_digest_0 rfl ?_
  refine m_ldc2 C 17 wcX11_255 dX11_digest_1 ?_
  refine pfX11_252 C dX11_digest_4 ?_
  have hd0 : DG mu nu z (nu_up nu 64 23 17) (s_d1 z 0) := dg_set hz
  refine m_iconst C 0 dX11_digest_7 (by decide +kernel) ?_
  refine m_istore_n C [(1, .int 0), (0, .ref (G.1 64))] dX11_digest_8 (by decide) rfl ?_
  have L9 : ∀ (fu : Nat) (w : Nat) (n1 : Nu) (hw11 : w ≤ 11) (hd : DG mu nu z n1 (s_d1 z w)), 11 - w < fu → Mq l G 3 X Q 9 [(0, .ref (G.1 64)), (1, .int (nI w))] [] mu n1 := by
    intro fu
    induction fu with
    | zero => intro w n1 hw11 hd hm; exact absurd hm (Nat.not_lt_zero _)
    | succ fu ih9 =>
      intro w n1 hw11 hd hm
      refine m_iload_n C 1 dX11_digest_9 rfl ?_
      refine m_bipush C 11 dX11_digest_10 (by decide +kernel) ?_
      refine m_icmp_ge C 31 dX11_digest_12 (by decide) (fun hh1 => ?_) (fun hh1 => ?_)
      · replace hh1 := (ii_le (nn_i (a := 11) rfl (by omega)) (nn_i (a := w) rfl (by omega))).mp hh1
        have ew : w = 11 := by omega
        rw [ew] at hd
        refine m_iconst C 0 dX11_digest_31 (by decide +kernel) ?_
        refine m_istore_n C [(1, .int 0), (0, .ref (G.1 64))] dX11_digest_32 (by decide) rfl ?_
        have L33 : ∀ (fu : Nat) (i : Nat) (n1 : Nu) (hi : i ≤ z_N z) (hd : DG mu nu z n1 (s_d3 (z_V z) (s_d1 z 11) i)), z_N z - i < fu → Mq l G 3 X Q 33 [(0, .ref (G.1 64)), (1, .int (nI i))] [] mu n1 := by
          intro fu
          induction fu with
          | zero => intro i n1 hi hd hm; exact absurd hm (Nat.not_lt_zero _)
          | succ fu ih33 =>
            intro i n1 hi hd hm
            refine m_iload_n C 1 dX11_digest_33 rfl ?_
            refine m_aload_n C 0 dX11_digest_34 rfl ?_
            refine gfX11_7 C dX11_digest_35 ?_
            refine m_iconst C 0 dX11_digest_38 (by decide +kernel) ?_
            refine m_iald C 65 (by decide) sa_65 0 rfl (by omega) (by decide) dX11_digest_39 ?_
            refine m_topi (nI (z_N z)) hv.2.1 ?_
            refine m_icmp_ge C 73 dX11_digest_40 (by decide) (fun hh2 => ?_) (fun hh2 => ?_)
            · replace hh2 := (ii_le (nn_i (a := z_N z) rfl (by omega)) (nn_i (a := i) rfl (by omega))).mp hh2
              have ei : i = z_N z := by omega
              rw [ei] at hd
              refine m_iconst C 0 dX11_digest_73 (by decide +kernel) ?_
              refine m_istore_n C [(1, .int 0), (0, .ref (G.1 64))] dX11_digest_74 (by decide) rfl ?_
              have L75 : ∀ (fu : Nat) (k : Nat) (n1 : Nu) (hk : k ≤ 3) (hd : DG mu nu z n1 (s_d4 (z_kp z) (s_d3 (z_V z) (s_d1 z 11) (z_N z)) k)), 3 - k < fu → Mq l G 3 X Q 75 [(0, .ref (G.1 64)), (1, .int (nI k))] [] mu n1 := by
                intro fu
                induction fu with
                | zero => intro k n1 hk hd hm; exact absurd hm (Nat.not_lt_zero _)
                | succ fu ih75 =>
                  intro k n1 hk hd hm
                  refine m_iload_n C 1 dX11_digest_75 rfl ?_
                  refine m_iconst C 3 dX11_digest_76 (by decide +kernel) ?_
                  refine m_icmp_ge C 133 dX11_digest_77 (by decide) (fun hh3 => ?_) (fun hh3 => ?_)
                  · replace hh3 := (ii_le (nn_i (a := 3) rfl (by omega)) (nn_i (a := k) rfl (by omega))).mp hh3
                    have ek : k = 3 := by omega
                    rw [ek] at hd
                    refine m_iconst C 0 dX11_digest_133 (by decide +kernel) ?_
                    refine m_istore_n C [(1, .int 0), (0, .ref (G.1 64))] dX11_digest_134 (by decide) rfl ?_
                    have L135 : ∀ (fu : Nat) (r : Nat) (n1 : Nu) (hr : r ≤ 6) (hd : DG mu nu z n1 (s_hs (z_rw z) (s_d4 (z_kp z) (s_d3 (z_V z) (s_d1 z 11) (z_N z)) 3) r)), 6 - r < fu → Mq l G 3 X Q 135 [(0, .ref (G.1 64)), (1, .int (nI r))] [] mu n1 := by
                      intro fu
                      induction fu with
                      | zero => intro r n1 hr hd hm; exact absurd hm (Nat.not_lt_zero _)
                      | succ fu ih135 =>
                        intro r n1 hr hd hm
                        refine m_iload_n C 1 dX11_digest_135 rfl ?_
                        refine m_bipush C 6 dX11_digest_136 (by decide +kernel) ?_
                        refine m_icmp_ge C 192 dX11_digest_138 (by decide) (fun hh4 => ?_) (fun hh4 => ?_)
                        · replace hh4 := (ii_le (nn_i (a := 6) rfl (by omega)) (nn_i (a := r) rfl (by omega))).mp hh4
                          have er : r = 6 := by omega
                          rw [er] at hd
                          refine m_iconst C 0 dX11_digest_192 (by decide +kernel) ?_
                          refine m_istore_n C [(1, .int 0), (0, .ref (G.1 64))] dX11_digest_193 (by decide) rfl ?_
                          have L194 : ∀ (fu : Nat) (r : Nat) (n1 : Nu) (hr : r ≤ 4) (hd : DG mu nu z n1 (s_hs (z_tx z) (s_hs (z_rw z) (s_d4 (z_kp z) (s_d3 (z_V z) (s_d1 z 11) (z_N z)) 3) 6) r)), 4 - r < fu → Mq l G 3 X Q 194 [(0, .ref (G.1 64)), (1, .int (nI r))] [] mu n1 := by
                            intro fu
                            induction fu with
                            | zero => intro r n1 hr hd hm; exact absurd hm (Nat.not_lt_zero _)
                            | succ fu ih194 =>
                              intro r n1 hr hd hm
                              refine m_iload_n C 1 dX11_digest_194 rfl ?_
                              refine m_iconst C 4 dX11_digest_195 (by decide +kernel) ?_
                              refine m_icmp_ge C 250 dX11_digest_196 (by decide) (fun hh5 => ?_) (fun hh5 => ?_)
                              · replace hh5 := (ii_le (nn_i (a := 4) rfl (by omega)) (nn_i (a := r) rfl (by omega))).mp hh5
                                have er : r = 4 := by omega
                                rw [er] at hd
                                refine m_aload_n C 0 dX11_digest_250 rfl ?_
                                refine gfX11_252 C dX11_digest_251 ?_
                                refine m_lreti C hQ dX11_digest_254 ?_
                                exact ⟨hd.2.2, hd.1, hd.2.1⟩
                              replace hh5 := mt (ii_le (nn_i (a := 4) rfl (by omega)) (nn_i (a := r) rfl (by omega))).mpr hh5
                              refine m_aload_n C 0 dX11_digest_199 rfl ?_
                              have hxr := hz.2.2.2.2.2.1 r (by omega)
                              obtain ⟨hxe, hn⟩ | ⟨xs, hxe, hl, hl2, hxs⟩ := zar_two hxr
                              · skip
                                refine m_aload_n C 0 dX11_digest_200 rfl ?_
                                refine gfX11_19 C dX11_digest_201 ?_
                                refine m_iload_n C 1 dX11_digest_204 rfl ?_
                                refine m_iald C 68 (by decide) sa_68 r rfl (by omega) (by decide) dX11_digest_205 ?_
                                refine m_i2l C dX11_digest_206 ?_
                                refine m_topl ((-1)) (by rw [hn]; decide +kernel) ?_
                                refine m_callVv C 64 (by decide) rfl rfl (c_X11_mix l G mu n1 ((-1))) wkX11_260 (by decide) rfl rfl (Nat.le_of_ble_eq_true rfl) dX11_digest_207 (fun m6 n6 hp6 => ?_)
                                obtain ⟨hmm6, hnn6⟩ := hp6
                                rw [hmm6]
                                have hd6 : DG mu nu z n6 (s_hs (z_tx z) (s_hs (z_rw z) (s_d4 (z_kp z) (s_d3 (z_V z) (s_d1 z 11) (z_N z)) 3) 6) (r + 1)) := dg_mix hd hnn6 (by show s_h1 ((z_tx z) r) _ = _; rw [hxe]; rfl)
                                refine m_iconst C 0 dX11_digest_210 (by decide +kernel) ?_
                                refine m_istore_n C [(2, .int 0), (0, .ref (G.1 64)), (1, .int (nI r))] dX11_digest_211 (by decide) rfl ?_
                                refine m_iload_n C 0 dX11_digest_212 rfl ?_
                                refine m_aload_n C 1 dX11_digest_213 rfl ?_
                                refine gfX11_19 C dX11_digest_214 ?_
                                refine m_iload_n C 2 dX11_digest_217 rfl ?_
                                refine m_iald C 68 (by decide) sa_68 r rfl (by omega) (by decide) dX11_digest_218 ?_
                                refine m_icmp_ge C 244 dX11_digest_219 (by decide) (fun _ => ?_) (fun hh7 => absurd ((ii_le (show (mu 68 r).toInt = -1 by rw [hn]; decide +kernel) (nn_i (a := 0) rfl (by omega))).mpr (by omega)) hh7)
                                refine m_iinc C 2 (nI (r + 1)) [(1, .int (nI (r + 1))), (2, .int 0), (0, .ref (G.1 64))] dX11_digest_244 rfl (nn_add rfl (show Int32.ofInt 1 = nI 1 from rfl)) (by decide) rfl ?_
                                refine m_goto C 194 dX11_digest_247 (by decide) ?_
                                exact m_sub [2, 0] rfl (ih194 (r + 1) n6 (by omega) hd6 (by omega))
                              · skip
                                refine m_aload_n C 0 dX11_digest_200 rfl ?_
                                refine gfX11_19 C dX11_digest_201 ?_
                                refine m_iload_n C 1 dX11_digest_204 rfl ?_
                                refine m_iald C 68 (by decide) sa_68 r rfl (by omega) (by decide) dX11_digest_205 ?_
                                refine m_topi (nI xs.length) hl ?_
                                refine m_i2l C dX11_digest_206 ?_
                                refine m_topl (lN xs.length) (ln_i2l rfl (by omega)) ?_
                                refine m_callVv C 64 (by decide) rfl rfl (c_X11_mix l G mu n1 (lN xs.length)) wkX11_260 (by decide) rfl rfl (Nat.le_of_ble_eq_true rfl) dX11_digest_207 (fun m8 n8 hp8 => ?_)
                                obtain ⟨hmm8, hnn8⟩ := hp8
                                rw [hmm8]
                                have hd8 : DG mu nu z n8 (s_hp xs (s_hs (z_tx z) (s_hs (z_rw z) (s_d4 (z_kp z) (s_d3 (z_V z) (s_d1 z 11) (z_N z)) 3) 6) r) 0) := dg_mix hd hnn8 rfl
                                refine m_iconst C 0 dX11_digest_210 (by decide +kernel) ?_
                                refine m_istore_n C [(2, .int 0), (0, .ref (G.1 64)), (1, .int (nI r))] dX11_digest_211 (by decide) rfl ?_
                                have L212 : ∀ (fu : Nat) (j : Nat) (n2 : Nu) (hj : j ≤ xs.length) (hdj : DG mu nu z n2 (s_hp xs (s_hs (z_tx z) (s_hs (z_rw z) (s_d4 (z_kp z) (s_d3 (z_V z) (s_d1 z 11) (z_N z)) 3) 6) r) j)), xs.length - j < fu → Mq l G 3 X Q 212 [(0, .ref (G.1 64)), (1, .int (nI r)), (2, .int (nI j))] [] mu n2 := by
                                  intro fu
                                  induction fu with
                                  | zero => intro j n2 hj hdj hm; exact absurd hm (Nat.not_lt_zero _)
                                  | succ fu ih212 =>
                                    intro j n2 hj hdj hm
                                    refine m_iload_n C 2 dX11_digest_212 rfl ?_
                                    refine m_aload_n C 0 dX11_digest_213 rfl ?_
                                    refine gfX11_19 C dX11_digest_214 ?_
                                    refine m_iload_n C 1 dX11_digest_217 rfl ?_
                                    refine m_iald C 68 (by decide) sa_68 r rfl (by omega) (by decide) dX11_digest_218 ?_
                                    refine m_topi (nI xs.length) hl ?_
                                    refine m_icmp_ge C 244 dX11_digest_219 (by decide) (fun hh9 => ?_) (fun hh9 => ?_)
                                    · replace hh9 := (ii_le (nn_i (a := xs.length) rfl (by omega)) (nn_i (a := j) rfl (by omega))).mp hh9
                                      have ej : j = xs.length := by omega
                                      have hd2 : DG mu nu z n2 (s_hs (z_tx z) (s_hs (z_rw z) (s_d4 (z_kp z) (s_d3 (z_V z) (s_d1 z 11) (z_N z)) 3) 6) (r + 1)) := by
                                        have e : s_hs (z_tx z) (s_hs (z_rw z) (s_d4 (z_kp z) (s_d3 (z_V z) (s_d1 z 11) (z_N z)) 3) 6) (r + 1) = s_hp xs (s_hs (z_tx z) (s_hs (z_rw z) (s_d4 (z_kp z) (s_d3 (z_V z) (s_d1 z 11) (z_N z)) 3) 6) r) xs.length := by show s_h1 ((z_tx z) r) _ = _; rw [hxe]; rfl
                                        rw [e, ← ej]; exact hdj
                                      refine m_iinc C 1 (nI (r + 1)) [(1, .int (nI (r + 1))), (0, .ref (G.1 64)), (2, .int (nI j))] dX11_digest_244 rfl (nn_add rfl (show Int32.ofInt 1 = nI 1 from rfl)) (by decide) rfl ?_
                                      refine m_goto C 194 dX11_digest_247 (by decide) ?_
                                      exact m_sub [1, 0] rfl (ih194 (r + 1) n2 (by omega) hd2 (by omega))
                                    replace hh9 := mt (ii_le (nn_i (a := xs.length) rfl (by omega)) (nn_i (a := j) rfl (by omega))).mpr hh9
                                    refine m_aload_n C 0 dX11_digest_222 rfl ?_
                                    refine m_aload_n C 0 dX11_digest_223 rfl ?_
                                    refine gfX11_22 C dX11_digest_224 ?_
                                    refine m_bipush C 60 dX11_digest_227 (by decide +kernel) ?_
                                    refine m_iload_n C 1 dX11_digest_229 rfl ?_
                                    refine m_imul C dX11_digest_230 ?_
                                    refine m_topi (nI (60 * r)) (nn_mul rfl rfl) ?_
                                    refine m_iload_n C 2 dX11_digest_231 rfl ?_
                                    refine m_iadd C dX11_digest_232 ?_
                                    refine m_topi (nI ((60 * r) + j)) (nn_add rfl rfl) ?_
                                    refine m_iald C 69 (by decide) sa_69 ((60 * r) + j) rfl (by omega) (by decide) dX11_digest_233 ?_
                                    refine m_topi (xs.getD j 0) (hxs _ (by omega)) ?_
                                    refine m_i2l C dX11_digest_234 ?_
                                    refine m_callVv C 64 (by decide) rfl rfl (c_X11_mix l G mu n2 ((xs.getD j 0).toInt64)) wkX11_260 (by decide) rfl rfl (Nat.le_of_ble_eq_true rfl) dX11_digest_235 (fun m10 n10 hp10 => ?_)
                                    obtain ⟨hmm10, hnn10⟩ := hp10
                                    rw [hmm10]
                                    have hd10 : DG mu nu z n10 (s_hp xs (s_hs (z_tx z) (s_hs (z_rw z) (s_d4 (z_kp z) (s_d3 (z_V z) (s_d1 z 11) (z_N z)) 3) 6) r) (j + 1)) := dg_mix hdj hnn10 rfl
                                    refine m_iinc C 2 (nI (j + 1)) [(2, .int (nI (j + 1))), (0, .ref (G.1 64)), (1, .int (nI r))] dX11_digest_238 rfl (nn_add rfl (show Int32.ofInt 1 = nI 1 from rfl)) (by decide) rfl ?_
                                    refine m_goto C 212 dX11_digest_241 (by decide) ?_
                                    exact m_sub [1, 2, 0] rfl (ih212 (j + 1) n10 (by omega) hd10 (by omega))
                                exact m_sub [1, 2, 0] rfl (L212 (_ + 1) 0 n8 (Nat.zero_le _) hd8 (Nat.lt_succ_self _))
                          exact m_sub [1, 0] rfl (L194 (_ + 1) 0 n1 (Nat.zero_le _) hd (Nat.lt_succ_self _))
                        replace hh4 := mt (ii_le (nn_i (a := 6) rfl (by omega)) (nn_i (a := r) rfl (by omega))).mpr hh4
                        refine m_aload_n C 0 dX11_digest_141 rfl ?_
                        have hxr := hz.2.2.2.2.1 r (by omega)
                        obtain ⟨hxe, hn⟩ | ⟨xs, hxe, hl, hl2, hxs⟩ := zar_two hxr
                        · skip
                          refine m_aload_n C 0 dX11_digest_142 rfl ?_
                          refine gfX11_13 C dX11_digest_143 ?_
                          refine m_iload_n C 1 dX11_digest_146 rfl ?_
                          refine m_iald C 66 (by decide) sa_66 r rfl (by omega) (by decide) dX11_digest_147 ?_
                          refine m_i2l C dX11_digest_148 ?_
                          refine m_topl ((-1)) (by rw [hn]; decide +kernel) ?_
                          refine m_callVv C 64 (by decide) rfl rfl (c_X11_mix l G mu n1 ((-1))) wkX11_260 (by decide) rfl rfl (Nat.le_of_ble_eq_true rfl) dX11_digest_149 (fun m11 n11 hp11 => ?_)
                          obtain ⟨hmm11, hnn11⟩ := hp11
                          rw [hmm11]
                          have hd11 : DG mu nu z n11 (s_hs (z_rw z) (s_d4 (z_kp z) (s_d3 (z_V z) (s_d1 z 11) (z_N z)) 3) (r + 1)) := dg_mix hd hnn11 (by show s_h1 ((z_rw z) r) _ = _; rw [hxe]; rfl)
                          refine m_iconst C 0 dX11_digest_152 (by decide +kernel) ?_
                          refine m_istore_n C [(2, .int 0), (0, .ref (G.1 64)), (1, .int (nI r))] dX11_digest_153 (by decide) rfl ?_
                          refine m_iload_n C 0 dX11_digest_154 rfl ?_
                          refine m_aload_n C 1 dX11_digest_155 rfl ?_
                          refine gfX11_13 C dX11_digest_156 ?_
                          refine m_iload_n C 2 dX11_digest_159 rfl ?_
                          refine m_iald C 66 (by decide) sa_66 r rfl (by omega) (by decide) dX11_digest_160 ?_
                          refine m_icmp_ge C 186 dX11_digest_161 (by decide) (fun _ => ?_) (fun hh12 => absurd ((ii_le (show (mu 66 r).toInt = -1 by rw [hn]; decide +kernel) (nn_i (a := 0) rfl (by omega))).mpr (by omega)) hh12)
                          refine m_iinc C 2 (nI (r + 1)) [(1, .int (nI (r + 1))), (2, .int 0), (0, .ref (G.1 64))] dX11_digest_186 rfl (nn_add rfl (show Int32.ofInt 1 = nI 1 from rfl)) (by decide) rfl ?_
                          refine m_goto C 135 dX11_digest_189 (by decide) ?_
                          exact m_sub [2, 0] rfl (ih135 (r + 1) n11 (by omega) hd11 (by omega))
                        · skip
                          refine m_aload_n C 0 dX11_digest_142 rfl ?_
                          refine gfX11_13 C dX11_digest_143 ?_
                          refine m_iload_n C 1 dX11_digest_146 rfl ?_
                          refine m_iald C 66 (by decide) sa_66 r rfl (by omega) (by decide) dX11_digest_147 ?_
                          refine m_topi (nI xs.length) hl ?_
                          refine m_i2l C dX11_digest_148 ?_
                          refine m_topl (lN xs.length) (ln_i2l rfl (by omega)) ?_
                          refine m_callVv C 64 (by decide) rfl rfl (c_X11_mix l G mu n1 (lN xs.length)) wkX11_260 (by decide) rfl rfl (Nat.le_of_ble_eq_true rfl) dX11_digest_149 (fun m13 n13 hp13 => ?_)
                          obtain ⟨hmm13, hnn13⟩ := hp13
                          rw [hmm13]
                          have hd13 : DG mu nu z n13 (s_hp xs (s_hs (z_rw z) (s_d4 (z_kp z) (s_d3 (z_V z) (s_d1 z 11) (z_N z)) 3) r) 0) := dg_mix hd hnn13 rfl
                          refine m_iconst C 0 dX11_digest_152 (by decide +kernel) ?_
                          refine m_istore_n C [(2, .int 0), (0, .ref (G.1 64)), (1, .int (nI r))] dX11_digest_153 (by decide) rfl ?_
                          have L154 : ∀ (fu : Nat) (j : Nat) (n2 : Nu) (hj : j ≤ xs.length) (hdj : DG mu nu z n2 (s_hp xs (s_hs (z_rw z) (s_d4 (z_kp z) (s_d3 (z_V z) (s_d1 z 11) (z_N z)) 3) r) j)), xs.length - j < fu → Mq l G 3 X Q 154 [(0, .ref (G.1 64)), (1, .int (nI r)), (2, .int (nI j))] [] mu n2 := by
                            intro fu
                            induction fu with
                            | zero => intro j n2 hj hdj hm; exact absurd hm (Nat.not_lt_zero _)
                            | succ fu ih154 =>
                              intro j n2 hj hdj hm
                              refine m_iload_n C 2 dX11_digest_154 rfl ?_
                              refine m_aload_n C 0 dX11_digest_155 rfl ?_
                              refine gfX11_13 C dX11_digest_156 ?_
                              refine m_iload_n C 1 dX11_digest_159 rfl ?_
                              refine m_iald C 66 (by decide) sa_66 r rfl (by omega) (by decide) dX11_digest_160 ?_
                              refine m_topi (nI xs.length) hl ?_
                              refine m_icmp_ge C 186 dX11_digest_161 (by decide) (fun hh14 => ?_) (fun hh14 => ?_)
                              · replace hh14 := (ii_le (nn_i (a := xs.length) rfl (by omega)) (nn_i (a := j) rfl (by omega))).mp hh14
                                have ej : j = xs.length := by omega
                                have hd2 : DG mu nu z n2 (s_hs (z_rw z) (s_d4 (z_kp z) (s_d3 (z_V z) (s_d1 z 11) (z_N z)) 3) (r + 1)) := by
                                  have e : s_hs (z_rw z) (s_d4 (z_kp z) (s_d3 (z_V z) (s_d1 z 11) (z_N z)) 3) (r + 1) = s_hp xs (s_hs (z_rw z) (s_d4 (z_kp z) (s_d3 (z_V z) (s_d1 z 11) (z_N z)) 3) r) xs.length := by show s_h1 ((z_rw z) r) _ = _; rw [hxe]; rfl
                                  rw [e, ← ej]; exact hdj
                                refine m_iinc C 1 (nI (r + 1)) [(1, .int (nI (r + 1))), (0, .ref (G.1 64)), (2, .int (nI j))] dX11_digest_186 rfl (nn_add rfl (show Int32.ofInt 1 = nI 1 from rfl)) (by decide) rfl ?_
                                refine m_goto C 135 dX11_digest_189 (by decide) ?_
                                exact m_sub [1, 0] rfl (ih135 (r + 1) n2 (by omega) hd2 (by omega))
                              replace hh14 := mt (ii_le (nn_i (a := xs.length) rfl (by omega)) (nn_i (a := j) rfl (by omega))).mpr hh14
                              refine m_aload_n C 0 dX11_digest_164 rfl ?_
                              refine m_aload_n C 0 dX11_digest_165 rfl ?_
                              refine gfX11_16 C dX11_digest_166 ?_
                              refine m_bipush C 40 dX11_digest_169 (by decide +kernel) ?_
                              refine m_iload_n C 1 dX11_digest_171 rfl ?_
                              refine m_imul C dX11_digest_172 ?_
                              refine m_topi (nI (40 * r)) (nn_mul rfl rfl) ?_
                              refine m_iload_n C 2 dX11_digest_173 rfl ?_
                              refine m_iadd C dX11_digest_174 ?_
                              refine m_topi (nI ((40 * r) + j)) (nn_add rfl rfl) ?_
                              refine m_iald C 67 (by decide) sa_67 ((40 * r) + j) rfl (by omega) (by decide) dX11_digest_175 ?_
                              refine m_topi (xs.getD j 0) (hxs _ (by omega)) ?_
                              refine m_i2l C dX11_digest_176 ?_
                              refine m_callVv C 64 (by decide) rfl rfl (c_X11_mix l G mu n2 ((xs.getD j 0).toInt64)) wkX11_260 (by decide) rfl rfl (Nat.le_of_ble_eq_true rfl) dX11_digest_177 (fun m15 n15 hp15 => ?_)
                              obtain ⟨hmm15, hnn15⟩ := hp15
                              rw [hmm15]
                              have hd15 : DG mu nu z n15 (s_hp xs (s_hs (z_rw z) (s_d4 (z_kp z) (s_d3 (z_V z) (s_d1 z 11) (z_N z)) 3) r) (j + 1)) := dg_mix hdj hnn15 rfl
                              refine m_iinc C 2 (nI (j + 1)) [(2, .int (nI (j + 1))), (0, .ref (G.1 64)), (1, .int (nI r))] dX11_digest_180 rfl (nn_add rfl (show Int32.ofInt 1 = nI 1 from rfl)) (by decide) rfl ?_
                              refine m_goto C 154 dX11_digest_183 (by decide) ?_
                              exact m_sub [1, 2, 0] rfl (ih154 (j + 1) n15 (by omega) hd15 (by omega))
                          exact m_sub [1, 2, 0] rfl (L154 (_ + 1) 0 n13 (Nat.zero_le _) hd13 (Nat.lt_succ_self _))
                    exact m_sub [1, 0] rfl (L135 (_ + 1) 0 n1 (Nat.zero_le _) hd (Nat.lt_succ_self _))
                  replace hh3 := mt (ii_le (nn_i (a := 3) rfl (by omega)) (nn_i (a := k) rfl (by omega))).mpr hh3
                  refine m_aload_n C 0 dX11_digest_80 rfl ?_
                  have hkk := hz.2.2.2.1 k (by omega)
                  refine m_aload_n C 0 dX11_digest_81 rfl ?_
                  refine gfX11_7 C dX11_digest_82 ?_
                  refine m_sipush C 392 dX11_digest_85 (by decide +kernel) ?_
                  refine m_sipush C 392 dX11_digest_88 (by decide +kernel) ?_
                  refine m_iload_n C 1 dX11_digest_91 rfl ?_
                  refine m_imul C dX11_digest_92 ?_
                  refine m_topi (nI (392 * k)) (nn_mul rfl rfl) ?_
                  refine m_iadd C dX11_digest_93 ?_
                  refine m_topi (nI (392 + (392 * k))) (nn_add rfl rfl) ?_
                  refine m_iconst C 0 dX11_digest_94 (by decide +kernel) ?_
                  refine m_iadd C dX11_digest_95 ?_
                  refine m_topi (nI ((392 + (392 * k)) + 0)) (nn_add rfl rfl) ?_
                  refine m_iald C 65 (by decide) sa_65 ((392 + (392 * k)) + 0) rfl (by omega) (by decide) dX11_digest_96 ?_
                  refine m_if_ne C 106 dX11_digest_97 (by decide) (fun hh16 => ?_) (fun hh16 => ?_)
                  · replace hh16 := mt (ii_eq (rfl : (mu 65 ((392 + (392 * k)) + 0)).toInt = _) (nn_i (a := 0) rfl (by omega))).mpr hh16
                    obtain ⟨B, hB⟩ := Option.isSome_iff_exists.mp ((zwk_is hkk hN7).mpr (fun e => hh16 e))
                    rw [hB] at hkk
                    have hB31 : mu 65 (392 + 392 * k + 31) = nI B.2.2.length := hkk.1.2.2.2.2.2.1
                    have hB40 := hkk.2.1.1
                    refine m_aload_n C 0 dX11_digest_106 rfl ?_
                    refine gfX11_7 C dX11_digest_107 ?_
                    refine m_sipush C 392 dX11_digest_110 (by decide +kernel) ?_
                    refine m_sipush C 392 dX11_digest_113 (by decide +kernel) ?_
                    refine m_iload_n C 1 dX11_digest_116 rfl ?_
                    refine m_imul C dX11_digest_117 ?_
                    refine m_topi (nI (392 * k)) (nn_mul rfl rfl) ?_
                    refine m_iadd C dX11_digest_118 ?_
                    refine m_topi (nI (392 + (392 * k))) (nn_add rfl rfl) ?_
                    refine m_bipush C 31 dX11_digest_119 (by decide +kernel) ?_
                    refine m_iadd C dX11_digest_121 ?_
                    refine m_topi (nI ((392 + (392 * k)) + 31)) (nn_add rfl rfl) ?_
                    refine m_iald C 65 (by decide) sa_65 ((392 + (392 * k)) + 31) rfl (by omega) (by decide) dX11_digest_122 ?_
                    refine m_topi (nI B.2.2.length) hB31 ?_
                    refine m_i2l C dX11_digest_123 ?_
                    refine m_topl (lN B.2.2.length) (ln_i2l rfl (by omega)) ?_
                    refine m_callVv C 64 (by decide) rfl rfl (c_X11_mix l G mu n1 (lN B.2.2.length)) wkX11_260 (by decide) rfl rfl (Nat.le_of_ble_eq_true rfl) dX11_digest_124 (fun m17 n17 hp17 => ?_)
                    obtain ⟨hmm17, hnn17⟩ := hp17
                    rw [hmm17]
                    have hd17 : DG mu nu z n17 (s_d4 (z_kp z) (s_d3 (z_V z) (s_d1 z 11) (z_N z)) (k + 1)) := dg_mix hd hnn17 (by show 31 * _ + s_kd (z_kp z k) = _; rw [hB]; rfl)
                    refine m_iinc C 1 (nI (k + 1)) [(1, .int (nI (k + 1))), (0, .ref (G.1 64))] dX11_digest_127 rfl (nn_add rfl (show Int32.ofInt 1 = nI 1 from rfl)) (by decide) rfl ?_
                    refine m_goto C 75 dX11_digest_130 (by decide) ?_
                    exact m_sub [1, 0] rfl (ih75 (k + 1) n17 (by omega) hd17 (by omega))
                  replace hh16 := (ii_eq (rfl : (mu 65 ((392 + (392 * k)) + 0)).toInt = _) (nn_i (a := 0) rfl (by omega))).mp hh16
                  have hB : z_kp z k = none := Option.not_isSome_iff_eq_none.mp (fun e => (zwk_is hkk hN7).mp e hh16)
                  refine m_ldc2 C (-1) wcX11_264 dX11_digest_100 ?_
                  refine m_goto C 124 dX11_digest_103 (by decide) ?_
                  refine m_callVv C 64 (by decide) rfl rfl (c_X11_mix l G mu n1 ((-1))) wkX11_260 (by decide) rfl rfl (Nat.le_of_ble_eq_true rfl) dX11_digest_124 (fun m18 n18 hp18 => ?_)
                  obtain ⟨hmm18, hnn18⟩ := hp18
                  rw [hmm18]
                  have hd18 : DG mu nu z n18 (s_d4 (z_kp z) (s_d3 (z_V z) (s_d1 z 11) (z_N z)) (k + 1)) := dg_mix hd hnn18 (by show 31 * _ + s_kd (z_kp z k) = _; rw [hB]; rfl)
                  refine m_iinc C 1 (nI (k + 1)) [(1, .int (nI (k + 1))), (0, .ref (G.1 64))] dX11_digest_127 rfl (nn_add rfl (show Int32.ofInt 1 = nI 1 from rfl)) (by decide) rfl ?_
                  refine m_goto C 75 dX11_digest_130 (by decide) ?_
                  exact m_sub [1, 0] rfl (ih75 (k + 1) n18 (by omega) hd18 (by omega))
              exact m_sub [1, 0] rfl (L75 (_ + 1) 0 n1 (Nat.zero_le _) hd (Nat.lt_succ_self _))
            replace hh2 := mt (ii_le (nn_i (a := z_N z) rfl (by omega)) (nn_i (a := i) rfl (by omega))).mpr hh2
            refine m_iconst C 0 dX11_digest_43 (by decide +kernel) ?_
            refine m_istore_n C [(2, .int 0), (0, .ref (G.1 64)), (1, .int (nI i))] dX11_digest_44 (by decide) rfl ?_
            have L45 : ∀ (fu : Nat) (w : Nat) (n2 : Nu) (hw5 : w ≤ 5) (hd2 : DG mu nu z n2 (s_d2 (z_V z) (s_d3 (z_V z) (s_d1 z 11) i) i w)), 5 - w < fu → Mq l G 3 X Q 45 [(0, .ref (G.1 64)), (1, .int (nI i)), (2, .int (nI w))] [] mu n2 := by
              intro fu
              induction fu with
              | zero => intro w n2 hw5 hd2 hm; exact absurd hm (Nat.not_lt_zero _)
              | succ fu ih45 =>
                intro w n2 hw5 hd2 hm
                refine m_iload_n C 2 dX11_digest_45 rfl ?_
                refine m_iconst C 5 dX11_digest_46 (by decide +kernel) ?_
                refine m_icmp_ge C 67 dX11_digest_47 (by decide) (fun hh19 => ?_) (fun hh19 => ?_)
                · replace hh19 := (ii_le (nn_i (a := 5) rfl (by omega)) (nn_i (a := w) rfl (by omega))).mp hh19
                  have ew5 : w = 5 := by omega
                  rw [ew5] at hd2
                  refine m_iinc C 1 (nI (i + 1)) [(1, .int (nI (i + 1))), (0, .ref (G.1 64)), (2, .int (nI w))] dX11_digest_67 rfl (nn_add rfl (show Int32.ofInt 1 = nI 1 from rfl)) (by decide) rfl ?_
                  refine m_goto C 33 dX11_digest_70 (by decide) ?_
                  exact m_sub [1, 0] rfl (ih33 (i + 1) n2 (by omega) hd2 (by omega))
                replace hh19 := mt (ii_le (nn_i (a := 5) rfl (by omega)) (nn_i (a := w) rfl (by omega))).mpr hh19
                refine m_aload_n C 0 dX11_digest_50 rfl ?_
                refine m_aload_n C 0 dX11_digest_51 rfl ?_
                refine m_iload_n C 1 dX11_digest_52 rfl ?_
                refine m_iload_n C 2 dX11_digest_53 rfl ?_
                refine m_callVf C 64 (by decide) rfl rfl (c_X11_rodOf l G mu n2 (z_V z) hv i (show i < z_N z by omega) w (by omega)) wkX11_138 (by decide) rfl rfl (Nat.le_of_ble_eq_true rfl) dX11_digest_54 ?_
                refine m_i2l C dX11_digest_57 ?_
                refine m_callVv C 64 (by decide) rfl rfl (c_X11_mix l G mu n2 ((s_of (z_V z) i w).toInt64)) wkX11_260 (by decide) rfl rfl (Nat.le_of_ble_eq_true rfl) dX11_digest_58 (fun m20 n20 hp20 => ?_)
                obtain ⟨hmm20, hnn20⟩ := hp20
                rw [hmm20]
                have hd20 : DG mu nu z n20 (s_d2 (z_V z) (s_d3 (z_V z) (s_d1 z 11) i) i (w + 1)) := dg_mix hd2 hnn20 rfl
                refine m_iinc C 2 (nI (w + 1)) [(2, .int (nI (w + 1))), (0, .ref (G.1 64)), (1, .int (nI i))] dX11_digest_61 rfl (nn_add rfl (show Int32.ofInt 1 = nI 1 from rfl)) (by decide) rfl ?_
                refine m_goto C 45 dX11_digest_64 (by decide) ?_
                exact m_sub [1, 2, 0] rfl (ih45 (w + 1) n20 (by omega) hd20 (by omega))
            exact m_sub [1, 2, 0] rfl (L45 (_ + 1) 0 n1 (Nat.zero_le _) hd (Nat.lt_succ_self _))
        exact m_sub [1, 0] rfl (L33 (_ + 1) 0 n1 (Nat.zero_le _) hd (Nat.lt_succ_self _))
      replace hh1 := mt (ii_le (nn_i (a := 11) rfl (by omega)) (nn_i (a := w) rfl (by omega))).mpr hh1
      refine m_aload_n C 0 dX11_digest_15 rfl ?_
      refine m_aload_n C 0 dX11_digest_16 rfl ?_
      refine m_iload_n C 1 dX11_digest_17 rfl ?_
      refine m_callVf C 64 (by decide) rfl rfl ((by rw [← s_cnt_eq (z := z) (w := w) (by omega)]; exact c_X11_count l G mu n1 z hd.1 (nI w) : Cf l G mX11_count 7 [.ref (G.1 64), .int (nI w)] mu n1 (.int (s_cnt z w)))) wkX11_257 (by decide) rfl rfl (Nat.le_of_ble_eq_true rfl) dX11_digest_18 ?_
      refine m_i2l C dX11_digest_21 ?_
      refine m_callVv C 64 (by decide) rfl rfl (c_X11_mix l G mu n1 ((s_cnt z w).toInt64)) wkX11_260 (by decide) rfl rfl (Nat.le_of_ble_eq_true rfl) dX11_digest_22 (fun m21 n21 hp21 => ?_)
      obtain ⟨hmm21, hnn21⟩ := hp21
      rw [hmm21]
      have hd21 : DG mu nu z n21 (s_d1 z (w + 1)) := dg_mix hd hnn21 rfl
      refine m_iinc C 1 (nI (w + 1)) [(1, .int (nI (w + 1))), (0, .ref (G.1 64))] dX11_digest_25 rfl (nn_add rfl (show Int32.ofInt 1 = nI 1 from rfl)) (by decide) rfl ?_
      refine m_goto C 9 dX11_digest_28 (by decide) ?_
      exact m_sub [1, 0] rfl (ih9 (w + 1) n21 (by omega) hd21 (by omega))
  exact m_sub [1, 0] rfl (L9 (_ + 1) 0 ((nu_up nu 64 23 17)) (Nat.zero_le _) hd0 (Nat.lt_succ_self _))
