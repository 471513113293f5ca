theorem fl_i {b : Int32} {P : Prop} (h : (b = 1 ∧ P) ∨ (b = 0 ∧ ¬ P)) : (b.toInt = 1 ∧ P) ∨ (b.toInt = 0 ∧ ¬ P) := by
  rcases h with ⟨e, q⟩ | ⟨e, q⟩
  · exact Or.inl ⟨by rw [e]; decide, q⟩
  · exact Or.inr ⟨by rw [e]; decide, q⟩
theorem fl_bI {b : Int32} {P : Prop} [Decidable P] (h : (b = 1 ∧ P) ∨ (b = 0 ∧ ¬ P)) : b = bI P := by
  rcases h with ⟨e, q⟩ | ⟨e, q⟩
  · rw [e]; exact bI_t q
  · rw [e]; exact bI_f q
theorem fl_nar {b : Int32} {P : Prop} (h : (b = 1 ∧ P) ∨ (b = 0 ∧ ¬ P)) : narrow .boolean (.int b) = .int b := by
  rcases h with ⟨e, q⟩ | ⟨e, q⟩ <;> (rw [e]; rfl)
theorem fl_t {b : Int32} {P : Prop} (h : (b = 1 ∧ P) ∨ (b = 0 ∧ ¬ P)) (hb : ¬ b.toInt = 0) : P := by
  rcases fl_i h with ⟨e, q⟩ | ⟨e, q⟩
  · exact q
  · omega
theorem fl_f {b : Int32} {P : Prop} (h : (b = 1 ∧ P) ∨ (b = 0 ∧ ¬ P)) (hb : b.toInt = 0) : ¬ P := by
  rcases fl_i h with ⟨e, q⟩ | ⟨e, q⟩
  · omega
  · exact q
def AP (x : Option (List Int32)) (mu : Mu) (nu : Nu) : Int32 → Mu → Nu → Prop := fun r m n2 => (s_prs x = 0 ∧ r = 0 ∧ m = mu ∧ n2 = nu) ∨ (¬ s_prs x = 0 ∧ r = -3 ∧ m = mu_up (mu_up mu 64 5 (nI (s_prs x))) 70 (s_prs x) (mu 70 (s_prs x) + 1) ∧ n2 = nu)
theorem ap_ok {x : Option (List Int32)} {mu m : Mu} {nu n2 : Nu} {r : Int32} (h : AP x mu nu r m n2) (hr : r.toInt = 0) : s_prs x = 0 ∧ m = mu ∧ n2 = nu := by
  rcases h with ⟨a, b, c, d⟩ | ⟨a, b, c, d⟩
  · exact ⟨a, c, d⟩
  · rw [b] at hr; exact absurd hr (by decide)
theorem PM_pairs {x : Option (List Int32)} {mu m : Mu} {nu n2 : Nu} {r : Int32} {z : Zt} {o : Int32 × Zt} (hz : ZM mu nu z) (h : AP x mu nu r m n2) (hr : ¬ r.toInt = 0) (e : ¬ s_prs x = 0 → o = (-3, u_find z (s_prs x))) : PM mu nu o r m n2 := by
  rcases h with ⟨a, b, c, d⟩ | ⟨a, b⟩
  · rw [b] at hr; exact absurd rfl hr
  · exact PM_find hz (Nat.lt_succ_of_le s_prs_le) b (e a)
def TS (V : Vw) (i bits k : Nat) (bl : Int32) (ls : Nat) : Prop := (k = 0 ∧ bl = -9 ∧ ls = 1000000000) ∨ ∃ j, k = j + 1 ∧ bl = nI (v_tt V i bits j).1 ∧ ls = (v_tt V i bits j).2
theorem ts_le {V : Vw} {i bits k ls : Nat} {bl : Int32} (h : TS V i bits k bl ls) : ls ≤ 1000000000 := by
  rcases h with ⟨-, -, h⟩ | ⟨j, -, -, h⟩
  · omega
  · have := (v_tt_le (V := V) (i := i) (bits := bits) j).1
    omega
theorem ts_new {V : Vw} {i bits k ls : Nat} {bl : Int32} (h : TS V i bits k bl ls) (hm : v_pa V i bits (k + 1) 6 < ls) : TS V i bits (k + 1) (nI (k + 1)) (v_pa V i bits (k + 1) 6) := by
  rcases h with ⟨rfl, -, -⟩ | ⟨j, rfl, -, h⟩
  · exact Or.inr ⟨0, rfl, rfl, rfl⟩
  · have e : v_tt V i bits (j + 1) = (j + 2, v_pa V i bits (j + 2) 6) := if_pos (by rw [← h]; exact hm)
    exact Or.inr ⟨j + 1, rfl, by rw [e], by rw [e]⟩
theorem ts_old {V : Vw} {i bits k ls : Nat} {bl : Int32} (h : TS V i bits k bl ls) (hm : ¬ v_pa V i bits (k + 1) 6 < ls) : TS V i bits (k + 1) bl ls := by
  rcases h with ⟨rfl, -, h⟩ | ⟨j, rfl, h1, h⟩
  · have := v_pa_le (V := V) (i := i) (bits := bits) (n := 0 + 1) 6
    omega
  · have e : v_tt V i bits (j + 1) = v_tt V i bits j := if_neg (by rw [← h]; exact hm)
    exact Or.inr ⟨j + 1, rfl, by rw [e]; exact h1, by rw [e]; exact h⟩
theorem ts_9 {V : Vw} {i bits ls : Nat} {bl : Int32} (h : TS V i bits 9 bl ls) : bl = nI (v_tt V i bits 8).1 ∧ ls = (v_tt V i bits 8).2 := by
  rcases h with ⟨h, -⟩ | ⟨j, hj, h1, h2⟩
  · exact absurd h (by decide)
  · have : j = 8 := by omega
    subst this
    exact ⟨h1, h2⟩
theorem ts_0 {V : Vw} {i bits ls : Nat} {bl : Int32} (h : TS V i bits 0 bl ls) : bl = -9 := by
  rcases h with ⟨-, h, -⟩ | ⟨j, hj, -⟩
  · exact h
  · exact absurd hj (by omega)
set_option maxHeartbeats 4000000 in
set_option maxRecDepth 100000 in
theorem c_X11_againstPairs (l : Launch) (G : Gl) (mu : Mu) (nu : Nu) (r : Nat) (hr : r < 6) (x : Option (List Int32)) (hx : z_ar mu 66 67 40 r x) : Ci l G mX11_againstPairs 3 [.ref (G.1 64), .int (nI r)] mu nu (AP x mu nu) := by
  refine Ct.of (lv := [(0, .ref (G.1 64)), (1, .int (nI r))]) rfl rfl (Nat.le_of_ble_eq_true rfl) rfl (fun X C => ?_)
  generalize hQ : g_E G X _ = Q
  replace C : Cx G 4 X cX11_againstPairs RX11 (some .int) 3 := C
  show Mq l G 4 X Q 0 [(0, .ref (G.1 64)), (1, .int (nI r))] [] mu nu
  refine m_aload_n C 0 dX11_againstPairs_0 rfl ?_
  refine gfX11_13 C dX11_againstPairs_1 ?_
  refine m_iload_n C 1 dX11_againstPairs_4 rfl ?_
  refine m_iald C 66 (by decide) sa_66 r rfl (by omega) (by decide) dX11_againstPairs_5 ?_
  refine m_if_ge C 15 dX11_againstPairs_6 (by decide) (fun hh1 => ?_) (fun hh1 => ?_)
  · replace hh1 := (ii_le (nn_i (a := 0) rfl (by omega)) (rfl : (mu 66 r).toInt = _)).mp hh1
    obtain ⟨xs, hxe, hx1, hx2, hx3⟩ := za_some hx hh1
    refine m_aload_n C 0 dX11_againstPairs_15 rfl ?_
    refine gfX11_13 C dX11_againstPairs_16 ?_
    refine m_iload_n C 1 dX11_againstPairs_19 rfl ?_
    refine m_iald C 66 (by decide) sa_66 r rfl (by omega) (by decide) dX11_againstPairs_20 ?_
    refine m_topi (nI xs.length) hx1 ?_
    refine m_iconst C 2 dX11_againstPairs_21 (by decide +kernel) ?_
    refine m_irem C dX11_againstPairs_22 (by decide) ?_
    refine m_topi (nI (xs.length % 2)) (nn_rem rfl rfl (by omega) (by omega) (by omega)) ?_
    refine m_iconst C 1 dX11_againstPairs_23 (by decide +kernel) ?_
    refine m_icmp_ne C 33 dX11_againstPairs_24 (by decide) (fun hh2 => ?_) (fun hh2 => ?_)
    · replace hh2 := mt (ii_eq (nn_i (a := xs.length % 2) rfl (by omega)) (nn_i (a := 1) rfl (by omega))).mpr hh2
      refine m_iconst C 1 dX11_againstPairs_33 (by decide +kernel) ?_
      refine m_istore_n C [(2, .int 1), (0, .ref (G.1 64)), (1, .int (nI r))] dX11_againstPairs_34 (by decide) rfl ?_
      refine m_iconst C 0 dX11_againstPairs_35 (by decide +kernel) ?_
      refine m_istore_n C [(3, .int 0), (2, .int 1), (0, .ref (G.1 64)), (1, .int (nI r))] dX11_againstPairs_36 (by decide) rfl ?_
      have L37 : ∀ (fu : Nat) (k : Nat) (b : Int32) (hk : 2 * k ≤ xs.length) (hb : (b = 1 ∧ ∀ j, j < k → (1 ≤ (xs.getD (2 * j) 0).toInt ∧ (xs.getD (2 * j) 0).toInt < 10) ∧ 0 ≤ (xs.getD (2 * j + 1) 0).toInt ∧ (xs.getD (2 * j + 1) 0).toInt ≤ 999999999) ∨ (b = 0 ∧ ¬ ∀ j, j < k → (1 ≤ (xs.getD (2 * j) 0).toInt ∧ (xs.getD (2 * j) 0).toInt < 10) ∧ 0 ≤ (xs.getD (2 * j + 1) 0).toInt ∧ (xs.getD (2 * j + 1) 0).toInt ≤ 999999999)), xs.length - 2 * k < fu → Mq l G 4 X Q 37 [(0, .ref (G.1 64)), (1, .int (nI r)), (2, .int b), (3, .int (nI (2 * k)))] [] mu nu := by
        intro fu
        induction fu with
        | zero => intro k b hk hb hm; exact absurd hm (Nat.not_lt_zero _)
        | succ fu ih37 =>
          intro k b hk hb hm
          refine m_iload_n C 3 dX11_againstPairs_37 rfl ?_
          refine m_aload_n C 0 dX11_againstPairs_38 rfl ?_
          refine gfX11_13 C dX11_againstPairs_39 ?_
          refine m_iload_n C 1 dX11_againstPairs_42 rfl ?_
          refine m_iald C 66 (by decide) sa_66 r rfl (by omega) (by decide) dX11_againstPairs_43 ?_
          refine m_topi (nI xs.length) hx1 ?_
          refine m_icmp_ge C 104 dX11_againstPairs_44 (by decide) (fun hh3 => ?_) (fun hh3 => ?_)
          · replace hh3 := (ii_le (nn_i (a := xs.length) rfl (by omega)) (nn_i (a := 2 * k) rfl (by omega))).mp hh3
            refine m_iload_n C 2 dX11_againstPairs_104 rfl ?_
            refine m_if_eq C 112 dX11_againstPairs_105 (by decide) (fun hh4 => ?_) (fun hh4 => ?_)
            · replace hh4 := (ii_eq (rfl : (b).toInt = _) (nn_i (a := 0) rfl (by omega))).mp hh4
              refine m_aload_n C 0 dX11_againstPairs_112 rfl ?_
              refine m_iconst C 3 dX11_againstPairs_113 (by decide +kernel) ?_
              refine m_callVi C 64 (by decide) rfl rfl (c_X11_finds l G mu nu 3 (by decide)) wkX11_80 (by decide) rfl rfl (Nat.le_of_ble_eq_true rfl) dX11_againstPairs_114 (fun r5 m5 n5 hp5 => ?_)
              refine m_ireti C hQ dX11_againstPairs_117 ?_
              have e3 : s_prs (some xs) = 3 := by unfold s_prs; dsimp only; rw [if_neg (by omega), if_neg (fun hall => fl_f hb hh4 (fun j hj => hall j (by omega)))]
              exact Or.inr ⟨by rw [hxe, e3]; decide, by rw [hxe, e3]; exact hp5⟩
            replace hh4 := mt (ii_eq (rfl : (b).toInt = _) (nn_i (a := 0) rfl (by omega))).mpr hh4
            refine m_iconst C 0 dX11_againstPairs_108 (by decide +kernel) ?_
            refine m_goto C 117 dX11_againstPairs_109 (by decide) ?_
            refine m_ireti C hQ dX11_againstPairs_117 ?_
            have e0 : s_prs (some xs) = 0 := by unfold s_prs; dsimp only; rw [if_neg (by omega), if_pos (fun j hj => fl_t hb hh4 j (by omega))]
            exact Or.inl ⟨by rw [hxe]; exact e0, rfl, rfl, rfl⟩
          replace hh3 := mt (ii_le (nn_i (a := xs.length) rfl (by omega)) (nn_i (a := 2 * k) rfl (by omega))).mpr hh3
          refine m_iload_n C 2 dX11_againstPairs_47 rfl ?_
          refine m_if_eq C 96 dX11_againstPairs_48 (by decide) (fun hh6 => ?_) (fun hh6 => ?_)
          · replace hh6 := (ii_eq (rfl : (b).toInt = _) (nn_i (a := 0) rfl (by omega))).mp hh6
            have hno := fl_f hb hh6
            refine m_iconst C 0 dX11_againstPairs_96 (by decide +kernel) ?_
            refine m_istore_n C [(2, .int 0), (0, .ref (G.1 64)), (1, .int (nI r)), (3, .int (nI (2 * k)))] dX11_againstPairs_97 (by decide) rfl ?_
            refine m_iinc C 3 (nI (2 * k + 2)) [(3, .int (nI (2 * k + 2))), (2, .int 0), (0, .ref (G.1 64)), (1, .int (nI r))] dX11_againstPairs_98 rfl (nn_add rfl (show Int32.ofInt 2 = nI 2 from rfl)) (by decide) rfl ?_
            refine m_goto C 37 dX11_againstPairs_101 (by decide) ?_
            exact m_sub [2, 3, 1, 0] rfl (ih37 (k + 1) 0 (by omega) (Or.inr ⟨rfl, fun h => hno (fun j hj => h j (by omega))⟩) (by omega))
          replace hh6 := mt (ii_eq (rfl : (b).toInt = _) (nn_i (a := 0) rfl (by omega))).mpr hh6
          have hall := fl_t hb hh6
          refine m_aload_n C 0 dX11_againstPairs_51 rfl ?_
          refine gfX11_16 C dX11_againstPairs_52 ?_
          refine m_bipush C 40 dX11_againstPairs_55 (by decide +kernel) ?_
          refine m_iload_n C 1 dX11_againstPairs_57 rfl ?_
          refine m_imul C dX11_againstPairs_58 ?_
          refine m_topi (nI (40 * r)) (nn_mul rfl rfl) ?_
          refine m_iload_n C 3 dX11_againstPairs_59 rfl ?_
          refine m_iadd C dX11_againstPairs_60 ?_
          refine m_topi (nI ((40 * r) + (2 * k))) (nn_add rfl rfl) ?_
          refine m_iald C 67 (by decide) sa_67 ((40 * r) + (2 * k)) rfl (by omega) (by decide) dX11_againstPairs_61 ?_
          refine m_topi (xs.getD (2 * k) 0) (hx3 _ (by omega)) ?_
          refine m_callSf C (c_X11_isLine l G mu nu (xs.getD (2 * k) 0)) wkX11_151 (by decide) rfl rfl (Nat.le_of_ble_eq_true rfl) dX11_againstPairs_62 ?_
          refine m_if_eq C 96 dX11_againstPairs_65 (by decide) (fun hh7 => ?_) (fun hh7 => ?_)
          · replace hh7 := bI_eq0.mp hh7
            have hk0 : ¬ ((1 ≤ (xs.getD (2 * k) 0).toInt ∧ (xs.getD (2 * k) 0).toInt < 10) ∧ 0 ≤ (xs.getD (2 * k + 1) 0).toInt ∧ (xs.getD (2 * k + 1) 0).toInt ≤ 999999999) := by omega
            refine m_iconst C 0 dX11_againstPairs_96 (by decide +kernel) ?_
            refine m_istore_n C [(2, .int 0), (0, .ref (G.1 64)), (1, .int (nI r)), (3, .int (nI (2 * k)))] dX11_againstPairs_97 (by decide) rfl ?_
            refine m_iinc C 3 (nI (2 * k + 2)) [(3, .int (nI (2 * k + 2))), (2, .int 0), (0, .ref (G.1 64)), (1, .int (nI r))] dX11_againstPairs_98 rfl (nn_add rfl (show Int32.ofInt 2 = nI 2 from rfl)) (by decide) rfl ?_
            refine m_goto C 37 dX11_againstPairs_101 (by decide) ?_
            exact m_sub [2, 3, 1, 0] rfl (ih37 (k + 1) 0 (by omega) (Or.inr ⟨rfl, fun h => absurd (h k (by omega)) hk0⟩) (by omega))
          replace hh7 := bI_ne0.mp hh7
          refine m_aload_n C 0 dX11_againstPairs_68 rfl ?_
          refine gfX11_16 C dX11_againstPairs_69 ?_
          refine m_bipush C 40 dX11_againstPairs_72 (by decide +kernel) ?_
          refine m_iload_n C 1 dX11_againstPairs_74 rfl ?_
          refine m_imul C dX11_againstPairs_75 ?_
          refine m_topi (nI (40 * r)) (nn_mul rfl rfl) ?_
          refine m_iload_n C 3 dX11_againstPairs_76 rfl ?_
          refine m_iadd C dX11_againstPairs_77 ?_
          refine m_topi (nI ((40 * r) + (2 * k))) (nn_add rfl rfl) ?_
          refine m_iconst C 1 dX11_againstPairs_78 (by decide +kernel) ?_
          refine m_iadd C dX11_againstPairs_79 ?_
          refine m_topi (nI (((40 * r) + (2 * k)) + 1)) (nn_add rfl rfl) ?_
          refine m_iald C 67 (by decide) sa_67 (((40 * r) + (2 * k)) + 1) rfl (by omega) (by decide) dX11_againstPairs_80 ?_
          refine m_topi (xs.getD (2 * k + 1) 0) (hx3 (2 * k + 1) (by omega)) ?_
          refine m_i2l C dX11_againstPairs_81 ?_
          refine m_lconst C 0 dX11_againstPairs_82 rfl ?_
          refine m_ldc2 C 999999999 wcX11_194 dX11_againstPairs_83 ?_
          refine m_callSf C (c_in (a := (xs.getD (2 * k + 1) 0).toInt) (b := ((0 : Nat) : Int)) (c := ((999999999 : Nat) : Int)) ((tl_i _).trans (rfl : (xs.getD (2 * k + 1) 0).toInt = _)) (ln_i (a := 0) rfl (by omega)) (ln_i (a := 999999999) rfl (by omega))) wkX11_68 (by decide) rfl rfl (Nat.le_of_ble_eq_true rfl) dX11_againstPairs_86 ?_
          refine m_if_eq C 96 dX11_againstPairs_89 (by decide) (fun hh8 => ?_) (fun hh8 => ?_)
          · replace hh8 := bI_eq0.mp hh8
            have hk0 : ¬ ((1 ≤ (xs.getD (2 * k) 0).toInt ∧ (xs.getD (2 * k) 0).toInt < 10) ∧ 0 ≤ (xs.getD (2 * k + 1) 0).toInt ∧ (xs.getD (2 * k + 1) 0).toInt ≤ 999999999) := by omega
            refine m_iconst C 0 dX11_againstPairs_96 (by decide +kernel) ?_
            refine m_istore_n C [(2, .int 0), (0, .ref (G.1 64)), (1, .int (nI r)), (3, .int (nI (2 * k)))] dX11_againstPairs_97 (by decide) rfl ?_
            refine m_iinc C 3 (nI (2 * k + 2)) [(3, .int (nI (2 * k + 2))), (2, .int 0), (0, .ref (G.1 64)), (1, .int (nI r))] dX11_againstPairs_98 rfl (nn_add rfl (show Int32.ofInt 2 = nI 2 from rfl)) (by decide) rfl ?_
            refine m_goto C 37 dX11_againstPairs_101 (by decide) ?_
            exact m_sub [2, 3, 1, 0] rfl (ih37 (k + 1) 0 (by omega) (Or.inr ⟨rfl, fun h => absurd (h k (by omega)) hk0⟩) (by omega))
          replace hh8 := bI_ne0.mp hh8
          have hk1 : (1 ≤ (xs.getD (2 * k) 0).toInt ∧ (xs.getD (2 * k) 0).toInt < 10) ∧ 0 ≤ (xs.getD (2 * k + 1) 0).toInt ∧ (xs.getD (2 * k + 1) 0).toInt ≤ 999999999 := by omega
          refine m_iconst C 1 dX11_againstPairs_92 (by decide +kernel) ?_
          refine m_goto C 97 dX11_againstPairs_93 (by decide) ?_
          refine m_istore_n C [(2, .int 1), (0, .ref (G.1 64)), (1, .int (nI r)), (3, .int (nI (2 * k)))] dX11_againstPairs_97 (by decide) rfl ?_
          refine m_iinc C 3 (nI (2 * k + 2)) [(3, .int (nI (2 * k + 2))), (2, .int 1), (0, .ref (G.1 64)), (1, .int (nI r))] dX11_againstPairs_98 rfl (nn_add rfl (show Int32.ofInt 2 = nI 2 from rfl)) (by decide) rfl ?_
          refine m_goto C 37 dX11_againstPairs_101 (by decide) ?_
          exact m_sub [2, 3, 1, 0] rfl (ih37 (k + 1) 1 (by omega) (Or.inl ⟨rfl, fun j hj => by
                    by_cases e : j = k
                    · rw [e]; exact hk1
                    · exact hall j (by omega)⟩) (by omega))
      exact m_sub [2, 3, 1, 0] rfl (L37 (_ + 1) 0 1 (Nat.zero_le _) (Or.inl ⟨rfl, fun j hj => absurd hj (Nat.not_lt_zero _)⟩) (Nat.lt_succ_self _))
    replace hh2 := (ii_eq (nn_i (a := xs.length % 2) rfl (by omega)) (nn_i (a := 1) rfl (by omega))).mp hh2
    refine m_aload_n C 0 dX11_againstPairs_27 rfl ?_
    refine m_iconst C 5 dX11_againstPairs_28 (by decide +kernel) ?_
    refine m_callVi C 64 (by decide) rfl rfl (c_X11_finds l G mu nu 5 (by decide)) wkX11_80 (by decide) rfl rfl (Nat.le_of_ble_eq_true rfl) dX11_againstPairs_29 (fun r9 m9 n9 hp9 => ?_)
    refine m_ireti C hQ dX11_againstPairs_32 ?_
    have e5 : s_prs (some xs) = 5 := by unfold s_prs; dsimp only; rw [if_pos (by omega)]
    exact Or.inr ⟨by rw [hxe, e5]; decide, by rw [hxe, e5]; exact hp9⟩
  replace hh1 := mt (ii_le (nn_i (a := 0) rfl (by omega)) (rfl : (mu 66 r).toInt = _)).mpr hh1
  refine m_aload_n C 0 dX11_againstPairs_9 rfl ?_
  refine m_iconst C 1 dX11_againstPairs_10 (by decide +kernel) ?_
  refine m_callVi C 64 (by decide) rfl rfl (c_X11_finds l G mu nu 1 (by decide)) wkX11_80 (by decide) rfl rfl (Nat.le_of_ble_eq_true rfl) dX11_againstPairs_11 (fun r10 m10 n10 hp10 => ?_)
  refine m_ireti C hQ dX11_againstPairs_14 ?_
  have hxe := za_none hx (by decide) (by omega)
  exact Or.inr ⟨by rw [hxe]; decide, by rw [hxe]; exact hp10⟩

set_option maxHeartbeats 4000000 in
set_option maxRecDepth 100000 in
theorem c_X11_showedSo (l : Launch) (G : Gl) (mu : Mu) (nu : Nu) (kd : Nat) (hkd : kd < 6) (d m : Nat) (hd : d ≤ 9) (hm9 : m ≤ 9) (r : Nat) (hr : r < 6) (xs : List Int32) (hx1 : mu 66 r = nI xs.length) (hx2 : xs.length ≤ 40) (hx3 : ∀ j, j < xs.length → mu 67 (40 * r + j) = xs.getD j 0) (hev : xs.length % 2 = 0) (hok : ∀ j, j < xs.length / 2 → (1 ≤ (xs.getD (2 * j) 0).toInt ∧ (xs.getD (2 * j) 0).toInt < 10) ∧ 0 ≤ (xs.getD (2 * j + 1) 0).toInt ∧ (xs.getD (2 * j + 1) 0).toInt ≤ 999999999) : Cf l G mX11_showedSo 3 [.ref (G.1 64), .int (nI kd), .int (nI d), .int (nI m), .int (nI r)] mu nu (.int (bI (∀ j, j < xs.length / 2 → nI (s_sh kd d m (s_ln xs j)) = xs.getD (2 * j + 1) 0))) := by
  refine Ct.of (lv := [(0, .ref (G.1 64)), (1, .int (nI kd)), (2, .int (nI d)), (3, .int (nI m)), (4, .int (nI r))]) rfl rfl (Nat.le_of_ble_eq_true rfl) rfl (fun X C => ?_)
  generalize hQ : g_E G X _ = Q
  replace C : Cx G 7 X cX11_showedSo RX11 (some .boolean) 3 := C
  show Mq l G 7 X Q 0 [(0, .ref (G.1 64)), (1, .int (nI kd)), (2, .int (nI d)), (3, .int (nI m)), (4, .int (nI r))] [] mu nu
  refine m_iconst C 1 dX11_showedSo_0 (by decide +kernel) ?_
  refine m_istore C [(5, .int 1), (0, .ref (G.1 64)), (1, .int (nI kd)), (2, .int (nI d)), (3, .int (nI m)), (4, .int (nI r))] dX11_showedSo_1 (by decide) rfl ?_
  refine m_iconst C 0 dX11_showedSo_3 (by decide +kernel) ?_
  refine m_istore C [(6, .int 0), (5, .int 1), (0, .ref (G.1 64)), (1, .int (nI kd)), (2, .int (nI d)), (3, .int (nI m)), (4, .int (nI r))] dX11_showedSo_4 (by decide) rfl ?_
  have L6 : ∀ (fu : Nat) (k : Nat) (b : Int32) (hk : 2 * k ≤ xs.length) (hb : (b = 1 ∧ ∀ j, j < k → nI (s_sh kd d m (s_ln xs j)) = xs.getD (2 * j + 1) 0) ∨ (b = 0 ∧ ¬ ∀ j, j < k → nI (s_sh kd d m (s_ln xs j)) = xs.getD (2 * j + 1) 0)), xs.length - 2 * k < fu → Mq l G 7 X Q 6 [(0, .ref (G.1 64)), (1, .int (nI kd)), (2, .int (nI d)), (3, .int (nI m)), (4, .int (nI r)), (5, .int b), (6, .int (nI (2 * k)))] [] mu nu := by
    intro fu
    induction fu with
    | zero => intro k b hk hb hm; exact absurd hm (Nat.not_lt_zero _)
    | succ fu ih6 =>
      intro k b hk hb hm
      refine m_iload C 6 dX11_showedSo_6 rfl ?_
      refine m_aload_n C 0 dX11_showedSo_8 rfl ?_
      refine gfX11_13 C dX11_showedSo_9 ?_
      refine m_iload C 4 dX11_showedSo_12 rfl ?_
      refine m_iald C 66 (by decide) sa_66 r rfl (by omega) (by decide) dX11_showedSo_14 ?_
      refine m_topi (nI xs.length) hx1 ?_
      refine m_icmp_ge C 73 dX11_showedSo_15 (by decide) (fun hh1 => ?_) (fun hh1 => ?_)
      · replace hh1 := (ii_le (nn_i (a := xs.length) rfl (by omega)) (nn_i (a := 2 * k) rfl (by omega))).mp hh1
        refine m_iload C 5 dX11_showedSo_73 rfl ?_
        refine m_zretf C hQ dX11_showedSo_75 (fl_nar hb) rfl rfl ?_
        rw [fl_bI hb]; exact bI_congr ⟨fun h j hj => h j (by omega), fun h j hj => h j (by omega)⟩
      replace hh1 := mt (ii_le (nn_i (a := xs.length) rfl (by omega)) (nn_i (a := 2 * k) rfl (by omega))).mpr hh1
      obtain ⟨hp1, hp2, hp3⟩ := s_ln_eq (hok k (by omega))
      have hs := s_sh_le (k := kd) (m := m) hd hp3
      refine m_iload C 5 dX11_showedSo_18 rfl ?_
      refine m_if_eq C 64 dX11_showedSo_20 (by decide) (fun hh2 => ?_) (fun hh2 => ?_)
      · replace hh2 := (ii_eq (rfl : (b).toInt = _) (nn_i (a := 0) rfl (by omega))).mp hh2
        have hno := fl_f hb hh2
        refine m_iconst C 0 dX11_showedSo_64 (by decide +kernel) ?_
        refine m_istore C [(5, .int 0), (0, .ref (G.1 64)), (1, .int (nI kd)), (2, .int (nI d)), (3, .int (nI m)), (4, .int (nI r)), (6, .int (nI (2 * k)))] dX11_showedSo_65 (by decide) rfl ?_
        refine m_iinc C 6 (nI (2 * k + 2)) [(6, .int (nI (2 * k + 2))), (5, .int 0), (0, .ref (G.1 64)), (1, .int (nI kd)), (2, .int (nI d)), (3, .int (nI m)), (4, .int (nI r))] dX11_showedSo_67 rfl (nn_add rfl (show Int32.ofInt 2 = nI 2 from rfl)) (by decide) rfl ?_
        refine m_goto C 6 dX11_showedSo_70 (by decide) ?_
        exact m_sub [2, 3, 4, 5, 6, 1, 0] rfl (ih6 (k + 1) 0 (by omega) (Or.inr ⟨rfl, fun h => hno (fun j hj => h j (by omega))⟩) (by omega))
      replace hh2 := mt (ii_eq (rfl : (b).toInt = _) (nn_i (a := 0) rfl (by omega))).mpr hh2
      have hall := fl_t hb hh2
      refine m_iload_n C 1 dX11_showedSo_23 rfl ?_
      refine m_iload_n C 2 dX11_showedSo_24 rfl ?_
      refine m_iload_n C 3 dX11_showedSo_25 rfl ?_
      refine m_aload_n C 0 dX11_showedSo_26 rfl ?_
      refine gfX11_16 C dX11_showedSo_27 ?_
      refine m_bipush C 40 dX11_showedSo_30 (by decide +kernel) ?_
      refine m_iload C 4 dX11_showedSo_32 rfl ?_
      refine m_imul C dX11_showedSo_34 ?_
      refine m_topi (nI (40 * r)) (nn_mul rfl rfl) ?_
      refine m_iload C 6 dX11_showedSo_35 rfl ?_
      refine m_iadd C dX11_showedSo_37 ?_
      refine m_topi (nI ((40 * r) + (2 * k))) (nn_add rfl rfl) ?_
      refine m_iald C 67 (by decide) sa_67 ((40 * r) + (2 * k)) rfl (by omega) (by decide) dX11_showedSo_38 ?_
      refine m_topi (nI (s_ln xs k)) ((hx3 (2 * k) (by omega)).trans hp1) ?_
      refine m_callSf C (c_X11_showsBy l G mu nu kd (by omega) d m (s_ln xs k) (by omega) (by omega) (by omega) (by omega)) wkX11_126 (by decide) rfl rfl (Nat.le_of_ble_eq_true rfl) dX11_showedSo_39 ?_
      refine m_aload_n C 0 dX11_showedSo_42 rfl ?_
      refine gfX11_16 C dX11_showedSo_43 ?_
      refine m_bipush C 40 dX11_showedSo_46 (by decide +kernel) ?_
      refine m_iload C 4 dX11_showedSo_48 rfl ?_
      refine m_imul C dX11_showedSo_50 ?_
      refine m_topi (nI (40 * r)) (nn_mul rfl rfl) ?_
      refine m_iload C 6 dX11_showedSo_51 rfl ?_
      refine m_iadd C dX11_showedSo_53 ?_
      refine m_topi (nI ((40 * r) + (2 * k))) (nn_add rfl rfl) ?_
      refine m_iconst C 1 dX11_showedSo_54 (by decide +kernel) ?_
      refine m_iadd C dX11_showedSo_55 ?_
      refine m_topi (nI (((40 * r) + (2 * k)) + 1)) (nn_add rfl rfl) ?_
      refine m_iald C 67 (by decide) sa_67 (((40 * r) + (2 * k)) + 1) rfl (by omega) (by decide) dX11_showedSo_56 ?_
      refine m_topi (xs.getD (2 * k + 1) 0) (hx3 (2 * k + 1) (by omega)) ?_
      refine m_icmp_ne C 64 dX11_showedSo_57 (by decide) (fun hh3 => ?_) (fun hh3 => ?_)
      · replace hh3 := mt (ii_eq (nn_i (a := s_sh kd d m (s_ln xs k)) rfl (by omega)) (rfl : (xs.getD (2 * k + 1) 0).toInt = _)).mpr hh3
        have hk0 : ¬ (nI (s_sh kd d m (s_ln xs k)) = xs.getD (2 * k + 1) 0) := fun e => hh3 (by rw [← e, nI_toInt (by omega)])
        refine m_iconst C 0 dX11_showedSo_64 (by decide +kernel) ?_
        refine m_istore C [(5, .int 0), (0, .ref (G.1 64)), (1, .int (nI kd)), (2, .int (nI d)), (3, .int (nI m)), (4, .int (nI r)), (6, .int (nI (2 * k)))] dX11_showedSo_65 (by decide) rfl ?_
        refine m_iinc C 6 (nI (2 * k + 2)) [(6, .int (nI (2 * k + 2))), (5, .int 0), (0, .ref (G.1 64)), (1, .int (nI kd)), (2, .int (nI d)), (3, .int (nI m)), (4, .int (nI r))] dX11_showedSo_67 rfl (nn_add rfl (show Int32.ofInt 2 = nI 2 from rfl)) (by decide) rfl ?_
        refine m_goto C 6 dX11_showedSo_70 (by decide) ?_
        exact m_sub [2, 3, 4, 5, 6, 1, 0] rfl (ih6 (k + 1) 0 (by omega) (Or.inr ⟨rfl, fun h => absurd (h k (by omega)) hk0⟩) (by omega))
      replace hh3 := (ii_eq (nn_i (a := s_sh kd d m (s_ln xs k)) rfl (by omega)) (rfl : (xs.getD (2 * k + 1) 0).toInt = _)).mp hh3
      have hk1 : nI (s_sh kd d m (s_ln xs k)) = xs.getD (2 * k + 1) 0 := Int32.toInt_inj.mp ((nI_toInt (by omega)).trans hh3)
      refine m_iconst C 1 dX11_showedSo_60 (by decide +kernel) ?_
      refine m_goto C 65 dX11_showedSo_61 (by decide) ?_
      refine m_istore C [(5, .int 1), (0, .ref (G.1 64)), (1, .int (nI kd)), (2, .int (nI d)), (3, .int (nI m)), (4, .int (nI r)), (6, .int (nI (2 * k)))] dX11_showedSo_65 (by decide) rfl ?_
      refine m_iinc C 6 (nI (2 * k + 2)) [(6, .int (nI (2 * k + 2))), (5, .int 1), (0, .ref (G.1 64)), (1, .int (nI kd)), (2, .int (nI d)), (3, .int (nI m)), (4, .int (nI r))] dX11_showedSo_67 rfl (nn_add rfl (show Int32.ofInt 2 = nI 2 from rfl)) (by decide) rfl ?_
      refine m_goto C 6 dX11_showedSo_70 (by decide) ?_
      exact m_sub [2, 3, 4, 5, 6, 1, 0] rfl (ih6 (k + 1) 1 (by omega) (Or.inl ⟨rfl, fun j hj => by
                by_cases e : j = k
                · rw [e]; exact hk1
                · exact hall j (by omega)⟩) (by omega))
  exact m_sub [2, 3, 4, 5, 6, 1, 0] rfl (L6 (_ + 1) 0 1 (Nat.zero_le _) (Or.inl ⟨rfl, fun j hj => absurd hj (Nat.not_lt_zero _)⟩) (Nat.lt_succ_self _))

set_option maxHeartbeats 4000000 in
set_option maxRecDepth 100000 in
theorem c_X11_digits (l : Launch) (G : Gl) (mu : Mu) (nu : Nu) (z : Zt) (hz : ZM mu nu z) (i r : Int32) : Ci l G mX11_digits 6 [.ref (G.1 64), .int i, .int r] mu nu (PM mu nu (s_digits z i r)) := by
  have hv : zm mu (z_V z) := zm_v hz
  have hw := hv.1
  have hN7 := hw.1
  have hm7 := hw.2.2.1
  have ho8 := hw.2.2.2.2
  have hcz : ((v_N (z_V z) : Nat) : Int) = ((z_N z : Nat) : Int) := rfl
  refine Ct.of (lv := [(0, .ref (G.1 64)), (1, .int i), (2, .int r)]) rfl rfl (Nat.le_of_ble_eq_true rfl) rfl (fun X C => ?_)
  generalize hQ : g_E G X _ = Q
  replace C : Cx G 6 X cX11_digits RX11 (some .int) 6 := C
  show Mq l G 6 X Q 0 [(0, .ref (G.1 64)), (1, .int i), (2, .int r)] [] mu nu
  refine m_aload_n C 0 dX11_digits_0 rfl ?_
  refine m_iload_n C 1 dX11_digits_1 rfl ?_
  refine m_callVf C 64 (by decide) rfl rfl (c_X11_isRod l G mu nu (z_V z) hv i) wkX11_133 (by decide) rfl rfl (Nat.le_of_ble_eq_true rfl) dX11_digits_2 ?_
  refine m_if_eq C 15 dX11_digits_5 (by decide) (fun hh1 => ?_) (fun hh1 => ?_)
  · replace hh1 := bI_eq0.mp hh1
    refine m_iconst C (-1) dX11_digits_15 (by decide +kernel) ?_
    refine m_ireti C hQ dX11_digits_16 ?_
    exact PM_of (by unfold s_digits; rw [if_pos (by omega)]) hz zcm_rfl
  replace hh1 := bI_ne0.mp hh1
  refine m_iload_n C 2 dX11_digits_8 rfl ?_
  refine m_callSf C (c_X11_isRow l G mu nu r) wkX11_76 (by decide) rfl rfl (Nat.le_of_ble_eq_true rfl) dX11_digits_9 ?_
  refine m_if_ne C 17 dX11_digits_12 (by decide) (fun hh2 => ?_) (fun hh2 => ?_)
  · replace hh2 := bI_ne0.mp hh2
    obtain ⟨ei, ki⟩ := ix_eq (x := i) (by omega)
    have hi : ix i < v_N (z_V z) := by omega
    have hri := hw.2.1 (ix i) hi
    have hdi := v_dg_le hw hi
    obtain ⟨er, kr⟩ := ix_eq (x := r) (by omega)
    refine m_aload_n C 0 dX11_digits_17 rfl ?_
    refine m_iload_n C 2 dX11_digits_18 rfl ?_
    refine m_topi (nI (ix r)) er ?_
    refine m_callVi C 64 (by decide) rfl rfl (c_X11_againstPairs l G mu nu (ix r) (by omega) (z_rw z (ix r)) (hz.2.2.2.2.1 (ix r) (by omega))) wkX11_196 (by decide) rfl rfl (Nat.le_of_ble_eq_true rfl) dX11_digits_19 (fun r3 m3 n3 hp3 => ?_)
    refine m_istore_n C [(3, .int r3), (0, .ref (G.1 64)), (1, .int i), (2, .int r)] dX11_digits_22 (by decide) rfl ?_
    refine m_iload_n C 0 dX11_digits_23 rfl ?_
    refine m_if_eq C 29 dX11_digits_24 (by decide) (fun hh4 => ?_) (fun hh4 => ?_)
    · replace hh4 := (ii_eq (rfl : (r3).toInt = _) (nn_i (a := 0) rfl (by omega))).mp hh4
      obtain ⟨hp0, hm0, hn0⟩ := ap_ok hp3 hh4
      rw [hm0, hn0]
      obtain ⟨xs, hxe, hev, hok⟩ := s_prs0 hp0
      have hxs0 := hz.2.2.2.2.1 (ix r) (by omega)
      rw [hxe] at hxs0
      obtain ⟨hx1, hx2, hx3⟩ := hxs0
      have hx0 : s_row0 (z_rw z (ix r)) = xs := by rw [hxe]; rfl
      refine m_iconst C 0 dX11_digits_29 (by decide +kernel) ?_
      refine m_istore C [(4, .int 0), (3, .int r3), (0, .ref (G.1 64)), (1, .int i), (2, .int r)] dX11_digits_30 (by decide) rfl ?_
      refine m_iconst C 0 dX11_digits_32 (by decide +kernel) ?_
      refine m_istore C [(5, .int 0), (4, .int 0), (3, .int r3), (0, .ref (G.1 64)), (1, .int i), (2, .int r)] dX11_digits_33 (by decide) rfl ?_
      have L35 : ∀ (fu : Nat) (d : Nat) (hd : d ≤ 10), 10 - d < fu → Mq l G 6 X Q 35 [(0, .ref (G.1 64)), (1, .int i), (2, .int r), (3, .int r3), (4, .int (nI (s_db (v_kd (z_V z) (ix i)) (v_mk (z_V z) (ix i)) xs d))), (5, .int (nI d))] [] mu nu := by
        intro fu
        induction fu with
        | zero => intro d hd hm; exact absurd hm (Nat.not_lt_zero _)
        | succ fu ih35 =>
          intro d hd hm
          refine m_iload C 5 dX11_digits_35 rfl ?_
          refine m_bipush C 10 dX11_digits_37 (by decide +kernel) ?_
          refine m_icmp_ge C 89 dX11_digits_39 (by decide) (fun hh5 => ?_) (fun hh5 => ?_)
          · replace hh5 := (ii_le (nn_i (a := 10) rfl (by omega)) (nn_i (a := d) rfl (by omega))).mp hh5
            refine m_iload C 4 dX11_digits_89 rfl ?_
            refine m_ireti C hQ dX11_digits_91 ?_
            have e10 : d = 10 := by omega
            subst e10; exact PM_of (by unfold s_digits; rw [if_neg (by omega), if_pos hp0, hx0]) hz zcm_rfl
          replace hh5 := mt (ii_le (nn_i (a := 10) rfl (by omega)) (nn_i (a := d) rfl (by omega))).mpr hh5
          refine m_iload C 4 dX11_digits_42 rfl ?_
          refine m_aload_n C 0 dX11_digits_44 rfl ?_
          refine m_aload_n C 0 dX11_digits_45 rfl ?_
          refine gfX11_7 C dX11_digits_46 ?_
          refine m_bipush C 10 dX11_digits_49 (by decide +kernel) ?_
          refine m_iload_n C 1 dX11_digits_51 rfl ?_
          refine m_topi (nI (ix i)) ei ?_
          refine m_iadd C dX11_digits_52 ?_
          refine m_topi (nI (10 + (ix i))) (nn_add rfl rfl) ?_
          refine m_iald C 65 (by decide) sa_65 (10 + (ix i)) rfl (by omega) (by decide) dX11_digits_53 ?_
          refine m_topi (nI (v_kd (z_V z) (ix i))) (zm_kd hv hi) ?_
          refine m_iload C 5 dX11_digits_54 rfl ?_
          refine m_aload_n C 0 dX11_digits_56 rfl ?_
          refine gfX11_7 C dX11_digits_57 ?_
          refine m_bipush C 24 dX11_digits_60 (by decide +kernel) ?_
          refine m_iload_n C 1 dX11_digits_62 rfl ?_
          refine m_topi (nI (ix i)) ei ?_
          refine m_iadd C dX11_digits_63 ?_
          refine m_topi (nI (24 + (ix i))) (nn_add rfl rfl) ?_
          refine m_iald C 65 (by decide) sa_65 (24 + (ix i)) rfl (by omega) (by decide) dX11_digits_64 ?_
          refine m_topi (nI (v_mk (z_V z) (ix i))) (zm_mk hv hi) ?_
          refine m_iload_n C 2 dX11_digits_65 rfl ?_
          refine m_topi (nI (ix r)) er ?_
          refine m_callVf C 64 (by decide) rfl rfl (c_X11_showedSo l G mu nu (v_kd (z_V z) (ix i)) (by omega) d (v_mk (z_V z) (ix i)) (by omega) (by omega) (ix r) (by omega) xs hx1 hx2 hx3 hev hok) wkX11_199 (by decide) rfl rfl (Nat.le_of_ble_eq_true rfl) dX11_digits_66 ?_
          refine m_if_eq C 79 dX11_digits_69 (by decide) (fun hh6 => ?_) (fun hh6 => ?_)
          · replace hh6 := bI_eq0.mp hh6
            refine m_iconst C 0 dX11_digits_79 (by decide +kernel) ?_
            refine m_ior C dX11_digits_80 ?_
            refine m_topi (nI ((s_db (v_kd (z_V z) (ix i)) (v_mk (z_V z) (ix i)) xs d) ||| 0)) (nn_or rfl rfl) ?_
            refine m_topi (nI (s_db (v_kd (z_V z) (ix i)) (v_mk (z_V z) (ix i)) xs (d + 1))) (congrArg nI ((if_neg (by assumption) : s_db (v_kd (z_V z) (ix i)) (v_mk (z_V z) (ix i)) xs (d + 1) = s_db (v_kd (z_V z) (ix i)) (v_mk (z_V z) (ix i)) xs d).trans (Nat.or_zero _).symm).symm) ?_
            refine m_istore C [(4, .int (nI (s_db (v_kd (z_V z) (ix i)) (v_mk (z_V z) (ix i)) xs (d + 1)))), (0, .ref (G.1 64)), (1, .int i), (2, .int r), (3, .int r3), (5, .int (nI d))] dX11_digits_81 (by decide) rfl ?_
            refine m_iinc C 5 (nI (d + 1)) [(5, .int (nI (d + 1))), (4, .int (nI (s_db (v_kd (z_V z) (ix i)) (v_mk (z_V z) (ix i)) xs (d + 1)))), (0, .ref (G.1 64)), (1, .int i), (2, .int r), (3, .int r3)] dX11_digits_83 rfl (nn_add rfl (show Int32.ofInt 1 = nI 1 from rfl)) (by decide) rfl ?_
            refine m_goto C 35 dX11_digits_86 (by decide) ?_
            exact m_sub [2, 3, 4, 5, 1, 0] rfl (ih35 (d + 1) (by omega) (by omega))
          replace hh6 := bI_ne0.mp hh6
          refine m_iconst C 1 dX11_digits_72 (by decide +kernel) ?_
          refine m_iload C 5 dX11_digits_73 rfl ?_
          refine m_ishl C dX11_digits_75 ?_
          refine m_topi (nI (2 ^ d)) (nn_shl1 rfl (by omega)) ?_
          refine m_goto C 80 dX11_digits_76 (by decide) ?_
          refine m_ior C dX11_digits_80 ?_
          refine m_topi (nI ((s_db (v_kd (z_V z) (ix i)) (v_mk (z_V z) (ix i)) xs d) ||| (2 ^ d))) (nn_or rfl rfl) ?_
          refine m_topi (nI (s_db (v_kd (z_V z) (ix i)) (v_mk (z_V z) (ix i)) xs (d + 1))) (congrArg nI (if_pos (by assumption) : s_db (v_kd (z_V z) (ix i)) (v_mk (z_V z) (ix i)) xs (d + 1) = _).symm) ?_
          refine m_istore C [(4, .int (nI (s_db (v_kd (z_V z) (ix i)) (v_mk (z_V z) (ix i)) xs (d + 1)))), (0, .ref (G.1 64)), (1, .int i), (2, .int r), (3, .int r3), (5, .int (nI d))] dX11_digits_81 (by decide) rfl ?_
          refine m_iinc C 5 (nI (d + 1)) [(5, .int (nI (d + 1))), (4, .int (nI (s_db (v_kd (z_V z) (ix i)) (v_mk (z_V z) (ix i)) xs (d + 1)))), (0, .ref (G.1 64)), (1, .int i), (2, .int r), (3, .int r3)] dX11_digits_83 rfl (nn_add rfl (show Int32.ofInt 1 = nI 1 from rfl)) (by decide) rfl ?_
          refine m_goto C 35 dX11_digits_86 (by decide) ?_
          exact m_sub [2, 3, 4, 5, 1, 0] rfl (ih35 (d + 1) (by omega) (by omega))
      exact m_sub [3, 4, 5, 2, 1, 0] rfl (L35 (_ + 1) 0 (Nat.zero_le _) (Nat.lt_succ_self _))
    replace hh4 := mt (ii_eq (rfl : (r3).toInt = _) (nn_i (a := 0) rfl (by omega))).mpr hh4
    refine m_iload_n C 0 dX11_digits_27 rfl ?_
    refine m_ireti C hQ dX11_digits_28 ?_
    exact PM_pairs hz hp3 hh4 (fun h => by unfold s_digits; rw [if_neg (by omega), if_neg h])
  replace hh2 := bI_eq0.mp hh2
  refine m_iconst C (-1) dX11_digits_15 (by decide +kernel) ?_
  refine m_ireti C hQ dX11_digits_16 ?_
  exact PM_of (by unfold s_digits; rw [if_pos (by omega)]) hz zcm_rfl

set_option maxHeartbeats 4000000 in
set_option maxRecDepth 100000 in
theorem c_X11_kindsOf (l : Launch) (G : Gl) (mu : Mu) (nu : Nu) (V : Vw) (hv : zm mu V) (i : Nat) (hi : i < v_N V) (r : Nat) (hr : r < 6) (xs : List Int32) (hx1 : mu 66 r = nI xs.length) (hx2 : xs.length ≤ 40) (hx3 : ∀ j, j < xs.length → mu 67 (40 * r + j) = xs.getD j 0) (hev : xs.length % 2 = 0) (hok : ∀ j, j < xs.length / 2 → (1 ≤ (xs.getD (2 * j) 0).toInt ∧ (xs.getD (2 * j) 0).toInt < 10) ∧ 0 ≤ (xs.getD (2 * j + 1) 0).toInt ∧ (xs.getD (2 * j + 1) 0).toInt ≤ 999999999) : Cf l G mX11_kindsOf 4 [.ref (G.1 64), .int (nI i), .int (nI r)] mu nu (.int (nI (s_fk (v_dg V i) (v_mk V i) xs 6))) := by
  have hw := hv.1
  have hN7 := hw.1
  have hm7 := hw.2.2.1
  have ho8 := hw.2.2.2.2
  have hri := hw.2.1 i hi
  have hdi := v_dg_le hw hi
  refine Ct.of (lv := [(0, .ref (G.1 64)), (1, .int (nI i)), (2, .int (nI r))]) rfl rfl (Nat.le_of_ble_eq_true rfl) rfl (fun X C => ?_)
  generalize hQ : g_E G X _ = Q
  replace C : Cx G 5 X cX11_kindsOf RX11 (some .int) 4 := C
  show Mq l G 5 X Q 0 [(0, .ref (G.1 64)), (1, .int (nI i)), (2, .int (nI r))] [] mu nu
  refine m_iconst C 0 dX11_kindsOf_0 (by decide +kernel) ?_
  refine m_istore_n C [(3, .int 0), (0, .ref (G.1 64)), (1, .int (nI i)), (2, .int (nI r))] dX11_kindsOf_1 (by decide) rfl ?_
  refine m_iconst C 0 dX11_kindsOf_2 (by decide +kernel) ?_
  refine m_istore C [(4, .int 0), (3, .int 0), (0, .ref (G.1 64)), (1, .int (nI i)), (2, .int (nI r))] dX11_kindsOf_3 (by decide) rfl ?_
  have L5 : ∀ (fu : Nat) (k : Nat) (hk : k ≤ 6), 6 - k < fu → Mq l G 5 X Q 5 [(0, .ref (G.1 64)), (1, .int (nI i)), (2, .int (nI r)), (3, .int (nI (s_fk (v_dg V i) (v_mk V i) xs k))), (4, .int (nI k))] [] mu nu := by
    intro fu
    induction fu with
    | zero => intro k hk hm; exact absurd hm (Nat.not_lt_zero _)
    | succ fu ih5 =>
      intro k hk hm
      refine m_iload C 4 dX11_kindsOf_5 rfl ?_
      refine m_iconst C 5 dX11_kindsOf_7 (by decide +kernel) ?_
      refine m_icmp_gt C 52 dX11_kindsOf_8 (by decide) (fun hh1 => ?_) (fun hh1 => ?_)
      · replace hh1 := (ii_lt (nn_i (a := 5) rfl (by omega)) (nn_i (a := k) rfl (by omega))).mp hh1
        refine m_iload_n C 3 dX11_kindsOf_52 rfl ?_
        refine m_iretf C hQ dX11_kindsOf_53 rfl rfl ?_
        have e : k = 6 := by omega
        subst e; rfl
      replace hh1 := mt (ii_lt (nn_i (a := 5) rfl (by omega)) (nn_i (a := k) rfl (by omega))).mpr hh1
      refine m_iload_n C 3 dX11_kindsOf_11 rfl ?_
      refine m_aload_n C 0 dX11_kindsOf_12 rfl ?_
      refine m_iload C 4 dX11_kindsOf_13 rfl ?_
      refine m_aload_n C 0 dX11_kindsOf_15 rfl ?_
      refine m_iload_n C 1 dX11_kindsOf_16 rfl ?_
      refine m_callVf C 64 (by decide) rfl rfl (c_X11_digitOf l G mu nu V hv i (by omega)) wkX11_123 (by decide) rfl rfl (Nat.le_of_ble_eq_true rfl) dX11_kindsOf_17 ?_
      refine m_aload_n C 0 dX11_kindsOf_20 rfl ?_
      refine gfX11_7 C dX11_kindsOf_21 ?_
      refine m_bipush C 24 dX11_kindsOf_24 (by decide +kernel) ?_
      refine m_iload_n C 1 dX11_kindsOf_26 rfl ?_
      refine m_iadd C dX11_kindsOf_27 ?_
      refine m_topi (nI (24 + i)) (nn_add rfl rfl) ?_
      refine m_iald C 65 (by decide) sa_65 (24 + i) rfl (by omega) (by decide) dX11_kindsOf_28 ?_
      refine m_topi (nI (v_mk V i)) (zm_mk hv hi) ?_
      refine m_iload_n C 2 dX11_kindsOf_29 rfl ?_
      refine m_callVf C 64 (by decide) rfl rfl (c_X11_showedSo l G mu nu k (by omega) (v_dg V i) (v_mk V i) (by omega) (by omega) r hr xs hx1 hx2 hx3 hev hok) wkX11_199 (by decide) rfl rfl (Nat.le_of_ble_eq_true rfl) dX11_kindsOf_30 ?_
      refine m_if_eq C 43 dX11_kindsOf_33 (by decide) (fun hh2 => ?_) (fun hh2 => ?_)
      · replace hh2 := bI_eq0.mp hh2
        refine m_iconst C 0 dX11_kindsOf_43 (by decide +kernel) ?_
        refine m_ior C dX11_kindsOf_44 ?_
        refine m_topi (nI ((s_fk (v_dg V i) (v_mk V i) xs k) ||| 0)) (nn_or rfl rfl) ?_
        refine m_topi (nI (s_fk (v_dg V i) (v_mk V i) xs (k + 1))) (congrArg nI ((if_neg (by assumption) : s_fk (v_dg V i) (v_mk V i) xs (k + 1) = s_fk (v_dg V i) (v_mk V i) xs k).trans (Nat.or_zero _).symm).symm) ?_
        refine m_istore_n C [(3, .int (nI (s_fk (v_dg V i) (v_mk V i) xs (k + 1)))), (0, .ref (G.1 64)), (1, .int (nI i)), (2, .int (nI r)), (4, .int (nI k))] dX11_kindsOf_45 (by decide) rfl ?_
        refine m_iinc C 4 (nI (k + 1)) [(4, .int (nI (k + 1))), (3, .int (nI (s_fk (v_dg V i) (v_mk V i) xs (k + 1)))), (0, .ref (G.1 64)), (1, .int (nI i)), (2, .int (nI r))] dX11_kindsOf_46 rfl (nn_add rfl (show Int32.ofInt 1 = nI 1 from rfl)) (by decide) rfl ?_
        refine m_goto C 5 dX11_kindsOf_49 (by decide) ?_
        exact m_sub [2, 3, 4, 1, 0] rfl (ih5 (k + 1) (by omega) (by omega))
      replace hh2 := bI_ne0.mp hh2
      refine m_iconst C 1 dX11_kindsOf_36 (by decide +kernel) ?_
      refine m_iload C 4 dX11_kindsOf_37 rfl ?_
      refine m_ishl C dX11_kindsOf_39 ?_
      refine m_topi (nI (2 ^ k)) (nn_shl1 rfl (by omega)) ?_
      refine m_goto C 44 dX11_kindsOf_40 (by decide) ?_
      refine m_ior C dX11_kindsOf_44 ?_
      refine m_topi (nI ((s_fk (v_dg V i) (v_mk V i) xs k) ||| (2 ^ k))) (nn_or rfl rfl) ?_
      refine m_topi (nI (s_fk (v_dg V i) (v_mk V i) xs (k + 1))) (congrArg nI (if_pos (by assumption) : s_fk (v_dg V i) (v_mk V i) xs (k + 1) = _).symm) ?_
      refine m_istore_n C [(3, .int (nI (s_fk (v_dg V i) (v_mk V i) xs (k + 1)))), (0, .ref (G.1 64)), (1, .int (nI i)), (2, .int (nI r)), (4, .int (nI k))] dX11_kindsOf_45 (by decide) rfl ?_
      refine m_iinc C 4 (nI (k + 1)) [(4, .int (nI (k + 1))), (3, .int (nI (s_fk (v_dg V i) (v_mk V i) xs (k + 1)))), (0, .ref (G.1 64)), (1, .int (nI i)), (2, .int (nI r))] dX11_kindsOf_46 rfl (nn_add rfl (show Int32.ofInt 1 = nI 1 from rfl)) (by decide) rfl ?_
      refine m_goto C 5 dX11_kindsOf_49 (by decide) ?_
      exact m_sub [2, 3, 4, 1, 0] rfl (ih5 (k + 1) (by omega) (by omega))
  exact m_sub [2, 3, 4, 1, 0] rfl (L5 (_ + 1) 0 (Nat.zero_le _) (Nat.lt_succ_self _))

set_option maxHeartbeats 4000000 in
set_option maxRecDepth 100000 in
theorem c_X11_kinds (l : Launch) (G : Gl) (mu : Mu) (nu : Nu) (z : Zt) (hz : ZM mu nu z) (i r : Int32) : Ci l G mX11_kinds 7 [.ref (G.1 64), .int i, .int r] mu nu (PM mu nu (s_kinds z i r)) := by
  have hv : zm mu (z_V z) := zm_v hz
  have hw := hv.1
  have hN7 := hw.1
  have hm7 := hw.2.2.1
  have ho8 := hw.2.2.2.2
  have hcz : ((v_N (z_V z) : Nat) : Int) = ((z_N z : Nat) : Int) := rfl
  refine Ct.of (lv := [(0, .ref (G.1 64)), (1, .int i), (2, .int r)]) rfl rfl (Nat.le_of_ble_eq_true rfl) rfl (fun X C => ?_)
  generalize hQ : g_E G X _ = Q
  replace C : Cx G 4 X cX11_kinds RX11 (some .int) 7 := C
  show Mq l G 4 X Q 0 [(0, .ref (G.1 64)), (1, .int i), (2, .int r)] [] mu nu
  refine m_aload_n C 0 dX11_kinds_0 rfl ?_
  refine m_iload_n C 1 dX11_kinds_1 rfl ?_
  refine m_callVf C 64 (by decide) rfl rfl (c_X11_isRod l G mu nu (z_V z) hv i) wkX11_133 (by decide) rfl rfl (Nat.le_of_ble_eq_true rfl) dX11_kinds_2 ?_
  refine m_if_eq C 15 dX11_kinds_5 (by decide) (fun hh1 => ?_) (fun hh1 => ?_)
  · replace hh1 := bI_eq0.mp hh1
    refine m_iconst C (-1) dX11_kinds_15 (by decide +kernel) ?_
    refine m_ireti C hQ dX11_kinds_16 ?_
    exact PM_of (by unfold s_kinds; rw [if_pos (by omega)]) hz zcm_rfl
  replace hh1 := bI_ne0.mp hh1
  refine m_iload_n C 2 dX11_kinds_8 rfl ?_
  refine m_callSf C (c_X11_isRow l G mu nu r) wkX11_76 (by decide) rfl rfl (Nat.le_of_ble_eq_true rfl) dX11_kinds_9 ?_
  refine m_if_ne C 17 dX11_kinds_12 (by decide) (fun hh2 => ?_) (fun hh2 => ?_)
  · replace hh2 := bI_ne0.mp hh2
    obtain ⟨ei, ki⟩ := ix_eq (x := i) (by omega)
    have hi : ix i < v_N (z_V z) := by omega
    have hri := hw.2.1 (ix i) hi
    have hdi := v_dg_le hw hi
    obtain ⟨er, kr⟩ := ix_eq (x := r) (by omega)
    refine m_aload_n C 0 dX11_kinds_17 rfl ?_
    refine m_iload_n C 2 dX11_kinds_18 rfl ?_
    refine m_topi (nI (ix r)) er ?_
    refine m_callVi C 64 (by decide) rfl rfl (c_X11_againstPairs l G mu nu (ix r) (by omega) (z_rw z (ix r)) (hz.2.2.2.2.1 (ix r) (by omega))) wkX11_196 (by decide) rfl rfl (Nat.le_of_ble_eq_true rfl) dX11_kinds_19 (fun r3 m3 n3 hp3 => ?_)
    refine m_istore_n C [(3, .int r3), (0, .ref (G.1 64)), (1, .int i), (2, .int r)] dX11_kinds_22 (by decide) rfl ?_
    refine m_iload_n C 0 dX11_kinds_23 rfl ?_
    refine m_if_eq C 31 dX11_kinds_24 (by decide) (fun hh4 => ?_) (fun hh4 => ?_)
    · replace hh4 := (ii_eq (rfl : (r3).toInt = _) (nn_i (a := 0) rfl (by omega))).mp hh4
      obtain ⟨hp0, hm0, hn0⟩ := ap_ok hp3 hh4
      rw [hm0, hn0]
      obtain ⟨xs, hxe, hev, hok⟩ := s_prs0 hp0
      have hxs0 := hz.2.2.2.2.1 (ix r) (by omega)
      rw [hxe] at hxs0
      obtain ⟨hx1, hx2, hx3⟩ := hxs0
      have hx0 : s_row0 (z_rw z (ix r)) = xs := by rw [hxe]; rfl
      refine m_aload_n C 1 dX11_kinds_31 rfl ?_
      refine m_iload_n C 2 dX11_kinds_32 rfl ?_
      refine m_topi (nI (ix i)) ei ?_
      refine m_iload_n C 3 dX11_kinds_33 rfl ?_
      refine m_topi (nI (ix r)) er ?_
      refine m_callVf C 64 (by decide) rfl rfl (c_X11_kindsOf l G mu nu (z_V z) hv (ix i) hi (ix r) (by omega) xs hx1 hx2 hx3 hev hok) wkX11_203 (by decide) rfl rfl (Nat.le_of_ble_eq_true rfl) dX11_kinds_34 ?_
      refine m_ireti C hQ dX11_kinds_37 ?_
      exact PM_of (by unfold s_kinds; rw [if_neg (by omega), if_pos hp0, hx0]) hz zcm_rfl
    replace hh4 := mt (ii_eq (rfl : (r3).toInt = _) (nn_i (a := 0) rfl (by omega))).mpr hh4
    refine m_iload_n C 0 dX11_kinds_27 rfl ?_
    refine m_goto C 37 dX11_kinds_28 (by decide) ?_
    refine m_ireti C hQ dX11_kinds_37 ?_
    exact PM_pairs hz hp3 hh4 (fun h => by unfold s_kinds; rw [if_neg (by omega), if_neg h])
  replace hh2 := bI_eq0.mp hh2
  refine m_iconst C (-1) dX11_kinds_15 (by decide +kernel) ?_
  refine m_ireti C hQ dX11_kinds_16 ?_
  exact PM_of (by unfold s_kinds; rw [if_pos (by omega)]) hz zcm_rfl

set_option maxHeartbeats 4000000 in
set_option maxRecDepth 100000 in
theorem c_X11_test (l : Launch) (G : Gl) (mu : Mu) (nu : Nu) (z : Zt) (hz : ZM mu nu z) (i r : Int32) : Ci l G mX11_test 7 [.ref (G.1 64), .int i, .int r] mu nu (PM mu nu (s_test z i r)) := by
  have hv : zm mu (z_V z) := zm_v hz
  have hw := hv.1
  have hN7 := hw.1
  have hm7 := hw.2.2.1
  have ho8 := hw.2.2.2.2
  have hcz : ((v_N (z_V z) : Nat) : Int) = ((z_N z : Nat) : Int) := rfl
  refine Ct.of (lv := [(0, .ref (G.1 64)), (1, .int i), (2, .int r)]) rfl rfl (Nat.le_of_ble_eq_true rfl) rfl (fun X C => ?_)
  generalize hQ : g_E G X _ = Q
  replace C : Cx G 13 X cX11_test RX11 (some .int) 7 := C
  show Mq l G 13 X Q 0 [(0, .ref (G.1 64)), (1, .int i), (2, .int r)] [] mu nu
  refine m_aload_n C 0 dX11_test_0 rfl ?_
  refine m_iload_n C 1 dX11_test_1 rfl ?_
  refine m_callVf C 64 (by decide) rfl rfl (c_X11_isRod l G mu nu (z_V z) hv i) wkX11_133 (by decide) rfl rfl (Nat.le_of_ble_eq_true rfl) dX11_test_2 ?_
  refine m_if_eq C 15 dX11_test_5 (by decide) (fun hh1 => ?_) (fun hh1 => ?_)
  · replace hh1 := bI_eq0.mp hh1
    refine m_iconst C (-1) dX11_test_15 (by decide +kernel) ?_
    refine m_ireti C hQ dX11_test_16 ?_
    exact PM_of (by unfold s_test; rw [if_pos (by omega)]) hz zcm_rfl
  replace hh1 := bI_ne0.mp hh1
  refine m_iload_n C 2 dX11_test_8 rfl ?_
  refine m_callSf C (c_X11_isRow l G mu nu r) wkX11_76 (by decide) rfl rfl (Nat.le_of_ble_eq_true rfl) dX11_test_9 ?_
  refine m_if_ne C 17 dX11_test_12 (by decide) (fun hh2 => ?_) (fun hh2 => ?_)
  · replace hh2 := bI_ne0.mp hh2
    obtain ⟨ei, ki⟩ := ix_eq (x := i) (by omega)
    have hi : ix i < v_N (z_V z) := by omega
    have hri := hw.2.1 (ix i) hi
    have hdi := v_dg_le hw hi
    obtain ⟨er, kr⟩ := ix_eq (x := r) (by omega)
    refine m_aload_n C 0 dX11_test_17 rfl ?_
    refine m_iload_n C 2 dX11_test_18 rfl ?_
    refine m_topi (nI (ix r)) er ?_
    refine m_callVi C 64 (by decide) rfl rfl (c_X11_againstPairs l G mu nu (ix r) (by omega) (z_rw z (ix r)) (hz.2.2.2.2.1 (ix r) (by omega))) wkX11_196 (by decide) rfl rfl (Nat.le_of_ble_eq_true rfl) dX11_test_19 (fun r3 m3 n3 hp3 => ?_)
    refine m_istore_n C [(3, .int r3), (0, .ref (G.1 64)), (1, .int i), (2, .int r)] dX11_test_22 (by decide) rfl ?_
    refine m_iload_n C 0 dX11_test_23 rfl ?_
    refine m_if_eq C 29 dX11_test_24 (by decide) (fun hh4 => ?_) (fun hh4 => ?_)
    · replace hh4 := (ii_eq (rfl : (r3).toInt = _) (nn_i (a := 0) rfl (by omega))).mp hh4
      obtain ⟨hp0, hm0, hn0⟩ := ap_ok hp3 hh4
      rw [hm0, hn0]
      obtain ⟨xs, hxe, hev, hok⟩ := s_prs0 hp0
      have hxs0 := hz.2.2.2.2.1 (ix r) (by omega)
      rw [hxe] at hxs0
      obtain ⟨hx1, hx2, hx3⟩ := hxs0
      have hx0 : s_row0 (z_rw z (ix r)) = xs := by rw [hxe]; rfl
      have hfk := s_fk_lt (d := v_dg (z_V z) (ix i)) (m := v_mk (z_V z) (ix i)) (xs := xs) 6 (by decide)
      refine m_aload_n C 1 dX11_test_29 rfl ?_
      refine m_iload_n C 2 dX11_test_30 rfl ?_
      refine m_topi (nI (ix i)) ei ?_
      refine m_iload_n C 3 dX11_test_31 rfl ?_
      refine m_topi (nI (ix r)) er ?_
      refine m_callVf C 64 (by decide) rfl rfl (c_X11_kindsOf l G mu nu (z_V z) hv (ix i) hi (ix r) (by omega) xs hx1 hx2 hx3 hev hok) wkX11_203 (by decide) rfl rfl (Nat.le_of_ble_eq_true rfl) dX11_test_32 ?_
      refine m_istore C [(4, .int (nI (s_fk (v_dg (z_V z) (ix i)) (v_mk (z_V z) (ix i)) xs 6))), (3, .int r3), (0, .ref (G.1 64)), (1, .int i), (2, .int r)] dX11_test_35 (by decide) rfl ?_
      refine m_bipush C (-9) dX11_test_37 (by decide +kernel) ?_
      refine m_istore C [(5, .int ((-9))), (4, .int (nI (s_fk (v_dg (z_V z) (ix i)) (v_mk (z_V z) (ix i)) xs 6))), (3, .int r3), (0, .ref (G.1 64)), (1, .int i), (2, .int r)] dX11_test_39 (by decide) rfl ?_
      refine m_ldc C 1000000000 wcX11_193 dX11_test_41 ?_
      refine m_istore C [(6, .int 1000000000), (5, .int ((-9))), (4, .int (nI (s_fk (v_dg (z_V z) (ix i)) (v_mk (z_V z) (ix i)) xs 6))), (3, .int r3), (0, .ref (G.1 64)), (1, .int i), (2, .int r)] dX11_test_43 (by decide) rfl ?_
      refine m_iconst C 1 dX11_test_45 (by decide +kernel) ?_
      refine m_istore C [(7, .int 1), (6, .int 1000000000), (5, .int ((-9))), (4, .int (nI (s_fk (v_dg (z_V z) (ix i)) (v_mk (z_V z) (ix i)) xs 6))), (3, .int r3), (0, .ref (G.1 64)), (1, .int i), (2, .int r)] dX11_test_46 (by decide) rfl ?_
      have L48 : ∀ (fu : Nat) (k : Nat) (bl : Int32) (ls : Nat) (hk : k ≤ 9) (hts : TS (z_V z) (ix i) (s_fk (v_dg (z_V z) (ix i)) (v_mk (z_V z) (ix i)) xs 6) k bl ls) (hbk : 0 < k → 0 < s_fk (v_dg (z_V z) (ix i)) (v_mk (z_V z) (ix i)) xs 6), 9 - k < fu → Mq l G 13 X Q 48 [(0, .ref (G.1 64)), (1, .int i), (2, .int r), (3, .int r3), (4, .int (nI (s_fk (v_dg (z_V z) (ix i)) (v_mk (z_V z) (ix i)) xs 6))), (5, .int bl), (6, .int (nI ls)), (7, .int (nI (k + 1)))] [] mu nu := by
        intro fu
        induction fu with
        | zero => intro k bl ls hk hts hbk hm; exact absurd hm (Nat.not_lt_zero _)
        | succ fu ih48 =>
          intro k bl ls hk hts hbk hm
          have hls := ts_le hts
          have hpa6 := v_pa_le (V := z_V z) (i := ix i) (bits := s_fk (v_dg (z_V z) (ix i)) (v_mk (z_V z) (ix i)) xs 6) (n := k + 1) 6
          refine m_iload C 7 dX11_test_48 rfl ?_
          refine m_bipush C 10 dX11_test_50 (by decide +kernel) ?_
          refine m_icmp_ge C 237 dX11_test_52 (by decide) (fun hh5 => ?_) (fun hh5 => ?_)
          · replace hh5 := (ii_le (nn_i (a := 10) rfl (by omega)) (nn_i (a := k + 1) rfl (by omega))).mp hh5
            have hk9 : k = 9 := by omega
            subst hk9
            have hbl : bl.toInt = (((v_tt (z_V z) (ix i) (s_fk (v_dg (z_V z) (ix i)) (v_mk (z_V z) (ix i)) xs 6) 8).1 : Nat) : Int) := by rw [(ts_9 hts).1, nI_toInt (by have := (v_tt_le (V := z_V z) (i := ix i) (bits := s_fk (v_dg (z_V z) (ix i)) (v_mk (z_V z) (ix i)) xs 6) 8).2; omega)]
            refine m_iload C 5 dX11_test_237 rfl ?_
            refine m_bipush C (-9) dX11_test_239 (by decide +kernel) ?_
            refine m_icmp_ne C 247 dX11_test_241 (by decide) (fun _ => ?_) (fun hh6 => absurd hh6 (mt (ii_eq (rfl : (bl).toInt = _) (show ((-9) : Int32).toInt = (-9) from by decide +kernel)).mp (by omega)))
            refine m_aload_n C 0 dX11_test_247 rfl ?_
            refine m_iload C 6 dX11_test_248 rfl ?_
            refine pfX11_60 C dX11_test_250 ?_
            refine m_nameM (fun mu7 emu7 => ?_)
            refine m_iload C 5 dX11_test_253 rfl ?_
            refine m_ireti C hQ dX11_test_255 ?_
            obtain ⟨hb1, hb2⟩ := ts_9 hts
            rw [emu7, hb1, hb2]; exact PM_of (by unfold s_test; rw [if_neg (by omega), if_pos hp0, hx0]; rw [if_neg (by omega)]) (zm_told hz) zcm_told
          replace hh5 := mt (ii_le (nn_i (a := 10) rfl (by omega)) (nn_i (a := k + 1) rfl (by omega))).mpr hh5
          refine m_iload C 4 dX11_test_55 rfl ?_
          refine m_if_le C 237 dX11_test_57 (by decide) (fun hh8 => ?_) (fun hh8 => ?_)
          · replace hh8 := (ii_le (nn_i (a := s_fk (v_dg (z_V z) (ix i)) (v_mk (z_V z) (ix i)) xs 6) rfl (by omega)) (nn_i (a := 0) rfl (by omega))).mp hh8
            have hk0 : k = 0 := by omega
            subst hk0
            have hbl : bl.toInt = -9 := by rw [ts_0 hts]; decide
            refine m_iload C 5 dX11_test_237 rfl ?_
            refine m_bipush C (-9) dX11_test_239 (by decide +kernel) ?_
            refine m_icmp_ne C 247 dX11_test_241 (by decide) (fun hh9 => absurd hh9 (fun q => q ((ii_eq (rfl : (bl).toInt = _) (show ((-9) : Int32).toInt = (-9) from by decide +kernel)).mpr (by omega)))) (fun _ => ?_)
            refine m_bipush C (-9) dX11_test_244 (by decide +kernel) ?_
            refine m_ireti C hQ dX11_test_246 ?_
            exact PM_of (by unfold s_test; rw [if_neg (by omega), if_pos hp0, hx0]; rw [if_pos (by omega)]) hz zcm_rfl
          replace hh8 := mt (ii_le (nn_i (a := s_fk (v_dg (z_V z) (ix i)) (v_mk (z_V z) (ix i)) xs 6) rfl (by omega)) (nn_i (a := 0) rfl (by omega))).mpr hh8
          refine m_iconst C 0 dX11_test_60 (by decide +kernel) ?_
          refine m_istore C [(8, .int 0), (0, .ref (G.1 64)), (1, .int i), (2, .int r), (3, .int r3), (4, .int (nI (s_fk (v_dg (z_V z) (ix i)) (v_mk (z_V z) (ix i)) xs 6))), (5, .int bl), (6, .int (nI ls)), (7, .int (nI (k + 1)))] dX11_test_61 (by decide) rfl ?_
          refine m_iconst C 0 dX11_test_63 (by decide +kernel) ?_
          refine m_istore C [(9, .int 0), (8, .int 0), (0, .ref (G.1 64)), (1, .int i), (2, .int r), (3, .int r3), (4, .int (nI (s_fk (v_dg (z_V z) (ix i)) (v_mk (z_V z) (ix i)) xs 6))), (5, .int bl), (6, .int (nI ls)), (7, .int (nI (k + 1)))] dX11_test_64 (by decide) rfl ?_
          have L66 : ∀ (fu : Nat) (a : Nat) (ha : a ≤ 6), 6 - a < fu → Mq l G 13 X Q 66 [(0, .ref (G.1 64)), (1, .int i), (2, .int r), (3, .int r3), (4, .int (nI (s_fk (v_dg (z_V z) (ix i)) (v_mk (z_V z) (ix i)) xs 6))), (5, .int bl), (6, .int (nI ls)), (7, .int (nI (k + 1))), (8, .int (nI (v_pa (z_V z) (ix i) (s_fk (v_dg (z_V z) (ix i)) (v_mk (z_V z) (ix i)) xs 6) (k + 1) a))), (9, .int (nI a))] [] mu nu := by
            intro fu
            induction fu with
            | zero => intro a ha hm; exact absurd hm (Nat.not_lt_zero _)
            | succ fu ih66 =>
              intro a ha hm
              have hpa := v_pa_le (V := z_V z) (i := ix i) (bits := s_fk (v_dg (z_V z) (ix i)) (v_mk (z_V z) (ix i)) xs 6) (n := k + 1) a
              have hp6 := v_pb_le (V := z_V z) (i := ix i) (bits := s_fk (v_dg (z_V z) (ix i)) (v_mk (z_V z) (ix i)) xs 6) (n := k + 1) (a := a) 6
              refine m_iload C 9 dX11_test_66 rfl ?_
              refine m_iconst C 5 dX11_test_68 (by decide +kernel) ?_
              refine m_icmp_gt C 199 dX11_test_69 (by decide) (fun hh10 => ?_) (fun hh10 => ?_)
              · replace hh10 := (ii_lt (nn_i (a := 5) rfl (by omega)) (nn_i (a := a) rfl (by omega))).mp hh10
                have ea : a = 6 := by omega
                rw [ea]
                refine m_iload C 8 dX11_test_199 rfl ?_
                refine m_iload C 6 dX11_test_201 rfl ?_
                refine m_icmp_ge C 211 dX11_test_203 (by decide) (fun hh11 => ?_) (fun hh11 => ?_)
                · replace hh11 := (ii_le (nn_i (a := ls) rfl (by omega)) (nn_i (a := v_pa (z_V z) (ix i) (s_fk (v_dg (z_V z) (ix i)) (v_mk (z_V z) (ix i)) xs 6) (k + 1) 6) rfl (by omega))).mp hh11
                  refine m_iload C 5 dX11_test_211 rfl ?_
                  refine m_istore C [(5, .int bl), (0, .ref (G.1 64)), (1, .int i), (2, .int r), (3, .int r3), (4, .int (nI (s_fk (v_dg (z_V z) (ix i)) (v_mk (z_V z) (ix i)) xs 6))), (6, .int (nI ls)), (7, .int (nI (k + 1))), (8, .int (nI (v_pa (z_V z) (ix i) (s_fk (v_dg (z_V z) (ix i)) (v_mk (z_V z) (ix i)) xs 6) (k + 1) 6))), (9, .int (nI 6))] dX11_test_213 (by decide) rfl ?_
                  refine m_iload C 8 dX11_test_215 rfl ?_
                  refine m_iload C 6 dX11_test_217 rfl ?_
                  refine m_icmp_ge C 227 dX11_test_219 (by decide) (fun _ => ?_) (fun hh12 => absurd ((ii_le (nn_i (a := ls) rfl (by omega)) (nn_i (a := v_pa (z_V z) (ix i) (s_fk (v_dg (z_V z) (ix i)) (v_mk (z_V z) (ix i)) xs 6) (k + 1) 6) rfl (by omega))).mpr (by omega)) hh12)
                  refine m_iload C 6 dX11_test_227 rfl ?_
                  refine m_istore C [(6, .int (nI ls)), (5, .int bl), (0, .ref (G.1 64)), (1, .int i), (2, .int r), (3, .int r3), (4, .int (nI (s_fk (v_dg (z_V z) (ix i)) (v_mk (z_V z) (ix i)) xs 6))), (7, .int (nI (k + 1))), (8, .int (nI (v_pa (z_V z) (ix i) (s_fk (v_dg (z_V z) (ix i)) (v_mk (z_V z) (ix i)) xs 6) (k + 1) 6))), (9, .int (nI 6))] dX11_test_229 (by decide) rfl ?_
                  refine m_iinc C 7 (nI (k + 1 + 1)) [(7, .int (nI (k + 1 + 1))), (6, .int (nI ls)), (5, .int bl), (0, .ref (G.1 64)), (1, .int i), (2, .int r), (3, .int r3), (4, .int (nI (s_fk (v_dg (z_V z) (ix i)) (v_mk (z_V z) (ix i)) xs 6))), (8, .int (nI (v_pa (z_V z) (ix i) (s_fk (v_dg (z_V z) (ix i)) (v_mk (z_V z) (ix i)) xs 6) (k + 1) 6))), (9, .int (nI 6))] dX11_test_231 rfl (nn_add rfl (show Int32.ofInt 1 = nI 1 from rfl)) (by decide) rfl ?_
                  refine m_goto C 48 dX11_test_234 (by decide) ?_
                  exact m_sub [3, 4, 5, 6, 7, 2, 1, 0] rfl (ih48 (k + 1) bl ls (by omega) (ts_old hts (by omega)) (fun _ => by omega) (by omega))
                replace hh11 := mt (ii_le (nn_i (a := ls) rfl (by omega)) (nn_i (a := v_pa (z_V z) (ix i) (s_fk (v_dg (z_V z) (ix i)) (v_mk (z_V z) (ix i)) xs 6) (k + 1) 6) rfl (by omega))).mpr hh11
                refine m_iload C 7 dX11_test_206 rfl ?_
                refine m_goto C 213 dX11_test_208 (by decide) ?_
                refine m_istore C [(5, .int (nI (k + 1))), (0, .ref (G.1 64)), (1, .int i), (2, .int r), (3, .int r3), (4, .int (nI (s_fk (v_dg (z_V z) (ix i)) (v_mk (z_V z) (ix i)) xs 6))), (6, .int (nI ls)), (7, .int (nI (k + 1))), (8, .int (nI (v_pa (z_V z) (ix i) (s_fk (v_dg (z_V z) (ix i)) (v_mk (z_V z) (ix i)) xs 6) (k + 1) 6))), (9, .int (nI 6))] dX11_test_213 (by decide) rfl ?_
                refine m_iload C 8 dX11_test_215 rfl ?_
                refine m_iload C 6 dX11_test_217 rfl ?_
                refine m_icmp_ge C 227 dX11_test_219 (by decide) (fun hh13 => absurd hh13 (mt (ii_le (nn_i (a := ls) rfl (by omega)) (nn_i (a := v_pa (z_V z) (ix i) (s_fk (v_dg (z_V z) (ix i)) (v_mk (z_V z) (ix i)) xs 6) (k + 1) 6) rfl (by omega))).mp (by omega))) (fun _ => ?_)
                refine m_iload C 8 dX11_test_222 rfl ?_
                refine m_goto C 229 dX11_test_224 (by decide) ?_
                refine m_istore C [(6, .int (nI (v_pa (z_V z) (ix i) (s_fk (v_dg (z_V z) (ix i)) (v_mk (z_V z) (ix i)) xs 6) (k + 1) 6))), (5, .int (nI (k + 1))), (0, .ref (G.1 64)), (1, .int i), (2, .int r), (3, .int r3), (4, .int (nI (s_fk (v_dg (z_V z) (ix i)) (v_mk (z_V z) (ix i)) xs 6))), (7, .int (nI (k + 1))), (8, .int (nI (v_pa (z_V z) (ix i) (s_fk (v_dg (z_V z) (ix i)) (v_mk (z_V z) (ix i)) xs 6) (k + 1) 6))), (9, .int (nI 6))] dX11_test_229 (by decide) rfl ?_
                refine m_iinc C 7 (nI (k + 1 + 1)) [(7, .int (nI (k + 1 + 1))), (6, .int (nI (v_pa (z_V z) (ix i) (s_fk (v_dg (z_V z) (ix i)) (v_mk (z_V z) (ix i)) xs 6) (k + 1) 6))), (5, .int (nI (k + 1))), (0, .ref (G.1 64)), (1, .int i), (2, .int r), (3, .int r3), (4, .int (nI (s_fk (v_dg (z_V z) (ix i)) (v_mk (z_V z) (ix i)) xs 6))), (8, .int (nI (v_pa (z_V z) (ix i) (s_fk (v_dg (z_V z) (ix i)) (v_mk (z_V z) (ix i)) xs 6) (k + 1) 6))), (9, .int (nI 6))] dX11_test_231 rfl (nn_add rfl (show Int32.ofInt 1 = nI 1 from rfl)) (by decide) rfl ?_
                refine m_goto C 48 dX11_test_234 (by decide) ?_
                exact m_sub [3, 4, 5, 6, 7, 2, 1, 0] rfl (ih48 (k + 1) (nI (k + 1)) (v_pa (z_V z) (ix i) (s_fk (v_dg (z_V z) (ix i)) (v_mk (z_V z) (ix i)) xs 6) (k + 1) 6) (by omega) (ts_new hts (by omega)) (fun _ => by omega) (by omega))
              replace hh10 := mt (ii_lt (nn_i (a := 5) rfl (by omega)) (nn_i (a := a) rfl (by omega))).mpr hh10
              refine m_iconst C 0 dX11_test_72 (by decide +kernel) ?_
              refine m_istore C [(10, .int 0), (0, .ref (G.1 64)), (1, .int i), (2, .int r), (3, .int r3), (4, .int (nI (s_fk (v_dg (z_V z) (ix i)) (v_mk (z_V z) (ix i)) xs 6))), (5, .int bl), (6, .int (nI ls)), (7, .int (nI (k + 1))), (8, .int (nI (v_pa (z_V z) (ix i) (s_fk (v_dg (z_V z) (ix i)) (v_mk (z_V z) (ix i)) xs 6) (k + 1) a))), (9, .int (nI a))] dX11_test_73 (by decide) rfl ?_
              refine m_iconst C 0 dX11_test_75 (by decide +kernel) ?_
              refine m_istore C [(11, .int 0), (10, .int 0), (0, .ref (G.1 64)), (1, .int i), (2, .int r), (3, .int r3), (4, .int (nI (s_fk (v_dg (z_V z) (ix i)) (v_mk (z_V z) (ix i)) xs 6))), (5, .int bl), (6, .int (nI ls)), (7, .int (nI (k + 1))), (8, .int (nI (v_pa (z_V z) (ix i) (s_fk (v_dg (z_V z) (ix i)) (v_mk (z_V z) (ix i)) xs 6) (k + 1) a))), (9, .int (nI a))] dX11_test_76 (by decide) rfl ?_
              have L78 : ∀ (fu : Nat) (c : Nat) (hc : c ≤ 6), 6 - c < fu → Mq l G 13 X Q 78 [(0, .ref (G.1 64)), (1, .int i), (2, .int r), (3, .int r3), (4, .int (nI (s_fk (v_dg (z_V z) (ix i)) (v_mk (z_V z) (ix i)) xs 6))), (5, .int bl), (6, .int (nI ls)), (7, .int (nI (k + 1))), (8, .int (nI (v_pa (z_V z) (ix i) (s_fk (v_dg (z_V z) (ix i)) (v_mk (z_V z) (ix i)) xs 6) (k + 1) a))), (9, .int (nI a)), (10, .int (nI (v_pb (z_V z) (ix i) (s_fk (v_dg (z_V z) (ix i)) (v_mk (z_V z) (ix i)) xs 6) (k + 1) a c))), (11, .int (nI c))] [] mu nu := by
                intro fu
                induction fu with
                | zero => intro c hc hm; exact absurd hm (Nat.not_lt_zero _)
                | succ fu ih78 =>
                  intro c hc hm
                  have hpb := v_pb_le (V := z_V z) (i := ix i) (bits := s_fk (v_dg (z_V z) (ix i)) (v_mk (z_V z) (ix i)) xs 6) (n := k + 1) (a := a) c
                  refine m_iload C 11 dX11_test_78 rfl ?_
                  refine m_iconst C 5 dX11_test_80 (by decide +kernel) ?_
                  refine m_icmp_gt C 177 dX11_test_81 (by decide) (fun hh14 => ?_) (fun hh14 => ?_)
                  · replace hh14 := (ii_lt (nn_i (a := 5) rfl (by omega)) (nn_i (a := c) rfl (by omega))).mp hh14
                    have ec : c = 6 := by omega
                    rw [ec]
                    refine m_iload C 10 dX11_test_177 rfl ?_
                    refine m_iload C 8 dX11_test_179 rfl ?_
                    refine m_icmp_le C 189 dX11_test_181 (by decide) (fun hh15 => ?_) (fun hh15 => ?_)
                    · replace hh15 := (ii_le (nn_i (a := v_pb (z_V z) (ix i) (s_fk (v_dg (z_V z) (ix i)) (v_mk (z_V z) (ix i)) xs 6) (k + 1) a 6) rfl (by omega)) (nn_i (a := v_pa (z_V z) (ix i) (s_fk (v_dg (z_V z) (ix i)) (v_mk (z_V z) (ix i)) xs 6) (k + 1) a) rfl (by omega))).mp hh15
                      refine m_iload C 8 dX11_test_189 rfl ?_
                      refine m_topi (nI (v_pa (z_V z) (ix i) (s_fk (v_dg (z_V z) (ix i)) (v_mk (z_V z) (ix i)) xs 6) (k + 1) (a + 1))) (congrArg nI (by show _ = max _ _; omega)) ?_
                      refine m_istore C [(8, .int (nI (v_pa (z_V z) (ix i) (s_fk (v_dg (z_V z) (ix i)) (v_mk (z_V z) (ix i)) xs 6) (k + 1) (a + 1)))), (0, .ref (G.1 64)), (1, .int i), (2, .int r), (3, .int r3), (4, .int (nI (s_fk (v_dg (z_V z) (ix i)) (v_mk (z_V z) (ix i)) xs 6))), (5, .int bl), (6, .int (nI ls)), (7, .int (nI (k + 1))), (9, .int (nI a)), (10, .int (nI (v_pb (z_V z) (ix i) (s_fk (v_dg (z_V z) (ix i)) (v_mk (z_V z) (ix i)) xs 6) (k + 1) a 6))), (11, .int (nI 6))] dX11_test_191 (by decide) rfl ?_
                      refine m_iinc C 9 (nI (a + 1)) [(9, .int (nI (a + 1))), (8, .int (nI (v_pa (z_V z) (ix i) (s_fk (v_dg (z_V z) (ix i)) (v_mk (z_V z) (ix i)) xs 6) (k + 1) (a + 1)))), (0, .ref (G.1 64)), (1, .int i), (2, .int r), (3, .int r3), (4, .int (nI (s_fk (v_dg (z_V z) (ix i)) (v_mk (z_V z) (ix i)) xs 6))), (5, .int bl), (6, .int (nI ls)), (7, .int (nI (k + 1))), (10, .int (nI (v_pb (z_V z) (ix i) (s_fk (v_dg (z_V z) (ix i)) (v_mk (z_V z) (ix i)) xs 6) (k + 1) a 6))), (11, .int (nI 6))] dX11_test_193 rfl (nn_add rfl (show Int32.ofInt 1 = nI 1 from rfl)) (by decide) rfl ?_
                      refine m_goto C 66 dX11_test_196 (by decide) ?_
                      exact m_sub [2, 3, 4, 5, 6, 7, 8, 9, 1, 0] rfl (ih66 (a + 1) (by omega) (by omega))
                    replace hh15 := mt (ii_le (nn_i (a := v_pb (z_V z) (ix i) (s_fk (v_dg (z_V z) (ix i)) (v_mk (z_V z) (ix i)) xs 6) (k + 1) a 6) rfl (by omega)) (nn_i (a := v_pa (z_V z) (ix i) (s_fk (v_dg (z_V z) (ix i)) (v_mk (z_V z) (ix i)) xs 6) (k + 1) a) rfl (by omega))).mpr hh15
                    refine m_iload C 10 dX11_test_184 rfl ?_
                    refine m_topi (nI (v_pa (z_V z) (ix i) (s_fk (v_dg (z_V z) (ix i)) (v_mk (z_V z) (ix i)) xs 6) (k + 1) (a + 1))) (congrArg nI (by show _ = max _ _; omega)) ?_
                    refine m_goto C 191 dX11_test_186 (by decide) ?_
                    refine m_istore C [(8, .int (nI (v_pa (z_V z) (ix i) (s_fk (v_dg (z_V z) (ix i)) (v_mk (z_V z) (ix i)) xs 6) (k + 1) (a + 1)))), (0, .ref (G.1 64)), (1, .int i), (2, .int r), (3, .int r3), (4, .int (nI (s_fk (v_dg (z_V z) (ix i)) (v_mk (z_V z) (ix i)) xs 6))), (5, .int bl), (6, .int (nI ls)), (7, .int (nI (k + 1))), (9, .int (nI a)), (10, .int (nI (v_pb (z_V z) (ix i) (s_fk (v_dg (z_V z) (ix i)) (v_mk (z_V z) (ix i)) xs 6) (k + 1) a 6))), (11, .int (nI 6))] dX11_test_191 (by decide) rfl ?_
                    refine m_iinc C 9 (nI (a + 1)) [(9, .int (nI (a + 1))), (8, .int (nI (v_pa (z_V z) (ix i) (s_fk (v_dg (z_V z) (ix i)) (v_mk (z_V z) (ix i)) xs 6) (k + 1) (a + 1)))), (0, .ref (G.1 64)), (1, .int i), (2, .int r), (3, .int r3), (4, .int (nI (s_fk (v_dg (z_V z) (ix i)) (v_mk (z_V z) (ix i)) xs 6))), (5, .int bl), (6, .int (nI ls)), (7, .int (nI (k + 1))), (10, .int (nI (v_pb (z_V z) (ix i) (s_fk (v_dg (z_V z) (ix i)) (v_mk (z_V z) (ix i)) xs 6) (k + 1) a 6))), (11, .int (nI 6))] dX11_test_193 rfl (nn_add rfl (show Int32.ofInt 1 = nI 1 from rfl)) (by decide) rfl ?_
                    refine m_goto C 66 dX11_test_196 (by decide) ?_
                    exact m_sub [2, 3, 4, 5, 6, 7, 8, 9, 1, 0] rfl (ih66 (a + 1) (by omega) (by omega))
                  replace hh14 := mt (ii_lt (nn_i (a := 5) rfl (by omega)) (nn_i (a := c) rfl (by omega))).mpr hh14
                  refine m_iload C 4 dX11_test_84 rfl ?_
                  refine m_iload C 9 dX11_test_86 rfl ?_
                  refine m_callSf C (c_X11_has l G mu nu (s_fk (v_dg (z_V z) (ix i)) (v_mk (z_V z) (ix i)) xs 6) a (by omega) (by omega)) wkX11_119 (by decide) rfl rfl (Nat.le_of_ble_eq_true rfl) dX11_test_88 ?_
                  refine m_if_eq C 108 dX11_test_91 (by decide) (fun hh16 => ?_) (fun hh16 => ?_)
                  · replace hh16 := bI_eq0.mp hh16
                    refine m_iconst C 0 dX11_test_108 (by decide +kernel) ?_
                    refine m_istore C [(12, .int 0), (0, .ref (G.1 64)), (1, .int i), (2, .int r), (3, .int r3), (4, .int (nI (s_fk (v_dg (z_V z) (ix i)) (v_mk (z_V z) (ix i)) xs 6))), (5, .int bl), (6, .int (nI ls)), (7, .int (nI (k + 1))), (8, .int (nI (v_pa (z_V z) (ix i) (s_fk (v_dg (z_V z) (ix i)) (v_mk (z_V z) (ix i)) xs 6) (k + 1) a))), (9, .int (nI a)), (10, .int (nI (v_pb (z_V z) (ix i) (s_fk (v_dg (z_V z) (ix i)) (v_mk (z_V z) (ix i)) xs 6) (k + 1) a c))), (11, .int (nI c))] dX11_test_109 (by decide) rfl ?_
                    refine m_iload C 11 dX11_test_111 rfl ?_
                    refine m_iload C 0 dX11_test_113 rfl ?_
                    refine m_if_eq C 167 dX11_test_115 (by decide) (fun _ => ?_) (fun h => absurd (by decide) h)
                    refine m_iconst C 0 dX11_test_167 (by decide +kernel) ?_
                    refine m_iadd C dX11_test_168 ?_
                    refine m_topi (nI ((v_pb (z_V z) (ix i) (s_fk (v_dg (z_V z) (ix i)) (v_mk (z_V z) (ix i)) xs 6) (k + 1) a c) + 0)) (nn_add rfl rfl) ?_
                    refine m_topi (nI (v_pb (z_V z) (ix i) (s_fk (v_dg (z_V z) (ix i)) (v_mk (z_V z) (ix i)) xs 6) (k + 1) a (c + 1))) (congrArg nI (congrArg (fun q => v_pb (z_V z) (ix i) (s_fk (v_dg (z_V z) (ix i)) (v_mk (z_V z) (ix i)) xs 6) (k + 1) a c + q) (if_neg (by omega)).symm)) ?_
                    refine m_istore C [(10, .int (nI (v_pb (z_V z) (ix i) (s_fk (v_dg (z_V z) (ix i)) (v_mk (z_V z) (ix i)) xs 6) (k + 1) a (c + 1)))), (12, .int 0), (0, .ref (G.1 64)), (1, .int i), (2, .int r), (3, .int r3), (4, .int (nI (s_fk (v_dg (z_V z) (ix i)) (v_mk (z_V z) (ix i)) xs 6))), (5, .int bl), (6, .int (nI ls)), (7, .int (nI (k + 1))), (8, .int (nI (v_pa (z_V z) (ix i) (s_fk (v_dg (z_V z) (ix i)) (v_mk (z_V z) (ix i)) xs 6) (k + 1) a))), (9, .int (nI a)), (11, .int (nI c))] dX11_test_169 (by decide) rfl ?_
                    refine m_iinc C 12 (nI (c + 1)) [(11, .int (nI (c + 1))), (10, .int (nI (v_pb (z_V z) (ix i) (s_fk (v_dg (z_V z) (ix i)) (v_mk (z_V z) (ix i)) xs 6) (k + 1) a (c + 1)))), (12, .int 0), (0, .ref (G.1 64)), (1, .int i), (2, .int r), (3, .int r3), (4, .int (nI (s_fk (v_dg (z_V z) (ix i)) (v_mk (z_V z) (ix i)) xs 6))), (5, .int bl), (6, .int (nI ls)), (7, .int (nI (k + 1))), (8, .int (nI (v_pa (z_V z) (ix i) (s_fk (v_dg (z_V z) (ix i)) (v_mk (z_V z) (ix i)) xs 6) (k + 1) a))), (9, .int (nI a))] dX11_test_171 rfl (nn_add rfl (show Int32.ofInt 1 = nI 1 from rfl)) (by decide) rfl ?_
                    refine m_goto C 78 dX11_test_174 (by decide) ?_
                    exact m_sub [3, 4, 5, 6, 7, 8, 9, 10, 11, 12, 1, 0] rfl (ih78 (c + 1) (by omega) (by omega))
                  replace hh16 := bI_ne0.mp hh16
                  refine m_iload C 4 dX11_test_94 rfl ?_
                  refine m_iload C 11 dX11_test_96 rfl ?_
                  refine m_callSf C (c_X11_has l G mu nu (s_fk (v_dg (z_V z) (ix i)) (v_mk (z_V z) (ix i)) xs 6) c (by omega) (by omega)) wkX11_119 (by decide) rfl rfl (Nat.le_of_ble_eq_true rfl) dX11_test_98 ?_
                  refine m_if_eq C 108 dX11_test_101 (by decide) (fun hh17 => ?_) (fun hh17 => ?_)
                  · replace hh17 := bI_eq0.mp hh17
                    refine m_iconst C 0 dX11_test_108 (by decide +kernel) ?_
                    refine m_istore C [(12, .int 0), (0, .ref (G.1 64)), (1, .int i), (2, .int r), (3, .int r3), (4, .int (nI (s_fk (v_dg (z_V z) (ix i)) (v_mk (z_V z) (ix i)) xs 6))), (5, .int bl), (6, .int (nI ls)), (7, .int (nI (k + 1))), (8, .int (nI (v_pa (z_V z) (ix i) (s_fk (v_dg (z_V z) (ix i)) (v_mk (z_V z) (ix i)) xs 6) (k + 1) a))), (9, .int (nI a)), (10, .int (nI (v_pb (z_V z) (ix i) (s_fk (v_dg (z_V z) (ix i)) (v_mk (z_V z) (ix i)) xs 6) (k + 1) a c))), (11, .int (nI c))] dX11_test_109 (by decide) rfl ?_
                    refine m_iload C 11 dX11_test_111 rfl ?_
                    refine m_iload C 0 dX11_test_113 rfl ?_
                    refine m_if_eq C 167 dX11_test_115 (by decide) (fun _ => ?_) (fun h => absurd (by decide) h)
                    refine m_iconst C 0 dX11_test_167 (by decide +kernel) ?_
                    refine m_iadd C dX11_test_168 ?_
                    refine m_topi (nI ((v_pb (z_V z) (ix i) (s_fk (v_dg (z_V z) (ix i)) (v_mk (z_V z) (ix i)) xs 6) (k + 1) a c) + 0)) (nn_add rfl rfl) ?_
                    refine m_topi (nI (v_pb (z_V z) (ix i) (s_fk (v_dg (z_V z) (ix i)) (v_mk (z_V z) (ix i)) xs 6) (k + 1) a (c + 1))) (congrArg nI (congrArg (fun q => v_pb (z_V z) (ix i) (s_fk (v_dg (z_V z) (ix i)) (v_mk (z_V z) (ix i)) xs 6) (k + 1) a c + q) (if_neg (by omega)).symm)) ?_
                    refine m_istore C [(10, .int (nI (v_pb (z_V z) (ix i) (s_fk (v_dg (z_V z) (ix i)) (v_mk (z_V z) (ix i)) xs 6) (k + 1) a (c + 1)))), (12, .int 0), (0, .ref (G.1 64)), (1, .int i), (2, .int r), (3, .int r3), (4, .int (nI (s_fk (v_dg (z_V z) (ix i)) (v_mk (z_V z) (ix i)) xs 6))), (5, .int bl), (6, .int (nI ls)), (7, .int (nI (k + 1))), (8, .int (nI (v_pa (z_V z) (ix i) (s_fk (v_dg (z_V z) (ix i)) (v_mk (z_V z) (ix i)) xs 6) (k + 1) a))), (9, .int (nI a)), (11, .int (nI c))] dX11_test_169 (by decide) rfl ?_
                    refine m_iinc C 12 (nI (c + 1)) [(11, .int (nI (c + 1))), (10, .int (nI (v_pb (z_V z) (ix i) (s_fk (v_dg (z_V z) (ix i)) (v_mk (z_V z) (ix i)) xs 6) (k + 1) a (c + 1)))), (12, .int 0), (0, .ref (G.1 64)), (1, .int i), (2, .int r), (3, .int r3), (4, .int (nI (s_fk (v_dg (z_V z) (ix i)) (v_mk (z_V z) (ix i)) xs 6))), (5, .int bl), (6, .int (nI ls)), (7, .int (nI (k + 1))), (8, .int (nI (v_pa (z_V z) (ix i) (s_fk (v_dg (z_V z) (ix i)) (v_mk (z_V z) (ix i)) xs 6) (k + 1) a))), (9, .int (nI a))] dX11_test_171 rfl (nn_add rfl (show Int32.ofInt 1 = nI 1 from rfl)) (by decide) rfl ?_
                    refine m_goto C 78 dX11_test_174 (by decide) ?_
                    exact m_sub [3, 4, 5, 6, 7, 8, 9, 10, 11, 12, 1, 0] rfl (ih78 (c + 1) (by omega) (by omega))
                  replace hh17 := bI_ne0.mp hh17
                  refine m_iconst C 1 dX11_test_104 (by decide +kernel) ?_
                  refine m_goto C 109 dX11_test_105 (by decide) ?_
                  refine m_istore C [(12, .int 1), (0, .ref (G.1 64)), (1, .int i), (2, .int r), (3, .int r3), (4, .int (nI (s_fk (v_dg (z_V z) (ix i)) (v_mk (z_V z) (ix i)) xs 6))), (5, .int bl), (6, .int (nI ls)), (7, .int (nI (k + 1))), (8, .int (nI (v_pa (z_V z) (ix i) (s_fk (v_dg (z_V z) (ix i)) (v_mk (z_V z) (ix i)) xs 6) (k + 1) a))), (9, .int (nI a)), (10, .int (nI (v_pb (z_V z) (ix i) (s_fk (v_dg (z_V z) (ix i)) (v_mk (z_V z) (ix i)) xs 6) (k + 1) a c))), (11, .int (nI c))] dX11_test_109 (by decide) rfl ?_
                  refine m_iload C 11 dX11_test_111 rfl ?_
                  refine m_iload C 0 dX11_test_113 rfl ?_
                  refine m_if_eq C 167 dX11_test_115 (by decide) (fun h => absurd h (by decide)) (fun _ => ?_)
                  refine m_iload C 10 dX11_test_118 rfl ?_
                  have hs1 := v_as_le hw hi (k := a) (n := k + 1) (by omega)
                  have hs2 := v_as_le hw hi (k := c) (n := k + 1) (by omega)
                  refine m_aload_n C 1 dX11_test_120 rfl ?_
                  refine m_iload_n C 2 dX11_test_121 rfl ?_
                  refine m_topi (nI (ix i)) ei ?_
                  refine m_callVf C 64 (by decide) rfl rfl (c_X11_digitOf l G mu nu (z_V z) hv (ix i) (by omega)) wkX11_123 (by decide) rfl rfl (Nat.le_of_ble_eq_true rfl) dX11_test_122 ?_
                  refine m_aload_n C 1 dX11_test_125 rfl ?_
                  refine gfX11_7 C dX11_test_126 ?_
                  refine m_bipush C 24 dX11_test_129 (by decide +kernel) ?_
                  refine m_iload_n C 2 dX11_test_131 rfl ?_
                  refine m_topi (nI (ix i)) ei ?_
                  refine m_iadd C dX11_test_132 ?_
                  refine m_topi (nI (24 + (ix i))) (nn_add rfl rfl) ?_
                  refine m_iald C 65 (by decide) sa_65 (24 + (ix i)) rfl (by omega) (by decide) dX11_test_133 ?_
                  refine m_topi (nI (v_mk (z_V z) (ix i))) (zm_mk hv hi) ?_
                  refine m_iload C 8 dX11_test_134 rfl ?_
                  refine m_callSf C (c_X11_showsBy l G mu nu a (by omega) (v_dg (z_V z) (ix i)) (v_mk (z_V z) (ix i)) (k + 1) (by omega) (by omega) (by omega) (by omega)) wkX11_126 (by decide) rfl rfl (Nat.le_of_ble_eq_true rfl) dX11_test_136 ?_
                  refine m_topi (nI (v_as (z_V z) (ix i) a (k + 1))) rfl ?_
                  refine m_iload C 12 dX11_test_139 rfl ?_
                  refine m_aload_n C 1 dX11_test_141 rfl ?_
                  refine m_iload_n C 2 dX11_test_142 rfl ?_
                  refine m_topi (nI (ix i)) ei ?_
                  refine m_callVf C 64 (by decide) rfl rfl (c_X11_digitOf l G mu nu (z_V z) hv (ix i) (by omega)) wkX11_123 (by decide) rfl rfl (Nat.le_of_ble_eq_true rfl) dX11_test_143 ?_
                  refine m_aload_n C 1 dX11_test_146 rfl ?_
                  refine gfX11_7 C dX11_test_147 ?_
                  refine m_bipush C 24 dX11_test_150 (by decide +kernel) ?_
                  refine m_iload_n C 2 dX11_test_152 rfl ?_
                  refine m_topi (nI (ix i)) ei ?_
                  refine m_iadd C dX11_test_153 ?_
                  refine m_topi (nI (24 + (ix i))) (nn_add rfl rfl) ?_
                  refine m_iald C 65 (by decide) sa_65 (24 + (ix i)) rfl (by omega) (by decide) dX11_test_154 ?_
                  refine m_topi (nI (v_mk (z_V z) (ix i))) (zm_mk hv hi) ?_
                  refine m_iload C 8 dX11_test_155 rfl ?_
                  refine m_callSf C (c_X11_showsBy l G mu nu c (by omega) (v_dg (z_V z) (ix i)) (v_mk (z_V z) (ix i)) (k + 1) (by omega) (by omega) (by omega) (by omega)) wkX11_126 (by decide) rfl rfl (Nat.le_of_ble_eq_true rfl) dX11_test_157 ?_
                  refine m_topi (nI (v_as (z_V z) (ix i) c (k + 1))) rfl ?_
                  refine m_icmp_ne C 167 dX11_test_160 (by decide) (fun hh18 => ?_) (fun hh18 => ?_)
                  · replace hh18 := mt (ii_eq (nn_i (a := v_as (z_V z) (ix i) a (k + 1)) rfl (by omega)) (nn_i (a := v_as (z_V z) (ix i) c (k + 1)) rfl (by omega))).mpr hh18
                    refine m_iconst C 0 dX11_test_167 (by decide +kernel) ?_
                    refine m_iadd C dX11_test_168 ?_
                    refine m_topi (nI ((v_pb (z_V z) (ix i) (s_fk (v_dg (z_V z) (ix i)) (v_mk (z_V z) (ix i)) xs 6) (k + 1) a c) + 0)) (nn_add rfl rfl) ?_
                    refine m_topi (nI (v_pb (z_V z) (ix i) (s_fk (v_dg (z_V z) (ix i)) (v_mk (z_V z) (ix i)) xs 6) (k + 1) a (c + 1))) (congrArg nI (congrArg (fun q => v_pb (z_V z) (ix i) (s_fk (v_dg (z_V z) (ix i)) (v_mk (z_V z) (ix i)) xs 6) (k + 1) a c + q) (if_neg (by omega)).symm)) ?_
                    refine m_istore C [(10, .int (nI (v_pb (z_V z) (ix i) (s_fk (v_dg (z_V z) (ix i)) (v_mk (z_V z) (ix i)) xs 6) (k + 1) a (c + 1)))), (12, .int 1), (0, .ref (G.1 64)), (1, .int i), (2, .int r), (3, .int r3), (4, .int (nI (s_fk (v_dg (z_V z) (ix i)) (v_mk (z_V z) (ix i)) xs 6))), (5, .int bl), (6, .int (nI ls)), (7, .int (nI (k + 1))), (8, .int (nI (v_pa (z_V z) (ix i) (s_fk (v_dg (z_V z) (ix i)) (v_mk (z_V z) (ix i)) xs 6) (k + 1) a))), (9, .int (nI a)), (11, .int (nI c))] dX11_test_169 (by decide) rfl ?_
                    refine m_iinc C 12 (nI (c + 1)) [(11, .int (nI (c + 1))), (10, .int (nI (v_pb (z_V z) (ix i) (s_fk (v_dg (z_V z) (ix i)) (v_mk (z_V z) (ix i)) xs 6) (k + 1) a (c + 1)))), (12, .int 1), (0, .ref (G.1 64)), (1, .int i), (2, .int r), (3, .int r3), (4, .int (nI (s_fk (v_dg (z_V z) (ix i)) (v_mk (z_V z) (ix i)) xs 6))), (5, .int bl), (6, .int (nI ls)), (7, .int (nI (k + 1))), (8, .int (nI (v_pa (z_V z) (ix i) (s_fk (v_dg (z_V z) (ix i)) (v_mk (z_V z) (ix i)) xs 6) (k + 1) a))), (9, .int (nI a))] dX11_test_171 rfl (nn_add rfl (show Int32.ofInt 1 = nI 1 from rfl)) (by decide) rfl ?_
                    refine m_goto C 78 dX11_test_174 (by decide) ?_
                    exact m_sub [3, 4, 5, 6, 7, 8, 9, 10, 11, 12, 1, 0] rfl (ih78 (c + 1) (by omega) (by omega))
                  replace hh18 := (ii_eq (nn_i (a := v_as (z_V z) (ix i) a (k + 1)) rfl (by omega)) (nn_i (a := v_as (z_V z) (ix i) c (k + 1)) rfl (by omega))).mp hh18
                  refine m_iconst C 1 dX11_test_163 (by decide +kernel) ?_
                  refine m_goto C 168 dX11_test_164 (by decide) ?_
                  refine m_iadd C dX11_test_168 ?_
                  refine m_topi (nI ((v_pb (z_V z) (ix i) (s_fk (v_dg (z_V z) (ix i)) (v_mk (z_V z) (ix i)) xs 6) (k + 1) a c) + 1)) (nn_add rfl rfl) ?_
                  refine m_topi (nI (v_pb (z_V z) (ix i) (s_fk (v_dg (z_V z) (ix i)) (v_mk (z_V z) (ix i)) xs 6) (k + 1) a (c + 1))) (congrArg nI (congrArg (fun q => v_pb (z_V z) (ix i) (s_fk (v_dg (z_V z) (ix i)) (v_mk (z_V z) (ix i)) xs 6) (k + 1) a c + q) (if_pos (by omega)).symm)) ?_
                  refine m_istore C [(10, .int (nI (v_pb (z_V z) (ix i) (s_fk (v_dg (z_V z) (ix i)) (v_mk (z_V z) (ix i)) xs 6) (k + 1) a (c + 1)))), (12, .int 1), (0, .ref (G.1 64)), (1, .int i), (2, .int r), (3, .int r3), (4, .int (nI (s_fk (v_dg (z_V z) (ix i)) (v_mk (z_V z) (ix i)) xs 6))), (5, .int bl), (6, .int (nI ls)), (7, .int (nI (k + 1))), (8, .int (nI (v_pa (z_V z) (ix i) (s_fk (v_dg (z_V z) (ix i)) (v_mk (z_V z) (ix i)) xs 6) (k + 1) a))), (9, .int (nI a)), (11, .int (nI c))] dX11_test_169 (by decide) rfl ?_
                  refine m_iinc C 12 (nI (c + 1)) [(11, .int (nI (c + 1))), (10, .int (nI (v_pb (z_V z) (ix i) (s_fk (v_dg (z_V z) (ix i)) (v_mk (z_V z) (ix i)) xs 6) (k + 1) a (c + 1)))), (12, .int 1), (0, .ref (G.1 64)), (1, .int i), (2, .int r), (3, .int r3), (4, .int (nI (s_fk (v_dg (z_V z) (ix i)) (v_mk (z_V z) (ix i)) xs 6))), (5, .int bl), (6, .int (nI ls)), (7, .int (nI (k + 1))), (8, .int (nI (v_pa (z_V z) (ix i) (s_fk (v_dg (z_V z) (ix i)) (v_mk (z_V z) (ix i)) xs 6) (k + 1) a))), (9, .int (nI a))] dX11_test_171 rfl (nn_add rfl (show Int32.ofInt 1 = nI 1 from rfl)) (by decide) rfl ?_
                  refine m_goto C 78 dX11_test_174 (by decide) ?_
                  exact m_sub [3, 4, 5, 6, 7, 8, 9, 10, 11, 12, 1, 0] rfl (ih78 (c + 1) (by omega) (by omega))
              exact m_sub [2, 3, 4, 5, 6, 7, 8, 9, 10, 11, 1, 0] rfl (L78 (_ + 1) 0 (Nat.zero_le _) (Nat.lt_succ_self _))
          exact m_sub [2, 3, 4, 5, 6, 7, 8, 9, 1, 0] rfl (L66 (_ + 1) 0 (Nat.zero_le _) (Nat.lt_succ_self _))
      exact m_sub [5, 6, 7, 4, 3, 2, 1, 0] rfl (L48 (_ + 1) 0 (-9) 1000000000 (Nat.zero_le _) (Or.inl ⟨rfl, rfl, rfl⟩) (fun h => absurd h (Nat.not_lt_zero _)) (Nat.lt_succ_self _))
    replace hh4 := mt (ii_eq (rfl : (r3).toInt = _) (nn_i (a := 0) rfl (by omega))).mpr hh4
    refine m_iload_n C 0 dX11_test_27 rfl ?_
    refine m_ireti C hQ dX11_test_28 ?_
    exact PM_pairs hz hp3 hh4 (fun h => by unfold s_test; rw [if_neg (by omega), if_neg h])
  replace hh2 := bI_eq0.mp hh2
  refine m_iconst C (-1) dX11_test_15 (by decide +kernel) ?_
  refine m_ireti C hQ dX11_test_16 ?_
  exact PM_of (by unfold s_test; rw [if_pos (by omega)]) hz zcm_rfl

set_option maxHeartbeats 4000000 in
set_option maxRecDepth 100000 in
theorem c_X11_other (l : Launch) (G : Gl) (mu : Mu) (nu : Nu) (z : Zt) (hz : ZM mu nu z) (r : Int32) : Ci l G mX11_other 7 [.ref (G.1 64), .int r] mu nu (PM mu nu (s_other z r)) := by
  have hv : zm mu (z_V z) := zm_v hz
  have hw := hv.1
  have hN7 := hw.1
  have hm7 := hw.2.2.1
  have ho8 := hw.2.2.2.2
  have hcz : ((v_N (z_V z) : Nat) : Int) = ((z_N z : Nat) : Int) := rfl
  refine Ct.of (lv := [(0, .ref (G.1 64)), (1, .int r)]) rfl rfl (Nat.le_of_ble_eq_true rfl) rfl (fun X C => ?_)
  generalize hQ : g_E G X _ = Q
  replace C : Cx G 9 X cX11_other RX11 (some .int) 7 := C
  show Mq l G 9 X Q 0 [(0, .ref (G.1 64)), (1, .int r)] [] mu nu
  refine m_iload_n C 1 dX11_other_0 rfl ?_
  refine m_callSf C (c_X11_isRow l G mu nu r) wkX11_76 (by decide) rfl rfl (Nat.le_of_ble_eq_true rfl) dX11_other_1 ?_
  refine m_if_ne C 9 dX11_other_4 (by decide) (fun hh1 => ?_) (fun hh1 => ?_)
  · replace hh1 := bI_ne0.mp hh1
    obtain ⟨er, kr⟩ := ix_eq (x := r) (by omega)
    refine m_aload_n C 0 dX11_other_9 rfl ?_
    refine m_iload_n C 1 dX11_other_10 rfl ?_
    refine m_topi (nI (ix r)) er ?_
    refine m_callVi C 64 (by decide) rfl rfl (c_X11_againstPairs l G mu nu (ix r) (by omega) (z_rw z (ix r)) (hz.2.2.2.2.1 (ix r) (by omega))) wkX11_196 (by decide) rfl rfl (Nat.le_of_ble_eq_true rfl) dX11_other_11 (fun r2 m2 n2 hp2 => ?_)
    refine m_istore_n C [(2, .int r2), (0, .ref (G.1 64)), (1, .int r)] dX11_other_14 (by decide) rfl ?_
    refine m_iload_n C 0 dX11_other_15 rfl ?_
    refine m_if_eq C 21 dX11_other_16 (by decide) (fun hh3 => ?_) (fun hh3 => ?_)
    · replace hh3 := (ii_eq (rfl : (r2).toInt = _) (nn_i (a := 0) rfl (by omega))).mp hh3
      obtain ⟨hp0, hm0, hn0⟩ := ap_ok hp2 hh3
      rw [hm0, hn0]
      obtain ⟨xs, hxe, hev, hok⟩ := s_prs0 hp0
      have hxs0 := hz.2.2.2.2.1 (ix r) (by omega)
      rw [hxe] at hxs0
      obtain ⟨hx1, hx2, hx3⟩ := hxs0
      have hx0 : s_row0 (z_rw z (ix r)) = xs := by rw [hxe]; rfl
      refine m_iconst C 0 dX11_other_21 (by decide +kernel) ?_
      refine m_istore_n C [(3, .int 0), (2, .int r2), (0, .ref (G.1 64)), (1, .int r)] dX11_other_22 (by decide) rfl ?_
      refine m_bipush C (-9) dX11_other_23 (by decide +kernel) ?_
      refine m_istore C [(4, .int ((-9))), (3, .int 0), (2, .int r2), (0, .ref (G.1 64)), (1, .int r)] dX11_other_25 (by decide) rfl ?_
      refine m_iconst C 0 dX11_other_27 (by decide +kernel) ?_
      refine m_istore C [(5, .int 0), (4, .int ((-9))), (3, .int 0), (2, .int r2), (0, .ref (G.1 64)), (1, .int r)] dX11_other_28 (by decide) rfl ?_
      have L30 : ∀ (fu : Nat) (p : Nat) (fi : Int32) (hp : p ≤ v_m (z_V z)) (hf1 : 0 < (v_op (z_V z) xs p).1 → fi = nI (v_op (z_V z) xs p).2), v_m (z_V z) - p < fu → Mq l G 9 X Q 30 [(0, .ref (G.1 64)), (1, .int r), (2, .int r2), (3, .int (nI ((v_op (z_V z) xs p).1))), (4, .int fi), (5, .int (nI p))] [] mu nu := by
        intro fu
        induction fu with
        | zero => intro p fi hp hf1 hm; exact absurd hm (Nat.not_lt_zero _)
        | succ fu ih30 =>
          intro p fi hp hf1 hm
          have hpl := v_op_le (V := z_V z) (xs := xs) p
          refine m_iload C 5 dX11_other_30 rfl ?_
          refine m_aload_n C 0 dX11_other_32 rfl ?_
          refine gfX11_7 C dX11_other_33 ?_
          refine m_iconst C 1 dX11_other_36 (by decide +kernel) ?_
          refine m_iald C 65 (by decide) sa_65 1 rfl (by omega) (by decide) dX11_other_37 ?_
          refine m_topi (nI (v_m (z_V z))) hv.2.2.1 ?_
          refine m_icmp_ge C 194 dX11_other_38 (by decide) (fun hh4 => ?_) (fun hh4 => ?_)
          · replace hh4 := (ii_le (nn_i (a := v_m (z_V z)) rfl (by omega)) (nn_i (a := p) rfl (by omega))).mp hh4
            refine m_iload_n C 3 dX11_other_194 rfl ?_
            refine m_if_ne C 201 dX11_other_195 (by decide) (fun hh5 => ?_) (fun hh5 => ?_)
            · replace hh5 := mt (ii_eq (nn_i (a := (v_op (z_V z) xs p).1) rfl (by omega)) (nn_i (a := 0) rfl (by omega))).mpr hh5
              refine m_aload_n C 0 dX11_other_201 rfl ?_
              refine m_iload C 4 dX11_other_202 rfl ?_
              refine pfX11_60 C dX11_other_204 ?_
              refine m_nameM (fun mu6 emu6 => ?_)
              refine m_iload_n C 3 dX11_other_207 rfl ?_
              refine m_ireti C hQ dX11_other_208 ?_
              have ep : p = v_m (z_V z) := by omega
              subst ep; rw [emu6, hf1 (by omega)]; exact PM_of (by unfold s_other; rw [if_neg (by omega), if_pos hp0, hx0]; rw [if_neg (by omega)]) (zm_told hz) zcm_told
            replace hh5 := (ii_eq (nn_i (a := (v_op (z_V z) xs p).1) rfl (by omega)) (nn_i (a := 0) rfl (by omega))).mp hh5
            refine m_bipush C (-9) dX11_other_198 (by decide +kernel) ?_
            refine m_ireti C hQ dX11_other_200 ?_
            have ep : p = v_m (z_V z) := by omega
            subst ep; exact PM_of (by unfold s_other; rw [if_neg (by omega), if_pos hp0, hx0]; rw [if_pos (by omega)]) hz zcm_rfl
          replace hh4 := mt (ii_le (nn_i (a := v_m (z_V z)) rfl (by omega)) (nn_i (a := p) rfl (by omega))).mpr hh4
          have hfp := hw.2.2.2.1 p (by omega)
          have hdp := v_dg_le hw hfp
          refine m_iconst C 0 dX11_other_41 (by decide +kernel) ?_
          refine m_istore C [(6, .int 0), (0, .ref (G.1 64)), (1, .int r), (2, .int r2), (3, .int (nI ((v_op (z_V z) xs p).1))), (4, .int fi), (5, .int (nI p))] dX11_other_42 (by decide) rfl ?_
          have L44 : ∀ (fu : Nat) (d : Nat) (f2 : Int32) (hd : d ≤ 10) (hf2 : 0 < (v_od (z_V z) xs p (v_op (z_V z) xs p) d).1 → f2 = nI (v_od (z_V z) xs p (v_op (z_V z) xs p) d).2), 10 - d < fu → Mq l G 9 X Q 44 [(0, .ref (G.1 64)), (1, .int r), (2, .int r2), (3, .int (nI ((v_od (z_V z) xs p (v_op (z_V z) xs p) d).1))), (4, .int f2), (5, .int (nI p)), (6, .int (nI d))] [] mu nu := by
            intro fu
            induction fu with
            | zero => intro d f2 hd hf2 hm; exact absurd hm (Nat.not_lt_zero _)
            | succ fu ih44 =>
              intro d f2 hd hf2 hm
              have hol := v_od_le (V := z_V z) (xs := xs) (p := p) (a := v_op (z_V z) xs p) d
              refine m_iload C 6 dX11_other_44 rfl ?_
              refine m_bipush C 10 dX11_other_46 (by decide +kernel) ?_
              refine m_icmp_ge C 188 dX11_other_48 (by decide) (fun hh7 => ?_) (fun hh7 => ?_)
              · replace hh7 := (ii_le (nn_i (a := 10) rfl (by omega)) (nn_i (a := d) rfl (by omega))).mp hh7
                have ed : d = 10 := by omega
                rw [ed] at hf2 ⊢
                show Mq l G 9 X Q 188 [(0, .ref (G.1 64)), (1, .int r), (2, .int r2), (3, .int (nI ((v_op (z_V z) xs (p + 1)).1))), (4, .int f2), (5, .int (nI p)), (6, .int (nI 10))] [] mu nu
                refine m_iinc C 5 (nI (p + 1)) [(5, .int (nI (p + 1))), (0, .ref (G.1 64)), (1, .int r), (2, .int r2), (3, .int (nI ((v_op (z_V z) xs (p + 1)).1))), (4, .int f2), (6, .int (nI 10))] dX11_other_188 rfl (nn_add rfl (show Int32.ofInt 1 = nI 1 from rfl)) (by decide) rfl ?_
                refine m_goto C 30 dX11_other_191 (by decide) ?_
                exact m_sub [1, 2, 3, 4, 5, 0] rfl (ih30 (p + 1) f2 (by omega) hf2 (by omega))
              replace hh7 := mt (ii_le (nn_i (a := 10) rfl (by omega)) (nn_i (a := d) rfl (by omega))).mpr hh7
              refine m_iload C 6 dX11_other_51 rfl ?_
              refine m_aload_n C 0 dX11_other_53 rfl ?_
              refine m_aload_n C 0 dX11_other_54 rfl ?_
              refine gfX11_7 C dX11_other_55 ?_
              refine m_iconst C 3 dX11_other_58 (by decide +kernel) ?_
              refine m_iload C 5 dX11_other_59 rfl ?_
              refine m_iadd C dX11_other_61 ?_
              refine m_topi (nI (3 + p)) (nn_add rfl rfl) ?_
              refine m_iald C 65 (by decide) sa_65 (3 + p) rfl (by omega) (by decide) dX11_other_62 ?_
              refine m_topi (nI (v_fr (z_V z) p)) (zm_fr hv (by omega)) ?_
              refine m_callVf C 64 (by decide) rfl rfl (c_X11_digitOf l G mu nu (z_V z) hv (v_fr (z_V z) p) (by omega)) wkX11_123 (by decide) rfl rfl (Nat.le_of_ble_eq_true rfl) dX11_other_63 ?_
              refine m_icmp_eq C 73 dX11_other_66 (by decide) (fun hh8 => ?_) (fun hh8 => ?_)
              · replace hh8 := (ii_eq (nn_i (a := d) rfl (by omega)) (nn_i (a := v_dg (z_V z) (v_fr (z_V z) p)) rfl (by omega))).mp hh8
                have hdd : d = v_dg (z_V z) (v_fr (z_V z) p) := by omega
                refine m_iconst C 0 dX11_other_73 (by decide +kernel) ?_
                refine m_istore C [(7, .int 0), (0, .ref (G.1 64)), (1, .int r), (2, .int r2), (3, .int (nI ((v_od (z_V z) xs p (v_op (z_V z) xs p) d).1))), (4, .int f2), (5, .int (nI p)), (6, .int (nI d))] dX11_other_74 (by decide) rfl ?_
                refine m_iconst C 0 dX11_other_76 (by decide +kernel) ?_
                refine m_istore C [(8, .int 0), (7, .int 0), (0, .ref (G.1 64)), (1, .int r), (2, .int r2), (3, .int (nI ((v_od (z_V z) xs p (v_op (z_V z) xs p) d).1))), (4, .int f2), (5, .int (nI p)), (6, .int (nI d))] dX11_other_77 (by decide) rfl ?_
                have L79 : ∀ (fu : Nat) (k : Nat) (b : Int32) (hk : 2 * k ≤ xs.length) (hb : (b = 1 ∧ (¬ d = v_dg (z_V z) (v_fr (z_V z) p) ∧ ∀ j, j < k → nI (v_rw (z_V z) p d (s_ln xs j) (v_m (z_V z))) = xs.getD (2 * j + 1) 0)) ∨ (b = 0 ∧ ¬ (¬ d = v_dg (z_V z) (v_fr (z_V z) p) ∧ ∀ j, j < k → nI (v_rw (z_V z) p d (s_ln xs j) (v_m (z_V z))) = xs.getD (2 * j + 1) 0))), xs.length - 2 * k < fu → Mq l G 9 X Q 79 [(0, .ref (G.1 64)), (1, .int r), (2, .int r2), (3, .int (nI ((v_od (z_V z) xs p (v_op (z_V z) xs p) d).1))), (4, .int f2), (5, .int (nI p)), (6, .int (nI d)), (7, .int b), (8, .int (nI (2 * k)))] [] mu nu := by
                  intro fu
                  induction fu with
                  | zero => intro k b hk hb hm; exact absurd hm (Nat.not_lt_zero _)
                  | succ fu ih79 =>
                    intro k b hk hb hm
                    refine m_iload C 8 dX11_other_79 rfl ?_
                    refine m_aload_n C 0 dX11_other_81 rfl ?_
                    refine gfX11_13 C dX11_other_82 ?_
                    refine m_iload_n C 1 dX11_other_85 rfl ?_
                    refine m_topi (nI (ix r)) er ?_
                    refine m_iald C 66 (by decide) sa_66 (ix r) rfl (by omega) (by decide) dX11_other_86 ?_
                    refine m_topi (nI xs.length) hx1 ?_
                    refine m_icmp_ge C 145 dX11_other_87 (by decide) (fun hh9 => ?_) (fun hh9 => ?_)
                    · replace hh9 := (ii_le (nn_i (a := xs.length) rfl (by omega)) (nn_i (a := 2 * k) rfl (by omega))).mp hh9
                      have hbF : (b = 1 ∧ (¬ d = v_dg (z_V z) (v_fr (z_V z) p) ∧ ∀ k, k < xs.length / 2 → nI (v_rw (z_V z) p d (s_ln xs k) (v_m (z_V z))) = xs.getD (2 * k + 1) 0)) ∨ (b = 0 ∧ ¬ (¬ d = v_dg (z_V z) (v_fr (z_V z) p) ∧ ∀ k, k < xs.length / 2 → nI (v_rw (z_V z) p d (s_ln xs k) (v_m (z_V z))) = xs.getD (2 * k + 1) 0)) := by
                        rcases hb with ⟨e, q1, q2⟩ | ⟨e, q⟩
                        · exact Or.inl ⟨e, q1, fun j hj => q2 j (by omega)⟩
                        · exact Or.inr ⟨e, fun h => q ⟨h.1, fun j hj => h.2 j (by omega)⟩⟩
                      refine m_iload C 7 dX11_other_145 rfl ?_
                      refine m_if_eq C 165 dX11_other_147 (by decide) (fun hh10 => ?_) (fun hh10 => ?_)
                      · replace hh10 := (ii_eq (rfl : (b).toInt = _) (nn_i (a := 0) rfl (by omega))).mp hh10
                        have hbz := hh10
                        have hod : v_od (z_V z) xs p (v_op (z_V z) xs p) (d + 1) = v_od (z_V z) xs p (v_op (z_V z) xs p) d := if_neg (fl_f hbF hh10)
                        refine m_iload C 4 dX11_other_165 rfl ?_
                        refine m_istore C [(4, .int f2), (0, .ref (G.1 64)), (1, .int r), (2, .int r2), (3, .int (nI ((v_od (z_V z) xs p (v_op (z_V z) xs p) d).1))), (5, .int (nI p)), (6, .int (nI d)), (7, .int b), (8, .int (nI (2 * k)))] dX11_other_167 (by decide) rfl ?_
                        refine m_iload_n C 4 dX11_other_169 rfl ?_
                        refine m_iload C 7 dX11_other_170 rfl ?_
                        refine m_if_eq C 179 dX11_other_172 (by decide) (fun _ => ?_) (fun hh11 => absurd ((ii_eq (rfl : (b).toInt = _) (nn_i (a := 0) rfl (by omega))).mpr (by omega)) hh11)
                        refine m_iconst C 0 dX11_other_179 (by decide +kernel) ?_
                        refine m_iadd C dX11_other_180 ?_
                        refine m_topi (nI (((v_od (z_V z) xs p (v_op (z_V z) xs p) d).1) + 0)) (nn_add rfl rfl) ?_
                        refine m_topi (nI ((v_od (z_V z) xs p (v_op (z_V z) xs p) (d + 1)).1)) (congrArg nI (by rw [hod, Nat.add_zero])) ?_
                        refine m_istore_n C [(3, .int (nI ((v_od (z_V z) xs p (v_op (z_V z) xs p) (d + 1)).1))), (4, .int f2), (0, .ref (G.1 64)), (1, .int r), (2, .int r2), (5, .int (nI p)), (6, .int (nI d)), (7, .int b), (8, .int (nI (2 * k)))] dX11_other_181 (by decide) rfl ?_
                        refine m_iinc C 6 (nI (d + 1)) [(6, .int (nI (d + 1))), (3, .int (nI ((v_od (z_V z) xs p (v_op (z_V z) xs p) (d + 1)).1))), (4, .int f2), (0, .ref (G.1 64)), (1, .int r), (2, .int r2), (5, .int (nI p)), (7, .int b), (8, .int (nI (2 * k)))] dX11_other_182 rfl (nn_add rfl (show Int32.ofInt 1 = nI 1 from rfl)) (by decide) rfl ?_
                        refine m_goto C 44 dX11_other_185 (by decide) ?_
                        exact m_sub [3, 4, 5, 1, 2, 6, 0] rfl (ih44 (d + 1) f2 (by omega) (fun h => by rw [hod] at h ⊢; exact hf2 h) (by omega))
                      replace hh10 := mt (ii_eq (rfl : (b).toInt = _) (nn_i (a := 0) rfl (by omega))).mpr hh10
                      have hbz := hh10
                      have hPd := fl_t hbF hh10
                      have hod : v_od (z_V z) xs p (v_op (z_V z) xs p) (d + 1) = ((v_od (z_V z) xs p (v_op (z_V z) xs p) d).1 + 1, if (v_od (z_V z) xs p (v_op (z_V z) xs p) d).1 = 0 then 10 * p + d else (v_od (z_V z) xs p (v_op (z_V z) xs p) d).2) := if_pos hPd
                      refine m_iload_n C 3 dX11_other_150 rfl ?_
                      refine m_if_ne C 165 dX11_other_151 (by decide) (fun hh12 => ?_) (fun hh12 => ?_)
                      · replace hh12 := mt (ii_eq (nn_i (a := (v_od (z_V z) xs p (v_op (z_V z) xs p) d).1) rfl (by omega)) (nn_i (a := 0) rfl (by omega))).mpr hh12
                        refine m_iload C 4 dX11_other_165 rfl ?_
                        refine m_istore C [(4, .int f2), (0, .ref (G.1 64)), (1, .int r), (2, .int r2), (3, .int (nI ((v_od (z_V z) xs p (v_op (z_V z) xs p) d).1))), (5, .int (nI p)), (6, .int (nI d)), (7, .int b), (8, .int (nI (2 * k)))] dX11_other_167 (by decide) rfl ?_
                        refine m_iload_n C 4 dX11_other_169 rfl ?_
                        refine m_iload C 7 dX11_other_170 rfl ?_
                        refine m_if_eq C 179 dX11_other_172 (by decide) (fun hh13 => absurd hh13 (mt (ii_eq (rfl : (b).toInt = _) (nn_i (a := 0) rfl (by omega))).mp (by omega))) (fun _ => ?_)
                        refine m_iconst C 1 dX11_other_175 (by decide +kernel) ?_
                        refine m_goto C 180 dX11_other_176 (by decide) ?_
                        refine m_iadd C dX11_other_180 ?_
                        refine m_topi (nI (((v_od (z_V z) xs p (v_op (z_V z) xs p) d).1) + 1)) (nn_add rfl rfl) ?_
                        refine m_topi (nI ((v_od (z_V z) xs p (v_op (z_V z) xs p) (d + 1)).1)) (congrArg nI (by rw [hod])) ?_
                        refine m_istore_n C [(3, .int (nI ((v_od (z_V z) xs p (v_op (z_V z) xs p) (d + 1)).1))), (4, .int f2), (0, .ref (G.1 64)), (1, .int r), (2, .int r2), (5, .int (nI p)), (6, .int (nI d)), (7, .int b), (8, .int (nI (2 * k)))] dX11_other_181 (by decide) rfl ?_
                        refine m_iinc C 6 (nI (d + 1)) [(6, .int (nI (d + 1))), (3, .int (nI ((v_od (z_V z) xs p (v_op (z_V z) xs p) (d + 1)).1))), (4, .int f2), (0, .ref (G.1 64)), (1, .int r), (2, .int r2), (5, .int (nI p)), (7, .int b), (8, .int (nI (2 * k)))] dX11_other_182 rfl (nn_add rfl (show Int32.ofInt 1 = nI 1 from rfl)) (by decide) rfl ?_
                        refine m_goto C 44 dX11_other_185 (by decide) ?_
                        exact m_sub [3, 4, 5, 1, 2, 6, 0] rfl (ih44 (d + 1) f2 (by omega) (fun _ => by rw [hod]; exact (hf2 (by omega)).trans (congrArg nI (if_neg (by omega)).symm)) (by omega))
                      replace hh12 := (ii_eq (nn_i (a := (v_od (z_V z) xs p (v_op (z_V z) xs p) d).1) rfl (by omega)) (nn_i (a := 0) rfl (by omega))).mp hh12
                      refine m_bipush C 10 dX11_other_154 (by decide +kernel) ?_
                      refine m_iload C 5 dX11_other_156 rfl ?_
                      refine m_imul C dX11_other_158 ?_
                      refine m_topi (nI (10 * p)) (nn_mul rfl rfl) ?_
                      refine m_iload C 6 dX11_other_159 rfl ?_
                      refine m_iadd C dX11_other_161 ?_
                      refine m_topi (nI ((10 * p) + d)) (nn_add rfl rfl) ?_
                      refine m_goto C 167 dX11_other_162 (by decide) ?_
                      refine m_istore C [(4, .int (nI ((10 * p) + d))), (0, .ref (G.1 64)), (1, .int r), (2, .int r2), (3, .int (nI ((v_od (z_V z) xs p (v_op (z_V z) xs p) d).1))), (5, .int (nI p)), (6, .int (nI d)), (7, .int b), (8, .int (nI (2 * k)))] dX11_other_167 (by decide) rfl ?_
                      refine m_iload_n C 4 dX11_other_169 rfl ?_
                      refine m_iload C 7 dX11_other_170 rfl ?_
                      refine m_if_eq C 179 dX11_other_172 (by decide) (fun hh14 => absurd hh14 (mt (ii_eq (rfl : (b).toInt = _) (nn_i (a := 0) rfl (by omega))).mp (by omega))) (fun _ => ?_)
                      refine m_iconst C 1 dX11_other_175 (by decide +kernel) ?_
                      refine m_goto C 180 dX11_other_176 (by decide) ?_
                      refine m_iadd C dX11_other_180 ?_
                      refine m_topi (nI (((v_od (z_V z) xs p (v_op (z_V z) xs p) d).1) + 1)) (nn_add rfl rfl) ?_
                      refine m_topi (nI ((v_od (z_V z) xs p (v_op (z_V z) xs p) (d + 1)).1)) (congrArg nI (by rw [hod])) ?_
                      refine m_istore_n C [(3, .int (nI ((v_od (z_V z) xs p (v_op (z_V z) xs p) (d + 1)).1))), (4, .int (nI ((10 * p) + d))), (0, .ref (G.1 64)), (1, .int r), (2, .int r2), (5, .int (nI p)), (6, .int (nI d)), (7, .int b), (8, .int (nI (2 * k)))] dX11_other_181 (by decide) rfl ?_
                      refine m_iinc C 6 (nI (d + 1)) [(6, .int (nI (d + 1))), (3, .int (nI ((v_od (z_V z) xs p (v_op (z_V z) xs p) (d + 1)).1))), (4, .int (nI ((10 * p) + d))), (0, .ref (G.1 64)), (1, .int r), (2, .int r2), (5, .int (nI p)), (7, .int b), (8, .int (nI (2 * k)))] dX11_other_182 rfl (nn_add rfl (show Int32.ofInt 1 = nI 1 from rfl)) (by decide) rfl ?_
                      refine m_goto C 44 dX11_other_185 (by decide) ?_
                      exact m_sub [3, 4, 5, 1, 2, 6, 0] rfl (ih44 (d + 1) (nI ((10 * p) + d)) (by omega) (fun _ => by rw [hod]; exact congrArg nI (if_pos (by omega)).symm) (by omega))
                    replace hh9 := mt (ii_le (nn_i (a := xs.length) rfl (by omega)) (nn_i (a := 2 * k) rfl (by omega))).mpr hh9
                    obtain ⟨hp1, hp2, hp3⟩ := s_ln_eq (hok k (by omega))
                    refine m_iload C 7 dX11_other_90 rfl ?_
                    refine m_if_eq C 145 dX11_other_92 (by decide) (fun hh15 => ?_) (fun hh15 => ?_)
                    · replace hh15 := (ii_eq (rfl : (b).toInt = _) (nn_i (a := 0) rfl (by omega))).mp hh15
                      have hbF : (b = 1 ∧ (¬ d = v_dg (z_V z) (v_fr (z_V z) p) ∧ ∀ k, k < xs.length / 2 → nI (v_rw (z_V z) p d (s_ln xs k) (v_m (z_V z))) = xs.getD (2 * k + 1) 0)) ∨ (b = 0 ∧ ¬ (¬ d = v_dg (z_V z) (v_fr (z_V z) p) ∧ ∀ k, k < xs.length / 2 → nI (v_rw (z_V z) p d (s_ln xs k) (v_m (z_V z))) = xs.getD (2 * k + 1) 0)) := Or.inr ⟨Int32.toInt_inj.mp hh15, fun q => fl_f hb hh15 ⟨q.1, fun j hj => q.2 j (by omega)⟩⟩
                      refine m_iload C 7 dX11_other_145 rfl ?_
                      refine m_if_eq C 165 dX11_other_147 (by decide) (fun hh16 => ?_) (fun hh16 => ?_)
                      · replace hh16 := (ii_eq (rfl : (b).toInt = _) (nn_i (a := 0) rfl (by omega))).mp hh16
                        have hbz := hh16
                        have hod : v_od (z_V z) xs p (v_op (z_V z) xs p) (d + 1) = v_od (z_V z) xs p (v_op (z_V z) xs p) d := if_neg (fl_f hbF hh16)
                        refine m_iload C 4 dX11_other_165 rfl ?_
                        refine m_istore C [(4, .int f2), (0, .ref (G.1 64)), (1, .int r), (2, .int r2), (3, .int (nI ((v_od (z_V z) xs p (v_op (z_V z) xs p) d).1))), (5, .int (nI p)), (6, .int (nI d)), (7, .int b), (8, .int (nI (2 * k)))] dX11_other_167 (by decide) rfl ?_
                        refine m_iload_n C 4 dX11_other_169 rfl ?_
                        refine m_iload C 7 dX11_other_170 rfl ?_
                        refine m_if_eq C 179 dX11_other_172 (by decide) (fun _ => ?_) (fun hh17 => absurd ((ii_eq (rfl : (b).toInt = _) (nn_i (a := 0) rfl (by omega))).mpr (by omega)) hh17)
                        refine m_iconst C 0 dX11_other_179 (by decide +kernel) ?_
                        refine m_iadd C dX11_other_180 ?_
                        refine m_topi (nI (((v_od (z_V z) xs p (v_op (z_V z) xs p) d).1) + 0)) (nn_add rfl rfl) ?_
                        refine m_topi (nI ((v_od (z_V z) xs p (v_op (z_V z) xs p) (d + 1)).1)) (congrArg nI (by rw [hod, Nat.add_zero])) ?_
                        refine m_istore_n C [(3, .int (nI ((v_od (z_V z) xs p (v_op (z_V z) xs p) (d + 1)).1))), (4, .int f2), (0, .ref (G.1 64)), (1, .int r), (2, .int r2), (5, .int (nI p)), (6, .int (nI d)), (7, .int b), (8, .int (nI (2 * k)))] dX11_other_181 (by decide) rfl ?_
                        refine m_iinc C 6 (nI (d + 1)) [(6, .int (nI (d + 1))), (3, .int (nI ((v_od (z_V z) xs p (v_op (z_V z) xs p) (d + 1)).1))), (4, .int f2), (0, .ref (G.1 64)), (1, .int r), (2, .int r2), (5, .int (nI p)), (7, .int b), (8, .int (nI (2 * k)))] dX11_other_182 rfl (nn_add rfl (show Int32.ofInt 1 = nI 1 from rfl)) (by decide) rfl ?_
                        refine m_goto C 44 dX11_other_185 (by decide) ?_
                        exact m_sub [3, 4, 5, 1, 2, 6, 0] rfl (ih44 (d + 1) f2 (by omega) (fun h => by rw [hod] at h ⊢; exact hf2 h) (by omega))
                      replace hh16 := mt (ii_eq (rfl : (b).toInt = _) (nn_i (a := 0) rfl (by omega))).mpr hh16
                      have hbz := hh16
                      have hPd := fl_t hbF hh16
                      have hod : v_od (z_V z) xs p (v_op (z_V z) xs p) (d + 1) = ((v_od (z_V z) xs p (v_op (z_V z) xs p) d).1 + 1, if (v_od (z_V z) xs p (v_op (z_V z) xs p) d).1 = 0 then 10 * p + d else (v_od (z_V z) xs p (v_op (z_V z) xs p) d).2) := if_pos hPd
                      refine m_iload_n C 3 dX11_other_150 rfl ?_
                      refine m_if_ne C 165 dX11_other_151 (by decide) (fun hh18 => ?_) (fun hh18 => ?_)
                      · replace hh18 := mt (ii_eq (nn_i (a := (v_od (z_V z) xs p (v_op (z_V z) xs p) d).1) rfl (by omega)) (nn_i (a := 0) rfl (by omega))).mpr hh18
                        refine m_iload C 4 dX11_other_165 rfl ?_
                        refine m_istore C [(4, .int f2), (0, .ref (G.1 64)), (1, .int r), (2, .int r2), (3, .int (nI ((v_od (z_V z) xs p (v_op (z_V z) xs p) d).1))), (5, .int (nI p)), (6, .int (nI d)), (7, .int b), (8, .int (nI (2 * k)))] dX11_other_167 (by decide) rfl ?_
                        refine m_iload_n C 4 dX11_other_169 rfl ?_
                        refine m_iload C 7 dX11_other_170 rfl ?_
                        refine m_if_eq C 179 dX11_other_172 (by decide) (fun hh19 => absurd hh19 (mt (ii_eq (rfl : (b).toInt = _) (nn_i (a := 0) rfl (by omega))).mp (by omega))) (fun _ => ?_)
                        refine m_iconst C 1 dX11_other_175 (by decide +kernel) ?_
                        refine m_goto C 180 dX11_other_176 (by decide) ?_
                        refine m_iadd C dX11_other_180 ?_
                        refine m_topi (nI (((v_od (z_V z) xs p (v_op (z_V z) xs p) d).1) + 1)) (nn_add rfl rfl) ?_
                        refine m_topi (nI ((v_od (z_V z) xs p (v_op (z_V z) xs p) (d + 1)).1)) (congrArg nI (by rw [hod])) ?_
                        refine m_istore_n C [(3, .int (nI ((v_od (z_V z) xs p (v_op (z_V z) xs p) (d + 1)).1))), (4, .int f2), (0, .ref (G.1 64)), (1, .int r), (2, .int r2), (5, .int (nI p)), (6, .int (nI d)), (7, .int b), (8, .int (nI (2 * k)))] dX11_other_181 (by decide) rfl ?_
                        refine m_iinc C 6 (nI (d + 1)) [(6, .int (nI (d + 1))), (3, .int (nI ((v_od (z_V z) xs p (v_op (z_V z) xs p) (d + 1)).1))), (4, .int f2), (0, .ref (G.1 64)), (1, .int r), (2, .int r2), (5, .int (nI p)), (7, .int b), (8, .int (nI (2 * k)))] dX11_other_182 rfl (nn_add rfl (show Int32.ofInt 1 = nI 1 from rfl)) (by decide) rfl ?_
                        refine m_goto C 44 dX11_other_185 (by decide) ?_
                        exact m_sub [3, 4, 5, 1, 2, 6, 0] rfl (ih44 (d + 1) f2 (by omega) (fun _ => by rw [hod]; exact (hf2 (by omega)).trans (congrArg nI (if_neg (by omega)).symm)) (by omega))
                      replace hh18 := (ii_eq (nn_i (a := (v_od (z_V z) xs p (v_op (z_V z) xs p) d).1) rfl (by omega)) (nn_i (a := 0) rfl (by omega))).mp hh18
                      refine m_bipush C 10 dX11_other_154 (by decide +kernel) ?_
                      refine m_iload C 5 dX11_other_156 rfl ?_
                      refine m_imul C dX11_other_158 ?_
                      refine m_topi (nI (10 * p)) (nn_mul rfl rfl) ?_
                      refine m_iload C 6 dX11_other_159 rfl ?_
                      refine m_iadd C dX11_other_161 ?_
                      refine m_topi (nI ((10 * p) + d)) (nn_add rfl rfl) ?_
                      refine m_goto C 167 dX11_other_162 (by decide) ?_
                      refine m_istore C [(4, .int (nI ((10 * p) + d))), (0, .ref (G.1 64)), (1, .int r), (2, .int r2), (3, .int (nI ((v_od (z_V z) xs p (v_op (z_V z) xs p) d).1))), (5, .int (nI p)), (6, .int (nI d)), (7, .int b), (8, .int (nI (2 * k)))] dX11_other_167 (by decide) rfl ?_
                      refine m_iload_n C 4 dX11_other_169 rfl ?_
                      refine m_iload C 7 dX11_other_170 rfl ?_
                      refine m_if_eq C 179 dX11_other_172 (by decide) (fun hh20 => absurd hh20 (mt (ii_eq (rfl : (b).toInt = _) (nn_i (a := 0) rfl (by omega))).mp (by omega))) (fun _ => ?_)
                      refine m_iconst C 1 dX11_other_175 (by decide +kernel) ?_
                      refine m_goto C 180 dX11_other_176 (by decide) ?_
                      refine m_iadd C dX11_other_180 ?_
                      refine m_topi (nI (((v_od (z_V z) xs p (v_op (z_V z) xs p) d).1) + 1)) (nn_add rfl rfl) ?_
                      refine m_topi (nI ((v_od (z_V z) xs p (v_op (z_V z) xs p) (d + 1)).1)) (congrArg nI (by rw [hod])) ?_
                      refine m_istore_n C [(3, .int (nI ((v_od (z_V z) xs p (v_op (z_V z) xs p) (d + 1)).1))), (4, .int (nI ((10 * p) + d))), (0, .ref (G.1 64)), (1, .int r), (2, .int r2), (5, .int (nI p)), (6, .int (nI d)), (7, .int b), (8, .int (nI (2 * k)))] dX11_other_181 (by decide) rfl ?_
                      refine m_iinc C 6 (nI (d + 1)) [(6, .int (nI (d + 1))), (3, .int (nI ((v_od (z_V z) xs p (v_op (z_V z) xs p) (d + 1)).1))), (4, .int (nI ((10 * p) + d))), (0, .ref (G.1 64)), (1, .int r), (2, .int r2), (5, .int (nI p)), (7, .int b), (8, .int (nI (2 * k)))] dX11_other_182 rfl (nn_add rfl (show Int32.ofInt 1 = nI 1 from rfl)) (by decide) rfl ?_
                      refine m_goto C 44 dX11_other_185 (by decide) ?_
                      exact m_sub [3, 4, 5, 1, 2, 6, 0] rfl (ih44 (d + 1) (nI ((10 * p) + d)) (by omega) (fun _ => by rw [hod]; exact congrArg nI (if_pos (by omega)).symm) (by omega))
                    replace hh15 := mt (ii_eq (rfl : (b).toInt = _) (nn_i (a := 0) rfl (by omega))).mpr hh15
                    have hall := fl_t hb hh15
                    refine m_aload_n C 0 dX11_other_95 rfl ?_
                    refine m_aload_n C 0 dX11_other_96 rfl ?_
                    refine gfX11_16 C dX11_other_97 ?_
                    refine m_bipush C 40 dX11_other_100 (by decide +kernel) ?_
                    refine m_iload_n C 1 dX11_other_102 rfl ?_
                    refine m_topi (nI (ix r)) er ?_
                    refine m_imul C dX11_other_103 ?_
                    refine m_topi (nI (40 * (ix r))) (nn_mul rfl rfl) ?_
                    refine m_iload C 8 dX11_other_104 rfl ?_
                    refine m_iadd C dX11_other_106 ?_
                    refine m_topi (nI ((40 * (ix r)) + (2 * k))) (nn_add rfl rfl) ?_
                    refine m_iald C 67 (by decide) sa_67 ((40 * (ix r)) + (2 * k)) rfl (by omega) (by decide) dX11_other_107 ?_
                    refine m_topi (nI (s_ln xs k)) ((hx3 (2 * k) (by omega)).trans hp1) ?_
                    refine m_iload C 5 dX11_other_108 rfl ?_
                    refine m_iload C 6 dX11_other_110 rfl ?_
                    refine m_callVf C 64 (by decide) rfl rfl (c_X11_readWith l G mu nu (z_V z) hv (s_ln xs k) hp2 hp3 p (by omega) d (by omega)) wkX11_206 (by decide) rfl rfl (Nat.le_of_ble_eq_true rfl) dX11_other_112 ?_
                    refine m_aload_n C 0 dX11_other_115 rfl ?_
                    refine gfX11_16 C dX11_other_116 ?_
                    refine m_bipush C 40 dX11_other_119 (by decide +kernel) ?_
                    refine m_iload_n C 1 dX11_other_121 rfl ?_
                    refine m_topi (nI (ix r)) er ?_
                    refine m_imul C dX11_other_122 ?_
                    refine m_topi (nI (40 * (ix r))) (nn_mul rfl rfl) ?_
                    refine m_iload C 8 dX11_other_123 rfl ?_
                    refine m_iadd C dX11_other_125 ?_
                    refine m_topi (nI ((40 * (ix r)) + (2 * k))) (nn_add rfl rfl) ?_
                    refine m_iconst C 1 dX11_other_126 (by decide +kernel) ?_
                    refine m_iadd C dX11_other_127 ?_
                    refine m_topi (nI (((40 * (ix r)) + (2 * k)) + 1)) (nn_add rfl rfl) ?_
                    refine m_iald C 67 (by decide) sa_67 (((40 * (ix r)) + (2 * k)) + 1) rfl (by omega) (by decide) dX11_other_128 ?_
                    refine m_topi (xs.getD (2 * k + 1) 0) (hx3 (2 * k + 1) (by omega)) ?_
                    refine m_icmp_ne C 136 dX11_other_129 (by decide) (fun hh21 => ?_) (fun hh21 => ?_)
                    · replace hh21 := mt (ii_eq (rfl : (nI (v_rw (z_V z) p d (s_ln xs k) (v_m (z_V z)))).toInt = _) (rfl : (xs.getD (2 * k + 1) 0).toInt = _)).mpr hh21
                      have hk0 : ¬ (nI (v_rw (z_V z) p d (s_ln xs k) (v_m (z_V z))) = xs.getD (2 * k + 1) 0) := fun e => hh21 (congrArg Int32.toInt e)
                      refine m_iconst C 0 dX11_other_136 (by decide +kernel) ?_
                      refine m_istore C [(7, .int 0), (0, .ref (G.1 64)), (1, .int r), (2, .int r2), (3, .int (nI ((v_od (z_V z) xs p (v_op (z_V z) xs p) d).1))), (4, .int f2), (5, .int (nI p)), (6, .int (nI d)), (8, .int (nI (2 * k)))] dX11_other_137 (by decide) rfl ?_
                      refine m_iinc C 8 (nI (2 * k + 2)) [(8, .int (nI (2 * k + 2))), (7, .int 0), (0, .ref (G.1 64)), (1, .int r), (2, .int r2), (3, .int (nI ((v_od (z_V z) xs p (v_op (z_V z) xs p) d).1))), (4, .int f2), (5, .int (nI p)), (6, .int (nI d))] dX11_other_139 rfl (nn_add rfl (show Int32.ofInt 2 = nI 2 from rfl)) (by decide) rfl ?_
                      refine m_goto C 79 dX11_other_142 (by decide) ?_
                      exact m_sub [2, 3, 4, 5, 6, 7, 8, 1, 0] rfl (ih79 (k + 1) 0 (by omega) (Or.inr ⟨rfl, fun h => absurd (h.2 k (by omega)) hk0⟩) (by omega))
                    replace hh21 := (ii_eq (rfl : (nI (v_rw (z_V z) p d (s_ln xs k) (v_m (z_V z)))).toInt = _) (rfl : (xs.getD (2 * k + 1) 0).toInt = _)).mp hh21
                    have hk1 : nI (v_rw (z_V z) p d (s_ln xs k) (v_m (z_V z))) = xs.getD (2 * k + 1) 0 := Int32.toInt_inj.mp hh21
                    refine m_iconst C 1 dX11_other_132 (by decide +kernel) ?_
                    refine m_goto C 137 dX11_other_133 (by decide) ?_
                    refine m_istore C [(7, .int 1), (0, .ref (G.1 64)), (1, .int r), (2, .int r2), (3, .int (nI ((v_od (z_V z) xs p (v_op (z_V z) xs p) d).1))), (4, .int f2), (5, .int (nI p)), (6, .int (nI d)), (8, .int (nI (2 * k)))] dX11_other_137 (by decide) rfl ?_
                    refine m_iinc C 8 (nI (2 * k + 2)) [(8, .int (nI (2 * k + 2))), (7, .int 1), (0, .ref (G.1 64)), (1, .int r), (2, .int r2), (3, .int (nI ((v_od (z_V z) xs p (v_op (z_V z) xs p) d).1))), (4, .int f2), (5, .int (nI p)), (6, .int (nI d))] dX11_other_139 rfl (nn_add rfl (show Int32.ofInt 2 = nI 2 from rfl)) (by decide) rfl ?_
                    refine m_goto C 79 dX11_other_142 (by decide) ?_
                    exact m_sub [2, 3, 4, 5, 6, 7, 8, 1, 0] rfl (ih79 (k + 1) 1 (by omega) (Or.inl ⟨rfl, hall.1, fun j hj => by
                              by_cases e : j = k
                              · rw [e]; exact hk1
                              · exact hall.2 j (by omega)⟩) (by omega))
                exact m_sub [2, 3, 4, 5, 6, 7, 8, 1, 0] rfl (L79 (_ + 1) 0 0 (Nat.zero_le _) (Or.inr ⟨rfl, fun h => h.1 hdd⟩) (Nat.lt_succ_self _))
              replace hh8 := mt (ii_eq (nn_i (a := d) rfl (by omega)) (nn_i (a := v_dg (z_V z) (v_fr (z_V z) p)) rfl (by omega))).mpr hh8
              have hdd : ¬ d = v_dg (z_V z) (v_fr (z_V z) p) := by omega
              refine m_iconst C 1 dX11_other_69 (by decide +kernel) ?_
              refine m_goto C 74 dX11_other_70 (by decide) ?_
              refine m_istore C [(7, .int 1), (0, .ref (G.1 64)), (1, .int r), (2, .int r2), (3, .int (nI ((v_od (z_V z) xs p (v_op (z_V z) xs p) d).1))), (4, .int f2), (5, .int (nI p)), (6, .int (nI d))] dX11_other_74 (by decide) rfl ?_
              refine m_iconst C 0 dX11_other_76 (by decide +kernel) ?_
              refine m_istore C [(8, .int 0), (7, .int 1), (0, .ref (G.1 64)), (1, .int r), (2, .int r2), (3, .int (nI ((v_od (z_V z) xs p (v_op (z_V z) xs p) d).1))), (4, .int f2), (5, .int (nI p)), (6, .int (nI d))] dX11_other_77 (by decide) rfl ?_
              have L79 : ∀ (fu : Nat) (k : Nat) (b : Int32) (hk : 2 * k ≤ xs.length) (hb : (b = 1 ∧ (¬ d = v_dg (z_V z) (v_fr (z_V z) p) ∧ ∀ j, j < k → nI (v_rw (z_V z) p d (s_ln xs j) (v_m (z_V z))) = xs.getD (2 * j + 1) 0)) ∨ (b = 0 ∧ ¬ (¬ d = v_dg (z_V z) (v_fr (z_V z) p) ∧ ∀ j, j < k → nI (v_rw (z_V z) p d (s_ln xs j) (v_m (z_V z))) = xs.getD (2 * j + 1) 0))), xs.length - 2 * k < fu → Mq l G 9 X Q 79 [(0, .ref (G.1 64)), (1, .int r), (2, .int r2), (3, .int (nI ((v_od (z_V z) xs p (v_op (z_V z) xs p) d).1))), (4, .int f2), (5, .int (nI p)), (6, .int (nI d)), (7, .int b), (8, .int (nI (2 * k)))] [] mu nu := by
                intro fu
                induction fu with
                | zero => intro k b hk hb hm; exact absurd hm (Nat.not_lt_zero _)
                | succ fu ih79 =>
                  intro k b hk hb hm
                  refine m_iload C 8 dX11_other_79 rfl ?_
                  refine m_aload_n C 0 dX11_other_81 rfl ?_
                  refine gfX11_13 C dX11_other_82 ?_
                  refine m_iload_n C 1 dX11_other_85 rfl ?_
                  refine m_topi (nI (ix r)) er ?_
                  refine m_iald C 66 (by decide) sa_66 (ix r) rfl (by omega) (by decide) dX11_other_86 ?_
                  refine m_topi (nI xs.length) hx1 ?_
                  refine m_icmp_ge C 145 dX11_other_87 (by decide) (fun hh22 => ?_) (fun hh22 => ?_)
                  · replace hh22 := (ii_le (nn_i (a := xs.length) rfl (by omega)) (nn_i (a := 2 * k) rfl (by omega))).mp hh22
                    have hbF : (b = 1 ∧ (¬ d = v_dg (z_V z) (v_fr (z_V z) p) ∧ ∀ k, k < xs.length / 2 → nI (v_rw (z_V z) p d (s_ln xs k) (v_m (z_V z))) = xs.getD (2 * k + 1) 0)) ∨ (b = 0 ∧ ¬ (¬ d = v_dg (z_V z) (v_fr (z_V z) p) ∧ ∀ k, k < xs.length / 2 → nI (v_rw (z_V z) p d (s_ln xs k) (v_m (z_V z))) = xs.getD (2 * k + 1) 0)) := by
                      rcases hb with ⟨e, q1, q2⟩ | ⟨e, q⟩
                      · exact Or.inl ⟨e, q1, fun j hj => q2 j (by omega)⟩
                      · exact Or.inr ⟨e, fun h => q ⟨h.1, fun j hj => h.2 j (by omega)⟩⟩
                    refine m_iload C 7 dX11_other_145 rfl ?_
                    refine m_if_eq C 165 dX11_other_147 (by decide) (fun hh23 => ?_) (fun hh23 => ?_)
                    · replace hh23 := (ii_eq (rfl : (b).toInt = _) (nn_i (a := 0) rfl (by omega))).mp hh23
                      have hbz := hh23
                      have hod : v_od (z_V z) xs p (v_op (z_V z) xs p) (d + 1) = v_od (z_V z) xs p (v_op (z_V z) xs p) d := if_neg (fl_f hbF hh23)
                      refine m_iload C 4 dX11_other_165 rfl ?_
                      refine m_istore C [(4, .int f2), (0, .ref (G.1 64)), (1, .int r), (2, .int r2), (3, .int (nI ((v_od (z_V z) xs p (v_op (z_V z) xs p) d).1))), (5, .int (nI p)), (6, .int (nI d)), (7, .int b), (8, .int (nI (2 * k)))] dX11_other_167 (by decide) rfl ?_
                      refine m_iload_n C 4 dX11_other_169 rfl ?_
                      refine m_iload C 7 dX11_other_170 rfl ?_
                      refine m_if_eq C 179 dX11_other_172 (by decide) (fun _ => ?_) (fun hh24 => absurd ((ii_eq (rfl : (b).toInt = _) (nn_i (a := 0) rfl (by omega))).mpr (by omega)) hh24)
                      refine m_iconst C 0 dX11_other_179 (by decide +kernel) ?_
                      refine m_iadd C dX11_other_180 ?_
                      refine m_topi (nI (((v_od (z_V z) xs p (v_op (z_V z) xs p) d).1) + 0)) (nn_add rfl rfl) ?_
                      refine m_topi (nI ((v_od (z_V z) xs p (v_op (z_V z) xs p) (d + 1)).1)) (congrArg nI (by rw [hod, Nat.add_zero])) ?_
                      refine m_istore_n C [(3, .int (nI ((v_od (z_V z) xs p (v_op (z_V z) xs p) (d + 1)).1))), (4, .int f2), (0, .ref (G.1 64)), (1, .int r), (2, .int r2), (5, .int (nI p)), (6, .int (nI d)), (7, .int b), (8, .int (nI (2 * k)))] dX11_other_181 (by decide) rfl ?_
                      refine m_iinc C 6 (nI (d + 1)) [(6, .int (nI (d + 1))), (3, .int (nI ((v_od (z_V z) xs p (v_op (z_V z) xs p) (d + 1)).1))), (4, .int f2), (0, .ref (G.1 64)), (1, .int r), (2, .int r2), (5, .int (nI p)), (7, .int b), (8, .int (nI (2 * k)))] dX11_other_182 rfl (nn_add rfl (show Int32.ofInt 1 = nI 1 from rfl)) (by decide) rfl ?_
                      refine m_goto C 44 dX11_other_185 (by decide) ?_
                      exact m_sub [3, 4, 5, 1, 2, 6, 0] rfl (ih44 (d + 1) f2 (by omega) (fun h => by rw [hod] at h ⊢; exact hf2 h) (by omega))
                    replace hh23 := mt (ii_eq (rfl : (b).toInt = _) (nn_i (a := 0) rfl (by omega))).mpr hh23
                    have hbz := hh23
                    have hPd := fl_t hbF hh23
                    have hod : v_od (z_V z) xs p (v_op (z_V z) xs p) (d + 1) = ((v_od (z_V z) xs p (v_op (z_V z) xs p) d).1 + 1, if (v_od (z_V z) xs p (v_op (z_V z) xs p) d).1 = 0 then 10 * p + d else (v_od (z_V z) xs p (v_op (z_V z) xs p) d).2) := if_pos hPd
                    refine m_iload_n C 3 dX11_other_150 rfl ?_
                    refine m_if_ne C 165 dX11_other_151 (by decide) (fun hh25 => ?_) (fun hh25 => ?_)
                    · replace hh25 := mt (ii_eq (nn_i (a := (v_od (z_V z) xs p (v_op (z_V z) xs p) d).1) rfl (by omega)) (nn_i (a := 0) rfl (by omega))).mpr hh25
                      refine m_iload C 4 dX11_other_165 rfl ?_
                      refine m_istore C [(4, .int f2), (0, .ref (G.1 64)), (1, .int r), (2, .int r2), (3, .int (nI ((v_od (z_V z) xs p (v_op (z_V z) xs p) d).1))), (5, .int (nI p)), (6, .int (nI d)), (7, .int b), (8, .int (nI (2 * k)))] dX11_other_167 (by decide) rfl ?_
                      refine m_iload_n C 4 dX11_other_169 rfl ?_
                      refine m_iload C 7 dX11_other_170 rfl ?_
                      refine m_if_eq C 179 dX11_other_172 (by decide) (fun hh26 => absurd hh26 (mt (ii_eq (rfl : (b).toInt = _) (nn_i (a := 0) rfl (by omega))).mp (by omega))) (fun _ => ?_)
                      refine m_iconst C 1 dX11_other_175 (by decide +kernel) ?_
                      refine m_goto C 180 dX11_other_176 (by decide) ?_
                      refine m_iadd C dX11_other_180 ?_
                      refine m_topi (nI (((v_od (z_V z) xs p (v_op (z_V z) xs p) d).1) + 1)) (nn_add rfl rfl) ?_
                      refine m_topi (nI ((v_od (z_V z) xs p (v_op (z_V z) xs p) (d + 1)).1)) (congrArg nI (by rw [hod])) ?_
                      refine m_istore_n C [(3, .int (nI ((v_od (z_V z) xs p (v_op (z_V z) xs p) (d + 1)).1))), (4, .int f2), (0, .ref (G.1 64)), (1, .int r), (2, .int r2), (5, .int (nI p)), (6, .int (nI d)), (7, .int b), (8, .int (nI (2 * k)))] dX11_other_181 (by decide) rfl ?_
                      refine m_iinc C 6 (nI (d + 1)) [(6, .int (nI (d + 1))), (3, .int (nI ((v_od (z_V z) xs p (v_op (z_V z) xs p) (d + 1)).1))), (4, .int f2), (0, .ref (G.1 64)), (1, .int r), (2, .int r2), (5, .int (nI p)), (7, .int b), (8, .int (nI (2 * k)))] dX11_other_182 rfl (nn_add rfl (show Int32.ofInt 1 = nI 1 from rfl)) (by decide) rfl ?_
                      refine m_goto C 44 dX11_other_185 (by decide) ?_
                      exact m_sub [3, 4, 5, 1, 2, 6, 0] rfl (ih44 (d + 1) f2 (by omega) (fun _ => by rw [hod]; exact (hf2 (by omega)).trans (congrArg nI (if_neg (by omega)).symm)) (by omega))
                    replace hh25 := (ii_eq (nn_i (a := (v_od (z_V z) xs p (v_op (z_V z) xs p) d).1) rfl (by omega)) (nn_i (a := 0) rfl (by omega))).mp hh25
                    refine m_bipush C 10 dX11_other_154 (by decide +kernel) ?_
                    refine m_iload C 5 dX11_other_156 rfl ?_
                    refine m_imul C dX11_other_158 ?_
                    refine m_topi (nI (10 * p)) (nn_mul rfl rfl) ?_
                    refine m_iload C 6 dX11_other_159 rfl ?_
                    refine m_iadd C dX11_other_161 ?_
                    refine m_topi (nI ((10 * p) + d)) (nn_add rfl rfl) ?_
                    refine m_goto C 167 dX11_other_162 (by decide) ?_
                    refine m_istore C [(4, .int (nI ((10 * p) + d))), (0, .ref (G.1 64)), (1, .int r), (2, .int r2), (3, .int (nI ((v_od (z_V z) xs p (v_op (z_V z) xs p) d).1))), (5, .int (nI p)), (6, .int (nI d)), (7, .int b), (8, .int (nI (2 * k)))] dX11_other_167 (by decide) rfl ?_
                    refine m_iload_n C 4 dX11_other_169 rfl ?_
                    refine m_iload C 7 dX11_other_170 rfl ?_
                    refine m_if_eq C 179 dX11_other_172 (by decide) (fun hh27 => absurd hh27 (mt (ii_eq (rfl : (b).toInt = _) (nn_i (a := 0) rfl (by omega))).mp (by omega))) (fun _ => ?_)
                    refine m_iconst C 1 dX11_other_175 (by decide +kernel) ?_
                    refine m_goto C 180 dX11_other_176 (by decide) ?_
                    refine m_iadd C dX11_other_180 ?_
                    refine m_topi (nI (((v_od (z_V z) xs p (v_op (z_V z) xs p) d).1) + 1)) (nn_add rfl rfl) ?_
                    refine m_topi (nI ((v_od (z_V z) xs p (v_op (z_V z) xs p) (d + 1)).1)) (congrArg nI (by rw [hod])) ?_
                    refine m_istore_n C [(3, .int (nI ((v_od (z_V z) xs p (v_op (z_V z) xs p) (d + 1)).1))), (4, .int (nI ((10 * p) + d))), (0, .ref (G.1 64)), (1, .int r), (2, .int r2), (5, .int (nI p)), (6, .int (nI d)), (7, .int b), (8, .int (nI (2 * k)))] dX11_other_181 (by decide) rfl ?_
                    refine m_iinc C 6 (nI (d + 1)) [(6, .int (nI (d + 1))), (3, .int (nI ((v_od (z_V z) xs p (v_op (z_V z) xs p) (d + 1)).1))), (4, .int (nI ((10 * p) + d))), (0, .ref (G.1 64)), (1, .int r), (2, .int r2), (5, .int (nI p)), (7, .int b), (8, .int (nI (2 * k)))] dX11_other_182 rfl (nn_add rfl (show Int32.ofInt 1 = nI 1 from rfl)) (by decide) rfl ?_
                    refine m_goto C 44 dX11_other_185 (by decide) ?_
                    exact m_sub [3, 4, 5, 1, 2, 6, 0] rfl (ih44 (d + 1) (nI ((10 * p) + d)) (by omega) (fun _ => by rw [hod]; exact congrArg nI (if_pos (by omega)).symm) (by omega))
                  replace hh22 := mt (ii_le (nn_i (a := xs.length) rfl (by omega)) (nn_i (a := 2 * k) rfl (by omega))).mpr hh22
                  obtain ⟨hp1, hp2, hp3⟩ := s_ln_eq (hok k (by omega))
                  refine m_iload C 7 dX11_other_90 rfl ?_
                  refine m_if_eq C 145 dX11_other_92 (by decide) (fun hh28 => ?_) (fun hh28 => ?_)
                  · replace hh28 := (ii_eq (rfl : (b).toInt = _) (nn_i (a := 0) rfl (by omega))).mp hh28
                    have hbF : (b = 1 ∧ (¬ d = v_dg (z_V z) (v_fr (z_V z) p) ∧ ∀ k, k < xs.length / 2 → nI (v_rw (z_V z) p d (s_ln xs k) (v_m (z_V z))) = xs.getD (2 * k + 1) 0)) ∨ (b = 0 ∧ ¬ (¬ d = v_dg (z_V z) (v_fr (z_V z) p) ∧ ∀ k, k < xs.length / 2 → nI (v_rw (z_V z) p d (s_ln xs k) (v_m (z_V z))) = xs.getD (2 * k + 1) 0)) := Or.inr ⟨Int32.toInt_inj.mp hh28, fun q => fl_f hb hh28 ⟨q.1, fun j hj => q.2 j (by omega)⟩⟩
                    refine m_iload C 7 dX11_other_145 rfl ?_
                    refine m_if_eq C 165 dX11_other_147 (by decide) (fun hh29 => ?_) (fun hh29 => ?_)
                    · replace hh29 := (ii_eq (rfl : (b).toInt = _) (nn_i (a := 0) rfl (by omega))).mp hh29
                      have hbz := hh29
                      have hod : v_od (z_V z) xs p (v_op (z_V z) xs p) (d + 1) = v_od (z_V z) xs p (v_op (z_V z) xs p) d := if_neg (fl_f hbF hh29)
                      refine m_iload C 4 dX11_other_165 rfl ?_
                      refine m_istore C [(4, .int f2), (0, .ref (G.1 64)), (1, .int r), (2, .int r2), (3, .int (nI ((v_od (z_V z) xs p (v_op (z_V z) xs p) d).1))), (5, .int (nI p)), (6, .int (nI d)), (7, .int b), (8, .int (nI (2 * k)))] dX11_other_167 (by decide) rfl ?_
                      refine m_iload_n C 4 dX11_other_169 rfl ?_
                      refine m_iload C 7 dX11_other_170 rfl ?_
                      refine m_if_eq C 179 dX11_other_172 (by decide) (fun _ => ?_) (fun hh30 => absurd ((ii_eq (rfl : (b).toInt = _) (nn_i (a := 0) rfl (by omega))).mpr (by omega)) hh30)
                      refine m_iconst C 0 dX11_other_179 (by decide +kernel) ?_
                      refine m_iadd C dX11_other_180 ?_
                      refine m_topi (nI (((v_od (z_V z) xs p (v_op (z_V z) xs p) d).1) + 0)) (nn_add rfl rfl) ?_
                      refine m_topi (nI ((v_od (z_V z) xs p (v_op (z_V z) xs p) (d + 1)).1)) (congrArg nI (by rw [hod, Nat.add_zero])) ?_
                      refine m_istore_n C [(3, .int (nI ((v_od (z_V z) xs p (v_op (z_V z) xs p) (d + 1)).1))), (4, .int f2), (0, .ref (G.1 64)), (1, .int r), (2, .int r2), (5, .int (nI p)), (6, .int (nI d)), (7, .int b), (8, .int (nI (2 * k)))] dX11_other_181 (by decide) rfl ?_
                      refine m_iinc C 6 (nI (d + 1)) [(6, .int (nI (d + 1))), (3, .int (nI ((v_od (z_V z) xs p (v_op (z_V z) xs p) (d + 1)).1))), (4, .int f2), (0, .ref (G.1 64)), (1, .int r), (2, .int r2), (5, .int (nI p)), (7, .int b), (8, .int (nI (2 * k)))] dX11_other_182 rfl (nn_add rfl (show Int32.ofInt 1 = nI 1 from rfl)) (by decide) rfl ?_
                      refine m_goto C 44 dX11_other_185 (by decide) ?_
                      exact m_sub [3, 4, 5, 1, 2, 6, 0] rfl (ih44 (d + 1) f2 (by omega) (fun h => by rw [hod] at h ⊢; exact hf2 h) (by omega))
                    replace hh29 := mt (ii_eq (rfl : (b).toInt = _) (nn_i (a := 0) rfl (by omega))).mpr hh29
                    have hbz := hh29
                    have hPd := fl_t hbF hh29
                    have hod : v_od (z_V z) xs p (v_op (z_V z) xs p) (d + 1) = ((v_od (z_V z) xs p (v_op (z_V z) xs p) d).1 + 1, if (v_od (z_V z) xs p (v_op (z_V z) xs p) d).1 = 0 then 10 * p + d else (v_od (z_V z) xs p (v_op (z_V z) xs p) d).2) := if_pos hPd
                    refine m_iload_n C 3 dX11_other_150 rfl ?_
                    refine m_if_ne C 165 dX11_other_151 (by decide) (fun hh31 => ?_) (fun hh31 => ?_)
                    · replace hh31 := mt (ii_eq (nn_i (a := (v_od (z_V z) xs p (v_op (z_V z) xs p) d).1) rfl (by omega)) (nn_i (a := 0) rfl (by omega))).mpr hh31
                      refine m_iload C 4 dX11_other_165 rfl ?_
                      refine m_istore C [(4, .int f2), (0, .ref (G.1 64)), (1, .int r), (2, .int r2), (3, .int (nI ((v_od (z_V z) xs p (v_op (z_V z) xs p) d).1))), (5, .int (nI p)), (6, .int (nI d)), (7, .int b), (8, .int (nI (2 * k)))] dX11_other_167 (by decide) rfl ?_
                      refine m_iload_n C 4 dX11_other_169 rfl ?_
                      refine m_iload C 7 dX11_other_170 rfl ?_
                      refine m_if_eq C 179 dX11_other_172 (by decide) (fun hh32 => absurd hh32 (mt (ii_eq (rfl : (b).toInt = _) (nn_i (a := 0) rfl (by omega))).mp (by omega))) (fun _ => ?_)
                      refine m_iconst C 1 dX11_other_175 (by decide +kernel) ?_
                      refine m_goto C 180 dX11_other_176 (by decide) ?_
                      refine m_iadd C dX11_other_180 ?_
                      refine m_topi (nI (((v_od (z_V z) xs p (v_op (z_V z) xs p) d).1) + 1)) (nn_add rfl rfl) ?_
                      refine m_topi (nI ((v_od (z_V z) xs p (v_op (z_V z) xs p) (d + 1)).1)) (congrArg nI (by rw [hod])) ?_
                      refine m_istore_n C [(3, .int (nI ((v_od (z_V z) xs p (v_op (z_V z) xs p) (d + 1)).1))), (4, .int f2), (0, .ref (G.1 64)), (1, .int r), (2, .int r2), (5, .int (nI p)), (6, .int (nI d)), (7, .int b), (8, .int (nI (2 * k)))] dX11_other_181 (by decide) rfl ?_
                      refine m_iinc C 6 (nI (d + 1)) [(6, .int (nI (d + 1))), (3, .int (nI ((v_od (z_V z) xs p (v_op (z_V z) xs p) (d + 1)).1))), (4, .int f2), (0, .ref (G.1 64)), (1, .int r), (2, .int r2), (5, .int (nI p)), (7, .int b), (8, .int (nI (2 * k)))] dX11_other_182 rfl (nn_add rfl (show Int32.ofInt 1 = nI 1 from rfl)) (by decide) rfl ?_
                      refine m_goto C 44 dX11_other_185 (by decide) ?_
                      exact m_sub [3, 4, 5, 1, 2, 6, 0] rfl (ih44 (d + 1) f2 (by omega) (fun _ => by rw [hod]; exact (hf2 (by omega)).trans (congrArg nI (if_neg (by omega)).symm)) (by omega))
                    replace hh31 := (ii_eq (nn_i (a := (v_od (z_V z) xs p (v_op (z_V z) xs p) d).1) rfl (by omega)) (nn_i (a := 0) rfl (by omega))).mp hh31
                    refine m_bipush C 10 dX11_other_154 (by decide +kernel) ?_
                    refine m_iload C 5 dX11_other_156 rfl ?_
                    refine m_imul C dX11_other_158 ?_
                    refine m_topi (nI (10 * p)) (nn_mul rfl rfl) ?_
                    refine m_iload C 6 dX11_other_159 rfl ?_
                    refine m_iadd C dX11_other_161 ?_
                    refine m_topi (nI ((10 * p) + d)) (nn_add rfl rfl) ?_
                    refine m_goto C 167 dX11_other_162 (by decide) ?_
                    refine m_istore C [(4, .int (nI ((10 * p) + d))), (0, .ref (G.1 64)), (1, .int r), (2, .int r2), (3, .int (nI ((v_od (z_V z) xs p (v_op (z_V z) xs p) d).1))), (5, .int (nI p)), (6, .int (nI d)), (7, .int b), (8, .int (nI (2 * k)))] dX11_other_167 (by decide) rfl ?_
                    refine m_iload_n C 4 dX11_other_169 rfl ?_
                    refine m_iload C 7 dX11_other_170 rfl ?_
                    refine m_if_eq C 179 dX11_other_172 (by decide) (fun hh33 => absurd hh33 (mt (ii_eq (rfl : (b).toInt = _) (nn_i (a := 0) rfl (by omega))).mp (by omega))) (fun _ => ?_)
                    refine m_iconst C 1 dX11_other_175 (by decide +kernel) ?_
                    refine m_goto C 180 dX11_other_176 (by decide) ?_
                    refine m_iadd C dX11_other_180 ?_
                    refine m_topi (nI (((v_od (z_V z) xs p (v_op (z_V z) xs p) d).1) + 1)) (nn_add rfl rfl) ?_
                    refine m_topi (nI ((v_od (z_V z) xs p (v_op (z_V z) xs p) (d + 1)).1)) (congrArg nI (by rw [hod])) ?_
                    refine m_istore_n C [(3, .int (nI ((v_od (z_V z) xs p (v_op (z_V z) xs p) (d + 1)).1))), (4, .int (nI ((10 * p) + d))), (0, .ref (G.1 64)), (1, .int r), (2, .int r2), (5, .int (nI p)), (6, .int (nI d)), (7, .int b), (8, .int (nI (2 * k)))] dX11_other_181 (by decide) rfl ?_
                    refine m_iinc C 6 (nI (d + 1)) [(6, .int (nI (d + 1))), (3, .int (nI ((v_od (z_V z) xs p (v_op (z_V z) xs p) (d + 1)).1))), (4, .int (nI ((10 * p) + d))), (0, .ref (G.1 64)), (1, .int r), (2, .int r2), (5, .int (nI p)), (7, .int b), (8, .int (nI (2 * k)))] dX11_other_182 rfl (nn_add rfl (show Int32.ofInt 1 = nI 1 from rfl)) (by decide) rfl ?_
                    refine m_goto C 44 dX11_other_185 (by decide) ?_
                    exact m_sub [3, 4, 5, 1, 2, 6, 0] rfl (ih44 (d + 1) (nI ((10 * p) + d)) (by omega) (fun _ => by rw [hod]; exact congrArg nI (if_pos (by omega)).symm) (by omega))
                  replace hh28 := mt (ii_eq (rfl : (b).toInt = _) (nn_i (a := 0) rfl (by omega))).mpr hh28
                  have hall := fl_t hb hh28
                  refine m_aload_n C 0 dX11_other_95 rfl ?_
                  refine m_aload_n C 0 dX11_other_96 rfl ?_
                  refine gfX11_16 C dX11_other_97 ?_
                  refine m_bipush C 40 dX11_other_100 (by decide +kernel) ?_
                  refine m_iload_n C 1 dX11_other_102 rfl ?_
                  refine m_topi (nI (ix r)) er ?_
                  refine m_imul C dX11_other_103 ?_
                  refine m_topi (nI (40 * (ix r))) (nn_mul rfl rfl) ?_
                  refine m_iload C 8 dX11_other_104 rfl ?_
                  refine m_iadd C dX11_other_106 ?_
                  refine m_topi (nI ((40 * (ix r)) + (2 * k))) (nn_add rfl rfl) ?_
                  refine m_iald C 67 (by decide) sa_67 ((40 * (ix r)) + (2 * k)) rfl (by omega) (by decide) dX11_other_107 ?_
                  refine m_topi (nI (s_ln xs k)) ((hx3 (2 * k) (by omega)).trans hp1) ?_
                  refine m_iload C 5 dX11_other_108 rfl ?_
                  refine m_iload C 6 dX11_other_110 rfl ?_
                  refine m_callVf C 64 (by decide) rfl rfl (c_X11_readWith l G mu nu (z_V z) hv (s_ln xs k) hp2 hp3 p (by omega) d (by omega)) wkX11_206 (by decide) rfl rfl (Nat.le_of_ble_eq_true rfl) dX11_other_112 ?_
                  refine m_aload_n C 0 dX11_other_115 rfl ?_
                  refine gfX11_16 C dX11_other_116 ?_
                  refine m_bipush C 40 dX11_other_119 (by decide +kernel) ?_
                  refine m_iload_n C 1 dX11_other_121 rfl ?_
                  refine m_topi (nI (ix r)) er ?_
                  refine m_imul C dX11_other_122 ?_
                  refine m_topi (nI (40 * (ix r))) (nn_mul rfl rfl) ?_
                  refine m_iload C 8 dX11_other_123 rfl ?_
                  refine m_iadd C dX11_other_125 ?_
                  refine m_topi (nI ((40 * (ix r)) + (2 * k))) (nn_add rfl rfl) ?_
                  refine m_iconst C 1 dX11_other_126 (by decide +kernel) ?_
                  refine m_iadd C dX11_other_127 ?_
                  refine m_topi (nI (((40 * (ix r)) + (2 * k)) + 1)) (nn_add rfl rfl) ?_
                  refine m_iald C 67 (by decide) sa_67 (((40 * (ix r)) + (2 * k)) + 1) rfl (by omega) (by decide) dX11_other_128 ?_
                  refine m_topi (xs.getD (2 * k + 1) 0) (hx3 (2 * k + 1) (by omega)) ?_
                  refine m_icmp_ne C 136 dX11_other_129 (by decide) (fun hh34 => ?_) (fun hh34 => ?_)
                  · replace hh34 := mt (ii_eq (rfl : (nI (v_rw (z_V z) p d (s_ln xs k) (v_m (z_V z)))).toInt = _) (rfl : (xs.getD (2 * k + 1) 0).toInt = _)).mpr hh34
                    have hk0 : ¬ (nI (v_rw (z_V z) p d (s_ln xs k) (v_m (z_V z))) = xs.getD (2 * k + 1) 0) := fun e => hh34 (congrArg Int32.toInt e)
                    refine m_iconst C 0 dX11_other_136 (by decide +kernel) ?_
                    refine m_istore C [(7, .int 0), (0, .ref (G.1 64)), (1, .int r), (2, .int r2), (3, .int (nI ((v_od (z_V z) xs p (v_op (z_V z) xs p) d).1))), (4, .int f2), (5, .int (nI p)), (6, .int (nI d)), (8, .int (nI (2 * k)))] dX11_other_137 (by decide) rfl ?_
                    refine m_iinc C 8 (nI (2 * k + 2)) [(8, .int (nI (2 * k + 2))), (7, .int 0), (0, .ref (G.1 64)), (1, .int r), (2, .int r2), (3, .int (nI ((v_od (z_V z) xs p (v_op (z_V z) xs p) d).1))), (4, .int f2), (5, .int (nI p)), (6, .int (nI d))] dX11_other_139 rfl (nn_add rfl (show Int32.ofInt 2 = nI 2 from rfl)) (by decide) rfl ?_
                    refine m_goto C 79 dX11_other_142 (by decide) ?_
                    exact m_sub [2, 3, 4, 5, 6, 7, 8, 1, 0] rfl (ih79 (k + 1) 0 (by omega) (Or.inr ⟨rfl, fun h => absurd (h.2 k (by omega)) hk0⟩) (by omega))
                  replace hh34 := (ii_eq (rfl : (nI (v_rw (z_V z) p d (s_ln xs k) (v_m (z_V z)))).toInt = _) (rfl : (xs.getD (2 * k + 1) 0).toInt = _)).mp hh34
                  have hk1 : nI (v_rw (z_V z) p d (s_ln xs k) (v_m (z_V z))) = xs.getD (2 * k + 1) 0 := Int32.toInt_inj.mp hh34
                  refine m_iconst C 1 dX11_other_132 (by decide +kernel) ?_
                  refine m_goto C 137 dX11_other_133 (by decide) ?_
                  refine m_istore C [(7, .int 1), (0, .ref (G.1 64)), (1, .int r), (2, .int r2), (3, .int (nI ((v_od (z_V z) xs p (v_op (z_V z) xs p) d).1))), (4, .int f2), (5, .int (nI p)), (6, .int (nI d)), (8, .int (nI (2 * k)))] dX11_other_137 (by decide) rfl ?_
                  refine m_iinc C 8 (nI (2 * k + 2)) [(8, .int (nI (2 * k + 2))), (7, .int 1), (0, .ref (G.1 64)), (1, .int r), (2, .int r2), (3, .int (nI ((v_od (z_V z) xs p (v_op (z_V z) xs p) d).1))), (4, .int f2), (5, .int (nI p)), (6, .int (nI d))] dX11_other_139 rfl (nn_add rfl (show Int32.ofInt 2 = nI 2 from rfl)) (by decide) rfl ?_
                  refine m_goto C 79 dX11_other_142 (by decide) ?_
                  exact m_sub [2, 3, 4, 5, 6, 7, 8, 1, 0] rfl (ih79 (k + 1) 1 (by omega) (Or.inl ⟨rfl, hall.1, fun j hj => by
                            by_cases e : j = k
                            · rw [e]; exact hk1
                            · exact hall.2 j (by omega)⟩) (by omega))
              exact m_sub [2, 3, 4, 5, 6, 7, 8, 1, 0] rfl (L79 (_ + 1) 0 1 (Nat.zero_le _) (Or.inl ⟨rfl, hdd, fun j hj => absurd hj (Nat.not_lt_zero _)⟩) (Nat.lt_succ_self _))
          exact m_sub [1, 2, 3, 4, 5, 6, 0] rfl (L44 (_ + 1) 0 fi (Nat.zero_le _) hf1 (Nat.lt_succ_self _))
      exact m_sub [4, 5, 3, 2, 1, 0] rfl (L30 (_ + 1) 0 (-9) (Nat.zero_le _) (fun h => absurd h (Nat.not_lt_zero _)) (Nat.lt_succ_self _))
    replace hh3 := mt (ii_eq (rfl : (r2).toInt = _) (nn_i (a := 0) rfl (by omega))).mpr hh3
    refine m_iload_n C 0 dX11_other_19 rfl ?_
    refine m_ireti C hQ dX11_other_20 ?_
    exact PM_pairs hz hp2 hh3 (fun h => by unfold s_other; rw [if_neg (by omega), if_neg h])
  replace hh1 := bI_eq0.mp hh1
  refine m_iconst C (-1) dX11_other_7 (by decide +kernel) ?_
  refine m_ireti C hQ dX11_other_8 ?_
  exact PM_of (by unfold s_other; rw [if_pos (by omega)]) hz zcm_rfl
