theorem nodup_le : ∀ (N : Nat) (P : List Nat), P.Nodup → (∀ x ∈ P, x < N) → P.length ≤ N
  | 0, P, _, h => by
    cases P with
    | nil => exact Nat.le_refl _
    | cons a l => exact absurd (h a List.mem_cons_self) (Nat.not_lt_zero _)
  | N + 1, P, hd, h => by
    by_cases hm : N ∈ P
    · have h1 := nodup_le N (P.erase N) (hd.erase N) (fun x hx => by
        have h2 := hd.mem_erase_iff.mp hx
        have h3 := h x h2.2
        omega)
      have h4 := List.length_erase_of_mem hm
      have h5 := List.length_pos_of_mem hm
      omega
    · have h1 := nodup_le N P hd (fun x hx => by
        have h3 := h x hx
        have h4 : x ≠ N := fun e => hm (e ▸ hx)
        omega)
      omega
theorem nodup_app {P : List Nat} {i : Nat} (h : P.Nodup) (hi : ¬ i ∈ P) : (P ++ [i]).Nodup := by
  rw [List.nodup_append]
  refine ⟨h, by simp, fun a ha b hb => ?_⟩
  rw [List.mem_singleton.mp hb]
  exact fun e => hi (e ▸ ha)
def s_mx (b : Bool) (a : Option Nat) (v : Nat) : Option Nat := match a with
  | none => some v
  | some e => if (if b = true then e < v else v < e) then some v else some e
def s_en (a : Option Nat) : Int32 := match a with
  | none => -9
  | some e => nI e
/-- what is read off in the end, t turns being left -/
def s_play (N : Nat) (sh : Nat → Nat) : Nat → List Nat → Nat → Bool → Nat
  | 0, _, r, _ => r
  | t + 1, P, r, b => ((List.range N).foldl (fun a i => if i ∈ P then a else s_mx b a (s_play N sh t (P ++ [i]) (10 * r + sh i) (!b))) none).getD r
theorem s_mx_le {b : Bool} {a : Option Nat} {v c : Nat} (ha : ∀ e, a = some e → e ≤ c) (hv : v ≤ c) : ∀ e, s_mx b a v = some e → e ≤ c := by
  intro e h
  cases a with
  | none => cases h; exact hv
  | some x =>
    unfold s_mx at h
    dsimp only at h
    by_cases hc : (if b = true then x < v else v < x)
    · rw [if_pos hc] at h; cases h; exact hv
    · rw [if_neg hc] at h; cases h; exact ha _ rfl
theorem pb_step {N r d : Nat} {s : Nat} (h : r + 9 ≤ 9 * 10 ^ d) (hs : s ≤ 81) : 10 * r + s + 9 ≤ 9 * 10 ^ (d + 1) := by
  rw [Nat.pow_succ]; omega
theorem pb_top {r d : Nat} (h : r + 9 ≤ 9 * 10 ^ d) (hd : d ≤ 7) : r ≤ 90000000 := by
  have : (10 : Nat) ^ d ≤ 10 ^ 7 := Nat.pow_le_pow_right (by decide) hd
  have e : (10 : Nat) ^ 7 = 10000000 := by decide
  omega
theorem s_play_le {N : Nat} {sh : Nat → Nat} (hN : N ≤ 7) (hsh : ∀ i, i < N → sh i ≤ 81) : ∀ (t : Nat) (P : List Nat) (r : Nat) (b : Bool), P.Nodup → (∀ x ∈ P, x < N) → r + 9 ≤ 9 * 10 ^ P.length → s_play N sh t P r b ≤ 90000000
  | 0, P, r, b, h1, h2, h3 => pb_top h3 (Nat.le_trans (nodup_le N P h1 h2) hN)
  | t + 1, P, r, b, h1, h2, h3 => by
    have key : ∀ k, k ≤ N → ∀ e, (List.range k).foldl (fun a i => if i ∈ P then a else s_mx b a (s_play N sh t (P ++ [i]) (10 * r + sh i) (!b))) none = some e → e ≤ 90000000 := by
      intro k
      induction k with
      | zero => intro _ e h; cases h
      | succ k ih =>
        intro hk e h
        rw [rf_succ] at h
        by_cases hp : k ∈ P
        · rw [if_pos hp] at h; exact ih (by omega) e h
        · rw [if_neg hp] at h
          refine s_mx_le (ih (by omega)) (s_play_le hN hsh t (P ++ [k]) _ _ (nodup_app h1 hp) ?_ ?_) e h
          · intro x hx
            rcases List.mem_append.mp hx with q | q
            · exact h2 x q
            · rw [List.mem_singleton.mp q]; omega
          · have := pb_step (N := N) h3 (hsh k (by omega))
            simpa using this
    unfold s_play
    cases h : (List.range N).foldl (fun a i => if i ∈ P then a else s_mx b a (s_play N sh t (P ++ [i]) (10 * r + sh i) (!b))) none with
    | none => exact pb_top h3 (Nat.le_trans (nodup_le N P h1 h2) hN)
    | some e => exact key N (Nat.le_refl _) e h
set_option maxHeartbeats 4000000 in
set_option maxRecDepth 100000 in
theorem c_X5_nearest (l : Launch) (G : Gl) (mu : Mu) (nu : Nu) (N k goal within : Nat) (sh : Nat → Nat) (hN : N ≤ 7) (hkN : k ≤ N) (hg8 : goal ≤ 100000000) (hsh : ∀ i, i < N → sh i ≤ 81) (hw9 : within ≤ 1000000000) (h1 : mu 59 1 = nI N) (h60 : ∀ i, i < N → mu 60 i = nI (sh i)) : Ci l G mX5_nearest (k + 3) [.ref (G.1 59), .int (nI goal), .int (nI k), .int (nI within)] mu nu (fun r m n2 => (r = nI (s_ext N (s_fd goal sh) k [] (within, [])).1 ∧ ((s_ext N (s_fd goal sh) k [] (within, [])).2.length = k → ∀ p, p < k → m 62 p = nI ((s_ext N (s_fd goal sh) k [] (within, [])).2.getD p 0)) ∧ (∀ c, c ≠ 59 → c ≠ 61 → c ≠ 62 → m c = mu c) ∧ m 59 1 = mu 59 1) ∧ n2 = nu) := by
  refine Ct.of (lv := [(0, .ref (G.1 59)), (1, .int (nI goal)), (2, .int (nI k)), (3, .int (nI within))]) rfl rfl (Nat.le_of_ble_eq_true rfl) rfl (fun X C => ?_)
  generalize hQ : g_E G X _ = Q
  replace C : Cx G 4 X cX5_nearest RX5 (some .int) (k + 3) := C
  show Mq l G 4 X Q 0 [(0, .ref (G.1 59)), (1, .int (nI goal)), (2, .int (nI k)), (3, .int (nI within))] [] mu nu
  refine m_aload_n C 0 dX5_nearest_0 rfl ?_
  refine m_iload_n C 1 dX5_nearest_1 rfl ?_
  refine pfX5_21 C dX5_nearest_2 ?_
  refine m_nameM (fun mu1 emu1 => ?_)
  refine m_aload_n C 0 dX5_nearest_5 rfl ?_
  refine m_iload_n C 2 dX5_nearest_6 rfl ?_
  refine m_aload_n C 0 dX5_nearest_7 rfl ?_
  refine gfX5_25 C dX5_nearest_8 ?_
  refine m_topi (nI N) (by rw [emu1, mu_up_an (by decide)]; exact h1) ?_
  refine m_min C wkX5_28 (by omega) (Nat.le_of_ble_eq_true rfl) dX5_nearest_11 ?_
  refine m_topi (nI (min k N)) (nn_min rfl rfl (by omega) (by omega)) ?_
  refine m_topi (nI k) (congrArg nI (Nat.min_eq_left hkN)) ?_
  refine pfX5_34 C dX5_nearest_14 ?_
  refine m_nameM (fun mu2 emu2 => ?_)
  refine m_aload_n C 0 dX5_nearest_17 rfl ?_
  refine m_iload_n C 3 dX5_nearest_18 rfl ?_
  refine pfX5_37 C dX5_nearest_19 ?_
  refine m_nameM (fun mu3 emu3 => ?_)
  have hse : z_se mu3 N k goal sh := ⟨by rw [emu3, mu_up_an (by decide), emu2, mu_up_an (by decide), emu1, mu_up_an (by decide), h1], by rw [emu3, mu_up_an (by decide), emu2, mu_up_an (by decide), emu1, mu_up_at], by rw [emu3, mu_up_an (by decide), emu2, mu_up_at], fun i hi => by rw [emu3, mu_up_ne (by decide), emu2, mu_up_ne (by decide), emu1, mu_up_ne (by decide), h60 i hi]⟩
  have hsb : z_sb mu3 k (within, []) := ⟨by rw [emu3, mu_up_at], fun h p hp => absurd hp (by have : 0 = k := h; omega)⟩
  refine m_aload_n C 0 dX5_nearest_22 rfl ?_
  refine m_iconst C 0 dX5_nearest_23 (by decide +kernel) ?_
  refine m_iconst C 0 dX5_nearest_24 (by decide +kernel) ?_
  refine m_iconst C 0 dX5_nearest_25 (by decide +kernel) ?_
  refine m_callVv C 59 (by decide) rfl rfl (c_X5_extend l G N k goal sh hN (by omega) hg8 hsh k mu3 nu [] (within, []) (fun x h => absurd h List.not_mem_nil) (Nat.zero_add k) hse hsb hw9 (fun p h => absurd h (Nat.not_lt_zero _))) wkX5_40 (by omega) rfl rfl (Nat.le_of_ble_eq_true rfl) dX5_nearest_26 (fun m4 n4 hp4 => ?_)
  refine m_aload_n C 0 dX5_nearest_29 rfl ?_
  refine gfX5_37 C dX5_nearest_30 ?_
  refine m_topi (nI (s_ext N (s_fd goal sh) k [] (within, [])).1) hp4.1.1.1 ?_
  refine m_ireti C hQ dX5_nearest_33 ?_
  refine ⟨⟨rfl, hp4.1.1.2, fun c q1 q2 q3 => ?_, ?_⟩, hp4.2⟩
  · rw [hp4.1.2.2.1.1 c q1 q2 q3, emu3, mu_up_ne q1, emu2, mu_up_ne q1, emu1, mu_up_ne q1]
  · rw [hp4.1.2.2.1.2 1 (by decide), emu3, mu_up_an (by decide), emu2, mu_up_an (by decide), emu1, mu_up_an (by decide)]

set_option maxHeartbeats 4000000 in
set_option maxRecDepth 100000 in
theorem c_X5_playedOut_0_t (l : Launch) (G : Gl) (mu : Mu) (nu : Nu) (N : Nat) (sh : Nat → Nat) (hN : N ≤ 7) (hsh : ∀ i, i < N → sh i ≤ 81) (h1 : mu 59 1 = nI N) (h60 : ∀ i, i < N → mu 60 i = nI (sh i)) (P : List Nat) (r : Nat) (hnd : P.Nodup) (hP : ∀ x ∈ P, x < N) (hr : r + 9 ≤ 9 * 10 ^ P.length) : Cf l G mX5_playedOut 1 [.ref (G.1 59), .int 0, .int (nI (s_bits P)), .int (nI r), .int 1] mu nu (.int (nI (s_play N sh 0 P r true))) := by
  have hb7 := s_bits_lt (F := P) (fun x hx => Nat.lt_of_lt_of_le (hP x hx) hN)
  refine Ct.of (lv := [(0, .ref (G.1 59)), (1, .int 0), (2, .int (nI (s_bits P))), (3, .int (nI r)), (4, .int 1)]) rfl rfl (Nat.le_of_ble_eq_true rfl) rfl (fun X C => ?_)
  generalize hQ : g_E G X _ = Q
  replace C : Cx G 8 X cX5_playedOut RX5 (some .int) 1 := C
  show Mq l G 8 X Q 0 [(0, .ref (G.1 59)), (1, .int 0), (2, .int (nI (s_bits P))), (3, .int (nI r)), (4, .int 1)] [] mu nu
  refine m_bipush C (-9) dX5_playedOut_0 (by decide +kernel) ?_
  refine m_istore C [(5, .int ((-9))), (0, .ref (G.1 59)), (1, .int 0), (2, .int (nI (s_bits P))), (3, .int (nI r)), (4, .int 1)] dX5_playedOut_2 (by decide) rfl ?_
  refine m_iload_n C 2 dX5_playedOut_4 rfl ?_
  refine m_if_le C 105 dX5_playedOut_5 (by decide) (fun _ => ?_) (fun h => absurd (by decide) h)
  refine m_iload C 0 dX5_playedOut_105 rfl ?_
  refine m_bipush C (-9) dX5_playedOut_107 (by decide +kernel) ?_
  refine m_icmp_ne C 116 dX5_playedOut_109 (by decide) (fun h => absurd h (by decide)) (fun _ => ?_)
  refine m_iload_n C 4 dX5_playedOut_112 rfl ?_
  refine m_goto C 118 dX5_playedOut_113 (by decide) ?_
  refine m_iretf C hQ dX5_playedOut_118 rfl rfl ?_
  rfl

set_option maxHeartbeats 4000000 in
set_option maxRecDepth 100000 in
theorem c_X5_playedOut_0_f (l : Launch) (G : Gl) (mu : Mu) (nu : Nu) (N : Nat) (sh : Nat → Nat) (hN : N ≤ 7) (hsh : ∀ i, i < N → sh i ≤ 81) (h1 : mu 59 1 = nI N) (h60 : ∀ i, i < N → mu 60 i = nI (sh i)) (P : List Nat) (r : Nat) (hnd : P.Nodup) (hP : ∀ x ∈ P, x < N) (hr : r + 9 ≤ 9 * 10 ^ P.length) : Cf l G mX5_playedOut 1 [.ref (G.1 59), .int 0, .int (nI (s_bits P)), .int (nI r), .int 0] mu nu (.int (nI (s_play N sh 0 P r false))) := by
  have hb7 := s_bits_lt (F := P) (fun x hx => Nat.lt_of_lt_of_le (hP x hx) hN)
  refine Ct.of (lv := [(0, .ref (G.1 59)), (1, .int 0), (2, .int (nI (s_bits P))), (3, .int (nI r)), (4, .int 0)]) rfl rfl (Nat.le_of_ble_eq_true rfl) rfl (fun X C => ?_)
  generalize hQ : g_E G X _ = Q
  replace C : Cx G 8 X cX5_playedOut RX5 (some .int) 1 := C
  show Mq l G 8 X Q 0 [(0, .ref (G.1 59)), (1, .int 0), (2, .int (nI (s_bits P))), (3, .int (nI r)), (4, .int 0)] [] mu nu
  refine m_bipush C (-9) dX5_playedOut_0 (by decide +kernel) ?_
  refine m_istore C [(5, .int ((-9))), (0, .ref (G.1 59)), (1, .int 0), (2, .int (nI (s_bits P))), (3, .int (nI r)), (4, .int 0)] dX5_playedOut_2 (by decide) rfl ?_
  refine m_iload_n C 2 dX5_playedOut_4 rfl ?_
  refine m_if_le C 105 dX5_playedOut_5 (by decide) (fun _ => ?_) (fun h => absurd (by decide) h)
  refine m_iload C 0 dX5_playedOut_105 rfl ?_
  refine m_bipush C (-9) dX5_playedOut_107 (by decide +kernel) ?_
  refine m_icmp_ne C 116 dX5_playedOut_109 (by decide) (fun h => absurd h (by decide)) (fun _ => ?_)
  refine m_iload_n C 4 dX5_playedOut_112 rfl ?_
  refine m_goto C 118 dX5_playedOut_113 (by decide) ?_
  refine m_iretf C hQ dX5_playedOut_118 rfl rfl ?_
  rfl

set_option maxHeartbeats 4000000 in
set_option maxRecDepth 100000 in
theorem c_X5_playedOut_s_t (l : Launch) (G : Gl) (mu : Mu) (nu : Nu) (N : Nat) (sh : Nat → Nat) (hN : N ≤ 7) (hsh : ∀ i, i < N → sh i ≤ 81) (h1 : mu 59 1 = nI N) (h60 : ∀ i, i < N → mu 60 i = nI (sh i)) (t : Nat) (ht : t < 5) (P : List Nat) (r : Nat) (hnd : P.Nodup) (hP : ∀ x ∈ P, x < N) (hr : r + 9 ≤ 9 * 10 ^ P.length) (ih : ∀ (P : List Nat) (r : Nat), P.Nodup → (∀ x ∈ P, x < N) → r + 9 ≤ 9 * 10 ^ P.length → Cf l G mX5_playedOut (t + 1) [.ref (G.1 59), .int (nI t), .int (nI (s_bits P)), .int (nI r), .int 0] mu nu (.int (nI (s_play N sh t P r false)))) : Cf l G mX5_playedOut (t + 1 + 1) [.ref (G.1 59), .int (nI (t + 1)), .int (nI (s_bits P)), .int (nI r), .int 1] mu nu (.int (nI (s_play N sh (t + 1) P r true))) := by
  have hb7 := s_bits_lt (F := P) (fun x hx => Nat.lt_of_lt_of_le (hP x hx) hN)
  refine Ct.of (lv := [(0, .ref (G.1 59)), (1, .int (nI (t + 1))), (2, .int (nI (s_bits P))), (3, .int (nI r)), (4, .int 1)]) rfl rfl (Nat.le_of_ble_eq_true rfl) rfl (fun X C => ?_)
  generalize hQ : g_E G X _ = Q
  replace C : Cx G 8 X cX5_playedOut RX5 (some .int) (t + 1 + 1) := C
  show Mq l G 8 X Q 0 [(0, .ref (G.1 59)), (1, .int (nI (t + 1))), (2, .int (nI (s_bits P))), (3, .int (nI r)), (4, .int 1)] [] mu nu
  refine m_bipush C (-9) dX5_playedOut_0 (by decide +kernel) ?_
  refine m_istore C [(5, .int ((-9))), (0, .ref (G.1 59)), (1, .int (nI (t + 1))), (2, .int (nI (s_bits P))), (3, .int (nI r)), (4, .int 1)] dX5_playedOut_2 (by decide) rfl ?_
  refine m_iload_n C 2 dX5_playedOut_4 rfl ?_
  refine m_if_le C 105 dX5_playedOut_5 (by decide) (fun hh1 => ?_) (fun hh1 => ?_)
  · replace hh1 := (ii_le (nn_i (a := t + 1) rfl (by omega)) (nn_i (a := 0) rfl (by omega))).mp hh1
    exact absurd hh1 (by omega)
  replace hh1 := mt (ii_le (nn_i (a := t + 1) rfl (by omega)) (nn_i (a := 0) rfl (by omega))).mpr hh1
  refine m_iconst C 0 dX5_playedOut_8 (by decide +kernel) ?_
  refine m_istore C [(6, .int 0), (5, .int ((-9))), (0, .ref (G.1 59)), (1, .int (nI (t + 1))), (2, .int (nI (s_bits P))), (3, .int (nI r)), (4, .int 1)] dX5_playedOut_9 (by decide) rfl ?_
  have L11 : ∀ (fu : Nat) (i : Nat) (a : Option Nat) (hi : i ≤ N) (ea : a = (List.range i).foldl (fun a i => if i ∈ P then a else s_mx true a (s_play N sh t (P ++ [i]) (10 * r + sh i) (!true))) none) (hae : ∀ e, a = some e → e ≤ 90000000), N - i < fu → Mq l G 8 X Q 11 [(0, .ref (G.1 59)), (1, .int (nI (t + 1))), (2, .int (nI (s_bits P))), (3, .int (nI r)), (4, .int 1), (5, .int (s_en a)), (6, .int (nI i))] [] mu nu := by
    intro fu
    induction fu with
    | zero => intro i a hi ea hae hm; exact absurd hm (Nat.not_lt_zero _)
    | succ fu ih11 =>
      intro i a hi ea hae hm
      have hdv := Nat.div_le_self (s_bits P) (2 ^ i)
      refine m_iload C 6 dX5_playedOut_11 rfl ?_
      refine m_aload_n C 0 dX5_playedOut_13 rfl ?_
      refine gfX5_25 C dX5_playedOut_14 ?_
      refine m_topi (nI N) h1 ?_
      refine m_icmp_ge C 105 dX5_playedOut_17 (by decide) (fun hh2 => ?_) (fun hh2 => ?_)
      · replace hh2 := (ii_le (nn_i (a := N) rfl (by omega)) (nn_i (a := i) rfl (by omega))).mp hh2
        have ei : i = N := by omega
        refine m_iload C 5 dX5_playedOut_105 rfl ?_
        rcases a with _ | e
        · skip
          rw [show s_en none = -9 from rfl]
          refine m_bipush C (-9) dX5_playedOut_107 (by decide +kernel) ?_
          refine m_icmp_ne C 116 dX5_playedOut_109 (by decide) (fun h => absurd h (by decide)) (fun _ => ?_)
          refine m_iload_n C 3 dX5_playedOut_112 rfl ?_
          refine m_goto C 118 dX5_playedOut_113 (by decide) ?_
          refine m_iretf C hQ dX5_playedOut_118 rfl rfl ?_
          subst ei; show nI r = nI (Option.getD _ r); rw [← ea]; rfl
        · skip
          rw [show s_en (some e) = nI e from rfl]
          have hee := hae e rfl
          refine m_bipush C (-9) dX5_playedOut_107 (by decide +kernel) ?_
          refine m_icmp_ne C 116 dX5_playedOut_109 (by decide) (fun hh3 => ?_) (fun hh3 => ?_)
          · replace hh3 := mt (ii_eq (nn_i (a := e) rfl (by omega)) (show ((-9) : Int32).toInt = (-9) from by decide +kernel)).mpr hh3
            refine m_iload C 5 dX5_playedOut_116 rfl ?_
            refine m_iretf C hQ dX5_playedOut_118 rfl rfl ?_
            subst ei; show nI e = nI (Option.getD _ r); rw [← ea]; rfl
          replace hh3 := (ii_eq (nn_i (a := e) rfl (by omega)) (show ((-9) : Int32).toInt = (-9) from by decide +kernel)).mp hh3
          refine m_iload_n C 3 dX5_playedOut_112 rfl ?_
          refine m_goto C 118 dX5_playedOut_113 (by decide) ?_
          refine m_iretf C hQ dX5_playedOut_118 rfl rfl ?_
          exfalso; omega
      replace hh2 := mt (ii_le (nn_i (a := N) rfl (by omega)) (nn_i (a := i) rfl (by omega))).mpr hh2
      refine m_iload_n C 2 dX5_playedOut_20 rfl ?_
      refine m_iload C 6 dX5_playedOut_21 rfl ?_
      refine m_ishr C dX5_playedOut_23 ?_
      refine m_topi (nI ((s_bits P) / 2 ^ i)) (nn_shr rfl rfl (by omega) (by omega)) ?_
      refine m_iconst C 1 dX5_playedOut_24 (by decide +kernel) ?_
      refine m_iand C dX5_playedOut_25 ?_
      refine m_topi (nI (((s_bits P) / 2 ^ i) % 2)) (nn_and1 rfl (by omega)) ?_
      refine m_if_ne C 99 dX5_playedOut_26 (by decide) (fun hh4 => ?_) (fun hh4 => ?_)
      · replace hh4 := mt (ii_eq (nn_i (a := ((s_bits P) / 2 ^ i) % 2) rfl (by omega)) (nn_i (a := 0) rfl (by omega))).mpr hh4
        refine m_iinc C 6 (nI (i + 1)) [(6, .int (nI (i + 1))), (0, .ref (G.1 59)), (1, .int (nI (t + 1))), (2, .int (nI (s_bits P))), (3, .int (nI r)), (4, .int 1), (5, .int (s_en a))] dX5_playedOut_99 rfl (nn_add rfl (show Int32.ofInt 1 = nI 1 from rfl)) (by decide) rfl ?_
        refine m_goto C 11 dX5_playedOut_102 (by decide) ?_
        exact m_sub [1, 2, 3, 4, 5, 6, 0] rfl (ih11 (i + 1) a (by omega) (by rw [rf_succ, if_pos (s_bits_mem.mp (by omega))]; exact ea) hae (by omega))
      replace hh4 := (ii_eq (nn_i (a := ((s_bits P) / 2 ^ i) % 2) rfl (by omega)) (nn_i (a := 0) rfl (by omega))).mp hh4
      have hip : ¬ i ∈ P := fun z => absurd (s_bits_mem.mpr z) (by omega)
      have hP2 : ∀ x ∈ P ++ [i], x < N := fun x hx => by
        rcases List.mem_append.mp hx with h | h
        · exact hP x h
        · rw [List.mem_singleton.mp h]; omega
      have hr2 : 10 * r + sh i + 9 ≤ 9 * 10 ^ (P ++ [i]).length := by
        have := pb_step (N := N) hr (hsh i (by omega))
        simpa using this
      have hvb := s_play_le hN hsh t (P ++ [i]) (10 * r + sh i) false (nodup_app hnd hip) hP2 hr2
      refine m_aload_n C 0 dX5_playedOut_29 rfl ?_
      refine m_iload_n C 1 dX5_playedOut_30 rfl ?_
      refine m_iconst C 1 dX5_playedOut_31 (by decide +kernel) ?_
      refine m_isub C dX5_playedOut_32 ?_
      refine m_topi (nI ((t + 1) - 1)) (nn_sub rfl rfl (by omega)) ?_
      refine m_topi (nI t) (congrArg nI (Nat.add_sub_cancel t 1)) ?_
      refine m_iload_n C 2 dX5_playedOut_33 rfl ?_
      refine m_iconst C 1 dX5_playedOut_34 (by decide +kernel) ?_
      refine m_iload C 6 dX5_playedOut_35 rfl ?_
      refine m_ishl C dX5_playedOut_37 ?_
      refine m_topi (nI (2 ^ i)) (nn_shl1 rfl (by omega)) ?_
      refine m_ior C dX5_playedOut_38 ?_
      refine m_topi (nI ((s_bits P) ||| (2 ^ i))) (nn_or rfl rfl) ?_
      refine m_topi (nI (s_bits (P ++ [i]))) (congrArg nI s_bits_app.symm) ?_
      refine m_bipush C 10 dX5_playedOut_39 (by decide +kernel) ?_
      refine m_iload_n C 3 dX5_playedOut_41 rfl ?_
      refine m_imul C dX5_playedOut_42 ?_
      refine m_topi (nI (10 * r)) (nn_mul rfl rfl) ?_
      refine m_aload_n C 0 dX5_playedOut_43 rfl ?_
      refine gfX5_9 C dX5_playedOut_44 ?_
      refine m_iload C 6 dX5_playedOut_47 rfl ?_
      refine m_iald C 60 (by decide) sa_60 i rfl (by omega) (by decide) dX5_playedOut_49 ?_
      refine m_topi (nI (sh i)) (h60 i (by omega)) ?_
      refine m_iadd C dX5_playedOut_50 ?_
      refine m_topi (nI ((10 * r) + (sh i))) (nn_add rfl rfl) ?_
      refine m_iload C 4 dX5_playedOut_51 rfl ?_
      refine m_if_ne C 60 dX5_playedOut_53 (by decide) (fun _ => ?_) (fun h => absurd h (by decide))
      refine m_iconst C 0 dX5_playedOut_60 (by decide +kernel) ?_
      refine m_callVf C 59 (by decide) rfl rfl (ih (P ++ [i]) (10 * r + sh i) (nodup_app hnd hip) hP2 hr2) wkX5_59 (by omega) rfl rfl (Nat.le_of_ble_eq_true rfl) dX5_playedOut_61 ?_
      refine m_istore C [(7, .int (nI (s_play N sh t (P ++ [i]) (10 * r + sh i) false))), (0, .ref (G.1 59)), (1, .int (nI (t + 1))), (2, .int (nI (s_bits P))), (3, .int (nI r)), (4, .int 1), (5, .int (s_en a)), (6, .int (nI i))] dX5_playedOut_64 (by decide) rfl ?_
      rcases a with _ | e
      · skip
        rw [show s_en none = -9 from rfl]
        refine m_iload C 6 dX5_playedOut_66 rfl ?_
        refine m_bipush C (-9) dX5_playedOut_68 (by decide +kernel) ?_
        refine m_icmp_eq C 95 dX5_playedOut_70 (by decide) (fun _ => ?_) (fun h => absurd (by decide) h)
        refine m_iload C 0 dX5_playedOut_95 rfl ?_
        refine m_istore C [(5, .int (nI (s_play N sh t (P ++ [i]) (10 * r + sh i) false))), (7, .int (nI (s_play N sh t (P ++ [i]) (10 * r + sh i) false))), (0, .ref (G.1 59)), (1, .int (nI (t + 1))), (2, .int (nI (s_bits P))), (3, .int (nI r)), (4, .int 1), (6, .int (nI i))] dX5_playedOut_97 (by decide) rfl ?_
        refine m_iinc C 7 (nI (i + 1)) [(6, .int (nI (i + 1))), (5, .int (nI (s_play N sh t (P ++ [i]) (10 * r + sh i) false))), (7, .int (nI (s_play N sh t (P ++ [i]) (10 * r + sh i) false))), (0, .ref (G.1 59)), (1, .int (nI (t + 1))), (2, .int (nI (s_bits P))), (3, .int (nI r)), (4, .int 1)] dX5_playedOut_99 rfl (nn_add rfl (show Int32.ofInt 1 = nI 1 from rfl)) (by decide) rfl ?_
        refine m_goto C 11 dX5_playedOut_102 (by decide) ?_
        exact m_sub [3, 4, 5, 6, 7, 1, 0] rfl (ih11 (i + 1) (some (s_play N sh t (P ++ [i]) (10 * r + sh i) false)) (by omega) (by rw [rf_succ, if_neg hip, ← ea]; rfl) (fun e h => by cases h; exact hvb) (by omega))
      · skip
        rw [show s_en (some e) = nI e from rfl]
        have hee := hae e rfl
        refine m_iload C 6 dX5_playedOut_66 rfl ?_
        refine m_bipush C (-9) dX5_playedOut_68 (by decide +kernel) ?_
        refine m_icmp_eq C 95 dX5_playedOut_70 (by decide) (fun hh5 => ?_) (fun hh5 => ?_)
        · replace hh5 := (ii_eq (nn_i (a := e) rfl (by omega)) (show ((-9) : Int32).toInt = (-9) from by decide +kernel)).mp hh5
          refine m_iload C 0 dX5_playedOut_95 rfl ?_
          refine m_istore C [(5, .int (nI (s_play N sh t (P ++ [i]) (10 * r + sh i) false))), (7, .int (nI (s_play N sh t (P ++ [i]) (10 * r + sh i) false))), (0, .ref (G.1 59)), (1, .int (nI (t + 1))), (2, .int (nI (s_bits P))), (3, .int (nI r)), (4, .int 1), (6, .int (nI i))] dX5_playedOut_97 (by decide) rfl ?_
          refine m_iinc C 7 (nI (i + 1)) [(6, .int (nI (i + 1))), (5, .int (nI (s_play N sh t (P ++ [i]) (10 * r + sh i) false))), (7, .int (nI (s_play N sh t (P ++ [i]) (10 * r + sh i) false))), (0, .ref (G.1 59)), (1, .int (nI (t + 1))), (2, .int (nI (s_bits P))), (3, .int (nI r)), (4, .int 1)] dX5_playedOut_99 rfl (nn_add rfl (show Int32.ofInt 1 = nI 1 from rfl)) (by decide) rfl ?_
          refine m_goto C 11 dX5_playedOut_102 (by decide) ?_
          exact m_sub [3, 4, 5, 6, 7, 1, 0] rfl (ih11 (i + 1) (some (s_play N sh t (P ++ [i]) (10 * r + sh i) false)) (by omega) (by rw [rf_succ, if_neg hip, ← ea]; exact (if_pos (by simp; omega)).symm) (fun e h => by cases h; exact hvb) (by omega))
        replace hh5 := mt (ii_eq (nn_i (a := e) rfl (by omega)) (show ((-9) : Int32).toInt = (-9) from by decide +kernel)).mpr hh5
        refine m_iload C 5 dX5_playedOut_73 rfl ?_
        refine m_if_eq C 88 dX5_playedOut_75 (by decide) (fun h => absurd h (by decide)) (fun _ => ?_)
        refine m_iload C 0 dX5_playedOut_78 rfl ?_
        refine m_iload C 6 dX5_playedOut_80 rfl ?_
        refine m_icmp_le C 99 dX5_playedOut_82 (by decide) (fun hh6 => ?_) (fun hh6 => ?_)
        · replace hh6 := (ii_le (nn_i (a := s_play N sh t (P ++ [i]) (10 * r + sh i) false) rfl (by omega)) (nn_i (a := e) rfl (by omega))).mp hh6
          refine m_iinc C 7 (nI (i + 1)) [(6, .int (nI (i + 1))), (7, .int (nI (s_play N sh t (P ++ [i]) (10 * r + sh i) false))), (0, .ref (G.1 59)), (1, .int (nI (t + 1))), (2, .int (nI (s_bits P))), (3, .int (nI r)), (4, .int 1), (5, .int (nI e))] dX5_playedOut_99 rfl (nn_add rfl (show Int32.ofInt 1 = nI 1 from rfl)) (by decide) rfl ?_
          refine m_goto C 11 dX5_playedOut_102 (by decide) ?_
          exact m_sub [2, 3, 4, 5, 6, 7, 0] rfl (ih11 (i + 1) (some e) (by omega) (by rw [rf_succ, if_neg hip, ← ea]; exact (if_neg (by simp; omega)).symm) hae (by omega))
        replace hh6 := mt (ii_le (nn_i (a := s_play N sh t (P ++ [i]) (10 * r + sh i) false) rfl (by omega)) (nn_i (a := e) rfl (by omega))).mpr hh6
        refine m_goto C 95 dX5_playedOut_85 (by decide) ?_
        refine m_iload C 0 dX5_playedOut_95 rfl ?_
        refine m_istore C [(5, .int (nI (s_play N sh t (P ++ [i]) (10 * r + sh i) false))), (7, .int (nI (s_play N sh t (P ++ [i]) (10 * r + sh i) false))), (0, .ref (G.1 59)), (1, .int (nI (t + 1))), (2, .int (nI (s_bits P))), (3, .int (nI r)), (4, .int 1), (6, .int (nI i))] dX5_playedOut_97 (by decide) rfl ?_
        refine m_iinc C 7 (nI (i + 1)) [(6, .int (nI (i + 1))), (5, .int (nI (s_play N sh t (P ++ [i]) (10 * r + sh i) false))), (7, .int (nI (s_play N sh t (P ++ [i]) (10 * r + sh i) false))), (0, .ref (G.1 59)), (1, .int (nI (t + 1))), (2, .int (nI (s_bits P))), (3, .int (nI r)), (4, .int 1)] dX5_playedOut_99 rfl (nn_add rfl (show Int32.ofInt 1 = nI 1 from rfl)) (by decide) rfl ?_
        refine m_goto C 11 dX5_playedOut_102 (by decide) ?_
        exact m_sub [3, 4, 5, 6, 7, 1, 0] rfl (ih11 (i + 1) (some (s_play N sh t (P ++ [i]) (10 * r + sh i) false)) (by omega) (by rw [rf_succ, if_neg hip, ← ea]; exact (if_pos (by simp; omega)).symm) (fun e h => by cases h; exact hvb) (by omega))
  exact m_sub [2, 3, 4, 5, 6, 1, 0] rfl (L11 (_ + 1) 0 none (Nat.zero_le _) rfl (fun e h => by cases h) (Nat.lt_succ_self _))

set_option maxHeartbeats 4000000 in
set_option maxRecDepth 100000 in
theorem c_X5_playedOut_s_f (l : Launch) (G : Gl) (mu : Mu) (nu : Nu) (N : Nat) (sh : Nat → Nat) (hN : N ≤ 7) (hsh : ∀ i, i < N → sh i ≤ 81) (h1 : mu 59 1 = nI N) (h60 : ∀ i, i < N → mu 60 i = nI (sh i)) (t : Nat) (ht : t < 5) (P : List Nat) (r : Nat) (hnd : P.Nodup) (hP : ∀ x ∈ P, x < N) (hr : r + 9 ≤ 9 * 10 ^ P.length) (ih : ∀ (P : List Nat) (r : Nat), P.Nodup → (∀ x ∈ P, x < N) → r + 9 ≤ 9 * 10 ^ P.length → Cf l G mX5_playedOut (t + 1) [.ref (G.1 59), .int (nI t), .int (nI (s_bits P)), .int (nI r), .int 1] mu nu (.int (nI (s_play N sh t P r true)))) : Cf l G mX5_playedOut (t + 1 + 1) [.ref (G.1 59), .int (nI (t + 1)), .int (nI (s_bits P)), .int (nI r), .int 0] mu nu (.int (nI (s_play N sh (t + 1) P r false))) := by
  have hb7 := s_bits_lt (F := P) (fun x hx => Nat.lt_of_lt_of_le (hP x hx) hN)
  refine Ct.of (lv := [(0, .ref (G.1 59)), (1, .int (nI (t + 1))), (2, .int (nI (s_bits P))), (3, .int (nI r)), (4, .int 0)]) rfl rfl (Nat.le_of_ble_eq_true rfl) rfl (fun X C => ?_)
  generalize hQ : g_E G X _ = Q
  replace C : Cx G 8 X cX5_playedOut RX5 (some .int) (t + 1 + 1) := C
  show Mq l G 8 X Q 0 [(0, .ref (G.1 59)), (1, .int (nI (t + 1))), (2, .int (nI (s_bits P))), (3, .int (nI r)), (4, .int 0)] [] mu nu
  refine m_bipush C (-9) dX5_playedOut_0 (by decide +kernel) ?_
  refine m_istore C [(5, .int ((-9))), (0, .ref (G.1 59)), (1, .int (nI (t + 1))), (2, .int (nI (s_bits P))), (3, .int (nI r)), (4, .int 0)] dX5_playedOut_2 (by decide) rfl ?_
  refine m_iload_n C 2 dX5_playedOut_4 rfl ?_
  refine m_if_le C 105 dX5_playedOut_5 (by decide) (fun hh1 => ?_) (fun hh1 => ?_)
  · replace hh1 := (ii_le (nn_i (a := t + 1) rfl (by omega)) (nn_i (a := 0) rfl (by omega))).mp hh1
    exact absurd hh1 (by omega)
  replace hh1 := mt (ii_le (nn_i (a := t + 1) rfl (by omega)) (nn_i (a := 0) rfl (by omega))).mpr hh1
  refine m_iconst C 0 dX5_playedOut_8 (by decide +kernel) ?_
  refine m_istore C [(6, .int 0), (5, .int ((-9))), (0, .ref (G.1 59)), (1, .int (nI (t + 1))), (2, .int (nI (s_bits P))), (3, .int (nI r)), (4, .int 0)] dX5_playedOut_9 (by decide) rfl ?_
  have L11 : ∀ (fu : Nat) (i : Nat) (a : Option Nat) (hi : i ≤ N) (ea : a = (List.range i).foldl (fun a i => if i ∈ P then a else s_mx false a (s_play N sh t (P ++ [i]) (10 * r + sh i) (!false))) none) (hae : ∀ e, a = some e → e ≤ 90000000), N - i < fu → Mq l G 8 X Q 11 [(0, .ref (G.1 59)), (1, .int (nI (t + 1))), (2, .int (nI (s_bits P))), (3, .int (nI r)), (4, .int 0), (5, .int (s_en a)), (6, .int (nI i))] [] mu nu := by
    intro fu
    induction fu with
    | zero => intro i a hi ea hae hm; exact absurd hm (Nat.not_lt_zero _)
    | succ fu ih11 =>
      intro i a hi ea hae hm
      have hdv := Nat.div_le_self (s_bits P) (2 ^ i)
      refine m_iload C 6 dX5_playedOut_11 rfl ?_
      refine m_aload_n C 0 dX5_playedOut_13 rfl ?_
      refine gfX5_25 C dX5_playedOut_14 ?_
      refine m_topi (nI N) h1 ?_
      refine m_icmp_ge C 105 dX5_playedOut_17 (by decide) (fun hh2 => ?_) (fun hh2 => ?_)
      · replace hh2 := (ii_le (nn_i (a := N) rfl (by omega)) (nn_i (a := i) rfl (by omega))).mp hh2
        have ei : i = N := by omega
        refine m_iload C 5 dX5_playedOut_105 rfl ?_
        rcases a with _ | e
        · skip
          rw [show s_en none = -9 from rfl]
          refine m_bipush C (-9) dX5_playedOut_107 (by decide +kernel) ?_
          refine m_icmp_ne C 116 dX5_playedOut_109 (by decide) (fun h => absurd h (by decide)) (fun _ => ?_)
          refine m_iload_n C 3 dX5_playedOut_112 rfl ?_
          refine m_goto C 118 dX5_playedOut_113 (by decide) ?_
          refine m_iretf C hQ dX5_playedOut_118 rfl rfl ?_
          subst ei; show nI r = nI (Option.getD _ r); rw [← ea]; rfl
        · skip
          rw [show s_en (some e) = nI e from rfl]
          have hee := hae e rfl
          refine m_bipush C (-9) dX5_playedOut_107 (by decide +kernel) ?_
          refine m_icmp_ne C 116 dX5_playedOut_109 (by decide) (fun hh3 => ?_) (fun hh3 => ?_)
          · replace hh3 := mt (ii_eq (nn_i (a := e) rfl (by omega)) (show ((-9) : Int32).toInt = (-9) from by decide +kernel)).mpr hh3
            refine m_iload C 5 dX5_playedOut_116 rfl ?_
            refine m_iretf C hQ dX5_playedOut_118 rfl rfl ?_
            subst ei; show nI e = nI (Option.getD _ r); rw [← ea]; rfl
          replace hh3 := (ii_eq (nn_i (a := e) rfl (by omega)) (show ((-9) : Int32).toInt = (-9) from by decide +kernel)).mp hh3
          refine m_iload_n C 3 dX5_playedOut_112 rfl ?_
          refine m_goto C 118 dX5_playedOut_113 (by decide) ?_
          refine m_iretf C hQ dX5_playedOut_118 rfl rfl ?_
          exfalso; omega
      replace hh2 := mt (ii_le (nn_i (a := N) rfl (by omega)) (nn_i (a := i) rfl (by omega))).mpr hh2
      refine m_iload_n C 2 dX5_playedOut_20 rfl ?_
      refine m_iload C 6 dX5_playedOut_21 rfl ?_
      refine m_ishr C dX5_playedOut_23 ?_
      refine m_topi (nI ((s_bits P) / 2 ^ i)) (nn_shr rfl rfl (by omega) (by omega)) ?_
      refine m_iconst C 1 dX5_playedOut_24 (by decide +kernel) ?_
      refine m_iand C dX5_playedOut_25 ?_
      refine m_topi (nI (((s_bits P) / 2 ^ i) % 2)) (nn_and1 rfl (by omega)) ?_
      refine m_if_ne C 99 dX5_playedOut_26 (by decide) (fun hh4 => ?_) (fun hh4 => ?_)
      · replace hh4 := mt (ii_eq (nn_i (a := ((s_bits P) / 2 ^ i) % 2) rfl (by omega)) (nn_i (a := 0) rfl (by omega))).mpr hh4
        refine m_iinc C 6 (nI (i + 1)) [(6, .int (nI (i + 1))), (0, .ref (G.1 59)), (1, .int (nI (t + 1))), (2, .int (nI (s_bits P))), (3, .int (nI r)), (4, .int 0), (5, .int (s_en a))] dX5_playedOut_99 rfl (nn_add rfl (show Int32.ofInt 1 = nI 1 from rfl)) (by decide) rfl ?_
        refine m_goto C 11 dX5_playedOut_102 (by decide) ?_
        exact m_sub [1, 2, 3, 4, 5, 6, 0] rfl (ih11 (i + 1) a (by omega) (by rw [rf_succ, if_pos (s_bits_mem.mp (by omega))]; exact ea) hae (by omega))
      replace hh4 := (ii_eq (nn_i (a := ((s_bits P) / 2 ^ i) % 2) rfl (by omega)) (nn_i (a := 0) rfl (by omega))).mp hh4
      have hip : ¬ i ∈ P := fun z => absurd (s_bits_mem.mpr z) (by omega)
      have hP2 : ∀ x ∈ P ++ [i], x < N := fun x hx => by
        rcases List.mem_append.mp hx with h | h
        · exact hP x h
        · rw [List.mem_singleton.mp h]; omega
      have hr2 : 10 * r + sh i + 9 ≤ 9 * 10 ^ (P ++ [i]).length := by
        have := pb_step (N := N) hr (hsh i (by omega))
        simpa using this
      have hvb := s_play_le hN hsh t (P ++ [i]) (10 * r + sh i) true (nodup_app hnd hip) hP2 hr2
      refine m_aload_n C 0 dX5_playedOut_29 rfl ?_
      refine m_iload_n C 1 dX5_playedOut_30 rfl ?_
      refine m_iconst C 1 dX5_playedOut_31 (by decide +kernel) ?_
      refine m_isub C dX5_playedOut_32 ?_
      refine m_topi (nI ((t + 1) - 1)) (nn_sub rfl rfl (by omega)) ?_
      refine m_topi (nI t) (congrArg nI (Nat.add_sub_cancel t 1)) ?_
      refine m_iload_n C 2 dX5_playedOut_33 rfl ?_
      refine m_iconst C 1 dX5_playedOut_34 (by decide +kernel) ?_
      refine m_iload C 6 dX5_playedOut_35 rfl ?_
      refine m_ishl C dX5_playedOut_37 ?_
      refine m_topi (nI (2 ^ i)) (nn_shl1 rfl (by omega)) ?_
      refine m_ior C dX5_playedOut_38 ?_
      refine m_topi (nI ((s_bits P) ||| (2 ^ i))) (nn_or rfl rfl) ?_
      refine m_topi (nI (s_bits (P ++ [i]))) (congrArg nI s_bits_app.symm) ?_
      refine m_bipush C 10 dX5_playedOut_39 (by decide +kernel) ?_
      refine m_iload_n C 3 dX5_playedOut_41 rfl ?_
      refine m_imul C dX5_playedOut_42 ?_
      refine m_topi (nI (10 * r)) (nn_mul rfl rfl) ?_
      refine m_aload_n C 0 dX5_playedOut_43 rfl ?_
      refine gfX5_9 C dX5_playedOut_44 ?_
      refine m_iload C 6 dX5_playedOut_47 rfl ?_
      refine m_iald C 60 (by decide) sa_60 i rfl (by omega) (by decide) dX5_playedOut_49 ?_
      refine m_topi (nI (sh i)) (h60 i (by omega)) ?_
      refine m_iadd C dX5_playedOut_50 ?_
      refine m_topi (nI ((10 * r) + (sh i))) (nn_add rfl rfl) ?_
      refine m_iload C 4 dX5_playedOut_51 rfl ?_
      refine m_if_ne C 60 dX5_playedOut_53 (by decide) (fun h => absurd h (by decide)) (fun _ => ?_)
      refine m_iconst C 1 dX5_playedOut_56 (by decide +kernel) ?_
      refine m_goto C 61 dX5_playedOut_57 (by decide) ?_
      refine m_callVf C 59 (by decide) rfl rfl (ih (P ++ [i]) (10 * r + sh i) (nodup_app hnd hip) hP2 hr2) wkX5_59 (by omega) rfl rfl (Nat.le_of_ble_eq_true rfl) dX5_playedOut_61 ?_
      refine m_istore C [(7, .int (nI (s_play N sh t (P ++ [i]) (10 * r + sh i) true))), (0, .ref (G.1 59)), (1, .int (nI (t + 1))), (2, .int (nI (s_bits P))), (3, .int (nI r)), (4, .int 0), (5, .int (s_en a)), (6, .int (nI i))] dX5_playedOut_64 (by decide) rfl ?_
      rcases a with _ | e
      · skip
        rw [show s_en none = -9 from rfl]
        refine m_iload C 6 dX5_playedOut_66 rfl ?_
        refine m_bipush C (-9) dX5_playedOut_68 (by decide +kernel) ?_
        refine m_icmp_eq C 95 dX5_playedOut_70 (by decide) (fun _ => ?_) (fun h => absurd (by decide) h)
        refine m_iload C 0 dX5_playedOut_95 rfl ?_
        refine m_istore C [(5, .int (nI (s_play N sh t (P ++ [i]) (10 * r + sh i) true))), (7, .int (nI (s_play N sh t (P ++ [i]) (10 * r + sh i) true))), (0, .ref (G.1 59)), (1, .int (nI (t + 1))), (2, .int (nI (s_bits P))), (3, .int (nI r)), (4, .int 0), (6, .int (nI i))] dX5_playedOut_97 (by decide) rfl ?_
        refine m_iinc C 7 (nI (i + 1)) [(6, .int (nI (i + 1))), (5, .int (nI (s_play N sh t (P ++ [i]) (10 * r + sh i) true))), (7, .int (nI (s_play N sh t (P ++ [i]) (10 * r + sh i) true))), (0, .ref (G.1 59)), (1, .int (nI (t + 1))), (2, .int (nI (s_bits P))), (3, .int (nI r)), (4, .int 0)] dX5_playedOut_99 rfl (nn_add rfl (show Int32.ofInt 1 = nI 1 from rfl)) (by decide) rfl ?_
        refine m_goto C 11 dX5_playedOut_102 (by decide) ?_
        exact m_sub [3, 4, 5, 6, 7, 1, 0] rfl (ih11 (i + 1) (some (s_play N sh t (P ++ [i]) (10 * r + sh i) true)) (by omega) (by rw [rf_succ, if_neg hip, ← ea]; rfl) (fun e h => by cases h; exact hvb) (by omega))
      · skip
        rw [show s_en (some e) = nI e from rfl]
        have hee := hae e rfl
        refine m_iload C 6 dX5_playedOut_66 rfl ?_
        refine m_bipush C (-9) dX5_playedOut_68 (by decide +kernel) ?_
        refine m_icmp_eq C 95 dX5_playedOut_70 (by decide) (fun hh5 => ?_) (fun hh5 => ?_)
        · replace hh5 := (ii_eq (nn_i (a := e) rfl (by omega)) (show ((-9) : Int32).toInt = (-9) from by decide +kernel)).mp hh5
          refine m_iload C 0 dX5_playedOut_95 rfl ?_
          refine m_istore C [(5, .int (nI (s_play N sh t (P ++ [i]) (10 * r + sh i) true))), (7, .int (nI (s_play N sh t (P ++ [i]) (10 * r + sh i) true))), (0, .ref (G.1 59)), (1, .int (nI (t + 1))), (2, .int (nI (s_bits P))), (3, .int (nI r)), (4, .int 0), (6, .int (nI i))] dX5_playedOut_97 (by decide) rfl ?_
          refine m_iinc C 7 (nI (i + 1)) [(6, .int (nI (i + 1))), (5, .int (nI (s_play N sh t (P ++ [i]) (10 * r + sh i) true))), (7, .int (nI (s_play N sh t (P ++ [i]) (10 * r + sh i) true))), (0, .ref (G.1 59)), (1, .int (nI (t + 1))), (2, .int (nI (s_bits P))), (3, .int (nI r)), (4, .int 0)] dX5_playedOut_99 rfl (nn_add rfl (show Int32.ofInt 1 = nI 1 from rfl)) (by decide) rfl ?_
          refine m_goto C 11 dX5_playedOut_102 (by decide) ?_
          exact m_sub [3, 4, 5, 6, 7, 1, 0] rfl (ih11 (i + 1) (some (s_play N sh t (P ++ [i]) (10 * r + sh i) true)) (by omega) (by rw [rf_succ, if_neg hip, ← ea]; exact (if_pos (by simp; omega)).symm) (fun e h => by cases h; exact hvb) (by omega))
        replace hh5 := mt (ii_eq (nn_i (a := e) rfl (by omega)) (show ((-9) : Int32).toInt = (-9) from by decide +kernel)).mpr hh5
        refine m_iload C 5 dX5_playedOut_73 rfl ?_
        refine m_if_eq C 88 dX5_playedOut_75 (by decide) (fun _ => ?_) (fun h => absurd (by decide) h)
        refine m_iload C 0 dX5_playedOut_88 rfl ?_
        refine m_iload C 6 dX5_playedOut_90 rfl ?_
        refine m_icmp_ge C 99 dX5_playedOut_92 (by decide) (fun hh6 => ?_) (fun hh6 => ?_)
        · replace hh6 := (ii_le (nn_i (a := e) rfl (by omega)) (nn_i (a := s_play N sh t (P ++ [i]) (10 * r + sh i) true) rfl (by omega))).mp hh6
          refine m_iinc C 7 (nI (i + 1)) [(6, .int (nI (i + 1))), (7, .int (nI (s_play N sh t (P ++ [i]) (10 * r + sh i) true))), (0, .ref (G.1 59)), (1, .int (nI (t + 1))), (2, .int (nI (s_bits P))), (3, .int (nI r)), (4, .int 0), (5, .int (nI e))] dX5_playedOut_99 rfl (nn_add rfl (show Int32.ofInt 1 = nI 1 from rfl)) (by decide) rfl ?_
          refine m_goto C 11 dX5_playedOut_102 (by decide) ?_
          exact m_sub [2, 3, 4, 5, 6, 7, 0] rfl (ih11 (i + 1) (some e) (by omega) (by rw [rf_succ, if_neg hip, ← ea]; exact (if_neg (by simp; omega)).symm) hae (by omega))
        replace hh6 := mt (ii_le (nn_i (a := e) rfl (by omega)) (nn_i (a := s_play N sh t (P ++ [i]) (10 * r + sh i) true) rfl (by omega))).mpr hh6
        refine m_iload C 0 dX5_playedOut_95 rfl ?_
        refine m_istore C [(5, .int (nI (s_play N sh t (P ++ [i]) (10 * r + sh i) true))), (7, .int (nI (s_play N sh t (P ++ [i]) (10 * r + sh i) true))), (0, .ref (G.1 59)), (1, .int (nI (t + 1))), (2, .int (nI (s_bits P))), (3, .int (nI r)), (4, .int 0), (6, .int (nI i))] dX5_playedOut_97 (by decide) rfl ?_
        refine m_iinc C 7 (nI (i + 1)) [(6, .int (nI (i + 1))), (5, .int (nI (s_play N sh t (P ++ [i]) (10 * r + sh i) true))), (7, .int (nI (s_play N sh t (P ++ [i]) (10 * r + sh i) true))), (0, .ref (G.1 59)), (1, .int (nI (t + 1))), (2, .int (nI (s_bits P))), (3, .int (nI r)), (4, .int 0)] dX5_playedOut_99 rfl (nn_add rfl (show Int32.ofInt 1 = nI 1 from rfl)) (by decide) rfl ?_
        refine m_goto C 11 dX5_playedOut_102 (by decide) ?_
        exact m_sub [3, 4, 5, 6, 7, 1, 0] rfl (ih11 (i + 1) (some (s_play N sh t (P ++ [i]) (10 * r + sh i) true)) (by omega) (by rw [rf_succ, if_neg hip, ← ea]; exact (if_pos (by simp; omega)).symm) (fun e h => by cases h; exact hvb) (by omega))
  exact m_sub [2, 3, 4, 5, 6, 1, 0] rfl (L11 (_ + 1) 0 none (Nat.zero_le _) rfl (fun e h => by cases h) (Nat.lt_succ_self _))

theorem c_X5_playedOut (l : Launch) (G : Gl) (mu : Mu) (nu : Nu) (N : Nat) (sh : Nat → Nat) (hN : N ≤ 7) (hsh : ∀ i, i < N → sh i ≤ 81) (h1 : mu 59 1 = nI N) (h60 : ∀ i, i < N → mu 60 i = nI (sh i)) : ∀ t : Nat, t ≤ 5 → (∀ (P : List Nat) (r : Nat), P.Nodup → (∀ x ∈ P, x < N) → r + 9 ≤ 9 * 10 ^ P.length → Cf l G mX5_playedOut (t + 1) [.ref (G.1 59), .int (nI t), .int (nI (s_bits P)), .int (nI r), .int 1] mu nu (.int (nI (s_play N sh t P r true)))) ∧ (∀ (P : List Nat) (r : Nat), P.Nodup → (∀ x ∈ P, x < N) → r + 9 ≤ 9 * 10 ^ P.length → Cf l G mX5_playedOut (t + 1) [.ref (G.1 59), .int (nI t), .int (nI (s_bits P)), .int (nI r), .int 0] mu nu (.int (nI (s_play N sh t P r false))))
  | 0, _ => ⟨fun P r a b c => c_X5_playedOut_0_t l G mu nu N sh hN hsh h1 h60 P r a b c, fun P r a b c => c_X5_playedOut_0_f l G mu nu N sh hN hsh h1 h60 P r a b c⟩
  | t + 1, ht => ⟨fun P r a b c => c_X5_playedOut_s_t l G mu nu N sh hN hsh h1 h60 t (by omega) P r a b c (c_X5_playedOut l G mu nu N sh hN hsh h1 h60 t (by omega)).2, fun P r a b c => c_X5_playedOut_s_f l G mu nu N sh hN hsh h1 h60 t (by omega) P r a b c (c_X5_playedOut l G mu nu N sh hN hsh h1 h60 t (by omega)).1⟩
