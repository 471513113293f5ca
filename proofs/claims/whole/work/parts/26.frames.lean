theorem s_ext_len {N : Nat} {f : List Nat → Nat} : ∀ (k : Nat) (P : List Nat) (a : Nat × List Nat), (s_ext N f k P a = a ∨ ((s_ext N f k P a).2.length = P.length + k ∧ (s_ext N f k P a).1 < a.1))
  | 0, P, a => by
    unfold s_ext
    by_cases h : f P < a.1
    · rw [if_pos h]; exact Or.inr ⟨rfl, h⟩
    · rw [if_neg h]; exact Or.inl rfl
  | k + 1, P, a => by
    unfold s_ext
    have key : ∀ j, ((List.range j).foldl (fun a i => if i ∈ P then a else s_ext N f k (P ++ [i]) a) a = a ∨ (((List.range j).foldl (fun a i => if i ∈ P then a else s_ext N f k (P ++ [i]) a) a).2.length = P.length + (k + 1) ∧ ((List.range j).foldl (fun a i => if i ∈ P then a else s_ext N f k (P ++ [i]) a) a).1 < a.1)) := by
      intro j
      induction j with
      | zero => exact Or.inl rfl
      | succ j ih =>
        rw [rf_succ]
        generalize (List.range j).foldl (fun a i => if i ∈ P then a else s_ext N f k (P ++ [i]) a) a = b at ih
        by_cases hp : j ∈ P
        · rw [if_pos hp]; exact ih
        · rw [if_neg hp]
          rcases s_ext_len k (P ++ [j]) b with h | ⟨h1, h2⟩
          · rw [h]; exact ih
          · refine Or.inr ⟨by rw [h1]; simp; omega, ?_⟩
            rcases ih with h | ⟨-, h⟩
            · rw [← h]; exact h2
            · omega
    exact key N
theorem nodup_sub : ∀ (l P : List Nat), l.Nodup → (∀ x ∈ l, x ∈ P) → l.length ≤ P.length
  | [], P, _, _ => Nat.zero_le _
  | a :: l, P, hd, h => by
    have h1 := List.nodup_cons.mp hd
    have hm := h a List.mem_cons_self
    have h2 := nodup_sub l (P.erase a) h1.2 (fun x hx => (List.mem_erase_of_ne (fun e : x = a => h1.1 (e ▸ hx))).mpr (h x (List.mem_cons_of_mem _ hx)))
    have h3 := List.length_erase_of_mem hm
    have h4 := List.length_pos_of_mem hm
    simp only [List.length_cons]
    omega
theorem free_rod {N : Nat} {P : List Nat} (h : P.length < N) : ∃ i, i < N ∧ ¬ i ∈ P := by
  by_cases hc : ∃ i, i < N ∧ ¬ i ∈ P
  · exact hc
  · exfalso
    have h1 := nodup_sub (List.range N) P List.nodup_range (fun x hx => Decidable.not_not.mp (fun hn => hc ⟨x, List.mem_range.mp hx, hn⟩))
    simp only [List.length_range] at h1
    omega
theorem s_ext_le {N : Nat} {f : List Nat → Nat} (k : Nat) (P : List Nat) (a : Nat × List Nat) : (s_ext N f k P a).1 ≤ a.1 := by
  rcases s_ext_len (N := N) (f := f) k P a with h | ⟨-, h⟩
  · rw [h]; exact Nat.le_refl _
  · omega
theorem s_ext_found {N : Nat} {f : List Nat → Nat} : ∀ (k : Nat) (P : List Nat) (a : Nat × List Nat), P.length + k ≤ N → (∀ Q, Q.length = P.length + k → (∀ x ∈ Q, x ∈ P ∨ x < N) → f Q < a.1) → (s_ext N f k P a).1 < a.1
  | 0, P, a, _, hf => by
    unfold s_ext
    have := hf P rfl (fun x hx => Or.inl hx)
    rw [if_pos this]; exact this
  | k + 1, P, a, hl, hf => by
    unfold s_ext
    obtain ⟨i, hi, hp⟩ := free_rod (N := N) (P := P) (by omega)
    have key : ∀ j, ((List.range j).foldl (fun a i => if i ∈ P then a else s_ext N f k (P ++ [i]) a) a).1 ≤ a.1 ∧ (i < j → ((List.range j).foldl (fun a i => if i ∈ P then a else s_ext N f k (P ++ [i]) a) a).1 < a.1) := by
      intro j
      induction j with
      | zero => exact ⟨Nat.le_refl _, fun h => absurd h (Nat.not_lt_zero _)⟩
      | succ j ih =>
        rw [rf_succ]
        generalize hb : (List.range j).foldl (fun a i => if i ∈ P then a else s_ext N f k (P ++ [i]) a) a = b at ih
        by_cases hq : j ∈ P
        · rw [if_pos hq]
          refine ⟨ih.1, fun h => ih.2 ?_⟩
          have : i ≠ j := fun e => hp (e ▸ hq)
          omega
        · rw [if_neg hq]
          have h1 := s_ext_le (N := N) (f := f) k (P ++ [j]) b
          refine ⟨by omega, fun h => ?_⟩
          by_cases e : i = j
          · subst e
            by_cases hlt : b.1 < a.1
            · omega
            · have h2 := s_ext_found (N := N) (f := f) k (P ++ [i]) b (by simp; omega) (fun Q hQ hx => by
                have := hf Q (by rw [hQ]; simp; omega) (fun x hx2 => by
                  rcases hx x hx2 with q | q
                  · rcases List.mem_append.mp q with q | q
                    · exact Or.inl q
                    · rw [List.mem_singleton.mp q]; exact Or.inr hi
                  · exact Or.inr q)
                omega)
              omega
          · have := ih.2 (by omega)
            omega
    exact (key N).2 hi
/-- all that a search from nothing needs -/
theorem s_ext_top {N k c : Nat} {f : List Nat → Nat} (hk : k ≤ N) (hf : ∀ Q, Q.length = k → (∀ x ∈ Q, x < N) → f Q < c) : (s_ext N f k [] (c, [])).2.length = k ∧ (s_ext N f k [] (c, [])).1 < c := by
  have h1 := s_ext_found (N := N) (f := f) k [] (c, []) (by simpa using hk) (fun Q hQ hx => hf Q (by simpa using hQ) (fun x h => (hx x h).resolve_left List.not_mem_nil))
  have h1 : (s_ext N f k [] (c, [])).1 < c := h1
  rcases s_ext_len (N := N) (f := f) k [] (c, []) with h | ⟨h, -⟩
  · rw [h] at h1; exact absurd h1 (Nat.lt_irrefl _)
  · exact ⟨by simpa using h, h1⟩
/-- the frame of k rods that comes nearest to a goal -/
def s_nr (V : Vw) (n goal k c : Nat) : Nat × List Nat := s_ext (v_N V) (s_fd goal (fun i => v_sh V i n)) k [] (c, [])
theorem s_nr_ok {V : Vw} {n goal k c : Nat} (hw : v_wf V) (hn : n ≤ 9) (hk : k ≤ v_N V) (hc : goal < c) (hc2 : 90000000 < c) : (s_nr V n goal k c).2.length = k ∧ (s_nr V n goal k c).1 < c := by
  refine s_ext_top hk (fun Q hQ hx => ?_)
  have h1 := s_vl_le (N := v_N V) (sh := fun i => v_sh V i n) (fun i hi => v_sh_le hw hi hn) Q hx
  have h2 := p10_7 (p := Q.length) (by have := hw.1; omega)
  unfold s_fd s_ds
  omega
def s_is (xs : List Nat) : List Int32 := xs.map nI
theorem s_is_gd {xs : List Nat} {p : Nat} (h : p < xs.length) : (s_is xs).getD p 0 = nI (xs.getD p 0) := by
  simp [s_is, List.getD, h]
def s_mf (V : Vw) (n v : Nat) : Option Nat := (List.range (v_N V + 1)).find? (fun k => decide ((s_nr V n v k 1).1 = 0))
def s_makes (z : Zt) (v n r : Int32) : Int32 × Zt := if ¬ (0 ≤ v.toInt ∧ v.toInt ≤ 99999999) ∨ ¬ (1 ≤ n.toInt ∧ n.toInt < 10) ∨ ¬ (0 ≤ r.toInt ∧ r.toInt < 6) then (-1, z) else if z_N z = 0 then (-4, z) else match s_mf (z_V z) (ix n) (ix v) with
  | none => (-9, z)
  | some k => (nI k, u_row z (ix r) (some (s_is (s_nr (z_V z) (ix n) (ix v) k 1).2)))
def s_most (z : Zt) (k n r : Int32) : Int32 × Zt := if ¬ (1 ≤ n.toInt ∧ n.toInt < 10) ∨ ¬ (0 ≤ r.toInt ∧ r.toInt < 6) then (-1, z) else if z_N z = 0 then (-4, z) else if ¬ (1 ≤ k.toInt ∧ k.toInt ≤ 5 ∧ k.toInt ≤ z_N z) then (-1, z) else (nI (99999999 - (s_nr (z_V z) (ix n) 99999999 (ix k) 100000000).1), u_row z (ix r) (some (s_is (s_nr (z_V z) (ix n) 99999999 (ix k) 100000000).2)))
def s_fig (xs : List Nat) : Nat → Nat
  | 0 => 0
  | p + 1 => 10 * s_fig xs p + xs.getD p 0
def s_near (z : Zt) (v n : Int32) : Int32 × Zt := if ¬ (0 ≤ v.toInt ∧ v.toInt ≤ 9999) ∨ ¬ (1 ≤ n.toInt ∧ n.toInt < 10) then (-1, z) else if z_N z = 0 then (-4, z) else (nI (s_nr (z_V z) (ix n) (ix v) (min 3 (z_N z)) 99999999).1, u_told z (nI (s_fig (s_nr (z_V z) (ix n) (ix v) (min 3 (z_N z)) 99999999).2 (min 3 (z_N z)))))
def s_duel (z : Zt) (n k : Int32) : Int32 × Zt := if ¬ (0 ≤ n.toInt ∧ n.toInt ≤ 5) ∨ ¬ (1 ≤ k.toInt ∧ k.toInt < 10) then (-1, z) else if z_N z = 0 then (-4, z) else (nI (s_play (z_N z) (fun i => v_sh (z_V z) i (ix k)) (ix n) (z_B z).1 (v_rd (z_V z) (ix k) (v_m (z_V z))) true), z)
theorem zc_look {mu m : Mu} {nu : Nu} {z : Zt} {n : Nat} (h : ZC mu nu z) (hl : z_look mu m (z_V z) n) : ZC m nu z := zc_keep h (fun c hc => hl.1 c (by omega) (by omega)) (hl.1 63 (by decide) (by decide)) rfl
theorem st_take {mu : Mu} {c cap n : Nat} {xs : List Nat} (hn : n ≤ cap) (hl : xs.length = n) (h : ∀ p, p < n → mu 62 p = nI (xs.getD p 0)) : z_st (mu_row (mu_up mu c 1 (nI n)) (c + 1) (fun j => if j < n then mu 62 j else mu (c + 1) j)) c cap (some (s_is xs)) := by
  refine ⟨?_, by simpa [s_is, hl] using hn, fun j hj => ?_⟩
  · rw [mu_row_ne (by omega), mu_up_at]; simp [s_is, hl]
  · have hj : j < xs.length := by simpa [s_is] using hj
    rw [mu_row_eq, if_pos (by omega), s_is_gd hj, h j (by omega)]
set_option maxHeartbeats 4000000 in
set_option maxRecDepth 100000 in
theorem c_X10_most (l : Launch) (G : Gl) (mu : Mu) (nu : Nu) (z : Zt) (hz : ZC mu nu z) (k n r : Int32) : Ci l G mX10_most 12 [.ref (G.1 0), .int k, .int n, .int r] mu nu (PC mu nu (s_most z k n r)) := by
  have hv : zv mu (z_V z) := hz.1
  have hw := hv.1
  have hN7 := hw.1
  have hm7 := hw.2.2.1
  have ho8 := hw.2.2.2.2
  have hcz : ((v_N (z_V z) : Nat) : Int) = ((z_N z : Nat) : Int) := rfl
  have hzN : z_N z ≤ 7 := hN7
  refine Ct.of (lv := [(0, .ref (G.1 0)), (1, .int k), (2, .int n), (3, .int r)]) rfl rfl (Nat.le_of_ble_eq_true rfl) rfl (fun X C => ?_)
  generalize hQ : g_E G X _ = Q
  replace C : Cx G 5 X cX10_most RX10 (some .int) 12 := C
  show Mq l G 5 X Q 0 [(0, .ref (G.1 0)), (1, .int k), (2, .int n), (3, .int r)] [] mu nu
  refine m_iload_n C 2 dX10_most_0 rfl ?_
  refine m_callSf C (c_X10_isLine l G mu nu n) wkX10_159 (by decide) rfl rfl (Nat.le_of_ble_eq_true rfl) dX10_most_1 ?_
  refine m_if_eq C 14 dX10_most_4 (by decide) (fun hh1 => ?_) (fun hh1 => ?_)
  · replace hh1 := bI_eq0.mp hh1
    refine m_iconst C (-1) dX10_most_14 (by decide +kernel) ?_
    refine m_ireti C hQ dX10_most_15 ?_
    exact PC_of (by unfold s_most; rw [if_pos (by omega)]) hz zcl_rfl
  replace hh1 := bI_ne0.mp hh1
  refine m_iload_n C 3 dX10_most_7 rfl ?_
  refine m_callSf C (c_X10_isRow l G mu nu r) wkX10_76 (by decide) rfl rfl (Nat.le_of_ble_eq_true rfl) dX10_most_8 ?_
  refine m_if_ne C 16 dX10_most_11 (by decide) (fun hh2 => ?_) (fun hh2 => ?_)
  · replace hh2 := bI_ne0.mp hh2
    refine m_aload_n C 0 dX10_most_16 rfl ?_
    refine gfX10_134 C dX10_most_17 ?_
    refine m_topi (nI (z_N z)) hv.2.1 ?_
    refine m_if_ne C 26 dX10_most_20 (by decide) (fun hh3 => ?_) (fun hh3 => ?_)
    · replace hh3 := mt (ii_eq (nn_i (a := z_N z) rfl (by omega)) (nn_i (a := 0) rfl (by omega))).mpr hh3
      refine m_iload_n C 1 dX10_most_26 rfl ?_
      refine m_iconst C 1 dX10_most_27 (by decide +kernel) ?_
      refine m_icmp_lt C 44 dX10_most_28 (by decide) (fun hh4 => ?_) (fun hh4 => ?_)
      · replace hh4 := (ii_lt (rfl : (k).toInt = _) (nn_i (a := 1) rfl (by omega))).mp hh4
        refine m_iconst C (-1) dX10_most_44 (by decide +kernel) ?_
        refine m_ireti C hQ dX10_most_45 ?_
        exact PC_of (by unfold s_most; rw [if_neg (by omega), if_neg (by omega), if_pos (by omega)]) hz zcl_rfl
      replace hh4 := mt (ii_lt (rfl : (k).toInt = _) (nn_i (a := 1) rfl (by omega))).mpr hh4
      refine m_iload_n C 1 dX10_most_31 rfl ?_
      refine m_iconst C 5 dX10_most_32 (by decide +kernel) ?_
      refine m_icmp_gt C 44 dX10_most_33 (by decide) (fun hh5 => ?_) (fun hh5 => ?_)
      · replace hh5 := (ii_lt (nn_i (a := 5) rfl (by omega)) (rfl : (k).toInt = _)).mp hh5
        refine m_iconst C (-1) dX10_most_44 (by decide +kernel) ?_
        refine m_ireti C hQ dX10_most_45 ?_
        exact PC_of (by unfold s_most; rw [if_neg (by omega), if_neg (by omega), if_pos (by omega)]) hz zcl_rfl
      replace hh5 := mt (ii_lt (nn_i (a := 5) rfl (by omega)) (rfl : (k).toInt = _)).mpr hh5
      refine m_iload_n C 1 dX10_most_36 rfl ?_
      refine m_aload_n C 0 dX10_most_37 rfl ?_
      refine gfX10_134 C dX10_most_38 ?_
      refine m_topi (nI (z_N z)) hv.2.1 ?_
      refine m_icmp_le C 46 dX10_most_41 (by decide) (fun hh6 => ?_) (fun hh6 => ?_)
      · replace hh6 := (ii_le (rfl : (k).toInt = _) (nn_i (a := z_N z) rfl (by omega))).mp hh6
        obtain ⟨ek, kk⟩ := ix_eq (x := k) (by omega)
        obtain ⟨en, kn⟩ := ix_eq (x := n) (by omega)
        obtain ⟨er, kr⟩ := ix_eq (x := r) (by omega)
        have hok := s_nr_ok (V := z_V z) (n := ix n) (goal := 99999999) (k := ix k) (c := 100000000) hw (by omega) (by show ix k ≤ z_N z; omega) (by decide) (by decide)
        refine m_aload_n C 0 dX10_most_46 rfl ?_
        refine m_iload_n C 2 dX10_most_47 rfl ?_
        refine m_topi (nI (ix n)) en ?_
        refine m_callVv C 0 (by decide) rfl rfl (c_X10_lookAt l G mu nu (z_V z) hv (ix n) (by omega) (by omega)) wkX10_216 (by decide) rfl rfl (Nat.le_of_ble_eq_true rfl) dX10_most_48 (fun m7 n7 hp7 => ?_)
        obtain ⟨hlk, hn0⟩ := hp7
        refine m_mem (mu2 := m7) (nu2 := nu) rfl hn0 ?_
        have hzl : ZC m7 nu z := zc_look hz hlk
        refine m_ldc C 99999999 wcX10_215 dX10_most_51 ?_
        refine m_aload_n C 0 dX10_most_53 rfl ?_
        refine gfX10_64 C dX10_most_54 ?_
        refine m_ldc C 99999999 wcX10_215 dX10_most_57 ?_
        refine m_iload_n C 1 dX10_most_59 rfl ?_
        refine m_topi (nI (ix k)) ek ?_
        refine m_ldc C 100000000 wcX10_231 dX10_most_60 ?_
        refine m_callVi C 59 (by decide) rfl rfl (c_X5_nearest l G m7 nu (z_N z) (ix k) 99999999 100000000 (fun i => v_sh (z_V z) i (ix n)) hzN (show ix k ≤ z_N z by omega) (by omega) (fun i hi => v_sh_le hw hi (by omega)) (by omega) hlk.2.1 hlk.2.2) wkX10_220 (by omega) rfl rfl (Nat.le_of_ble_eq_true rfl) dX10_most_62 (fun r8 m8 n8 hp8 => ?_)
        obtain ⟨hnq, hn2⟩ := hp8
        refine m_mem (mu2 := m8) (nu2 := nu) rfl hn2 ?_
        refine m_topi (nI ((s_nr (z_V z) (ix n) 99999999 (ix k) 100000000).1)) hnq.1 ?_
        refine m_isub C dX10_most_65 ?_
        refine m_topi (nI (99999999 - ((s_nr (z_V z) (ix n) 99999999 (ix k) 100000000).1))) (nn_sub rfl rfl (by omega)) ?_
        refine m_istore C [(4, .int (nI (99999999 - ((s_nr (z_V z) (ix n) 99999999 (ix k) 100000000).1)))), (0, .ref (G.1 0)), (1, .int k), (2, .int n), (3, .int r)] dX10_most_66 (by decide) rfl ?_
        refine m_aload_n C 1 dX10_most_68 rfl ?_
        refine gfX10_11 C dX10_most_69 ?_
        refine m_iload_n C 4 dX10_most_72 rfl ?_
        refine m_topi (nI (ix r)) er ?_
        refine m_aald C 1 (by decide) 1 rfl ra_1 (ix r) (G.1 (2 + 2 * (ix r))) rfl (by omega) (by decide) rfl dX10_most_73 ?_
        refine m_aload_n C 1 dX10_most_74 rfl ?_
        refine gfX10_64 C dX10_most_75 ?_
        refine gfX10_224 C dX10_most_78 ?_
        refine m_iload_n C 2 dX10_most_81 rfl ?_
        refine m_topi (nI (ix k)) ek ?_
        refine m_callVv C (2 + 2 * (ix r)) (stc_lt (stc_row (by omega))) (sh_strip (stc_row (by omega)) _ _) rfl (c_X7_take l G m8 nu (2 + 2 * ix r) (stc_row (by omega)) (ix k) (by omega)) wkX10_227 (by decide) rfl rfl (Nat.le_of_ble_eq_true rfl) dX10_most_82 (fun m9 n9 hp9 => ?_)
        refine m_iload C 0 dX10_most_85 rfl ?_
        refine m_ireti C hQ dX10_most_87 ?_
        obtain ⟨e1, e2⟩ := hp9
        have hzn : ZC m8 nu z := zc_keep hzl (fun c hc => hnq.2.2.1 c (by omega) (by omega) (by omega)) (hnq.2.2.1 63 (by decide) (by decide) (by decide)) rfl
        have hcl : z_cl mu nu m8 nu := ⟨fun c hc => by rw [hnq.2.2.1 c (by omega) (by omega) (by omega), hlk.1 c (by omega) (by omega)], fun _ _ => rfl⟩
        obtain ⟨q1, q2⟩ := zc_row (m := m9) (x := some (s_is (s_nr (z_V z) (ix n) 99999999 (ix k) 100000000).2)) hzn (r := ix r) (by omega) (fun c c1 c2 => by rw [e1, mu_row_ne (by omega), mu_up_ne (by omega)]) (by rw [e1]; exact st_take (by omega) hok.1 (hnq.2.1 hok.1))
        rw [e2]; exact PC_of (by unfold s_most; rw [if_neg (by omega), if_neg (by omega), if_neg (by omega)]) q1 (hcl.trans q2)
      replace hh6 := mt (ii_le (rfl : (k).toInt = _) (nn_i (a := z_N z) rfl (by omega))).mpr hh6
      refine m_iconst C (-1) dX10_most_44 (by decide +kernel) ?_
      refine m_ireti C hQ dX10_most_45 ?_
      exact PC_of (by unfold s_most; rw [if_neg (by omega), if_neg (by omega), if_pos (by omega)]) hz zcl_rfl
    replace hh3 := (ii_eq (nn_i (a := z_N z) rfl (by omega)) (nn_i (a := 0) rfl (by omega))).mp hh3
    refine m_bipush C (-4) dX10_most_23 (by decide +kernel) ?_
    refine m_ireti C hQ dX10_most_25 ?_
    exact PC_of (by unfold s_most; rw [if_neg (by omega), if_pos (by omega)]) hz zcl_rfl
  replace hh2 := bI_eq0.mp hh2
  refine m_iconst C (-1) dX10_most_14 (by decide +kernel) ?_
  refine m_ireti C hQ dX10_most_15 ?_
  exact PC_of (by unfold s_most; rw [if_pos (by omega)]) hz zcl_rfl

set_option maxHeartbeats 4000000 in
set_option maxRecDepth 100000 in
theorem c_X10_near (l : Launch) (G : Gl) (mu : Mu) (nu : Nu) (z : Zt) (hz : ZC mu nu z) (v n : Int32) : Ci l G mX10_near 12 [.ref (G.1 0), .int v, .int n] mu nu (PC mu nu (s_near z v n)) := by
  have hv : zv mu (z_V z) := hz.1
  have hw := hv.1
  have hN7 := hw.1
  have hm7 := hw.2.2.1
  have ho8 := hw.2.2.2.2
  have hcz : ((v_N (z_V z) : Nat) : Int) = ((z_N z : Nat) : Int) := rfl
  have hzN : z_N z ≤ 7 := hN7
  refine Ct.of (lv := [(0, .ref (G.1 0)), (1, .int v), (2, .int n)]) rfl rfl (Nat.le_of_ble_eq_true rfl) rfl (fun X C => ?_)
  generalize hQ : g_E G X _ = Q
  replace C : Cx G 7 X cX10_near RX10 (some .int) 12 := C
  show Mq l G 7 X Q 0 [(0, .ref (G.1 0)), (1, .int v), (2, .int n)] [] mu nu
  refine m_iload_n C 1 dX10_near_0 rfl ?_
  refine m_if_lt C 18 dX10_near_1 (by decide) (fun hh1 => ?_) (fun hh1 => ?_)
  · replace hh1 := (ii_lt (rfl : (v).toInt = _) (nn_i (a := 0) rfl (by omega))).mp hh1
    refine m_iconst C (-1) dX10_near_18 (by decide +kernel) ?_
    refine m_ireti C hQ dX10_near_19 ?_
    exact PC_of (by unfold s_near; rw [if_pos (by omega)]) hz zcl_rfl
  replace hh1 := mt (ii_lt (rfl : (v).toInt = _) (nn_i (a := 0) rfl (by omega))).mpr hh1
  refine m_iload_n C 1 dX10_near_4 rfl ?_
  refine m_sipush C 9999 dX10_near_5 (by decide +kernel) ?_
  refine m_icmp_gt C 18 dX10_near_8 (by decide) (fun hh2 => ?_) (fun hh2 => ?_)
  · replace hh2 := (ii_lt (nn_i (a := 9999) rfl (by omega)) (rfl : (v).toInt = _)).mp hh2
    refine m_iconst C (-1) dX10_near_18 (by decide +kernel) ?_
    refine m_ireti C hQ dX10_near_19 ?_
    exact PC_of (by unfold s_near; rw [if_pos (by omega)]) hz zcl_rfl
  replace hh2 := mt (ii_lt (nn_i (a := 9999) rfl (by omega)) (rfl : (v).toInt = _)).mpr hh2
  refine m_iload_n C 2 dX10_near_11 rfl ?_
  refine m_callSf C (c_X10_isLine l G mu nu n) wkX10_159 (by decide) rfl rfl (Nat.le_of_ble_eq_true rfl) dX10_near_12 ?_
  refine m_if_ne C 20 dX10_near_15 (by decide) (fun hh3 => ?_) (fun hh3 => ?_)
  · replace hh3 := bI_ne0.mp hh3
    obtain ⟨ev, kv⟩ := ix_eq (x := v) (by omega)
    obtain ⟨en, kn⟩ := ix_eq (x := n) (by omega)
    have hok := s_nr_ok (V := z_V z) (n := ix n) (goal := ix v) (k := min 3 (z_N z)) (c := 99999999) hw (by omega) (by show min 3 (z_N z) ≤ z_N z; omega) (by omega) (by decide)
    refine m_aload_n C 0 dX10_near_20 rfl ?_
    refine gfX10_134 C dX10_near_21 ?_
    refine m_topi (nI (z_N z)) hv.2.1 ?_
    refine m_if_ne C 30 dX10_near_24 (by decide) (fun hh4 => ?_) (fun hh4 => ?_)
    · replace hh4 := mt (ii_eq (nn_i (a := z_N z) rfl (by omega)) (nn_i (a := 0) rfl (by omega))).mpr hh4
      refine m_aload_n C 0 dX10_near_30 rfl ?_
      refine m_iload_n C 2 dX10_near_31 rfl ?_
      refine m_topi (nI (ix n)) en ?_
      refine m_callVv C 0 (by decide) rfl rfl (c_X10_lookAt l G mu nu (z_V z) hv (ix n) (by omega) (by omega)) wkX10_216 (by decide) rfl rfl (Nat.le_of_ble_eq_true rfl) dX10_near_32 (fun m5 n5 hp5 => ?_)
      obtain ⟨hlk, hn0⟩ := hp5
      refine m_mem (mu2 := m5) (nu2 := nu) rfl hn0 ?_
      have hzl : ZC m5 nu z := zc_look hz hlk
      have hN4 : m5 0 4 = nI (z_N z) := hzl.1.2.1
      refine m_iconst C 3 dX10_near_35 (by decide +kernel) ?_
      refine m_aload_n C 0 dX10_near_36 rfl ?_
      refine gfX10_134 C dX10_near_37 ?_
      refine m_topi (nI (z_N z)) hN4 ?_
      refine m_min C wkX10_232 (by omega) (Nat.le_of_ble_eq_true rfl) dX10_near_40 ?_
      refine m_topi (nI (min 3 (z_N z))) (nn_min rfl rfl (by omega) (by omega)) ?_
      refine m_istore_n C [(3, .int (nI (min 3 (z_N z)))), (0, .ref (G.1 0)), (1, .int v), (2, .int n)] dX10_near_43 (by decide) rfl ?_
      refine m_aload_n C 1 dX10_near_44 rfl ?_
      refine gfX10_64 C dX10_near_45 ?_
      refine m_iload_n C 2 dX10_near_48 rfl ?_
      refine m_topi (nI (ix v)) ev ?_
      refine m_iload_n C 0 dX10_near_49 rfl ?_
      refine m_ldc C 99999999 wcX10_215 dX10_near_50 ?_
      refine m_callVi C 59 (by decide) rfl rfl (c_X5_nearest l G m5 nu (z_N z) (min 3 (z_N z)) (ix v) 99999999 (fun i => v_sh (z_V z) i (ix n)) hzN (show min 3 (z_N z) ≤ z_N z by omega) (by omega) (fun i hi => v_sh_le hw hi (by omega)) (by omega) hlk.2.1 hlk.2.2) wkX10_220 (by omega) rfl rfl (Nat.le_of_ble_eq_true rfl) dX10_near_52 (fun r6 m6 n6 hp6 => ?_)
      obtain ⟨hnq, hn2⟩ := hp6
      refine m_mem (mu2 := m6) (nu2 := nu) rfl hn2 ?_
      refine m_topi (nI ((s_nr (z_V z) (ix n) (ix v) (min 3 (z_N z)) 99999999).1)) hnq.1 ?_
      refine m_istore C [(4, .int (nI ((s_nr (z_V z) (ix n) (ix v) (min 3 (z_N z)) 99999999).1))), (3, .int (nI (min 3 (z_N z)))), (0, .ref (G.1 0)), (1, .int v), (2, .int n)] dX10_near_55 (by decide) rfl ?_
      refine m_iconst C 0 dX10_near_57 (by decide +kernel) ?_
      refine m_istore C [(5, .int 0), (4, .int (nI ((s_nr (z_V z) (ix n) (ix v) (min 3 (z_N z)) 99999999).1))), (3, .int (nI (min 3 (z_N z)))), (0, .ref (G.1 0)), (1, .int v), (2, .int n)] dX10_near_58 (by decide) rfl ?_
      refine m_iconst C 0 dX10_near_60 (by decide +kernel) ?_
      refine m_istore C [(6, .int 0), (5, .int 0), (4, .int (nI ((s_nr (z_V z) (ix n) (ix v) (min 3 (z_N z)) 99999999).1))), (3, .int (nI (min 3 (z_N z)))), (0, .ref (G.1 0)), (1, .int v), (2, .int n)] dX10_near_61 (by decide) rfl ?_
      have L63 : ∀ (fu : Nat) (p : Nat) (hp : p ≤ min 3 (z_N z)), min 3 (z_N z) - p < fu → Mq l G 7 X Q 63 [(0, .ref (G.1 0)), (1, .int v), (2, .int n), (3, .int (nI (min 3 (z_N z)))), (4, .int (nI ((s_nr (z_V z) (ix n) (ix v) (min 3 (z_N z)) 99999999).1))), (5, .int (nI (s_fig (s_nr (z_V z) (ix n) (ix v) (min 3 (z_N z)) 99999999).2 p))), (6, .int (nI p))] [] m6 nu := by
        intro fu
        induction fu with
        | zero => intro p hp hm; exact absurd hm (Nat.not_lt_zero _)
        | succ fu ih63 =>
          intro p hp hm
          refine m_iload C 6 dX10_near_63 rfl ?_
          refine m_iload_n C 3 dX10_near_65 rfl ?_
          refine m_icmp_ge C 93 dX10_near_66 (by decide) (fun hh7 => ?_) (fun hh7 => ?_)
          · replace hh7 := (ii_le (nn_i (a := min 3 (z_N z)) rfl (by omega)) (nn_i (a := p) rfl (by omega))).mp hh7
            refine m_aload_n C 0 dX10_near_93 rfl ?_
            refine m_iload C 5 dX10_near_94 rfl ?_
            refine pfX10_95 C dX10_near_96 ?_
            refine m_nameM (fun mu8 emu8 => ?_)
            refine m_iload C 4 dX10_near_99 rfl ?_
            refine m_ireti C hQ dX10_near_101 ?_
            have hp3 : p = min 3 (z_N z) := by omega
            rw [hp3] at emu8
            rw [emu8]
            have hzn : ZC m6 nu z := zc_keep hzl (fun c hc => hnq.2.2.1 c (by omega) (by omega) (by omega)) (hnq.2.2.1 63 (by decide) (by decide) (by decide)) rfl
            have hcl : z_cl mu nu m6 nu := ⟨fun c hc => by rw [hnq.2.2.1 c (by omega) (by omega) (by omega), hlk.1 c (by omega) (by omega)], fun _ _ => rfl⟩
            exact PC_of (by unfold s_near; rw [if_neg (by omega), if_neg (by omega)]) (zc_told hzn) (hcl.trans zcl_told)
          replace hh7 := mt (ii_le (nn_i (a := min 3 (z_N z)) rfl (by omega)) (nn_i (a := p) rfl (by omega))).mpr hh7
          refine m_bipush C 10 dX10_near_69 (by decide +kernel) ?_
          refine m_iload C 5 dX10_near_71 rfl ?_
          refine m_imul C dX10_near_73 ?_
          refine m_topi (nI (10 * (s_fig (s_nr (z_V z) (ix n) (ix v) (min 3 (z_N z)) 99999999).2 p))) (nn_mul rfl rfl) ?_
          refine m_aload_n C 0 dX10_near_74 rfl ?_
          refine gfX10_64 C dX10_near_75 ?_
          refine gfX10_224 C dX10_near_78 ?_
          refine m_iload C 6 dX10_near_81 rfl ?_
          refine m_iald C 62 (by decide) sa_62 p rfl (by omega) (by decide) dX10_near_83 ?_
          refine m_topi (nI ((s_nr (z_V z) (ix n) (ix v) (min 3 (z_N z)) 99999999).2.getD p 0)) (hnq.2.1 hok.1 p (by omega)) ?_
          refine m_iadd C dX10_near_84 ?_
          refine m_topi (nI ((10 * (s_fig (s_nr (z_V z) (ix n) (ix v) (min 3 (z_N z)) 99999999).2 p)) + ((s_nr (z_V z) (ix n) (ix v) (min 3 (z_N z)) 99999999).2.getD p 0))) (nn_add rfl rfl) ?_
          refine m_topi (nI (s_fig (s_nr (z_V z) (ix n) (ix v) (min 3 (z_N z)) 99999999).2 (p + 1))) rfl ?_
          refine m_istore C [(5, .int (nI (s_fig (s_nr (z_V z) (ix n) (ix v) (min 3 (z_N z)) 99999999).2 (p + 1)))), (0, .ref (G.1 0)), (1, .int v), (2, .int n), (3, .int (nI (min 3 (z_N z)))), (4, .int (nI ((s_nr (z_V z) (ix n) (ix v) (min 3 (z_N z)) 99999999).1))), (6, .int (nI p))] dX10_near_85 (by decide) rfl ?_
          refine m_iinc C 6 (nI (p + 1)) [(6, .int (nI (p + 1))), (5, .int (nI (s_fig (s_nr (z_V z) (ix n) (ix v) (min 3 (z_N z)) 99999999).2 (p + 1)))), (0, .ref (G.1 0)), (1, .int v), (2, .int n), (3, .int (nI (min 3 (z_N z)))), (4, .int (nI ((s_nr (z_V z) (ix n) (ix v) (min 3 (z_N z)) 99999999).1)))] dX10_near_87 rfl (nn_add rfl (show Int32.ofInt 1 = nI 1 from rfl)) (by decide) rfl ?_
          refine m_goto C 63 dX10_near_90 (by decide) ?_
          exact m_sub [2, 3, 4, 5, 6, 1, 0] rfl (ih63 (p + 1) (by omega) (by omega))
      exact m_sub [4, 5, 6, 3, 2, 1, 0] rfl (L63 (_ + 1) 0 (Nat.zero_le _) (Nat.lt_succ_self _))
    replace hh4 := (ii_eq (nn_i (a := z_N z) rfl (by omega)) (nn_i (a := 0) rfl (by omega))).mp hh4
    refine m_bipush C (-4) dX10_near_27 (by decide +kernel) ?_
    refine m_ireti C hQ dX10_near_29 ?_
    exact PC_of (by unfold s_near; rw [if_neg (by omega), if_pos (by omega)]) hz zcl_rfl
  replace hh3 := bI_eq0.mp hh3
  refine m_iconst C (-1) dX10_near_18 (by decide +kernel) ?_
  refine m_ireti C hQ dX10_near_19 ?_
  exact PC_of (by unfold s_near; rw [if_pos (by omega)]) hz zcl_rfl

set_option maxHeartbeats 4000000 in
set_option maxRecDepth 100000 in
theorem c_X10_makes (l : Launch) (G : Gl) (mu : Mu) (nu : Nu) (z : Zt) (hz : ZC mu nu z) (v n r : Int32) : Ci l G mX10_makes 12 [.ref (G.1 0), .int v, .int n, .int r] mu nu (PC mu nu (s_makes z v n r)) := by
  have hv : zv mu (z_V z) := hz.1
  have hw := hv.1
  have hN7 := hw.1
  have hm7 := hw.2.2.1
  have ho8 := hw.2.2.2.2
  have hcz : ((v_N (z_V z) : Nat) : Int) = ((z_N z : Nat) : Int) := rfl
  have hzN : z_N z ≤ 7 := hN7
  refine Ct.of (lv := [(0, .ref (G.1 0)), (1, .int v), (2, .int n), (3, .int r)]) rfl rfl (Nat.le_of_ble_eq_true rfl) rfl (fun X C => ?_)
  generalize hQ : g_E G X _ = Q
  replace C : Cx G 5 X cX10_makes RX10 (some .int) 12 := C
  show Mq l G 5 X Q 0 [(0, .ref (G.1 0)), (1, .int v), (2, .int n), (3, .int r)] [] mu nu
  refine m_iload_n C 1 dX10_makes_0 rfl ?_
  refine m_if_lt C 24 dX10_makes_1 (by decide) (fun hh1 => ?_) (fun hh1 => ?_)
  · replace hh1 := (ii_lt (rfl : (v).toInt = _) (nn_i (a := 0) rfl (by omega))).mp hh1
    refine m_iconst C (-1) dX10_makes_24 (by decide +kernel) ?_
    refine m_ireti C hQ dX10_makes_25 ?_
    exact PC_of (by unfold s_makes; rw [if_pos (by omega)]) hz zcl_rfl
  replace hh1 := mt (ii_lt (rfl : (v).toInt = _) (nn_i (a := 0) rfl (by omega))).mpr hh1
  refine m_iload_n C 1 dX10_makes_4 rfl ?_
  refine m_ldc C 99999999 wcX10_215 dX10_makes_5 ?_
  refine m_icmp_gt C 24 dX10_makes_7 (by decide) (fun hh2 => ?_) (fun hh2 => ?_)
  · replace hh2 := (ii_lt (nn_i (a := 99999999) rfl (by omega)) (rfl : (v).toInt = _)).mp hh2
    refine m_iconst C (-1) dX10_makes_24 (by decide +kernel) ?_
    refine m_ireti C hQ dX10_makes_25 ?_
    exact PC_of (by unfold s_makes; rw [if_pos (by omega)]) hz zcl_rfl
  replace hh2 := mt (ii_lt (nn_i (a := 99999999) rfl (by omega)) (rfl : (v).toInt = _)).mpr hh2
  refine m_iload_n C 2 dX10_makes_10 rfl ?_
  refine m_callSf C (c_X10_isLine l G mu nu n) wkX10_159 (by decide) rfl rfl (Nat.le_of_ble_eq_true rfl) dX10_makes_11 ?_
  refine m_if_eq C 24 dX10_makes_14 (by decide) (fun hh3 => ?_) (fun hh3 => ?_)
  · replace hh3 := bI_eq0.mp hh3
    refine m_iconst C (-1) dX10_makes_24 (by decide +kernel) ?_
    refine m_ireti C hQ dX10_makes_25 ?_
    exact PC_of (by unfold s_makes; rw [if_pos (by omega)]) hz zcl_rfl
  replace hh3 := bI_ne0.mp hh3
  refine m_iload_n C 3 dX10_makes_17 rfl ?_
  refine m_callSf C (c_X10_isRow l G mu nu r) wkX10_76 (by decide) rfl rfl (Nat.le_of_ble_eq_true rfl) dX10_makes_18 ?_
  refine m_if_ne C 26 dX10_makes_21 (by decide) (fun hh4 => ?_) (fun hh4 => ?_)
  · replace hh4 := bI_ne0.mp hh4
    obtain ⟨ev, kv⟩ := ix_eq (x := v) (by omega)
    obtain ⟨en, kn⟩ := ix_eq (x := n) (by omega)
    obtain ⟨er, kr⟩ := ix_eq (x := r) (by omega)
    refine m_aload_n C 0 dX10_makes_26 rfl ?_
    refine gfX10_134 C dX10_makes_27 ?_
    refine m_topi (nI (z_N z)) hv.2.1 ?_
    refine m_if_ne C 36 dX10_makes_30 (by decide) (fun hh5 => ?_) (fun hh5 => ?_)
    · replace hh5 := mt (ii_eq (nn_i (a := z_N z) rfl (by omega)) (nn_i (a := 0) rfl (by omega))).mpr hh5
      refine m_aload_n C 0 dX10_makes_36 rfl ?_
      refine m_iload_n C 2 dX10_makes_37 rfl ?_
      refine m_topi (nI (ix n)) en ?_
      refine m_callVv C 0 (by decide) rfl rfl (c_X10_lookAt l G mu nu (z_V z) hv (ix n) (by omega) (by omega)) wkX10_216 (by decide) rfl rfl (Nat.le_of_ble_eq_true rfl) dX10_makes_38 (fun m6 n6 hp6 => ?_)
      obtain ⟨hlk, hn0⟩ := hp6
      refine m_mem (mu2 := m6) (nu2 := nu) rfl hn0 ?_
      have hzl : ZC m6 nu z := zc_look hz hlk
      refine m_iconst C 0 dX10_makes_41 (by decide +kernel) ?_
      refine m_istore C [(4, .int 0), (0, .ref (G.1 0)), (1, .int v), (2, .int n), (3, .int r)] dX10_makes_42 (by decide) rfl ?_
      have L44 : ∀ (fu : Nat) (k : Nat) (m : Mu) (hk : k ≤ z_N z + 1) (hzm : ZC m nu z) (hcm : ∀ c, 64 ≤ c → m c = mu c) (h591 : m 59 1 = nI (z_N z)) (h60m : ∀ i, i < z_N z → m 60 i = nI (v_sh (z_V z) i (ix n))) (hno : ∀ j, j < k → ¬ (s_nr (z_V z) (ix n) (ix v) j 1).1 = 0), z_N z + 1 - k < fu → Mq l G 5 X Q 44 [(0, .ref (G.1 0)), (1, .int v), (2, .int n), (3, .int r), (4, .int (nI k))] [] m nu := by
        intro fu
        induction fu with
        | zero => intro k m hk hzm hcm h591 h60m hno hm; exact absurd hm (Nat.not_lt_zero _)
        | succ fu ih44 =>
          intro k m hk hzm hcm h591 h60m hno hm
          refine m_iload C 4 dX10_makes_44 rfl ?_
          refine m_aload_n C 0 dX10_makes_46 rfl ?_
          refine gfX10_134 C dX10_makes_47 ?_
          refine m_topi (nI (z_N z)) hzm.1.2.1 ?_
          refine m_icmp_gt C 94 dX10_makes_50 (by decide) (fun hh7 => ?_) (fun hh7 => ?_)
          · replace hh7 := (ii_lt (nn_i (a := z_N z) rfl (by omega)) (nn_i (a := k) rfl (by omega))).mp hh7
            refine m_bipush C (-9) dX10_makes_94 (by decide +kernel) ?_
            refine m_ireti C hQ dX10_makes_96 ?_
            have hmf : s_mf (z_V z) (ix n) (ix v) = none := by
              unfold s_mf
              rw [List.find?_range_eq_none]
              intro j hj
              have := hno j (by have : v_N (z_V z) = z_N z := rfl; omega)
              simpa using this
            exact PC_of (by unfold s_makes; rw [if_neg (by omega), if_neg (by omega)]; simp only [hmf]) hzm ⟨hcm, fun _ _ => rfl⟩
          replace hh7 := mt (ii_lt (nn_i (a := z_N z) rfl (by omega)) (nn_i (a := k) rfl (by omega))).mpr hh7
          refine m_aload_n C 0 dX10_makes_53 rfl ?_
          refine gfX10_64 C dX10_makes_54 ?_
          refine m_iload_n C 1 dX10_makes_57 rfl ?_
          refine m_topi (nI (ix v)) ev ?_
          refine m_iload C 4 dX10_makes_58 rfl ?_
          refine m_iconst C 1 dX10_makes_60 (by decide +kernel) ?_
          refine m_callVi C 59 (by decide) rfl rfl (c_X5_nearest l G m nu (z_N z) k (ix v) 1 (fun i => v_sh (z_V z) i (ix n)) hzN (show k ≤ z_N z by omega) (by omega) (fun i hi => v_sh_le hw hi (by omega)) (by omega) h591 h60m) wkX10_220 (by omega) rfl rfl (Nat.le_of_ble_eq_true rfl) dX10_makes_61 (fun r8 m8 n8 hp8 => ?_)
          obtain ⟨hnq, hn2⟩ := hp8
          refine m_mem (mu2 := m8) (nu2 := nu) rfl hn2 ?_
          refine m_topi (nI ((s_nr (z_V z) (ix n) (ix v) k 1).1)) hnq.1 ?_
          have hse1 := s_ext_le (N := v_N (z_V z)) (f := s_fd (ix v) (fun i => v_sh (z_V z) i (ix n))) k [] (1, [])
          have hse1 : (s_nr (z_V z) (ix n) (ix v) k 1).1 ≤ 1 := hse1
          refine m_if_ne C 88 dX10_makes_64 (by decide) (fun hh9 => ?_) (fun hh9 => ?_)
          · replace hh9 := mt (ii_eq (nn_i (a := (s_nr (z_V z) (ix n) (ix v) k 1).1) rfl (by omega)) (nn_i (a := 0) rfl (by omega))).mpr hh9
            refine m_iinc C 4 (nI (k + 1)) [(4, .int (nI (k + 1))), (0, .ref (G.1 0)), (1, .int v), (2, .int n), (3, .int r)] dX10_makes_88 rfl (nn_add rfl (show Int32.ofInt 1 = nI 1 from rfl)) (by decide) rfl ?_
            refine m_goto C 44 dX10_makes_91 (by decide) ?_
            exact m_sub [1, 2, 3, 4, 0] rfl (ih44 (k + 1) m8 (by omega) (zc_keep hzm (fun c hc => hnq.2.2.1 c (by omega) (by omega) (by omega)) (hnq.2.2.1 63 (by decide) (by decide) (by decide)) rfl) (fun c hc => by rw [hnq.2.2.1 c (by omega) (by omega) (by omega), hcm c hc]) (by rw [hnq.2.2.2, h591]) (fun i hi => by rw [hnq.2.2.1 60 (by decide) (by decide) (by decide), h60m i hi]) (fun j hj => by
                      by_cases e : j = k
                      · rw [e]; omega
                      · exact hno j (by omega)) (by omega))
          replace hh9 := (ii_eq (nn_i (a := (s_nr (z_V z) (ix n) (ix v) k 1).1) rfl (by omega)) (nn_i (a := 0) rfl (by omega))).mp hh9
          have h0 : (s_nr (z_V z) (ix n) (ix v) k 1).1 = 0 := by omega
          have hle2 : (s_nr (z_V z) (ix n) (ix v) k 1).2.length = k := by
            rcases s_ext_len (N := v_N (z_V z)) (f := s_fd (ix v) (fun i => v_sh (z_V z) i (ix n))) k [] (1, []) with h | ⟨h, -⟩
            · exact absurd (show (s_nr (z_V z) (ix n) (ix v) k 1).1 = 1 from congrArg Prod.fst h) (by omega)
            · simpa [s_nr] using h
          refine m_aload_n C 0 dX10_makes_67 rfl ?_
          refine gfX10_11 C dX10_makes_68 ?_
          refine m_iload_n C 3 dX10_makes_71 rfl ?_
          refine m_topi (nI (ix r)) er ?_
          refine m_aald C 1 (by decide) 1 rfl ra_1 (ix r) (G.1 (2 + 2 * (ix r))) rfl (by omega) (by decide) rfl dX10_makes_72 ?_
          refine m_aload_n C 0 dX10_makes_73 rfl ?_
          refine gfX10_64 C dX10_makes_74 ?_
          refine gfX10_224 C dX10_makes_77 ?_
          refine m_iload C 4 dX10_makes_80 rfl ?_
          refine m_callVv C (2 + 2 * (ix r)) (stc_lt (stc_row (by omega))) (sh_strip (stc_row (by omega)) _ _) rfl (c_X7_take l G m8 nu (2 + 2 * ix r) (stc_row (by omega)) k (by omega)) wkX10_227 (by decide) rfl rfl (Nat.le_of_ble_eq_true rfl) dX10_makes_82 (fun m10 n10 hp10 => ?_)
          refine m_iload C 4 dX10_makes_85 rfl ?_
          refine m_ireti C hQ dX10_makes_87 ?_
          obtain ⟨e1, e2⟩ := hp10
          have hzn : ZC m8 nu z := zc_keep hzm (fun c hc => hnq.2.2.1 c (by omega) (by omega) (by omega)) (hnq.2.2.1 63 (by decide) (by decide) (by decide)) rfl
          have hcl : z_cl mu nu m8 nu := ⟨fun c hc => by rw [hnq.2.2.1 c (by omega) (by omega) (by omega), hcm c hc], fun _ _ => rfl⟩
          have hmf : s_mf (z_V z) (ix n) (ix v) = some k := by
            unfold s_mf
            rw [List.find?_range_eq_some]
            refine ⟨by simpa using h0, List.mem_range.mpr (by have : v_N (z_V z) = z_N z := rfl; omega), fun j hj => by simpa using hno j hj⟩
          obtain ⟨q1, q2⟩ := zc_row (m := m10) (x := some (s_is (s_nr (z_V z) (ix n) (ix v) k 1).2)) hzn (r := ix r) (by omega) (fun c c1 c2 => by rw [e1, mu_row_ne (by omega), mu_up_ne (by omega)]) (by rw [e1]; exact st_take (by omega) hle2 (hnq.2.1 hle2))
          rw [e2]; exact PC_of (by unfold s_makes; rw [if_neg (by omega), if_neg (by omega)]; simp only [hmf]) q1 (hcl.trans q2)
      exact m_sub [1, 2, 3, 4, 0] rfl (L44 (_ + 1) 0 m6 (Nat.zero_le _) hzl (fun c hc => hlk.1 c (by omega) (by omega)) hlk.2.1 hlk.2.2 (fun j h => absurd h (Nat.not_lt_zero _)) (Nat.lt_succ_self _))
    replace hh5 := (ii_eq (nn_i (a := z_N z) rfl (by omega)) (nn_i (a := 0) rfl (by omega))).mp hh5
    refine m_bipush C (-4) dX10_makes_33 (by decide +kernel) ?_
    refine m_ireti C hQ dX10_makes_35 ?_
    exact PC_of (by unfold s_makes; rw [if_neg (by omega), if_pos (by omega)]) hz zcl_rfl
  replace hh4 := bI_eq0.mp hh4
  refine m_iconst C (-1) dX10_makes_24 (by decide +kernel) ?_
  refine m_ireti C hQ dX10_makes_25 ?_
  exact PC_of (by unfold s_makes; rw [if_pos (by omega)]) hz zcl_rfl

set_option maxHeartbeats 4000000 in
set_option maxRecDepth 100000 in
theorem c_X10_duel (l : Launch) (G : Gl) (mu : Mu) (nu : Nu) (z : Zt) (hz : ZC mu nu z) (n k : Int32) : Ci l G mX10_duel 12 [.ref (G.1 0), .int n, .int k] mu nu (PC mu nu (s_duel z n k)) := by
  have hv : zv mu (z_V z) := hz.1
  have hw := hv.1
  have hN7 := hw.1
  have hm7 := hw.2.2.1
  have ho8 := hw.2.2.2.2
  have hcz : ((v_N (z_V z) : Nat) : Int) = ((z_N z : Nat) : Int) := rfl
  have hzN : z_N z ≤ 7 := hN7
  refine Ct.of (lv := [(0, .ref (G.1 0)), (1, .int n), (2, .int k)]) rfl rfl (Nat.le_of_ble_eq_true rfl) rfl (fun X C => ?_)
  generalize hQ : g_E G X _ = Q
  replace C : Cx G 3 X cX10_duel RX10 (some .int) 12 := C
  show Mq l G 3 X Q 0 [(0, .ref (G.1 0)), (1, .int n), (2, .int k)] [] mu nu
  refine m_iload_n C 1 dX10_duel_0 rfl ?_
  refine m_if_lt C 16 dX10_duel_1 (by decide) (fun hh1 => ?_) (fun hh1 => ?_)
  · replace hh1 := (ii_lt (rfl : (n).toInt = _) (nn_i (a := 0) rfl (by omega))).mp hh1
    refine m_iconst C (-1) dX10_duel_16 (by decide +kernel) ?_
    refine m_ireti C hQ dX10_duel_17 ?_
    exact PC_of (by unfold s_duel; rw [if_pos (by omega)]) hz zcl_rfl
  replace hh1 := mt (ii_lt (rfl : (n).toInt = _) (nn_i (a := 0) rfl (by omega))).mpr hh1
  refine m_iload_n C 1 dX10_duel_4 rfl ?_
  refine m_iconst C 5 dX10_duel_5 (by decide +kernel) ?_
  refine m_icmp_gt C 16 dX10_duel_6 (by decide) (fun hh2 => ?_) (fun hh2 => ?_)
  · replace hh2 := (ii_lt (nn_i (a := 5) rfl (by omega)) (rfl : (n).toInt = _)).mp hh2
    refine m_iconst C (-1) dX10_duel_16 (by decide +kernel) ?_
    refine m_ireti C hQ dX10_duel_17 ?_
    exact PC_of (by unfold s_duel; rw [if_pos (by omega)]) hz zcl_rfl
  replace hh2 := mt (ii_lt (nn_i (a := 5) rfl (by omega)) (rfl : (n).toInt = _)).mpr hh2
  refine m_iload_n C 2 dX10_duel_9 rfl ?_
  refine m_callSf C (c_X10_isLine l G mu nu k) wkX10_159 (by decide) rfl rfl (Nat.le_of_ble_eq_true rfl) dX10_duel_10 ?_
  refine m_if_ne C 18 dX10_duel_13 (by decide) (fun hh3 => ?_) (fun hh3 => ?_)
  · replace hh3 := bI_ne0.mp hh3
    obtain ⟨en, kn⟩ := ix_eq (x := n) (by omega)
    obtain ⟨ek, kk⟩ := ix_eq (x := k) (by omega)
    refine m_aload_n C 0 dX10_duel_18 rfl ?_
    refine gfX10_134 C dX10_duel_19 ?_
    refine m_topi (nI (z_N z)) hv.2.1 ?_
    refine m_if_ne C 28 dX10_duel_22 (by decide) (fun hh4 => ?_) (fun hh4 => ?_)
    · replace hh4 := mt (ii_eq (nn_i (a := z_N z) rfl (by omega)) (nn_i (a := 0) rfl (by omega))).mpr hh4
      refine m_aload_n C 0 dX10_duel_28 rfl ?_
      refine m_iload_n C 2 dX10_duel_29 rfl ?_
      refine m_topi (nI (ix k)) ek ?_
      refine m_callVv C 0 (by decide) rfl rfl (c_X10_lookAt l G mu nu (z_V z) hv (ix k) (by omega) (by omega)) wkX10_216 (by decide) rfl rfl (Nat.le_of_ble_eq_true rfl) dX10_duel_30 (fun m5 n5 hp5 => ?_)
      obtain ⟨hlk, hn0⟩ := hp5
      refine m_mem (mu2 := m5) (nu2 := nu) rfl hn0 ?_
      have hzl : ZC m5 nu z := zc_look hz hlk
      have hvl := hzl.1
      refine m_aload_n C 0 dX10_duel_33 rfl ?_
      refine gfX10_64 C dX10_duel_34 ?_
      refine m_iload_n C 1 dX10_duel_37 rfl ?_
      refine m_topi (nI (ix n)) en ?_
      refine m_aload_n C 0 dX10_duel_38 rfl ?_
      refine gfX10_53 C dX10_duel_39 ?_
      refine m_callVf C 38 (by decide) rfl rfl (c_X0_bits l G m5 nu 38 bnc_38 (v_F (z_V z)) (v_ov (z_V z)) hvl.2.2.2) wkX10_256 (by decide) rfl rfl (Nat.le_of_ble_eq_true rfl) dX10_duel_42 ?_
      refine m_aload_n C 0 dX10_duel_45 rfl ?_
      refine m_iload_n C 2 dX10_duel_46 rfl ?_
      refine m_topi (nI (ix k)) ek ?_
      refine m_callVf C 0 (by decide) rfl rfl (c_X10_readOff l G m5 nu (z_V z) hvl (ix k) (by omega) (by omega)) wkX10_207 (by decide) rfl rfl (Nat.le_of_ble_eq_true rfl) dX10_duel_47 ?_
      refine m_iconst C 1 dX10_duel_50 (by decide +kernel) ?_
      refine m_callNf C 59 (by decide) rfl rfl ((c_X5_playedOut l G m5 nu (z_N z) (fun i => v_sh (z_V z) i (ix k)) hzN (fun i hi => v_sh_le hw hi (by omega)) hlk.2.1 hlk.2.2 (ix n) (by omega)).1 (z_B z).1 (v_rd (z_V z) (ix k) (v_m (z_V z))) (zb_wf hz.2.1).2.1 (zb_wf hz.2.1).1 (v_rd_le hw (by omega) (v_m (z_V z)) (Nat.le_refl _))) wkX10_259 (by omega) rfl rfl (Nat.le_of_ble_eq_true rfl) dX10_duel_51 ?_
      refine m_ireti C hQ dX10_duel_54 ?_
      exact PC_of (by unfold s_duel; rw [if_neg (by omega), if_neg (by omega)]) hzl ⟨fun c hc => hlk.1 c (by omega) (by omega), fun _ _ => rfl⟩
    replace hh4 := (ii_eq (nn_i (a := z_N z) rfl (by omega)) (nn_i (a := 0) rfl (by omega))).mp hh4
    refine m_bipush C (-4) dX10_duel_25 (by decide +kernel) ?_
    refine m_ireti C hQ dX10_duel_27 ?_
    exact PC_of (by unfold s_duel; rw [if_neg (by omega), if_pos (by omega)]) hz zcl_rfl
  replace hh3 := bI_eq0.mp hh3
  refine m_iconst C (-1) dX10_duel_16 (by decide +kernel) ?_
  refine m_ireti C hQ dX10_duel_17 ?_
  exact PC_of (by unfold s_duel; rw [if_pos (by omega)]) hz zcl_rfl
