theorem v_rl_le {V : Vw} (h : v_wf V) {n : Nat} (hn : n ≤ 9) (set : Nat) : ∀ p, p ≤ v_m V → v_rl V n set p + 9 ≤ 9 * 10 ^ p
  | 0, _ => Nat.le_refl _
  | p + 1, hp => by
    have h1 := v_rl_le h hn set p (by omega)
    have h2 := v_sh_le h (h.2.2.2.1 p (by omega)) hn
    show 10 * v_rl V n set p + (if set / 2 ^ p % 2 = 1 then v_sh V (v_fr V p) n else 0) + 9 ≤ 9 * 10 ^ (p + 1)
    rw [Nat.pow_succ]
    split <;> omega
theorem v_rlb {V : Vw} (h : v_wf V) {n : Nat} (hn : n ≤ 9) (set : Nat) : v_rl V n set (v_m V) ≤ 90000000 := by
  have h1 := v_rl_le h hn set (v_m V) (Nat.le_refl _)
  have h2 := p10_7 h.2.2.1
  omega
theorem s_wt_le {set p : Nat} (hp : p ≤ 12) : ∀ k, s_wt set p k ≤ 12 ^ k
  | 0 => Nat.le_refl _
  | k + 1 => by
    have h := s_wt_le (set := set) hp k
    unfold s_wt
    rw [Nat.pow_succ]
    exact Nat.mul_le_mul h (by split <;> omega)
theorem p12_7 {k : Nat} (h : k ≤ 7) : (12 : Nat) ^ k ≤ 35831808 := Nat.pow_le_pow_right (by decide) h
/-- of all the ways that rods fall out, the weight of those by which enough is read off -/
def v_en (V : Vw) (n p : Nat) : Nat → Nat
  | 0 => 0
  | s + 1 => v_en V n p s + (if v_rt V (v_m V) * n ≤ 2 * v_rl V n s (v_m V) then s_wt s p (v_m V) else 0)
theorem v_en_le {V : Vw} {n p : Nat} (hm : v_m V ≤ 7) (hp : p ≤ 12) : ∀ s, v_en V n p s ≤ 35831808 * s
  | 0 => Nat.le_refl _
  | s + 1 => by
    have h1 := v_en_le (V := V) (n := n) hm hp s
    have h2 := s_wt_le (set := s) hp (v_m V)
    have h3 := p12_7 hm
    unfold v_en
    split <;> omega
theorem p2_7 {k : Nat} (h : k ≤ 7) : (2 : Nat) ^ k ≤ 128 := Nat.pow_le_pow_right (by decide) h
def s_fr (z : Zt) (a b : Nat) : Zt := u_frac z (lN (a / Nat.gcd a b)) (lN (b / Nat.gcd a b))
def s_odds (z : Zt) (n p : Int32) : Int32 × Zt := if ¬ (1 ≤ n.toInt ∧ n.toInt < 10) ∨ ¬ (0 ≤ p.toInt ∧ p.toInt < 13) then (-1, z) else if z_N z = 0 then (-4, z) else (1, s_fr z (v_en (z_V z) (ix n) (ix p) (2 ^ v_m (z_V z))) (12 ^ v_m (z_V z)))
def s_mid (z : Zt) (n p : Int32) : Int32 × Zt := if ¬ (1 ≤ n.toInt ∧ n.toInt < 10) ∨ ¬ (0 ≤ p.toInt ∧ p.toInt < 13) then (-1, z) else if z_N z = 0 then (-4, z) else (1, s_fr z (v_rd (z_V z) (ix n) (v_m (z_V z)) * (12 - ix p)) 12)
theorem zc_frac {mu : Mu} {nu : Nu} {z : Zt} {x y : Int64} (h : ZC mu nu z) : ZC mu (nu_up (nu_up nu 0 9 x) 0 10 y) (u_frac z x y) ∧ z_cl mu nu mu (nu_up (nu_up nu 0 9 x) 0 10 y) := by
  obtain ⟨h1, h2, h3, h4, h5, ⟨a1, a2, a3, a4, a5⟩, h7⟩ := h
  exact ⟨⟨h1, h2, h3, h4, h5, ⟨a1, by rw [nu_up_a (by decide), nu_up_at]; rfl, nu_up_at, a4, a5⟩, h7⟩, fun _ _ => rfl, fun c hc => by rw [nu_up_ne (by omega), nu_up_ne (by omega)]⟩
def b_lot (N : Nat) (B : Zb) (x : Nat) : Zb := if x % 4 = 3 then b_do B 4 (x / 8 % N) 0 else if x % 4 = 2 ∧ 0 < B.1.length then b_do B 2 (B.1.getD (B.1.length - 1) 0) 0 else if x % 4 < 2 ∧ ¬ x / 8 % N ∈ B.1 then b_do B 1 (x / 8 % N) 0 else b_do B 0 0 0
theorem b_lot_len {N : Nat} {B : Zb} {x : Nat} : (b_lot N B x).2.2.length = B.2.2.length + 1 := by
  unfold b_lot
  split
  · simp [b_do]
  · split
    · simp [b_do]
    · split <;> simp [b_do]
def s_lx (seed : Nat) : Nat → Nat
  | 0 => seed
  | k + 1 => s_lx seed k * 48271 % 2147483647
def b_lots (N : Nat) (B : Zb) (seed : Nat) : Nat → Zb
  | 0 => B
  | k + 1 => b_lot N (b_lots N B seed k) (s_lx seed (k + 1))
theorem b_lots_len {N : Nat} {B : Zb} {seed : Nat} : ∀ k, (b_lots N B seed k).2.2.length = B.2.2.length + k
  | 0 => rfl
  | k + 1 => by
    unfold b_lots
    rw [b_lot_len, b_lots_len k]; omega
theorem s_lx_lt {seed : Nat} (h : seed < 2147483647) : ∀ k, s_lx seed k < 2147483647
  | 0 => h
  | k + 1 => Nat.mod_lt _ (by decide)
def s_lots (z : Zt) (n seed : Int32) : Int32 × Zt := if ¬ (1 ≤ n.toInt ∧ n.toInt ≤ 20) ∨ ¬ (1 ≤ seed.toInt ∧ seed.toInt ≤ 2147483646) then (-1, z) else if z_N z = 0 then (-4, z) else if 40 < (z_B z).2.2.length + ix n then (-2, z) else (nI (v_rd (z_V (u_bn z (b_lots (z_N z) (z_B z) (ix seed) (ix n)))) 1 (v_m (z_V (u_bn z (b_lots (z_N z) (z_B z) (ix seed) (ix n)))))), u_bn z (b_lots (z_N z) (z_B z) (ix seed) (ix n)))
set_option maxHeartbeats 4000000 in
set_option maxRecDepth 100000 in
theorem c_X10_odds (l : Launch) (G : Gl) (mu : Mu) (nu : Nu) (z : Zt) (hz : ZC mu nu z) (n p : Int32) : Ci l G mX10_odds 8 [.ref (G.1 0), .int n, .int p] mu nu (PC mu nu (s_odds z n p)) := by
  have hv : zv mu (z_V z) := hz.1
  have hw := hv.1
  have hN7 := hw.1
  have hm7 := hw.2.2.1
  have ho8 := hw.2.2.2.2
  have hcz : ((v_N (z_V z) : Nat) : Int) = ((z_N z : Nat) : Int) := rfl
  have hzN : z_N z ≤ 7 := hN7
  have hp2 := p2_7 hm7
  have hp12 := p12_7 hm7
  refine Ct.of (lv := [(0, .ref (G.1 0)), (1, .int n), (2, .int p)]) rfl rfl (Nat.le_of_ble_eq_true rfl) rfl (fun X C => ?_)
  generalize hQ : g_E G X _ = Q
  replace C : Cx G 9 X cX10_odds RX10 (some .int) 8 := C
  show Mq l G 9 X Q 0 [(0, .ref (G.1 0)), (1, .int n), (2, .int p)] [] mu nu
  refine m_iload_n C 1 dX10_odds_0 rfl ?_
  refine m_callSf C (c_X10_isLine l G mu nu n) wkX10_159 (by decide) rfl rfl (Nat.le_of_ble_eq_true rfl) dX10_odds_1 ?_
  refine m_if_eq C 14 dX10_odds_4 (by decide) (fun hh1 => ?_) (fun hh1 => ?_)
  · replace hh1 := bI_eq0.mp hh1
    refine m_iconst C (-1) dX10_odds_14 (by decide +kernel) ?_
    refine m_ireti C hQ dX10_odds_15 ?_
    exact PC_of (by unfold s_odds; rw [if_pos (by omega)]) hz zcl_rfl
  replace hh1 := bI_ne0.mp hh1
  refine m_iload_n C 2 dX10_odds_7 rfl ?_
  refine m_callSf C (c_X10_isTwelfths l G mu nu p) wkX10_263 (by decide) rfl rfl (Nat.le_of_ble_eq_true rfl) dX10_odds_8 ?_
  refine m_if_ne C 16 dX10_odds_11 (by decide) (fun hh2 => ?_) (fun hh2 => ?_)
  · replace hh2 := bI_ne0.mp hh2
    obtain ⟨en, kn⟩ := ix_eq (x := n) (by omega)
    obtain ⟨ep, kp⟩ := ix_eq (x := p) (by omega)
    have hrt := v_rtb hw (n := ix n) (by omega)
    have hen := v_en_le (V := z_V z) (n := ix n) (p := ix p) hm7 (by omega) (2 ^ v_m (z_V z))
    refine m_aload_n C 0 dX10_odds_16 rfl ?_
    refine gfX10_134 C dX10_odds_17 ?_
    refine m_topi (nI (z_N z)) hv.2.1 ?_
    refine m_if_ne C 26 dX10_odds_20 (by decide) (fun hh3 => ?_) (fun hh3 => ?_)
    · replace hh3 := mt (ii_eq (nn_i (a := z_N z) rfl (by omega)) (nn_i (a := 0) rfl (by omega))).mpr hh3
      refine m_aload_n C 0 dX10_odds_26 rfl ?_
      refine m_iload_n C 1 dX10_odds_27 rfl ?_
      refine m_topi (nI (ix n)) en ?_
      refine m_callVf C 0 (by decide) rfl rfl (c_X10_rightBy l G mu nu (z_V z) hv (ix n)) wkX10_204 (by decide) rfl rfl (Nat.le_of_ble_eq_true rfl) dX10_odds_28 ?_
      refine m_istore_n C [(3, .int (nI (v_rt (z_V z) (v_m (z_V z)) * (ix n)))), (0, .ref (G.1 0)), (1, .int n), (2, .int p)] dX10_odds_31 (by decide) rfl ?_
      refine m_lconst C 0 dX10_odds_32 rfl ?_
      refine m_lstore C [(4, .long 0), (3, .int (nI (v_rt (z_V z) (v_m (z_V z)) * (ix n)))), (0, .ref (G.1 0)), (1, .int n), (2, .int p)] dX10_odds_33 (by decide) rfl ?_
      refine m_iconst C 0 dX10_odds_35 (by decide +kernel) ?_
      refine m_istore C [(6, .int 0), (4, .long 0), (3, .int (nI (v_rt (z_V z) (v_m (z_V z)) * (ix n)))), (0, .ref (G.1 0)), (1, .int n), (2, .int p)] dX10_odds_36 (by decide) rfl ?_
      have L38 : ∀ (fu : Nat) (s : Nat) (hs : s ≤ 2 ^ v_m (z_V z)), 2 ^ v_m (z_V z) - s < fu → Mq l G 9 X Q 38 [(0, .ref (G.1 0)), (1, .int n), (2, .int p), (3, .int (nI (v_rt (z_V z) (v_m (z_V z)) * (ix n)))), (4, .long (lN (v_en (z_V z) (ix n) (ix p) s))), (6, .int (nI s))] [] mu nu := by
        intro fu
        induction fu with
        | zero => intro s hs hm; exact absurd hm (Nat.not_lt_zero _)
        | succ fu ih38 =>
          intro s hs hm
          refine m_iload C 5 dX10_odds_38 rfl ?_
          refine m_iconst C 1 dX10_odds_40 (by decide +kernel) ?_
          refine m_aload_n C 0 dX10_odds_41 rfl ?_
          refine gfX10_53 C dX10_odds_42 ?_
          refine gfX10_175 C 38 bnc_38 dX10_odds_45 ?_
          refine m_topi (nI (v_m (z_V z))) (zv_m hv) ?_
          refine m_ishl C dX10_odds_48 ?_
          refine m_topi (nI (2 ^ (v_m (z_V z)))) (nn_shl1 rfl (by omega)) ?_
          refine m_icmp_ge C 83 dX10_odds_49 (by decide) (fun hh4 => ?_) (fun hh4 => ?_)
          · replace hh4 := (ii_le (nn_i (a := 2 ^ (v_m (z_V z))) rfl (by omega)) (nn_i (a := s) rfl (by omega))).mp hh4
            have es : s = 2 ^ v_m (z_V z) := by omega
            rw [es]
            refine m_lconst C 1 dX10_odds_83 rfl ?_
            refine m_lstore C [(6, .long 1), (0, .ref (G.1 0)), (1, .int n), (2, .int p), (3, .int (nI (v_rt (z_V z) (v_m (z_V z)) * (ix n)))), (4, .long (lN (v_en (z_V z) (ix n) (ix p) (2 ^ v_m (z_V z)))))] dX10_odds_84 (by decide) rfl ?_
            refine m_iconst C 0 dX10_odds_86 (by decide +kernel) ?_
            refine m_istore C [(8, .int 0), (6, .long 1), (0, .ref (G.1 0)), (1, .int n), (2, .int p), (3, .int (nI (v_rt (z_V z) (v_m (z_V z)) * (ix n)))), (4, .long (lN (v_en (z_V z) (ix n) (ix p) (2 ^ v_m (z_V z)))))] dX10_odds_87 (by decide) rfl ?_
            have L89 : ∀ (fu : Nat) (q : Nat) (hq : q ≤ v_m (z_V z)), v_m (z_V z) - q < fu → Mq l G 9 X Q 89 [(0, .ref (G.1 0)), (1, .int n), (2, .int p), (3, .int (nI (v_rt (z_V z) (v_m (z_V z)) * (ix n)))), (4, .long (lN (v_en (z_V z) (ix n) (ix p) (2 ^ v_m (z_V z))))), (6, .long (lN (12 ^ q))), (8, .int (nI q))] [] mu nu := by
              intro fu
              induction fu with
              | zero => intro q hq hm; exact absurd hm (Nat.not_lt_zero _)
              | succ fu ih89 =>
                intro q hq hm
                refine m_iload C 6 dX10_odds_89 rfl ?_
                refine m_aload_n C 0 dX10_odds_91 rfl ?_
                refine gfX10_53 C dX10_odds_92 ?_
                refine gfX10_175 C 38 bnc_38 dX10_odds_95 ?_
                refine m_topi (nI (v_m (z_V z))) (zv_m hv) ?_
                refine m_icmp_ge C 115 dX10_odds_98 (by decide) (fun hh5 => ?_) (fun hh5 => ?_)
                · replace hh5 := (ii_le (nn_i (a := v_m (z_V z)) rfl (by omega)) (nn_i (a := q) rfl (by omega))).mp hh5
                  have eq2 : q = v_m (z_V z) := by omega
                  rw [eq2]
                  refine m_aload_n C 0 dX10_odds_115 rfl ?_
                  refine m_lload C 4 dX10_odds_116 rfl ?_
                  refine m_lload C 5 dX10_odds_118 rfl ?_
                  refine m_callVv C 0 (by decide) rfl rfl (c_X10_tell l G mu nu (v_en (z_V z) (ix n) (ix p) (2 ^ v_m (z_V z))) (12 ^ v_m (z_V z)) (by omega) (by omega) (Nat.lt_of_le_of_lt (Nat.mul_le_mul (show _ ≤ 2 ^ 40 by omega) (show _ ≤ 2 ^ 30 by omega)) (by decide)) (Nat.pow_pos (by decide))) wkX10_275 (by decide) rfl rfl (Nat.le_of_ble_eq_true rfl) dX10_odds_120 (fun m6 n6 hp6 => ?_)
                  refine m_iconst C 1 dX10_odds_123 (by decide +kernel) ?_
                  refine m_ireti C hQ dX10_odds_124 ?_
                  obtain ⟨rfl, e2⟩ := hp6
                  obtain ⟨q1, q2⟩ := zc_frac (x := lN (v_en (z_V z) (ix n) (ix p) (2 ^ v_m (z_V z)) / Nat.gcd (v_en (z_V z) (ix n) (ix p) (2 ^ v_m (z_V z))) (12 ^ v_m (z_V z)))) (y := lN (12 ^ v_m (z_V z) / Nat.gcd (v_en (z_V z) (ix n) (ix p) (2 ^ v_m (z_V z))) (12 ^ v_m (z_V z)))) hz
                  rw [e2]; exact PC_of (by unfold s_odds; rw [if_neg (by omega), if_neg (by omega)]; rfl) q1 q2
                replace hh5 := mt (ii_le (nn_i (a := v_m (z_V z)) rfl (by omega)) (nn_i (a := q) rfl (by omega))).mpr hh5
                refine m_lload C 5 dX10_odds_101 rfl ?_
                refine m_ldc2 C 12 wcX10_273 dX10_odds_103 ?_
                refine m_lmul C dX10_odds_106 ?_
                refine m_topl (lN ((12 ^ q) * 12)) (ln_mul rfl rfl) ?_
                refine m_topl (lN (12 ^ (q + 1))) (congrArg lN (Nat.pow_succ 12 q).symm) ?_
                refine m_lstore C [(6, .long (lN (12 ^ (q + 1)))), (0, .ref (G.1 0)), (1, .int n), (2, .int p), (3, .int (nI (v_rt (z_V z) (v_m (z_V z)) * (ix n)))), (4, .long (lN (v_en (z_V z) (ix n) (ix p) (2 ^ v_m (z_V z))))), (8, .int (nI q))] dX10_odds_107 (by decide) rfl ?_
                refine m_iinc C 6 (nI (q + 1)) [(8, .int (nI (q + 1))), (6, .long (lN (12 ^ (q + 1)))), (0, .ref (G.1 0)), (1, .int n), (2, .int p), (3, .int (nI (v_rt (z_V z) (v_m (z_V z)) * (ix n)))), (4, .long (lN (v_en (z_V z) (ix n) (ix p) (2 ^ v_m (z_V z)))))] dX10_odds_109 rfl (nn_add rfl (show Int32.ofInt 1 = nI 1 from rfl)) (by decide) rfl ?_
                refine m_goto C 89 dX10_odds_112 (by decide) ?_
                exact m_sub [2, 3, 4, 5, 6, 1, 0] rfl (ih89 (q + 1) (by omega) (by omega))
            exact m_sub [2, 3, 4, 5, 6, 1, 0] rfl (L89 (_ + 1) 0 (Nat.zero_le _) (Nat.lt_succ_self _))
          replace hh4 := mt (ii_le (nn_i (a := 2 ^ (v_m (z_V z))) rfl (by omega)) (nn_i (a := s) rfl (by omega))).mpr hh4
          have hrl := v_rlb hw (n := ix n) (by omega) s
          refine m_iconst C 2 dX10_odds_52 (by decide +kernel) ?_
          refine m_aload_n C 0 dX10_odds_53 rfl ?_
          refine m_iload_n C 1 dX10_odds_54 rfl ?_
          refine m_topi (nI (ix n)) en ?_
          refine m_iload C 5 dX10_odds_55 rfl ?_
          refine m_callVf C 0 (by decide) rfl rfl (c_X10_readOfLeft l G mu nu (z_V z) hv (ix n) (by omega) (by omega) s (by omega)) wkX10_266 (by decide) rfl rfl (Nat.le_of_ble_eq_true rfl) dX10_odds_57 ?_
          refine m_imul C dX10_odds_60 ?_
          refine m_topi (nI (2 * (v_rl (z_V z) (ix n) s (v_m (z_V z))))) (nn_mul rfl rfl) ?_
          refine m_iload_n C 3 dX10_odds_61 rfl ?_
          refine m_icmp_lt C 77 dX10_odds_62 (by decide) (fun hh7 => ?_) (fun hh7 => ?_)
          · replace hh7 := (ii_lt (nn_i (a := 2 * (v_rl (z_V z) (ix n) s (v_m (z_V z)))) rfl (by omega)) (nn_i (a := v_rt (z_V z) (v_m (z_V z)) * (ix n)) rfl (by omega))).mp hh7
            rw [show lN (v_en (z_V z) (ix n) (ix p) s) = lN (v_en (z_V z) (ix n) (ix p) (s + 1)) from (congrArg lN ((congrArg (fun q => v_en (z_V z) (ix n) (ix p) s + q) (if_neg (by omega) : (if v_rt (z_V z) (v_m (z_V z)) * ix n ≤ 2 * v_rl (z_V z) (ix n) s (v_m (z_V z)) then s_wt s (ix p) (v_m (z_V z)) else 0) = 0)).trans (Nat.add_zero _))).symm]
            refine m_iinc C 5 (nI (s + 1)) [(6, .int (nI (s + 1))), (0, .ref (G.1 0)), (1, .int n), (2, .int p), (3, .int (nI (v_rt (z_V z) (v_m (z_V z)) * (ix n)))), (4, .long (lN (v_en (z_V z) (ix n) (ix p) (s + 1))))] dX10_odds_77 rfl (nn_add rfl (show Int32.ofInt 1 = nI 1 from rfl)) (by decide) rfl ?_
            refine m_goto C 38 dX10_odds_80 (by decide) ?_
            exact m_sub [1, 2, 3, 4, 5, 0] rfl (ih38 (s + 1) (by omega) (by omega))
          replace hh7 := mt (ii_lt (nn_i (a := 2 * (v_rl (z_V z) (ix n) s (v_m (z_V z)))) rfl (by omega)) (nn_i (a := v_rt (z_V z) (v_m (z_V z)) * (ix n)) rfl (by omega))).mpr hh7
          refine m_lload C 4 dX10_odds_65 rfl ?_
          refine m_aload_n C 0 dX10_odds_67 rfl ?_
          refine m_iload C 5 dX10_odds_68 rfl ?_
          refine m_iload_n C 2 dX10_odds_70 rfl ?_
          refine m_topi (nI (ix p)) ep ?_
          refine m_callVf C 0 (by decide) rfl rfl (c_X10_weightOfLeft l G mu nu (z_V z) hv s (by omega) (ix p) (by omega)) wkX10_269 (by decide) rfl rfl (Nat.le_of_ble_eq_true rfl) dX10_odds_71 ?_
          refine m_ladd C dX10_odds_74 ?_
          refine m_topl (lN ((v_en (z_V z) (ix n) (ix p) s) + (s_wt s (ix p) (v_m (z_V z))))) (ln_add rfl rfl) ?_
          refine m_lstore C [(4, .long (lN ((v_en (z_V z) (ix n) (ix p) s) + (s_wt s (ix p) (v_m (z_V z)))))), (0, .ref (G.1 0)), (1, .int n), (2, .int p), (3, .int (nI (v_rt (z_V z) (v_m (z_V z)) * (ix n)))), (6, .int (nI s))] dX10_odds_75 (by decide) rfl ?_
          rw [show lN ((v_en (z_V z) (ix n) (ix p) s) + (s_wt s (ix p) (v_m (z_V z)))) = lN (v_en (z_V z) (ix n) (ix p) (s + 1)) from (congrArg lN (congrArg (fun q => v_en (z_V z) (ix n) (ix p) s + q) (if_pos (by omega) : (if v_rt (z_V z) (v_m (z_V z)) * ix n ≤ 2 * v_rl (z_V z) (ix n) s (v_m (z_V z)) then s_wt s (ix p) (v_m (z_V z)) else 0) = s_wt s (ix p) (v_m (z_V z))))).symm]
          refine m_iinc C 5 (nI (s + 1)) [(6, .int (nI (s + 1))), (4, .long (lN (v_en (z_V z) (ix n) (ix p) (s + 1)))), (0, .ref (G.1 0)), (1, .int n), (2, .int p), (3, .int (nI (v_rt (z_V z) (v_m (z_V z)) * (ix n))))] dX10_odds_77 rfl (nn_add rfl (show Int32.ofInt 1 = nI 1 from rfl)) (by decide) rfl ?_
          refine m_goto C 38 dX10_odds_80 (by decide) ?_
          exact m_sub [2, 3, 4, 5, 1, 0] rfl (ih38 (s + 1) (by omega) (by omega))
      exact m_sub [3, 4, 5, 2, 1, 0] rfl (L38 (_ + 1) 0 (Nat.zero_le _) (Nat.lt_succ_self _))
    replace hh3 := (ii_eq (nn_i (a := z_N z) rfl (by omega)) (nn_i (a := 0) rfl (by omega))).mp hh3
    refine m_bipush C (-4) dX10_odds_23 (by decide +kernel) ?_
    refine m_ireti C hQ dX10_odds_25 ?_
    exact PC_of (by unfold s_odds; rw [if_neg (by omega), if_pos (by omega)]) hz zcl_rfl
  replace hh2 := bI_eq0.mp hh2
  refine m_iconst C (-1) dX10_odds_14 (by decide +kernel) ?_
  refine m_ireti C hQ dX10_odds_15 ?_
  exact PC_of (by unfold s_odds; rw [if_pos (by omega)]) hz zcl_rfl

set_option maxHeartbeats 4000000 in
set_option maxRecDepth 100000 in
theorem c_X10_mid (l : Launch) (G : Gl) (mu : Mu) (nu : Nu) (z : Zt) (hz : ZC mu nu z) (n p : Int32) : Ci l G mX10_mid 8 [.ref (G.1 0), .int n, .int p] mu nu (PC mu nu (s_mid z n p)) := by
  have hv : zv mu (z_V z) := hz.1
  have hw := hv.1
  have hN7 := hw.1
  have hm7 := hw.2.2.1
  have ho8 := hw.2.2.2.2
  have hcz : ((v_N (z_V z) : Nat) : Int) = ((z_N z : Nat) : Int) := rfl
  have hzN : z_N z ≤ 7 := hN7
  refine Ct.of (lv := [(0, .ref (G.1 0)), (1, .int n), (2, .int p)]) rfl rfl (Nat.le_of_ble_eq_true rfl) rfl (fun X C => ?_)
  generalize hQ : g_E G X _ = Q
  replace C : Cx G 3 X cX10_mid RX10 (some .int) 8 := C
  show Mq l G 3 X Q 0 [(0, .ref (G.1 0)), (1, .int n), (2, .int p)] [] mu nu
  refine m_iload_n C 1 dX10_mid_0 rfl ?_
  refine m_callSf C (c_X10_isLine l G mu nu n) wkX10_159 (by decide) rfl rfl (Nat.le_of_ble_eq_true rfl) dX10_mid_1 ?_
  refine m_if_eq C 14 dX10_mid_4 (by decide) (fun hh1 => ?_) (fun hh1 => ?_)
  · replace hh1 := bI_eq0.mp hh1
    refine m_iconst C (-1) dX10_mid_14 (by decide +kernel) ?_
    refine m_ireti C hQ dX10_mid_15 ?_
    exact PC_of (by unfold s_mid; rw [if_pos (by omega)]) hz zcl_rfl
  replace hh1 := bI_ne0.mp hh1
  refine m_iload_n C 2 dX10_mid_7 rfl ?_
  refine m_callSf C (c_X10_isTwelfths l G mu nu p) wkX10_263 (by decide) rfl rfl (Nat.le_of_ble_eq_true rfl) dX10_mid_8 ?_
  refine m_if_ne C 16 dX10_mid_11 (by decide) (fun hh2 => ?_) (fun hh2 => ?_)
  · replace hh2 := bI_ne0.mp hh2
    obtain ⟨en, kn⟩ := ix_eq (x := n) (by omega)
    obtain ⟨ep, kp⟩ := ix_eq (x := p) (by omega)
    have hrd := v_rdb hw (n := ix n) (by omega)
    have hmu : v_rd (z_V z) (ix n) (v_m (z_V z)) * (12 - ix p) ≤ 90000000 * 12 := Nat.mul_le_mul hrd (by omega)
    refine m_aload_n C 0 dX10_mid_16 rfl ?_
    refine gfX10_134 C dX10_mid_17 ?_
    refine m_topi (nI (z_N z)) hv.2.1 ?_
    refine m_if_ne C 26 dX10_mid_20 (by decide) (fun hh3 => ?_) (fun hh3 => ?_)
    · replace hh3 := mt (ii_eq (nn_i (a := z_N z) rfl (by omega)) (nn_i (a := 0) rfl (by omega))).mpr hh3
      refine m_aload_n C 0 dX10_mid_26 rfl ?_
      refine m_aload_n C 0 dX10_mid_27 rfl ?_
      refine m_iload_n C 1 dX10_mid_28 rfl ?_
      refine m_topi (nI (ix n)) en ?_
      refine m_callVf C 0 (by decide) rfl rfl (c_X10_readOff l G mu nu (z_V z) hv (ix n) (by omega) (by omega)) wkX10_207 (by decide) rfl rfl (Nat.le_of_ble_eq_true rfl) dX10_mid_29 ?_
      refine m_i2l C dX10_mid_32 ?_
      refine m_topl (lN (v_rd (z_V z) (ix n) (v_m (z_V z)))) (ln_i2l rfl (by omega)) ?_
      refine m_bipush C 12 dX10_mid_33 (by decide +kernel) ?_
      refine m_iload_n C 2 dX10_mid_35 rfl ?_
      refine m_topi (nI (ix p)) ep ?_
      refine m_isub C dX10_mid_36 ?_
      refine m_topi (nI (12 - (ix p))) (nn_sub rfl rfl (by omega)) ?_
      refine m_i2l C dX10_mid_37 ?_
      refine m_topl (lN (12 - (ix p))) (ln_i2l rfl (by omega)) ?_
      refine m_lmul C dX10_mid_38 ?_
      refine m_topl (lN ((v_rd (z_V z) (ix n) (v_m (z_V z))) * (12 - (ix p)))) (ln_mul rfl rfl) ?_
      refine m_ldc2 C 12 wcX10_273 dX10_mid_39 ?_
      refine m_callVv C 0 (by decide) rfl rfl (c_X10_tell l G mu nu (v_rd (z_V z) (ix n) (v_m (z_V z)) * (12 - ix p)) 12 (by omega) (by omega) (by omega) (by decide)) wkX10_275 (by decide) rfl rfl (Nat.le_of_ble_eq_true rfl) dX10_mid_42 (fun m4 n4 hp4 => ?_)
      refine m_iconst C 1 dX10_mid_45 (by decide +kernel) ?_
      refine m_ireti C hQ dX10_mid_46 ?_
      obtain ⟨rfl, e2⟩ := hp4
      obtain ⟨q1, q2⟩ := zc_frac (x := lN (v_rd (z_V z) (ix n) (v_m (z_V z)) * (12 - ix p) / Nat.gcd (v_rd (z_V z) (ix n) (v_m (z_V z)) * (12 - ix p)) 12)) (y := lN (12 / Nat.gcd (v_rd (z_V z) (ix n) (v_m (z_V z)) * (12 - ix p)) 12)) hz
      rw [e2]; exact PC_of (by unfold s_mid; rw [if_neg (by omega), if_neg (by omega)]; rfl) q1 q2
    replace hh3 := (ii_eq (nn_i (a := z_N z) rfl (by omega)) (nn_i (a := 0) rfl (by omega))).mp hh3
    refine m_bipush C (-4) dX10_mid_23 (by decide +kernel) ?_
    refine m_ireti C hQ dX10_mid_25 ?_
    exact PC_of (by unfold s_mid; rw [if_neg (by omega), if_pos (by omega)]) hz zcl_rfl
  replace hh2 := bI_eq0.mp hh2
  refine m_iconst C (-1) dX10_mid_14 (by decide +kernel) ?_
  refine m_ireti C hQ dX10_mid_15 ?_
  exact PC_of (by unfold s_mid; rw [if_pos (by omega)]) hz zcl_rfl

set_option maxHeartbeats 4000000 in
set_option maxRecDepth 100000 in
theorem c_X10_deedByLot (l : Launch) (G : Gl) (mu : Mu) (nu : Nu) (z : Zt) (hz : ZC mu nu z) (x : Nat) (hx : x < 2147483647) (hN0 : 0 < z_N z) (hlt : (z_B z).2.2.length < 40) : Cv l G mX10_deedByLot 4 [.ref (G.1 0), .long (lN x)] mu nu (fun m n2 => ZC m n2 (u_bn z (b_lot (z_N z) (z_B z) x)) ∧ z_cl mu nu m n2) := by
  have hv : zv mu (z_V z) := hz.1
  have hw := hv.1
  have hN7 := hw.1
  have hm7 := hw.2.2.1
  have ho8 := hw.2.2.2.2
  have hcz : ((v_N (z_V z) : Nat) : Int) = ((z_N z : Nat) : Int) := rfl
  have hzN : z_N z ≤ 7 := hN7
  have hd40 : (z_B z).2.2.length ≤ 40 := hz.2.1.2.2.1
  have hwf : z_wf (z_N z) ((z_B z).1, (z_B z).2.1) := zb_wf hz.2.1
  have hml : v_m (z_V z) = (z_B z).1.length := rfl
  have hmod := Nat.mod_lt (x / 8) hN0
  refine Ct.of (lv := [(0, .ref (G.1 0)), (1, .long (lN x))]) rfl rfl (Nat.le_of_ble_eq_true rfl) rfl (fun X C => ?_)
  generalize hQ : g_E G X _ = Q
  replace C : Cx G 5 X cX10_deedByLot RX10 none 4 := C
  show Mq l G 5 X Q 0 [(0, .ref (G.1 0)), (1, .long (lN x))] [] mu nu
  refine m_lload_n C 1 dX10_deedByLot_0 rfl ?_
  refine m_ldc2 C 8 wcX10_349 dX10_deedByLot_1 ?_
  refine m_ldiv C dX10_deedByLot_4 (by decide) ?_
  refine m_topl (lN (x / 8)) (ln_div rfl rfl (by omega) (by omega) (by omega)) ?_
  refine m_iconst C 1 dX10_deedByLot_5 (by decide +kernel) ?_
  refine m_aload_n C 0 dX10_deedByLot_6 rfl ?_
  refine gfX10_134 C dX10_deedByLot_7 ?_
  refine m_topi (nI (z_N z)) hv.2.1 ?_
  refine m_max C wkX10_210 (by omega) (Nat.le_of_ble_eq_true rfl) dX10_deedByLot_10 ?_
  refine m_topi (nI (max 1 (z_N z))) (nn_max rfl rfl (by omega) (by omega)) ?_
  refine m_topi (nI (z_N z)) (congrArg nI (Nat.max_eq_right hN0)) ?_
  refine m_i2l C dX10_deedByLot_13 ?_
  refine m_topl (lN (z_N z)) (ln_i2l rfl (by omega)) ?_
  refine m_lrem C dX10_deedByLot_14 (ln_ne hN0 (by omega)) ?_
  refine m_topl (lN ((x / 8) % (z_N z))) (ln_rem rfl rfl (by omega) (by omega) (by omega)) ?_
  refine m_l2i C dX10_deedByLot_15 ?_
  refine m_topi (nI ((x / 8) % (z_N z))) (ln_l2i rfl) ?_
  refine m_istore_n C [(3, .int (nI ((x / 8) % (z_N z)))), (0, .ref (G.1 0)), (1, .long (lN x))] dX10_deedByLot_16 (by decide) rfl ?_
  refine m_lload_n C 2 dX10_deedByLot_17 rfl ?_
  refine m_ldc2 C 4 wcX10_351 dX10_deedByLot_18 ?_
  refine m_lrem C dX10_deedByLot_21 (by decide) ?_
  refine m_topl (lN (x % 4)) (ln_rem rfl rfl (by omega) (by omega) (by omega)) ?_
  refine m_l2i C dX10_deedByLot_22 ?_
  refine m_topi (nI (x % 4)) (ln_l2i rfl) ?_
  refine m_istore C [(4, .int (nI (x % 4))), (3, .int (nI ((x / 8) % (z_N z)))), (0, .ref (G.1 0)), (1, .long (lN x))] dX10_deedByLot_23 (by decide) rfl ?_
  refine m_iload C 0 dX10_deedByLot_25 rfl ?_
  refine m_iconst C 3 dX10_deedByLot_27 (by decide +kernel) ?_
  refine m_icmp_ne C 44 dX10_deedByLot_28 (by decide) (fun hh1 => ?_) (fun hh1 => ?_)
  · replace hh1 := mt (ii_eq (nn_i (a := x % 4) rfl (by omega)) (nn_i (a := 3) rfl (by omega))).mpr hh1
    refine m_iload C 0 dX10_deedByLot_44 rfl ?_
    refine m_iconst C 2 dX10_deedByLot_46 (by decide +kernel) ?_
    refine m_icmp_ne C 79 dX10_deedByLot_47 (by decide) (fun hh2 => ?_) (fun hh2 => ?_)
    · replace hh2 := mt (ii_eq (nn_i (a := x % 4) rfl (by omega)) (nn_i (a := 2) rfl (by omega))).mpr hh2
      refine m_iload C 0 dX10_deedByLot_79 rfl ?_
      refine m_iconst C 2 dX10_deedByLot_81 (by decide +kernel) ?_
      refine m_icmp_ge C 111 dX10_deedByLot_82 (by decide) (fun hh3 => ?_) (fun hh3 => ?_)
      · replace hh3 := (ii_le (nn_i (a := 2) rfl (by omega)) (nn_i (a := x % 4) rfl (by omega))).mp hh3
        refine m_aload_n C 2 dX10_deedByLot_111 rfl ?_
        refine gfX10_53 C dX10_deedByLot_112 ?_
        refine m_iconst C 0 dX10_deedByLot_115 (by decide +kernel) ?_
        refine m_iconst C 0 dX10_deedByLot_116 (by decide +kernel) ?_
        refine m_iconst C 0 dX10_deedByLot_117 (by decide +kernel) ?_
        refine m_callVv C 38 (by decide) rfl rfl (c_X0_act l G mu nu 38 bnc_38 0 0 0 (z_N z) (z_B z).1 (z_B z).2.1 (z_B z).2.2 hz.2.1 (by omega) (a_idle hwf).1 (a_idle hwf).2.1 (a_idle hwf).2.2) wkX10_171 (by decide) rfl rfl (Nat.le_of_ble_eq_true rfl) dX10_deedByLot_118 (fun m4 n4 hp4 => ?_)
        refine m_vretv C hQ dX10_deedByLot_121 ?_
        obtain ⟨⟨hb, hf⟩, hn2⟩ := hp4
        obtain ⟨q1, q2⟩ := zc_bench (B := b_do (z_B z) 0 0 0) hz hb hf
        have eb : b_lot (z_N z) (z_B z) x = b_do (z_B z) 0 0 0 := ((if_neg (by omega)).trans (if_neg (by omega))).trans (if_neg (fun q => absurd q.1 (by omega)))
        rw [eb, hn2]; exact ⟨q1, q2⟩
      replace hh3 := mt (ii_le (nn_i (a := 2) rfl (by omega)) (nn_i (a := x % 4) rfl (by omega))).mpr hh3
      refine m_aload_n C 2 dX10_deedByLot_85 rfl ?_
      refine gfX10_53 C dX10_deedByLot_86 ?_
      refine m_iload_n C 1 dX10_deedByLot_89 rfl ?_
      refine m_callVf C 38 (by decide) rfl rfl (c_X0_placeOf l G mu nu 38 bnc_38 (v_F (z_V z)) (v_ov (z_V z)) hv.2.2.2 ((x / 8) % (z_N z)) (by omega)) wkX10_165 (by decide) rfl rfl (Nat.le_of_ble_eq_true rfl) dX10_deedByLot_90 ?_
      refine m_bipush C (-9) dX10_deedByLot_93 (by decide +kernel) ?_
      refine m_icmp_ne C 111 dX10_deedByLot_95 (by decide) (fun hh5 => ?_) (fun hh5 => ?_)
      · replace hh5 := mt (ii_eq (rfl : (s_pl (v_F (z_V z)) ((x / 8) % (z_N z))).toInt = _) (show ((-9) : Int32).toInt = (-9) from by decide +kernel)).mpr hh5
        have hip : x / 8 % z_N z ∈ (z_B z).1 := Decidable.not_not.mp (mt (s_pl_t (F := (z_B z).1) (i := x / 8 % z_N z) (by omega)).mpr hh5)
        refine m_aload_n C 2 dX10_deedByLot_111 rfl ?_
        refine gfX10_53 C dX10_deedByLot_112 ?_
        refine m_iconst C 0 dX10_deedByLot_115 (by decide +kernel) ?_
        refine m_iconst C 0 dX10_deedByLot_116 (by decide +kernel) ?_
        refine m_iconst C 0 dX10_deedByLot_117 (by decide +kernel) ?_
        refine m_callVv C 38 (by decide) rfl rfl (c_X0_act l G mu nu 38 bnc_38 0 0 0 (z_N z) (z_B z).1 (z_B z).2.1 (z_B z).2.2 hz.2.1 (by omega) (a_idle hwf).1 (a_idle hwf).2.1 (a_idle hwf).2.2) wkX10_171 (by decide) rfl rfl (Nat.le_of_ble_eq_true rfl) dX10_deedByLot_118 (fun m6 n6 hp6 => ?_)
        refine m_vretv C hQ dX10_deedByLot_121 ?_
        obtain ⟨⟨hb, hf⟩, hn2⟩ := hp6
        obtain ⟨q1, q2⟩ := zc_bench (B := b_do (z_B z) 0 0 0) hz hb hf
        have eb : b_lot (z_N z) (z_B z) x = b_do (z_B z) 0 0 0 := ((if_neg (by omega)).trans (if_neg (by omega))).trans (if_neg (fun q => absurd q.2 (Decidable.not_not.mpr hip)))
        rw [eb, hn2]; exact ⟨q1, q2⟩
      replace hh5 := (ii_eq (rfl : (s_pl (v_F (z_V z)) ((x / 8) % (z_N z))).toInt = _) (show ((-9) : Int32).toInt = (-9) from by decide +kernel)).mp hh5
      have hnp : ¬ x / 8 % z_N z ∈ (z_B z).1 := (s_pl_t (F := (z_B z).1) (i := x / 8 % z_N z) (by omega)).mp hh5
      refine m_aload_n C 2 dX10_deedByLot_98 rfl ?_
      refine gfX10_53 C dX10_deedByLot_99 ?_
      refine m_iconst C 1 dX10_deedByLot_102 (by decide +kernel) ?_
      refine m_iload_n C 1 dX10_deedByLot_103 rfl ?_
      refine m_iconst C 0 dX10_deedByLot_104 (by decide +kernel) ?_
      refine m_callVv C 38 (by decide) rfl rfl (c_X0_act l G mu nu 38 bnc_38 1 ((x / 8) % (z_N z)) 0 (z_N z) (z_B z).1 (z_B z).2.1 (z_B z).2.2 hz.2.1 (by omega) (a_lay hzN hwf (i := x / 8 % z_N z) (Nat.mod_lt _ hN0) hnp).1 (a_lay hzN hwf (i := x / 8 % z_N z) (Nat.mod_lt _ hN0) hnp).2.1 (a_lay hzN hwf (i := x / 8 % z_N z) (Nat.mod_lt _ hN0) hnp).2.2) wkX10_171 (by decide) rfl rfl (Nat.le_of_ble_eq_true rfl) dX10_deedByLot_105 (fun m7 n7 hp7 => ?_)
      refine m_goto C 121 dX10_deedByLot_108 (by decide) ?_
      refine m_vretv C hQ dX10_deedByLot_121 ?_
      obtain ⟨⟨hb, hf⟩, hn2⟩ := hp7
      obtain ⟨q1, q2⟩ := zc_bench (B := b_do (z_B z) 1 (x / 8 % z_N z) 0) hz hb hf
      have eb : b_lot (z_N z) (z_B z) x = b_do (z_B z) 1 (x / 8 % z_N z) 0 := ((if_neg (by omega)).trans (if_neg (by omega))).trans (if_pos ⟨by omega, hnp⟩)
      rw [eb, hn2]; exact ⟨q1, q2⟩
    replace hh2 := (ii_eq (nn_i (a := x % 4) rfl (by omega)) (nn_i (a := 2) rfl (by omega))).mp hh2
    refine m_aload_n C 2 dX10_deedByLot_50 rfl ?_
    refine gfX10_53 C dX10_deedByLot_51 ?_
    refine gfX10_175 C 38 bnc_38 dX10_deedByLot_54 ?_
    refine m_topi (nI (v_m (z_V z))) (zv_m hv) ?_
    refine m_if_le C 79 dX10_deedByLot_57 (by decide) (fun hh8 => ?_) (fun hh8 => ?_)
    · replace hh8 := (ii_le (nn_i (a := v_m (z_V z)) rfl (by omega)) (nn_i (a := 0) rfl (by omega))).mp hh8
      refine m_iload C 0 dX10_deedByLot_79 rfl ?_
      refine m_iconst C 2 dX10_deedByLot_81 (by decide +kernel) ?_
      refine m_icmp_ge C 111 dX10_deedByLot_82 (by decide) (fun hh9 => ?_) (fun hh9 => ?_)
      · replace hh9 := (ii_le (nn_i (a := 2) rfl (by omega)) (nn_i (a := x % 4) rfl (by omega))).mp hh9
        refine m_aload_n C 2 dX10_deedByLot_111 rfl ?_
        refine gfX10_53 C dX10_deedByLot_112 ?_
        refine m_iconst C 0 dX10_deedByLot_115 (by decide +kernel) ?_
        refine m_iconst C 0 dX10_deedByLot_116 (by decide +kernel) ?_
        refine m_iconst C 0 dX10_deedByLot_117 (by decide +kernel) ?_
        refine m_callVv C 38 (by decide) rfl rfl (c_X0_act l G mu nu 38 bnc_38 0 0 0 (z_N z) (z_B z).1 (z_B z).2.1 (z_B z).2.2 hz.2.1 (by omega) (a_idle hwf).1 (a_idle hwf).2.1 (a_idle hwf).2.2) wkX10_171 (by decide) rfl rfl (Nat.le_of_ble_eq_true rfl) dX10_deedByLot_118 (fun m10 n10 hp10 => ?_)
        refine m_vretv C hQ dX10_deedByLot_121 ?_
        obtain ⟨⟨hb, hf⟩, hn2⟩ := hp10
        obtain ⟨q1, q2⟩ := zc_bench (B := b_do (z_B z) 0 0 0) hz hb hf
        have eb : b_lot (z_N z) (z_B z) x = b_do (z_B z) 0 0 0 := ((if_neg (by omega)).trans (if_neg (by omega))).trans (if_neg (fun q => absurd q.1 (by omega)))
        rw [eb, hn2]; exact ⟨q1, q2⟩
      replace hh9 := mt (ii_le (nn_i (a := 2) rfl (by omega)) (nn_i (a := x % 4) rfl (by omega))).mpr hh9
      refine m_aload_n C 2 dX10_deedByLot_85 rfl ?_
      refine gfX10_53 C dX10_deedByLot_86 ?_
      refine m_iload_n C 1 dX10_deedByLot_89 rfl ?_
      refine m_callVf C 38 (by decide) rfl rfl (c_X0_placeOf l G mu nu 38 bnc_38 (v_F (z_V z)) (v_ov (z_V z)) hv.2.2.2 ((x / 8) % (z_N z)) (by omega)) wkX10_165 (by decide) rfl rfl (Nat.le_of_ble_eq_true rfl) dX10_deedByLot_90 ?_
      refine m_bipush C (-9) dX10_deedByLot_93 (by decide +kernel) ?_
      refine m_icmp_ne C 111 dX10_deedByLot_95 (by decide) (fun hh11 => ?_) (fun hh11 => ?_)
      · replace hh11 := mt (ii_eq (rfl : (s_pl (v_F (z_V z)) ((x / 8) % (z_N z))).toInt = _) (show ((-9) : Int32).toInt = (-9) from by decide +kernel)).mpr hh11
        have hip : x / 8 % z_N z ∈ (z_B z).1 := Decidable.not_not.mp (mt (s_pl_t (F := (z_B z).1) (i := x / 8 % z_N z) (by omega)).mpr hh11)
        refine m_aload_n C 2 dX10_deedByLot_111 rfl ?_
        refine gfX10_53 C dX10_deedByLot_112 ?_
        refine m_iconst C 0 dX10_deedByLot_115 (by decide +kernel) ?_
        refine m_iconst C 0 dX10_deedByLot_116 (by decide +kernel) ?_
        refine m_iconst C 0 dX10_deedByLot_117 (by decide +kernel) ?_
        refine m_callVv C 38 (by decide) rfl rfl (c_X0_act l G mu nu 38 bnc_38 0 0 0 (z_N z) (z_B z).1 (z_B z).2.1 (z_B z).2.2 hz.2.1 (by omega) (a_idle hwf).1 (a_idle hwf).2.1 (a_idle hwf).2.2) wkX10_171 (by decide) rfl rfl (Nat.le_of_ble_eq_true rfl) dX10_deedByLot_118 (fun m12 n12 hp12 => ?_)
        refine m_vretv C hQ dX10_deedByLot_121 ?_
        obtain ⟨⟨hb, hf⟩, hn2⟩ := hp12
        obtain ⟨q1, q2⟩ := zc_bench (B := b_do (z_B z) 0 0 0) hz hb hf
        have eb : b_lot (z_N z) (z_B z) x = b_do (z_B z) 0 0 0 := ((if_neg (by omega)).trans (if_neg (by omega))).trans (if_neg (fun q => absurd q.2 (Decidable.not_not.mpr hip)))
        rw [eb, hn2]; exact ⟨q1, q2⟩
      replace hh11 := (ii_eq (rfl : (s_pl (v_F (z_V z)) ((x / 8) % (z_N z))).toInt = _) (show ((-9) : Int32).toInt = (-9) from by decide +kernel)).mp hh11
      have hnp : ¬ x / 8 % z_N z ∈ (z_B z).1 := (s_pl_t (F := (z_B z).1) (i := x / 8 % z_N z) (by omega)).mp hh11
      refine m_aload_n C 2 dX10_deedByLot_98 rfl ?_
      refine gfX10_53 C dX10_deedByLot_99 ?_
      refine m_iconst C 1 dX10_deedByLot_102 (by decide +kernel) ?_
      refine m_iload_n C 1 dX10_deedByLot_103 rfl ?_
      refine m_iconst C 0 dX10_deedByLot_104 (by decide +kernel) ?_
      refine m_callVv C 38 (by decide) rfl rfl (c_X0_act l G mu nu 38 bnc_38 1 ((x / 8) % (z_N z)) 0 (z_N z) (z_B z).1 (z_B z).2.1 (z_B z).2.2 hz.2.1 (by omega) (a_lay hzN hwf (i := x / 8 % z_N z) (Nat.mod_lt _ hN0) hnp).1 (a_lay hzN hwf (i := x / 8 % z_N z) (Nat.mod_lt _ hN0) hnp).2.1 (a_lay hzN hwf (i := x / 8 % z_N z) (Nat.mod_lt _ hN0) hnp).2.2) wkX10_171 (by decide) rfl rfl (Nat.le_of_ble_eq_true rfl) dX10_deedByLot_105 (fun m13 n13 hp13 => ?_)
      refine m_goto C 121 dX10_deedByLot_108 (by decide) ?_
      refine m_vretv C hQ dX10_deedByLot_121 ?_
      obtain ⟨⟨hb, hf⟩, hn2⟩ := hp13
      obtain ⟨q1, q2⟩ := zc_bench (B := b_do (z_B z) 1 (x / 8 % z_N z) 0) hz hb hf
      have eb : b_lot (z_N z) (z_B z) x = b_do (z_B z) 1 (x / 8 % z_N z) 0 := ((if_neg (by omega)).trans (if_neg (by omega))).trans (if_pos ⟨by omega, hnp⟩)
      rw [eb, hn2]; exact ⟨q1, q2⟩
    replace hh8 := mt (ii_le (nn_i (a := v_m (z_V z)) rfl (by omega)) (nn_i (a := 0) rfl (by omega))).mpr hh8
    refine m_aload_n C 2 dX10_deedByLot_60 rfl ?_
    refine gfX10_53 C dX10_deedByLot_61 ?_
    refine m_iconst C 2 dX10_deedByLot_64 (by decide +kernel) ?_
    refine m_aload_n C 2 dX10_deedByLot_65 rfl ?_
    refine gfX10_53 C dX10_deedByLot_66 ?_
    refine m_callVf C 38 (by decide) rfl rfl (c_X0_lastRod l G mu nu 38 bnc_38 (z_B z).1 (z_B z).2.1 hz.2.1.1) wkX10_178 (by decide) rfl rfl (Nat.le_of_ble_eq_true rfl) dX10_deedByLot_69 ?_
    refine m_topi (nI ((z_B z).1.getD ((z_B z).1.length - 1) 0)) (if_pos (by omega)) ?_
    refine m_iconst C 0 dX10_deedByLot_72 (by decide +kernel) ?_
    refine m_callVv C 38 (by decide) rfl rfl (c_X0_act l G mu nu 38 bnc_38 2 ((z_B z).1.getD ((z_B z).1.length - 1) 0) 0 (z_N z) (z_B z).1 (z_B z).2.1 (z_B z).2.2 hz.2.1 (by omega) (a_lift hzN hwf (by show 0 < (z_B z).1.length; omega)).1 (a_lift hzN hwf (by show 0 < (z_B z).1.length; omega)).2.1 (a_lift hzN hwf (by show 0 < (z_B z).1.length; omega)).2.2) wkX10_171 (by decide) rfl rfl (Nat.le_of_ble_eq_true rfl) dX10_deedByLot_73 (fun m14 n14 hp14 => ?_)
    refine m_goto C 121 dX10_deedByLot_76 (by decide) ?_
    refine m_vretv C hQ dX10_deedByLot_121 ?_
    obtain ⟨⟨hb, hf⟩, hn2⟩ := hp14
    obtain ⟨q1, q2⟩ := zc_bench (B := b_do (z_B z) 2 ((z_B z).1.getD ((z_B z).1.length - 1) 0) 0) hz hb hf
    have eb : b_lot (z_N z) (z_B z) x = b_do (z_B z) 2 ((z_B z).1.getD ((z_B z).1.length - 1) 0) 0 := (if_neg (by omega)).trans (if_pos (by omega))
    rw [eb, hn2]; exact ⟨q1, q2⟩
  replace hh1 := (ii_eq (nn_i (a := x % 4) rfl (by omega)) (nn_i (a := 3) rfl (by omega))).mp hh1
  refine m_aload_n C 2 dX10_deedByLot_31 rfl ?_
  refine gfX10_53 C dX10_deedByLot_32 ?_
  refine m_iconst C 4 dX10_deedByLot_35 (by decide +kernel) ?_
  refine m_iload_n C 1 dX10_deedByLot_36 rfl ?_
  refine m_iconst C 0 dX10_deedByLot_37 (by decide +kernel) ?_
  refine m_callVv C 38 (by decide) rfl rfl (c_X0_act l G mu nu 38 bnc_38 4 ((x / 8) % (z_N z)) 0 (z_N z) (z_B z).1 (z_B z).2.1 (z_B z).2.2 hz.2.1 (by omega) (a_turn hzN hwf (i := x / 8 % z_N z) (Nat.mod_lt _ hN0)).1 (a_turn hzN hwf (i := x / 8 % z_N z) (Nat.mod_lt _ hN0)).2.1 (a_turn hzN hwf (i := x / 8 % z_N z) (Nat.mod_lt _ hN0)).2.2) wkX10_171 (by decide) rfl rfl (Nat.le_of_ble_eq_true rfl) dX10_deedByLot_38 (fun m15 n15 hp15 => ?_)
  refine m_goto C 121 dX10_deedByLot_41 (by decide) ?_
  refine m_vretv C hQ dX10_deedByLot_121 ?_
  obtain ⟨⟨hb, hf⟩, hn2⟩ := hp15
  obtain ⟨q1, q2⟩ := zc_bench (B := b_do (z_B z) 4 (x / 8 % z_N z) 0) hz hb hf
  have eb : b_lot (z_N z) (z_B z) x = b_do (z_B z) 4 (x / 8 % z_N z) 0 := if_pos (by omega)
  rw [eb, hn2]; exact ⟨q1, q2⟩

set_option maxHeartbeats 4000000 in
set_option maxRecDepth 100000 in
theorem c_X10_lots (l : Launch) (G : Gl) (mu : Mu) (nu : Nu) (z : Zt) (hz : ZC mu nu z) (n seed : Int32) : Ci l G mX10_lots 8 [.ref (G.1 0), .int n, .int seed] mu nu (PC mu nu (s_lots z n seed)) := by
  have hv : zv mu (z_V z) := hz.1
  have hw := hv.1
  have hN7 := hw.1
  have hm7 := hw.2.2.1
  have ho8 := hw.2.2.2.2
  have hcz : ((v_N (z_V z) : Nat) : Int) = ((z_N z : Nat) : Int) := rfl
  have hzN : z_N z ≤ 7 := hN7
  have hd40 : (z_B z).2.2.length ≤ 40 := hz.2.1.2.2.1
  have hsl := seed.toInt_lt
  refine Ct.of (lv := [(0, .ref (G.1 0)), (1, .int n), (2, .int seed)]) rfl rfl (Nat.le_of_ble_eq_true rfl) rfl (fun X C => ?_)
  generalize hQ : g_E G X _ = Q
  replace C : Cx G 6 X cX10_lots RX10 (some .int) 8 := C
  show Mq l G 6 X Q 0 [(0, .ref (G.1 0)), (1, .int n), (2, .int seed)] [] mu nu
  refine m_iload_n C 1 dX10_lots_0 rfl ?_
  refine m_iconst C 1 dX10_lots_1 (by decide +kernel) ?_
  refine m_icmp_lt C 25 dX10_lots_2 (by decide) (fun hh1 => ?_) (fun hh1 => ?_)
  · replace hh1 := (ii_lt (rfl : (n).toInt = _) (nn_i (a := 1) rfl (by omega))).mp hh1
    refine m_iconst C (-1) dX10_lots_25 (by decide +kernel) ?_
    refine m_ireti C hQ dX10_lots_26 ?_
    exact PC_of (by unfold s_lots; rw [if_pos (by omega)]) hz zcl_rfl
  replace hh1 := mt (ii_lt (rfl : (n).toInt = _) (nn_i (a := 1) rfl (by omega))).mpr hh1
  refine m_iload_n C 1 dX10_lots_5 rfl ?_
  refine m_bipush C 20 dX10_lots_6 (by decide +kernel) ?_
  refine m_icmp_gt C 25 dX10_lots_8 (by decide) (fun hh2 => ?_) (fun hh2 => ?_)
  · replace hh2 := (ii_lt (nn_i (a := 20) rfl (by omega)) (rfl : (n).toInt = _)).mp hh2
    refine m_iconst C (-1) dX10_lots_25 (by decide +kernel) ?_
    refine m_ireti C hQ dX10_lots_26 ?_
    exact PC_of (by unfold s_lots; rw [if_pos (by omega)]) hz zcl_rfl
  replace hh2 := mt (ii_lt (nn_i (a := 20) rfl (by omega)) (rfl : (n).toInt = _)).mpr hh2
  refine m_iload_n C 2 dX10_lots_11 rfl ?_
  refine m_iconst C 1 dX10_lots_12 (by decide +kernel) ?_
  refine m_icmp_lt C 25 dX10_lots_13 (by decide) (fun hh3 => ?_) (fun hh3 => ?_)
  · replace hh3 := (ii_lt (rfl : (seed).toInt = _) (nn_i (a := 1) rfl (by omega))).mp hh3
    refine m_iconst C (-1) dX10_lots_25 (by decide +kernel) ?_
    refine m_ireti C hQ dX10_lots_26 ?_
    exact PC_of (by unfold s_lots; rw [if_pos (by omega)]) hz zcl_rfl
  replace hh3 := mt (ii_lt (rfl : (seed).toInt = _) (nn_i (a := 1) rfl (by omega))).mpr hh3
  refine m_iload_n C 2 dX10_lots_16 rfl ?_
  refine m_i2l C dX10_lots_17 ?_
  refine m_ldc2 C 2147483647 wcX10_279 dX10_lots_18 ?_
  refine m_lcmp C dX10_lots_21 ?_
  refine m_if_lt C 27 dX10_lots_22 (by decide) (fun hh4 => ?_) (fun hh4 => ?_)
  · replace hh4 := ((lg_cmp_lt _ _).trans (ll_lt ((tl_i _).trans (rfl : (seed).toInt = _)) (ln_i (a := 2147483647) rfl (by omega)))).mp hh4
    obtain ⟨en, kn⟩ := ix_eq (x := n) (by omega)
    obtain ⟨es, ks⟩ := ix_eq (x := seed) (by omega)
    refine m_aload_n C 0 dX10_lots_27 rfl ?_
    refine gfX10_134 C dX10_lots_28 ?_
    refine m_topi (nI (z_N z)) hv.2.1 ?_
    refine m_if_ne C 37 dX10_lots_31 (by decide) (fun hh5 => ?_) (fun hh5 => ?_)
    · replace hh5 := mt (ii_eq (nn_i (a := z_N z) rfl (by omega)) (nn_i (a := 0) rfl (by omega))).mpr hh5
      refine m_aload_n C 0 dX10_lots_37 rfl ?_
      refine gfX10_53 C dX10_lots_38 ?_
      refine gfX10_191 C 38 bnc_38 dX10_lots_41 ?_
      refine m_topi (nI ((z_B z).2.2.length)) hz.2.1.2.1 ?_
      refine m_iload_n C 1 dX10_lots_44 rfl ?_
      refine m_topi (nI (ix n)) en ?_
      refine m_iadd C dX10_lots_45 ?_
      refine m_topi (nI (((z_B z).2.2.length) + (ix n))) (nn_add rfl rfl) ?_
      refine m_bipush C 40 dX10_lots_46 (by decide +kernel) ?_
      refine m_icmp_le C 54 dX10_lots_48 (by decide) (fun hh6 => ?_) (fun hh6 => ?_)
      · replace hh6 := (ii_le (nn_i (a := ((z_B z).2.2.length) + (ix n)) rfl (by omega)) (nn_i (a := 40) rfl (by omega))).mp hh6
        refine m_iload_n C 2 dX10_lots_54 rfl ?_
        refine m_topi (nI (ix seed)) es ?_
        refine m_i2l C dX10_lots_55 ?_
        refine m_topl (lN (ix seed)) (ln_i2l rfl (by omega)) ?_
        refine m_lstore_n C [(3, .long (lN (ix seed))), (0, .ref (G.1 0)), (1, .int n), (2, .int seed)] dX10_lots_56 (by decide) rfl ?_
        refine m_iconst C 0 dX10_lots_57 (by decide +kernel) ?_
        refine m_istore C [(5, .int 0), (3, .long (lN (ix seed))), (0, .ref (G.1 0)), (1, .int n), (2, .int seed)] dX10_lots_58 (by decide) rfl ?_
        have L60 : ∀ (fu : Nat) (k : Nat) (m : Mu) (n1 : Nu) (hk : k ≤ ix n) (hzm : ZC m n1 (u_bn z (b_lots (z_N z) (z_B z) (ix seed) k))) (hcm : z_cl mu nu m n1), ix n - k < fu → Mq l G 6 X Q 60 [(0, .ref (G.1 0)), (1, .int n), (2, .int seed), (3, .long (lN (s_lx (ix seed) k))), (5, .int (nI k))] [] m n1 := by
          intro fu
          induction fu with
          | zero => intro k m n1 hk hzm hcm hm; exact absurd hm (Nat.not_lt_zero _)
          | succ fu ih60 =>
            intro k m n1 hk hzm hcm hm
            refine m_iload C 4 dX10_lots_60 rfl ?_
            refine m_iload_n C 1 dX10_lots_62 rfl ?_
            refine m_topi (nI (ix n)) en ?_
            refine m_icmp_ge C 87 dX10_lots_63 (by decide) (fun hh7 => ?_) (fun hh7 => ?_)
            · replace hh7 := (ii_le (nn_i (a := ix n) rfl (by omega)) (nn_i (a := k) rfl (by omega))).mp hh7
              have ek : k = ix n := by omega
              rw [ek] at hzm
              refine m_aload_n C 0 dX10_lots_87 rfl ?_
              refine m_iconst C 1 dX10_lots_88 (by decide +kernel) ?_
              refine m_callVf C 0 (by decide) rfl rfl (c_X10_readOff l G m n1 (z_V (u_bn z (b_lots (z_N z) (z_B z) (ix seed) (ix n)))) hzm.1 1 (by decide) (by decide)) wkX10_207 (by decide) rfl rfl (Nat.le_of_ble_eq_true rfl) dX10_lots_89 ?_
              refine m_ireti C hQ dX10_lots_92 ?_
              exact PC_of (by unfold s_lots; rw [if_neg (by omega), if_neg (by omega), if_neg (by omega)]) hzm hcm
            replace hh7 := mt (ii_le (nn_i (a := ix n) rfl (by omega)) (nn_i (a := k) rfl (by omega))).mpr hh7
            have hlx := s_lx_lt (seed := ix seed) (by omega) k
            refine m_lload_n C 3 dX10_lots_66 rfl ?_
            refine m_ldc2 C 48271 wcX10_281 dX10_lots_67 ?_
            refine m_lmul C dX10_lots_70 ?_
            refine m_topl (lN ((s_lx (ix seed) k) * 48271)) (ln_mul rfl rfl) ?_
            refine m_ldc2 C 2147483647 wcX10_279 dX10_lots_71 ?_
            refine m_lrem C dX10_lots_74 (by decide) ?_
            refine m_topl (lN (((s_lx (ix seed) k) * 48271) % 2147483647)) (ln_rem rfl rfl (by omega) (by omega) (by omega)) ?_
            refine m_topl (lN (s_lx (ix seed) (k + 1))) rfl ?_
            refine m_lstore_n C [(3, .long (lN (s_lx (ix seed) (k + 1)))), (0, .ref (G.1 0)), (1, .int n), (2, .int seed), (5, .int (nI k))] dX10_lots_75 (by decide) rfl ?_
            refine m_aload_n C 1 dX10_lots_76 rfl ?_
            refine m_lload_n C 0 dX10_lots_77 rfl ?_
            refine m_callVv C 0 (by decide) rfl rfl (c_X10_deedByLot l G m n1 (u_bn z (b_lots (z_N z) (z_B z) (ix seed) k)) hzm (s_lx (ix seed) (k + 1)) (s_lx_lt (by omega) _) (by show 0 < z_N z; omega) (by show (b_lots (z_N z) (z_B z) (ix seed) k).2.2.length < 40; rw [b_lots_len]; omega)) wkX10_283 (by decide) rfl rfl (Nat.le_of_ble_eq_true rfl) dX10_lots_78 (fun m8 n8 hp8 => ?_)
            refine m_iinc C 4 (nI (k + 1)) [(5, .int (nI (k + 1))), (3, .long (lN (s_lx (ix seed) (k + 1)))), (0, .ref (G.1 0)), (1, .int n), (2, .int seed)] dX10_lots_81 rfl (nn_add rfl (show Int32.ofInt 1 = nI 1 from rfl)) (by decide) rfl ?_
            refine m_goto C 60 dX10_lots_84 (by decide) ?_
            exact m_sub [2, 3, 4, 1, 0] rfl (ih60 (k + 1) m8 n8 (by omega) hp8.1 (hcm.trans hp8.2) (by omega))
        exact m_sub [2, 3, 4, 1, 0] rfl (L60 (_ + 1) 0 mu nu (Nat.zero_le _) hz zcl_rfl (Nat.lt_succ_self _))
      replace hh6 := mt (ii_le (nn_i (a := ((z_B z).2.2.length) + (ix n)) rfl (by omega)) (nn_i (a := 40) rfl (by omega))).mpr hh6
      refine m_bipush C (-2) dX10_lots_51 (by decide +kernel) ?_
      refine m_ireti C hQ dX10_lots_53 ?_
      exact PC_of (by unfold s_lots; rw [if_neg (by omega), if_neg (by omega), if_pos (by omega)]) hz zcl_rfl
    replace hh5 := (ii_eq (nn_i (a := z_N z) rfl (by omega)) (nn_i (a := 0) rfl (by omega))).mp hh5
    refine m_bipush C (-4) dX10_lots_34 (by decide +kernel) ?_
    refine m_ireti C hQ dX10_lots_36 ?_
    exact PC_of (by unfold s_lots; rw [if_neg (by omega), if_pos (by omega)]) hz zcl_rfl
  replace hh4 := mt ((lg_cmp_lt _ _).trans (ll_lt ((tl_i _).trans (rfl : (seed).toInt = _)) (ln_i (a := 2147483647) rfl (by omega)))).mpr hh4
  refine m_iconst C (-1) dX10_lots_25 (by decide +kernel) ?_
  refine m_ireti C hQ dX10_lots_26 ?_
  exact PC_of (by unfold s_lots; rw [if_pos (by omega)]) hz zcl_rfl
