set_option maxHeartbeats 8000000 in
set_option maxRecDepth 100000 in
theorem law_loop (l : Launch) (G : Gl) {X : Bx} {Q : State → Prop} {b L : Nat} {xs : Nat → Int32} (C : Cx G 4 X cL_law RL (some .boolean) 20) (hX : Lx G X b L xs) (hL : L ≤ 3072) (hend : ∀ (mu : Mu) (nu : Nu) (lv : List (Nat × Value)), Mq l G 4 X Q 1365 lv [.int 1] mu nu) : ∀ (fu i : Nat) (mu : Mu) (nu : Nu) (z : Zt), i ≤ L → L - i < fu → ZC mu nu z → ZM mu nu z → Mq l G 4 X Q 18 (lw_lv G b i) [] mu nu := by
  intro fu
  induction fu with
  | zero => intro i mu nu z _ h; exact absurd h (Nat.not_lt_zero _)
  | succ fu ih =>
    intro i mu nu z hi hf hz hm
    refine m_iload_n C 0 dL_law_18 rfl ?_
    refine m_aload_n C 3 dL_law_19 rfl ?_
    refine m_slen C hX dL_law_20 ?_
    refine m_bipush C 6 dL_law_21 (by decide +kernel) ?_
    refine m_isub C dL_law_23 ?_
    have h6 : (nI L - 6).toInt = (L : Int) - 6 := ii_sub (nn_i (a := L) rfl (by omega)) (nn_i (a := 6) rfl (by omega)) (by omega) (by omega)
    have h7 : (nI i).toInt = (i : Int) := nn_i (a := i) rfl (by omega)
    refine m_icmp_gt C 1364 dL_law_24 (by decide) (fun _ => ?_) (fun h => ?_)
    · refine m_iconst C 1 dL_law_1364 (by decide +kernel) ?_
      exact hend mu nu _
    · have h8 : i + 6 ≤ L := by
        have h9 := mt (ii_lt h6 h7).mpr h
        omega
      have kk : ∀ m n2 z2, ZC m n2 z2 → ZM m n2 z2 → Mq l G 4 X Q 1358 (lw_lv G b i) [] m n2 := by
        intro m n2 z2 hz2 hm2
        refine m_iinc C 0 (nI (i + 6)) (lw_lv G b (i + 6)) dL_law_1358 rfl (nn_add rfl (show Int32.ofInt 6 = nI 6 from rfl)) (by decide) rfl ?_
        refine m_goto C 18 dL_law_1361 (by decide) ?_
        exact ih (i + 6) m n2 z2 h8 (by omega) hz2 hm2
      refine m_aload_n C 3 dL_law_27 rfl ?_
      refine m_iload_n C 0 dL_law_28 rfl ?_
      refine m_sld C hX i rfl (by omega) hL dL_law_29 ?_
      refine m_bipush C 63 dL_law_30 (by decide +kernel) ?_
      refine m_iand C dL_law_32 ?_
      generalize (xs i &&& 63) = v
      have hv : (v.toInt < 0 ∨ 40 < v.toInt) ∨ v.toInt = 0 ∨ v.toInt = 1 ∨ v.toInt = 2 ∨ v.toInt = 3 ∨ v.toInt = 4 ∨ v.toInt = 5 ∨ v.toInt = 6 ∨ v.toInt = 7 ∨ v.toInt = 8 ∨ v.toInt = 9 ∨ v.toInt = 10 ∨ v.toInt = 11 ∨ v.toInt = 12 ∨ v.toInt = 13 ∨ v.toInt = 14 ∨ v.toInt = 15 ∨ v.toInt = 16 ∨ v.toInt = 17 ∨ v.toInt = 18 ∨ v.toInt = 19 ∨ v.toInt = 20 ∨ v.toInt = 21 ∨ v.toInt = 22 ∨ v.toInt = 23 ∨ v.toInt = 24 ∨ v.toInt = 25 ∨ v.toInt = 26 ∨ v.toInt = 27 ∨ v.toInt = 28 ∨ v.toInt = 29 ∨ v.toInt = 30 ∨ v.toInt = 31 ∨ v.toInt = 32 ∨ v.toInt = 33 ∨ v.toInt = 34 ∨ v.toInt = 35 ∨ v.toInt = 36 ∨ v.toInt = 37 ∨ v.toInt = 38 ∨ v.toInt = 39 ∨ v.toInt = 40 := by omega
      rcases hv with hv | hv | hv | hv | hv | hv | hv | hv | hv | hv | hv | hv | hv | hv | hv | hv | hv | hv | hv | hv | hv | hv | hv | hv | hv | hv | hv | hv | hv | hv | hv | hv | hv | hv | hv | hv | hv | hv | hv | hv | hv | hv
      · refine m_tblOut C 1358 dL_law_33 hv (by decide) ?_
        exact kk mu nu z hz hm
      · refine m_tblIn C 212 dL_law_33 (by omega) (by omega) (off := 179) (by rw [hv]; decide +kernel) (by decide) ?_
        exact law_case_0 l G mu nu C hX i h8 hL z hz hm kk
      · refine m_tblIn C 245 dL_law_33 (by omega) (by omega) (off := 212) (by rw [hv]; decide +kernel) (by decide) ?_
        exact law_case_1 l G mu nu C hX i h8 hL z hz hm kk
      · refine m_tblIn C 288 dL_law_33 (by omega) (by omega) (off := 255) (by rw [hv]; decide +kernel) (by decide) ?_
        exact law_case_2 l G mu nu C hX i h8 hL z hz hm kk
      · refine m_tblIn C 321 dL_law_33 (by omega) (by omega) (off := 288) (by rw [hv]; decide +kernel) (by decide) ?_
        exact law_case_3 l G mu nu C hX i h8 hL z hz hm kk
      · refine m_tblIn C 344 dL_law_33 (by omega) (by omega) (off := 311) (by rw [hv]; decide +kernel) (by decide) ?_
        exact law_case_4 l G mu nu C hX i h8 hL z hz hm kk
      · refine m_tblIn C 407 dL_law_33 (by omega) (by omega) (off := 374) (by rw [hv]; decide +kernel) (by decide) ?_
        exact law_case_5 l G mu nu C hX i h8 hL z hz hm kk
      · refine m_tblIn C 430 dL_law_33 (by omega) (by omega) (off := 397) (by rw [hv]; decide +kernel) (by decide) ?_
        exact law_case_6 l G mu nu C hX i h8 hL z hz hm kk
      · refine m_tblIn C 463 dL_law_33 (by omega) (by omega) (off := 430) (by rw [hv]; decide +kernel) (by decide) ?_
        exact law_case_7 l G mu nu C hX i h8 hL z hz hm kk
      · refine m_tblIn C 506 dL_law_33 (by omega) (by omega) (off := 473) (by rw [hv]; decide +kernel) (by decide) ?_
        exact law_case_8 l G mu nu C hX i h8 hL z hz hm kk
      · refine m_tblIn C 529 dL_law_33 (by omega) (by omega) (off := 496) (by rw [hv]; decide +kernel) (by decide) ?_
        exact law_case_9 l G mu nu C hX i h8 hL z hz hm kk
      · refine m_tblIn C 552 dL_law_33 (by omega) (by omega) (off := 519) (by rw [hv]; decide +kernel) (by decide) ?_
        exact law_case_10 l G mu nu C hX i h8 hL z hz hm kk
      · refine m_tblIn C 585 dL_law_33 (by omega) (by omega) (off := 552) (by rw [hv]; decide +kernel) (by decide) ?_
        exact law_case_11 l G mu nu C hX i h8 hL z hz hm kk
      · refine m_tblIn C 618 dL_law_33 (by omega) (by omega) (off := 585) (by rw [hv]; decide +kernel) (by decide) ?_
        exact law_case_12 l G mu nu C hX i h8 hL z hz hm kk
      · refine m_tblIn C 651 dL_law_33 (by omega) (by omega) (off := 618) (by rw [hv]; decide +kernel) (by decide) ?_
        exact law_case_13 l G mu nu C hX i h8 hL z hz hm kk
      · refine m_tblIn C 674 dL_law_33 (by omega) (by omega) (off := 641) (by rw [hv]; decide +kernel) (by decide) ?_
        exact law_case_14 l G mu nu C hX i h8 hL z hz hm kk
      · refine m_tblIn C 687 dL_law_33 (by omega) (by omega) (off := 654) (by rw [hv]; decide +kernel) (by decide) ?_
        exact law_case_15 l G mu nu C hX i h8 hL z hz hm kk
      · refine m_tblIn C 720 dL_law_33 (by omega) (by omega) (off := 687) (by rw [hv]; decide +kernel) (by decide) ?_
        exact law_case_16 l G mu nu C hX i h8 hL z hz hm kk
      · refine m_tblIn C 743 dL_law_33 (by omega) (by omega) (off := 710) (by rw [hv]; decide +kernel) (by decide) ?_
        exact law_case_17 l G mu nu C hX i h8 hL z hz hm kk
      · refine m_tblIn C 766 dL_law_33 (by omega) (by omega) (off := 733) (by rw [hv]; decide +kernel) (by decide) ?_
        exact law_case_18 l G mu nu C hX i h8 hL z hz hm kk
      · refine m_tblIn C 789 dL_law_33 (by omega) (by omega) (off := 756) (by rw [hv]; decide +kernel) (by decide) ?_
        exact law_case_19 l G mu nu C hX i h8 hL z hz hm kk
      · refine m_tblIn C 812 dL_law_33 (by omega) (by omega) (off := 779) (by rw [hv]; decide +kernel) (by decide) ?_
        exact law_case_20 l G mu nu C hX i h8 hL z hz hm kk
      · refine m_tblIn C 835 dL_law_33 (by omega) (by omega) (off := 802) (by rw [hv]; decide +kernel) (by decide) ?_
        exact law_case_21 l G mu nu C hX i h8 hL z hz hm kk
      · refine m_tblIn C 848 dL_law_33 (by omega) (by omega) (off := 815) (by rw [hv]; decide +kernel) (by decide) ?_
        exact law_case_22 l G mu nu C hX i h8 hL z hz hm kk
      · refine m_tblIn C 871 dL_law_33 (by omega) (by omega) (off := 838) (by rw [hv]; decide +kernel) (by decide) ?_
        exact law_case_23 l G mu nu C hX i h8 hL z hz hm kk
      · refine m_tblIn C 914 dL_law_33 (by omega) (by omega) (off := 881) (by rw [hv]; decide +kernel) (by decide) ?_
        exact law_case_24 l G mu nu C hX i h8 hL z hz hm kk
      · refine m_tblIn C 957 dL_law_33 (by omega) (by omega) (off := 924) (by rw [hv]; decide +kernel) (by decide) ?_
        exact law_case_25 l G mu nu C hX i h8 hL z hz hm kk
      · refine m_tblIn C 990 dL_law_33 (by omega) (by omega) (off := 957) (by rw [hv]; decide +kernel) (by decide) ?_
        exact law_case_26 l G mu nu C hX i h8 hL z hz hm kk
      · refine m_tblIn C 1023 dL_law_33 (by omega) (by omega) (off := 990) (by rw [hv]; decide +kernel) (by decide) ?_
        exact law_case_27 l G mu nu C hX i h8 hL z hz hm kk
      · refine m_tblIn C 1056 dL_law_33 (by omega) (by omega) (off := 1023) (by rw [hv]; decide +kernel) (by decide) ?_
        exact law_case_28 l G mu nu C hX i h8 hL z hz hm kk
      · refine m_tblIn C 1089 dL_law_33 (by omega) (by omega) (off := 1056) (by rw [hv]; decide +kernel) (by decide) ?_
        exact law_case_29 l G mu nu C hX i h8 hL z hz hm kk
      · refine m_tblIn C 1112 dL_law_33 (by omega) (by omega) (off := 1079) (by rw [hv]; decide +kernel) (by decide) ?_
        exact law_case_30 l G mu nu C hX i h8 hL z hz hm kk
      · refine m_tblIn C 1145 dL_law_33 (by omega) (by omega) (off := 1112) (by rw [hv]; decide +kernel) (by decide) ?_
        exact law_case_31 l G mu nu C hX i h8 hL z hz hm kk
      · refine m_tblIn C 1178 dL_law_33 (by omega) (by omega) (off := 1145) (by rw [hv]; decide +kernel) (by decide) ?_
        exact law_case_32 l G mu nu C hX i h8 hL z hz hm kk
      · refine m_tblIn C 1211 dL_law_33 (by omega) (by omega) (off := 1178) (by rw [hv]; decide +kernel) (by decide) ?_
        exact law_case_33 l G mu nu C hX i h8 hL z hz hm kk
      · refine m_tblIn C 1244 dL_law_33 (by omega) (by omega) (off := 1211) (by rw [hv]; decide +kernel) (by decide) ?_
        exact law_case_34 l G mu nu C hX i h8 hL z hz hm kk
      · refine m_tblIn C 1257 dL_law_33 (by omega) (by omega) (off := 1224) (by rw [hv]; decide +kernel) (by decide) ?_
        exact law_case_35 l G mu nu C hX i h8 hL z hz hm kk
      · refine m_tblIn C 1271 dL_law_33 (by omega) (by omega) (off := 1238) (by rw [hv]; decide +kernel) (by decide) ?_
        exact law_case_36 l G mu nu C hX i h8 hL z hz hm kk
      · refine m_tblIn C 1285 dL_law_33 (by omega) (by omega) (off := 1252) (by rw [hv]; decide +kernel) (by decide) ?_
        exact law_case_37 l G mu nu C hX i h8 hL z hz hm kk
      · refine m_tblIn C 1308 dL_law_33 (by omega) (by omega) (off := 1275) (by rw [hv]; decide +kernel) (by decide) ?_
        exact law_case_38 l G mu nu C hX i h8 hL z hz hm kk
      · refine m_tblIn C 1321 dL_law_33 (by omega) (by omega) (off := 1288) (by rw [hv]; decide +kernel) (by decide) ?_
        exact law_case_39 l G mu nu C hX i h8 hL z hz hm kk
      · refine m_tblIn C 1344 dL_law_33 (by omega) (by omega) (off := 1311) (by rw [hv]; decide +kernel) (by decide) ?_
        exact law_case_40 l G mu nu C hX i h8 hL z hz hm kk
theorem gv_at {args : Array Value} {s : State} (h : (Jvm.Cond.and given_1 narrow_1).before args s = true) {c : Cond} (i : Nat) (hc : (flatC (Jvm.Cond.and given_1 narrow_1))[i]? = some c) : c.before args s = true := flat_of_before _ h c (List.mem_of_getElem? hc)
theorem tb_at {args : Array Value} {s : State} (h : ∀ w ∈ lw_tbl, w.before args s = true) {c : Cond} (i : Nat) (hc : lw_tbl[i]? = some c) : c.before args s = true := h c (List.mem_of_getElem? hc)
set_option maxRecDepth 100000 in
theorem lw_N {args : Array Value} {s : State} (hts : ∀ w ∈ lw_tbl, w.before args s = true) (hgv : (Jvm.Cond.and given_1 narrow_1).before args s = true) : g_N s := by
  refine ⟨fun w hw => va_Nw.of (A := args) (by have := (List.mem_filter.mp hw).2; cases w <;> first | rfl | (simp [nw_kind] at this; done)) (hts w (List.mem_filter.mp hw).1), ?_⟩
  exact List.forall_mem_cons.mpr ⟨va_Nc.of (gv_at hgv 26 rfl), List.forall_mem_cons.mpr ⟨va_Nc.of (gv_at hgv 27 rfl), List.forall_mem_cons.mpr ⟨va_Nc.of (gv_at hgv 28 rfl), List.forall_mem_cons.mpr ⟨va_Nc.of (gv_at hgv 29 rfl), List.forall_mem_cons.mpr ⟨va_Nc.of (gv_at hgv 36 rfl), List.forall_mem_cons.mpr ⟨va_Nc.of (gv_at hgv 37 rfl), List.forall_mem_cons.mpr ⟨va_Nc.of (gv_at hgv 38 rfl), List.forall_mem_cons.mpr ⟨va_Nc.of (gv_at hgv 39 rfl), List.forall_mem_cons.mpr ⟨va_Nc.of (gv_at hgv 46 rfl), List.forall_mem_cons.mpr ⟨va_Nc.of (gv_at hgv 47 rfl), List.forall_mem_cons.mpr ⟨va_Nc.of (gv_at hgv 48 rfl), List.forall_mem_cons.mpr ⟨va_Nc.of (gv_at hgv 49 rfl), List.forall_mem_cons.mpr ⟨va_Nc.of (gv_at hgv 50 rfl), List.forall_mem_cons.mpr ⟨va_Nc.of (gv_at hgv 57 rfl), List.forall_mem_cons.mpr ⟨va_Nc.of (gv_at hgv 58 rfl), List.forall_mem_cons.mpr ⟨va_Nc.of (gv_at hgv 59 rfl), List.forall_mem_cons.mpr ⟨va_Nc.of (gv_at hgv 60 rfl), List.forall_mem_cons.mpr ⟨va_Nc.of (gv_at hgv 61 rfl), List.forall_mem_cons.mpr ⟨va_Nc.of (gv_at hgv 68 rfl), List.forall_mem_cons.mpr ⟨va_Nc.of (gv_at hgv 69 rfl), List.forall_mem_cons.mpr ⟨va_Nc.of (gv_at hgv 70 rfl), List.forall_mem_cons.mpr ⟨va_Nc.of (gv_at hgv 71 rfl), List.forall_mem_cons.mpr ⟨va_Nc.of (gv_at hgv 72 rfl), fun _ h => absurd h List.not_mem_nil⟩⟩⟩⟩⟩⟩⟩⟩⟩⟩⟩⟩⟩⟩⟩⟩⟩⟩⟩⟩⟩⟩⟩
set_option maxRecDepth 100000 in
theorem lw_stat {args : Array Value} {s : State} (hts : ∀ w ∈ lw_tbl, w.before args s = true) (hgv : (Jvm.Cond.and given_1 narrow_1).before args s = true) : ∃ tL tT : Nat, (va_Z RX10 "LETTERS" "[I" (.ref tL) (fun q => s.heap.size ≤ q) s s.heap ∧ va_T .int tL 6 (fun j => .int (t_let j)) (fun q => s.heap.size ≤ q) s s.heap) ∧ va_Z RX10 "TENS" "[I" (.ref tT) (fun q => s.heap.size ≤ q) s s.heap ∧ va_T .int tT 8 (fun j => .int (nI (t_ten j))) (fun q => s.heap.size ≤ q) s s.heap := by
  have hA : ∀ a : Nat, a < s.heap.size → ¬ (fun q => s.heap.size ≤ q) a := fun a h => Nat.not_le.mpr h
  have hini : (Cond.initialized RX10).before args s = true := hts _ (List.mem_filter.mp izX10).1
  obtain ⟨tL, e1, hL⟩ := va_Tof (tm := .static RX10 "LETTERS" "[I") (N := 6) (f := fun j => .int (t_let j)) (by decide) (gv_at hgv 5 rfl) (va_eqt (gv_at hgv 6 rfl)) (fun j hj => by
    have h : j = 0 ∨ j = 1 ∨ j = 2 ∨ j = 3 ∨ j = 4 ∨ j = 5 := by omega
    rcases h with rfl | rfl | rfl | rfl | rfl | rfl
    · exact va_eqt (z := 114) (gv_at hgv 7 rfl)
    · exact va_eqt (z := 119) (gv_at hgv 8 rfl)
    · exact va_eqt (z := 116) (gv_at hgv 9 rfl)
    · exact va_eqt (z := 115) (gv_at hgv 10 rfl)
    · exact va_eqt (z := 98) (gv_at hgv 11 rfl)
    · exact va_eqt (z := 100) (gv_at hgv 12 rfl)
    ) hA
  obtain ⟨tT, e2, hT⟩ := va_Tof (tm := .static RX10 "TENS" "[I") (N := 8) (f := fun j => .int (nI (t_ten j))) (by decide) (gv_at hgv 14 rfl) (va_eqt (gv_at hgv 15 rfl)) (fun j hj => by
    have h : j = 0 ∨ j = 1 ∨ j = 2 ∨ j = 3 ∨ j = 4 ∨ j = 5 ∨ j = 6 ∨ j = 7 := by omega
    rcases h with rfl | rfl | rfl | rfl | rfl | rfl | rfl | rfl
    · exact (va_eqt (z := 1) (gv_at hgv 16 rfl)).trans (congrArg (fun q => some (Value.int q)) (show (1 : Int32) = nI (t_ten 0) from by decide +kernel))
    · exact (va_eqt (z := 10) (gv_at hgv 17 rfl)).trans (congrArg (fun q => some (Value.int q)) (show (10 : Int32) = nI (t_ten 1) from by decide +kernel))
    · exact (va_eqt (z := 100) (gv_at hgv 18 rfl)).trans (congrArg (fun q => some (Value.int q)) (show (100 : Int32) = nI (t_ten 2) from by decide +kernel))
    · exact (va_eqt (z := 1000) (gv_at hgv 19 rfl)).trans (congrArg (fun q => some (Value.int q)) (show (1000 : Int32) = nI (t_ten 3) from by decide +kernel))
    · exact (va_eqt (z := 10000) (gv_at hgv 20 rfl)).trans (congrArg (fun q => some (Value.int q)) (show (10000 : Int32) = nI (t_ten 4) from by decide +kernel))
    · exact (va_eqt (z := 100000) (gv_at hgv 21 rfl)).trans (congrArg (fun q => some (Value.int q)) (show (100000 : Int32) = nI (t_ten 5) from by decide +kernel))
    · exact (va_eqt (z := 1000000) (gv_at hgv 22 rfl)).trans (congrArg (fun q => some (Value.int q)) (show (1000000 : Int32) = nI (t_ten 6) from by decide +kernel))
    · exact (va_eqt (z := 10000000) (gv_at hgv 23 rfl)).trans (congrArg (fun q => some (Value.int q)) (show (10000000 : Int32) = nI (t_ten 7) from by decide +kernel))
    ) hA
  exact ⟨tL, tT, ⟨va_Zref (tb_at hts 345 rfl) hini e1 hA, hL⟩, va_Zref (tb_at hts 560 rfl) hini e2 hA, hT⟩
set_option maxRecDepth 100000 in
theorem lw_Kc {args : Array Value} {s : State} (hts : ∀ w ∈ lw_tbl, w.before args s = true) : ∃ D : va_G, ∀ (c : Nat) (q : vw_C), vwCl[c]? = some q → u_Kn s q.1 q.2.1 q.2.2 (D.1 c) (D.2 c) := by
  obtain ⟨c0, i0, h0⟩ := u_known (C := RX0) (T := TX0) (N := 8) (n := 8) hts niX0 (hts _ (List.mem_filter.mp kiX0).1)
  obtain ⟨c1, i1, h1⟩ := u_known (C := RX1) (T := TX1) (N := 0) (n := 0) hts niX1 (hts _ (List.mem_filter.mp kiX1).1)
  obtain ⟨c2, i2, h2⟩ := u_known (C := RX2) (T := TX2) (N := 0) (n := 0) hts niX2 (hts _ (List.mem_filter.mp kiX2).1)
  obtain ⟨c3, i3, h3⟩ := u_known (C := RX3) (T := TX3) (N := 0) (n := 0) hts niX3 (hts _ (List.mem_filter.mp kiX3).1)
  obtain ⟨c4, i4, h4⟩ := u_known (C := RX4) (T := TX4) (N := 4) (n := 4) hts niX4 (hts _ (List.mem_filter.mp kiX4).1)
  obtain ⟨c5, i5, h5⟩ := u_known (C := RX5) (T := TX5) (N := 7) (n := 7) hts niX5 (hts _ (List.mem_filter.mp kiX5).1)
  obtain ⟨c6, i6, h6⟩ := u_known (C := RX6) (T := TX6) (N := 0) (n := 0) hts niX6 (hts _ (List.mem_filter.mp kiX6).1)
  obtain ⟨c7, i7, h7⟩ := u_known (C := RX7) (T := TX7) (N := 2) (n := 2) hts niX7 (hts _ (List.mem_filter.mp kiX7).1)
  obtain ⟨c8, i8, h8⟩ := u_known (C := RX8) (T := TX8) (N := 0) (n := 0) hts niX8 (hts _ (List.mem_filter.mp kiX8).1)
  obtain ⟨c9, i9, h9⟩ := u_known (C := RX9) (T := TX9) (N := 0) (n := 0) hts niX9 (hts _ (List.mem_filter.mp kiX9).1)
  obtain ⟨c10, i10, h10⟩ := u_known (C := RX10) (T := TX10) (N := 13) (n := 13) hts niX10 (hts _ (List.mem_filter.mp kiX10).1)
  obtain ⟨c11, i11, h11⟩ := u_known (C := RX11) (T := TX11) (N := 24) (n := 24) hts niX11 (hts _ (List.mem_filter.mp kiX11).1)
  have h : ∀ k : Nat, ∃ (c : ClassId) (i : Nat → Nat), ∀ q : vw_C, vwCl[k]? = some q → u_Kn s q.1 q.2.1 q.2.2 c i := by
    intro k
    match k with
    | 0 => exact ⟨c0, i0, fun q hq => by cases hq; exact h0⟩
    | 1 => exact ⟨c1, i1, fun q hq => by cases hq; exact h1⟩
    | 2 => exact ⟨c2, i2, fun q hq => by cases hq; exact h2⟩
    | 3 => exact ⟨c3, i3, fun q hq => by cases hq; exact h3⟩
    | 4 => exact ⟨c4, i4, fun q hq => by cases hq; exact h4⟩
    | 5 => exact ⟨c5, i5, fun q hq => by cases hq; exact h5⟩
    | 6 => exact ⟨c6, i6, fun q hq => by cases hq; exact h6⟩
    | 7 => exact ⟨c7, i7, fun q hq => by cases hq; exact h7⟩
    | 8 => exact ⟨c8, i8, fun q hq => by cases hq; exact h8⟩
    | 9 => exact ⟨c9, i9, fun q hq => by cases hq; exact h9⟩
    | 10 => exact ⟨c10, i10, fun q hq => by cases hq; exact h10⟩
    | 11 => exact ⟨c11, i11, fun q hq => by cases hq; exact h11⟩
    | k + 12 => exact ⟨c0, i0, fun q hq => by simp [vwCl] at hq⟩
  exact ⟨(fun k => Classical.choose (h k), fun k => Classical.choose (Classical.choose_spec (h k))), fun c q hq => Classical.choose_spec (Classical.choose_spec (h c)) q hq⟩
theorem lw_ra {args : Array Value} {s : State} {C : String} (h : (Cond.arrayOver (.object C)).before args s = true) : ∃ c : ClassId, ArrOfT s c (.object C) ∧ va_RA s c (.object C) := by
  obtain ⟨comp, c, k, h1, h2, h3, h4, h5⟩ := Cond.arrayOver_spec h
  exact ⟨c, fun n z => ⟨(fun k h => by cases h), k, h3, comp, h4⟩, k, comp, h3, h4, h1, h5⟩
theorem lw_ri {args : Array Value} {s : State} (h : (Cond.arrayClass .int).before args s = true) : ∃ c : ClassId, ArrOfT s c .int ∧ va_RA s c .int := by
  obtain ⟨c, k, comp, h1, h2, h3⟩ := Cond.arrayClass_spec h
  exact ⟨c, fun n z => ⟨(fun k h => by cases h), k, h2, comp, h3⟩, h1⟩
set_option maxRecDepth 100000 in
theorem lw_K {args : Array Value} {s : State} (hts : ∀ w ∈ lw_tbl, w.before args s = true) : ∃ (D : va_G) (ids : Nat → ClassId), ∀ G : Gl, G.2.1 = D → G.2.2.1 = ids → va_K G.2.1 vwCl (g_tys G) s := by
  obtain ⟨D, hD⟩ := lw_Kc hts
  obtain ⟨a0, g0⟩ := lw_ri (hts _ (List.mem_filter.mp k_int).1)
  obtain ⟨a1, g1⟩ := lw_ra (C := RX7) (tb_at hts 84 rfl)
  obtain ⟨a2, g2⟩ := lw_ra (C := RX3) (tb_at hts 101 rfl)
  obtain ⟨a3, g3⟩ := lw_ra (C := RX4) (tb_at hts 144 rfl)
  obtain ⟨a4, g4⟩ := lw_ra (C := RX0) (tb_at hts 199 rfl)
  refine ⟨D, fun k => if k = 0 then a0 else if k = 1 then a1 else if k = 2 then a2 else if k = 3 then a3 else a4, fun G e1 e2 => ⟨by rw [e1]; exact hD, fun k q hq => ?_⟩⟩
  unfold g_tys at hq
  rw [e2] at hq
  match k, hq with
  | 0, hq => cases hq; exact g0
  | 1, hq => cases hq; exact g1
  | 2, hq => cases hq; exact g2
  | 3, hq => cases hq; exact g3
  | 4, hq => cases hq; exact g4
  | k + 5, hq => simp at hq
theorem lw_A {args : Array Value} {s : State} (hts : ∀ w ∈ lw_tbl, w.before args s = true) : g_A s := ⟨va_AO.of (A := args) (tb_at hts 84 rfl), va_AO.of (A := args) (tb_at hts 101 rfl), va_AO.of (A := args) (tb_at hts 144 rfl), va_AO.of (A := args) (tb_at hts 199 rfl)⟩
/-- the making is done: from here on over the memory -/
theorem k_out {l : Launch} {G : Gl} {nL : Nat} {Q : State → Prop} {pc : Nat} {lv : List (Nat × Value)} {st : List Value} {k z c1 c2 : Nat} {p : Program} {en : Env} {R : Room} {s : State} {m : MethodId} {args : Array Value} {below : List Frame} {meth : Method} {c : Code} (h0 : G.1 0 = s.heap.size) (h : Mq l G nL (p, en, R, s, m, args, below, meth, c, k, z) Q pc lv st mu0 nu0) : Mk l G nL (p, en, R, s, m, args, below, meth, c, c1, c2) Q pc lv st k z 79 (Fz G) := by
  intro H locs ls hP hS hl
  refine va_forget (fun q hq => ?_) (h H [] ls hP.1 ⟨hS.1, fun q h1 h2 => hS.2.1 q h1 (fun z => ?_), fun q hq => absurd hq List.not_mem_nil⟩ hl)
  · have := hS.2.2 q hq
    unfold Kb at this
    omega
  · unfold Kb at z
    omega
