abbrev eB (G : Gl) (fs : List Value) : Nat → va_E := up_e (Fz G) 0 (.inr (10, fs))
abbrev eA (G : Gl) (fs : List Value) (a t N : Nat) (f : Nat → Option Nat) (r : Nat) : Nat → va_E := up_e (eB G fs) a (g_ra G t N (fun i => if i < r then f i else none))
theorem kb_new {G : Gl} {fs : List Value} {a t N : Nat} {f : Nat → Option Nat} : up_e (eB G fs) a (g_ra G t N (fun _ => none)) = eA G fs a t N f 0 := by
  have h : (fun _ => none : Nat → Option Nat) = fun i => if i < 0 then f i else none := by
    funext i
    rw [if_neg (Nat.not_lt_zero i)]
  show up_e _ _ (g_ra G t N _) = up_e _ _ (g_ra G t N _)
  rw [h]
theorem kb_put {G : Gl} {fs fs2 : List Value} {a t N r : Nat} {f : Nat → Option Nat} (h : 0 ≠ a) : up_e (eA G fs a t N f r) 0 (.inr (10, fs2)) = eA G fs2 a t N f r := up_e_sw h
theorem kb_st {f : Nat → Option Nat} {r v : Nat} (h : f r = some v) : va_up (fun i => if i < r then f i else none) r (some v) = fun i => if i < r + 1 then f i else none := by
  funext i
  unfold va_up
  by_cases h1 : i = r
  · subst h1
    rw [if_pos rfl, if_pos (Nat.lt_succ_self i), h]
  · rw [if_neg h1]
    show (if i < r then f i else none) = _
    by_cases h2 : i < r
    · rw [if_pos h2, if_pos (by omega)]
    · rw [if_neg h2, if_neg (by omega)]
theorem up_n2 {e : Nat → va_E} {c m : Nat} {a b d : va_E} (hne : c ≠ m) (h1 : e c = d) (h2 : e m = b) : up_e (up_e (up_e e c a) m b) c d = e := by
  rw [up_e_3 hne, up_e_self h2, up_e_self h1]
theorem up_e_cm {e : Nat → va_E} {c m : Nat} {a b : va_E} (hne : c ≠ m) : up_e (up_e e c a) m b = up_e (up_e e m b) c a := by
  funext i
  by_cases h : i = m
  · subst h; rw [up_e_eq, up_e_ne (fun q => hne q.symm), up_e_eq]
  · rw [up_e_ne h]
    by_cases h2 : i = c
    · subst h2; rw [up_e_eq, up_e_eq]
    · rw [up_e_ne h2, up_e_ne h2, up_e_ne h]
theorem up_n4 {e : Nat → va_E} {c m1 m2 m3 : Nat} {a b1 b2 b3 d : va_E} (n1 : c ≠ m1) (n2 : c ≠ m2) (n3 : c ≠ m3) (h : e c = d) (g1 : e m1 = b1) (g2 : e m2 = b2) (g3 : e m3 = b3) : up_e (up_e (up_e (up_e (up_e e c a) m1 b1) m2 b2) m3 b3) c d = e := by
  rw [up_e_cm n1, up_e_self g1, up_e_cm n2, up_e_self g2, up_e_cm n3, up_e_self g3, up_e_up, up_e_self h]
theorem up_n5 {e : Nat → va_E} {c m1 m2 m3 m4 : Nat} {a b1 b2 b3 b4 d : va_E} (n1 : c ≠ m1) (n2 : c ≠ m2) (n3 : c ≠ m3) (n4 : c ≠ m4) (h : e c = d) (g1 : e m1 = b1) (g2 : e m2 = b2) (g3 : e m3 = b3) (g4 : e m4 = b4) : up_e (up_e (up_e (up_e (up_e (up_e e c a) m1 b1) m2 b2) m3 b3) m4 b4) c d = e := by
  rw [up_e_cm n1, up_e_self g1, up_e_cm n2, up_e_self g2, up_e_cm n3, up_e_self g3, up_e_cm n4, up_e_self g4, up_e_up, up_e_self h]
set_option maxHeartbeats 4000000 in
set_option maxRecDepth 100000 in
theorem c_X10_init (l : Launch) (G : Gl)  : Ck l G mX10_init 6 63 1248 [.ref (G.1 0)] 1 (eB G [.null, .null, .null, .null, .int 0, .null, .null, .null, .int 0, .long 0, .long 0, .int 0, .null]) 64 (Fz G) := by
  refine Ck.of (lv := [(0, .ref (G.1 0))]) rfl rfl (Nat.le_of_ble_eq_true rfl) rfl (fun X C => ?_)
  generalize hQ : k_E G X _ _ _ _ = Q
  replace C : Cy G 2 X cX10_init RX10 none 6 "<init>" 63 1248 := C
  show Mk l G 2 X Q 0 [(0, .ref (G.1 0))] [] 0 0 1 (eB G [.null, .null, .null, .null, .int 0, .null, .null, .null, .int 0, .long 0, .long 0, .int 0, .null])
  refine k_aload_n C 0 dX10_init_0 rfl ?_
  refine k_objInit C koX10_1 (by decide) (Nat.le_of_ble_eq_true rfl) dX10_init_1 ?_
  refine k_aload_n C 0 dX10_init_4 rfl ?_
  refine k_bipush C 6 dX10_init_5 (by decide +kernel) ?_
  refine k_newq C 1 6 rfl (fun U h => h.1) (by decide +kernel) (by decide) wlX10_9 (2) 1 6 rfl rfl rfl (Nat.le_of_ble_eq_true rfl) (Nat.le_of_ble_eq_true rfl) dX10_init_7 ?_
  refine k_to (e2 := eA G [.null, .null, .null, .null, .int 0, .null, .null, .null, .int 0, .long 0, .long 0, .int 0, .null] 1 1 6 (fun i => some (G.1 (2 + 2 * i))) 0) kb_new ?_
  refine k_putF C 0 (Nat.le_of_ble_eq_true rfl) ((up_e_ne (by decide)).trans up_e_eq) rfl nuX10 0 (by decide) rfl wfX10_11 tyX10 tyX10_ok nmX10 rfl rfl (ty := (.array (.object RX7))) (by decide +kernel) rfl rfl (Nat.le_of_ble_eq_true rfl) [.ref (G.1 1), .null, .null, .null, .int 0, .null, .null, .null, .int 0, .long 0, .long 0, .int 0, .null] rfl dX10_init_10 ?_
  refine k_to (e2 := eA G [.ref (G.1 1), .null, .null, .null, .int 0, .null, .null, .null, .int 0, .long 0, .long 0, .int 0, .null] 1 1 6 (fun i => some (G.1 (2 + 2 * i))) 0) (kb_put (by decide)) ?_
  refine k_iconst C 0 dX10_init_13 (by decide +kernel) ?_
  refine k_istore_n C [(1, .int 0), (0, .ref (G.1 0))] dX10_init_14 (by decide) rfl ?_
  refine k_iload_n C 0 dX10_init_15 rfl ?_
  refine k_bipush C 6 dX10_init_16 (by decide +kernel) ?_
  refine k_icmp_geF C 40 dX10_init_18 (by decide) (by decide) ?_
  refine k_aload_n C 1 dX10_init_21 rfl ?_
  refine k_get C 0 (Nat.le_of_ble_eq_true rfl) ((up_e_ne (by decide)).trans up_e_eq) rfl nuX10 0 (by decide) rfl wfX10_11 rfl dX10_init_22 ?_
  refine k_iload_n C 0 dX10_init_25 rfl ?_
  refine k_new C [.null, .int 0] tyX7 tyX7_ok (ci := 7) rfl nuX7 (by decide +kernel) wlX10_9 kiX7 izX7 (3) 2 8 rfl rfl rfl (Nat.le_of_ble_eq_true rfl) (Nat.le_of_ble_eq_true rfl) dX10_init_26 ?_
  refine k_dup C dX10_init_29 rfl ?_
  refine k_callIN C 2 (4) 3 68 (c_X7_init l G 3 2 (up_e (eA G [.ref (G.1 1), .null, .null, .null, .int 0, .null, .null, .null, .int 0, .long 0, .long 0, .int 0, .null] 1 1 6 (fun i => some (G.1 (2 + 2 * i))) 0) 2 (.inr (7, [.null, .int 0]))) (by decide) up_e_eq) kkX10_15 (by decide) rfl rfl (Nat.le_of_ble_eq_true rfl) rfl rfl (Nat.le_of_ble_eq_true rfl) (Nat.le_of_ble_eq_true rfl) dX10_init_30 ?_
  refine k_to (e2 := eA G [.ref (G.1 1), .null, .null, .null, .int 0, .null, .null, .null, .int 0, .long 0, .long 0, .int 0, .null] 1 1 6 (fun i => some (G.1 (2 + 2 * i))) 0) (up_n2 (by decide) rfl rfl) ?_
  refine k_aast C 1 1 2 7 rfl (by decide) (by decide) up_e_eq rfl rfl 0 (by decide +kernel) (by decide) (by decide) (fun i => if i < 1 then (fun i => some (G.1 (2 + 2 * i))) i else none) (kb_st rfl) dX10_init_33 ?_
  refine k_to (e2 := eA G [.ref (G.1 1), .null, .null, .null, .int 0, .null, .null, .null, .int 0, .long 0, .long 0, .int 0, .null] 1 1 6 (fun i => some (G.1 (2 + 2 * i))) 1) up_e_up ?_
  refine k_iinc C 0 1 [(1, .int 1), (0, .ref (G.1 0))] dX10_init_34 rfl (by decide +kernel) (by decide) rfl ?_
  refine k_goto C 15 dX10_init_37 (by decide) ?_
  refine k_iload_n C 0 dX10_init_15 rfl ?_
  refine k_bipush C 6 dX10_init_16 (by decide +kernel) ?_
  refine k_icmp_geF C 40 dX10_init_18 (by decide) (by decide) ?_
  refine k_aload_n C 1 dX10_init_21 rfl ?_
  refine k_get C 0 (Nat.le_of_ble_eq_true rfl) ((up_e_ne (by decide)).trans up_e_eq) rfl nuX10 0 (by decide) rfl wfX10_11 rfl dX10_init_22 ?_
  refine k_iload_n C 0 dX10_init_25 rfl ?_
  refine k_new C [.null, .int 0] tyX7 tyX7_ok (ci := 7) rfl nuX7 (by decide +kernel) wlX10_9 kiX7 izX7 (5) 4 70 rfl rfl rfl (Nat.le_of_ble_eq_true rfl) (Nat.le_of_ble_eq_true rfl) dX10_init_26 ?_
  refine k_dup C dX10_init_29 rfl ?_
  refine k_callIN C 4 (6) 5 130 (c_X7_init l G 5 4 (up_e (eA G [.ref (G.1 1), .null, .null, .null, .int 0, .null, .null, .null, .int 0, .long 0, .long 0, .int 0, .null] 1 1 6 (fun i => some (G.1 (2 + 2 * i))) 1) 4 (.inr (7, [.null, .int 0]))) (by decide) up_e_eq) kkX10_15 (by decide) rfl rfl (Nat.le_of_ble_eq_true rfl) rfl rfl (Nat.le_of_ble_eq_true rfl) (Nat.le_of_ble_eq_true rfl) dX10_init_30 ?_
  refine k_to (e2 := eA G [.ref (G.1 1), .null, .null, .null, .int 0, .null, .null, .null, .int 0, .long 0, .long 0, .int 0, .null] 1 1 6 (fun i => some (G.1 (2 + 2 * i))) 1) (up_n2 (by decide) rfl rfl) ?_
  refine k_aast C 1 1 4 7 rfl (by decide) (by decide) up_e_eq rfl rfl 1 (by decide +kernel) (by decide) (by decide) (fun i => if i < 2 then (fun i => some (G.1 (2 + 2 * i))) i else none) (kb_st rfl) dX10_init_33 ?_
  refine k_to (e2 := eA G [.ref (G.1 1), .null, .null, .null, .int 0, .null, .null, .null, .int 0, .long 0, .long 0, .int 0, .null] 1 1 6 (fun i => some (G.1 (2 + 2 * i))) 2) up_e_up ?_
  refine k_iinc C 0 2 [(1, .int 2), (0, .ref (G.1 0))] dX10_init_34 rfl (by decide +kernel) (by decide) rfl ?_
  refine k_goto C 15 dX10_init_37 (by decide) ?_
  refine k_iload_n C 0 dX10_init_15 rfl ?_
  refine k_bipush C 6 dX10_init_16 (by decide +kernel) ?_
  refine k_icmp_geF C 40 dX10_init_18 (by decide) (by decide) ?_
  refine k_aload_n C 1 dX10_init_21 rfl ?_
  refine k_get C 0 (Nat.le_of_ble_eq_true rfl) ((up_e_ne (by decide)).trans up_e_eq) rfl nuX10 0 (by decide) rfl wfX10_11 rfl dX10_init_22 ?_
  refine k_iload_n C 0 dX10_init_25 rfl ?_
  refine k_new C [.null, .int 0] tyX7 tyX7_ok (ci := 7) rfl nuX7 (by decide +kernel) wlX10_9 kiX7 izX7 (7) 6 132 rfl rfl rfl (Nat.le_of_ble_eq_true rfl) (Nat.le_of_ble_eq_true rfl) dX10_init_26 ?_
  refine k_dup C dX10_init_29 rfl ?_
  refine k_callIN C 6 (8) 7 192 (c_X7_init l G 7 6 (up_e (eA G [.ref (G.1 1), .null, .null, .null, .int 0, .null, .null, .null, .int 0, .long 0, .long 0, .int 0, .null] 1 1 6 (fun i => some (G.1 (2 + 2 * i))) 2) 6 (.inr (7, [.null, .int 0]))) (by decide) up_e_eq) kkX10_15 (by decide) rfl rfl (Nat.le_of_ble_eq_true rfl) rfl rfl (Nat.le_of_ble_eq_true rfl) (Nat.le_of_ble_eq_true rfl) dX10_init_30 ?_
  refine k_to (e2 := eA G [.ref (G.1 1), .null, .null, .null, .int 0, .null, .null, .null, .int 0, .long 0, .long 0, .int 0, .null] 1 1 6 (fun i => some (G.1 (2 + 2 * i))) 2) (up_n2 (by decide) rfl rfl) ?_
  refine k_aast C 1 1 6 7 rfl (by decide) (by decide) up_e_eq rfl rfl 2 (by decide +kernel) (by decide) (by decide) (fun i => if i < 3 then (fun i => some (G.1 (2 + 2 * i))) i else none) (kb_st rfl) dX10_init_33 ?_
  refine k_to (e2 := eA G [.ref (G.1 1), .null, .null, .null, .int 0, .null, .null, .null, .int 0, .long 0, .long 0, .int 0, .null] 1 1 6 (fun i => some (G.1 (2 + 2 * i))) 3) up_e_up ?_
  refine k_iinc C 0 3 [(1, .int 3), (0, .ref (G.1 0))] dX10_init_34 rfl (by decide +kernel) (by decide) rfl ?_
  refine k_goto C 15 dX10_init_37 (by decide) ?_
  refine k_iload_n C 0 dX10_init_15 rfl ?_
  refine k_bipush C 6 dX10_init_16 (by decide +kernel) ?_
  refine k_icmp_geF C 40 dX10_init_18 (by decide) (by decide) ?_
  refine k_aload_n C 1 dX10_init_21 rfl ?_
  refine k_get C 0 (Nat.le_of_ble_eq_true rfl) ((up_e_ne (by decide)).trans up_e_eq) rfl nuX10 0 (by decide) rfl wfX10_11 rfl dX10_init_22 ?_
  refine k_iload_n C 0 dX10_init_25 rfl ?_
  refine k_new C [.null, .int 0] tyX7 tyX7_ok (ci := 7) rfl nuX7 (by decide +kernel) wlX10_9 kiX7 izX7 (9) 8 194 rfl rfl rfl (Nat.le_of_ble_eq_true rfl) (Nat.le_of_ble_eq_true rfl) dX10_init_26 ?_
  refine k_dup C dX10_init_29 rfl ?_
  refine k_callIN C 8 (10) 9 254 (c_X7_init l G 9 8 (up_e (eA G [.ref (G.1 1), .null, .null, .null, .int 0, .null, .null, .null, .int 0, .long 0, .long 0, .int 0, .null] 1 1 6 (fun i => some (G.1 (2 + 2 * i))) 3) 8 (.inr (7, [.null, .int 0]))) (by decide) up_e_eq) kkX10_15 (by decide) rfl rfl (Nat.le_of_ble_eq_true rfl) rfl rfl (Nat.le_of_ble_eq_true rfl) (Nat.le_of_ble_eq_true rfl) dX10_init_30 ?_
  refine k_to (e2 := eA G [.ref (G.1 1), .null, .null, .null, .int 0, .null, .null, .null, .int 0, .long 0, .long 0, .int 0, .null] 1 1 6 (fun i => some (G.1 (2 + 2 * i))) 3) (up_n2 (by decide) rfl rfl) ?_
  refine k_aast C 1 1 8 7 rfl (by decide) (by decide) up_e_eq rfl rfl 3 (by decide +kernel) (by decide) (by decide) (fun i => if i < 4 then (fun i => some (G.1 (2 + 2 * i))) i else none) (kb_st rfl) dX10_init_33 ?_
  refine k_to (e2 := eA G [.ref (G.1 1), .null, .null, .null, .int 0, .null, .null, .null, .int 0, .long 0, .long 0, .int 0, .null] 1 1 6 (fun i => some (G.1 (2 + 2 * i))) 4) up_e_up ?_
  refine k_iinc C 0 4 [(1, .int 4), (0, .ref (G.1 0))] dX10_init_34 rfl (by decide +kernel) (by decide) rfl ?_
  refine k_goto C 15 dX10_init_37 (by decide) ?_
  refine k_iload_n C 0 dX10_init_15 rfl ?_
  refine k_bipush C 6 dX10_init_16 (by decide +kernel) ?_
  refine k_icmp_geF C 40 dX10_init_18 (by decide) (by decide) ?_
  refine k_aload_n C 1 dX10_init_21 rfl ?_
  refine k_get C 0 (Nat.le_of_ble_eq_true rfl) ((up_e_ne (by decide)).trans up_e_eq) rfl nuX10 0 (by decide) rfl wfX10_11 rfl dX10_init_22 ?_
  refine k_iload_n C 0 dX10_init_25 rfl ?_
  refine k_new C [.null, .int 0] tyX7 tyX7_ok (ci := 7) rfl nuX7 (by decide +kernel) wlX10_9 kiX7 izX7 (11) 10 256 rfl rfl rfl (Nat.le_of_ble_eq_true rfl) (Nat.le_of_ble_eq_true rfl) dX10_init_26 ?_
  refine k_dup C dX10_init_29 rfl ?_
  refine k_callIN C 10 (12) 11 316 (c_X7_init l G 11 10 (up_e (eA G [.ref (G.1 1), .null, .null, .null, .int 0, .null, .null, .null, .int 0, .long 0, .long 0, .int 0, .null] 1 1 6 (fun i => some (G.1 (2 + 2 * i))) 4) 10 (.inr (7, [.null, .int 0]))) (by decide) up_e_eq) kkX10_15 (by decide) rfl rfl (Nat.le_of_ble_eq_true rfl) rfl rfl (Nat.le_of_ble_eq_true rfl) (Nat.le_of_ble_eq_true rfl) dX10_init_30 ?_
  refine k_to (e2 := eA G [.ref (G.1 1), .null, .null, .null, .int 0, .null, .null, .null, .int 0, .long 0, .long 0, .int 0, .null] 1 1 6 (fun i => some (G.1 (2 + 2 * i))) 4) (up_n2 (by decide) rfl rfl) ?_
  refine k_aast C 1 1 10 7 rfl (by decide) (by decide) up_e_eq rfl rfl 4 (by decide +kernel) (by decide) (by decide) (fun i => if i < 5 then (fun i => some (G.1 (2 + 2 * i))) i else none) (kb_st rfl) dX10_init_33 ?_
  refine k_to (e2 := eA G [.ref (G.1 1), .null, .null, .null, .int 0, .null, .null, .null, .int 0, .long 0, .long 0, .int 0, .null] 1 1 6 (fun i => some (G.1 (2 + 2 * i))) 5) up_e_up ?_
  refine k_iinc C 0 5 [(1, .int 5), (0, .ref (G.1 0))] dX10_init_34 rfl (by decide +kernel) (by decide) rfl ?_
  refine k_goto C 15 dX10_init_37 (by decide) ?_
  refine k_iload_n C 0 dX10_init_15 rfl ?_
  refine k_bipush C 6 dX10_init_16 (by decide +kernel) ?_
  refine k_icmp_geF C 40 dX10_init_18 (by decide) (by decide) ?_
  refine k_aload_n C 1 dX10_init_21 rfl ?_
  refine k_get C 0 (Nat.le_of_ble_eq_true rfl) ((up_e_ne (by decide)).trans up_e_eq) rfl nuX10 0 (by decide) rfl wfX10_11 rfl dX10_init_22 ?_
  refine k_iload_n C 0 dX10_init_25 rfl ?_
  refine k_new C [.null, .int 0] tyX7 tyX7_ok (ci := 7) rfl nuX7 (by decide +kernel) wlX10_9 kiX7 izX7 (13) 12 318 rfl rfl rfl (Nat.le_of_ble_eq_true rfl) (Nat.le_of_ble_eq_true rfl) dX10_init_26 ?_
  refine k_dup C dX10_init_29 rfl ?_
  refine k_callIN C 12 (14) 13 378 (c_X7_init l G 13 12 (up_e (eA G [.ref (G.1 1), .null, .null, .null, .int 0, .null, .null, .null, .int 0, .long 0, .long 0, .int 0, .null] 1 1 6 (fun i => some (G.1 (2 + 2 * i))) 5) 12 (.inr (7, [.null, .int 0]))) (by decide) up_e_eq) kkX10_15 (by decide) rfl rfl (Nat.le_of_ble_eq_true rfl) rfl rfl (Nat.le_of_ble_eq_true rfl) (Nat.le_of_ble_eq_true rfl) dX10_init_30 ?_
  refine k_to (e2 := eA G [.ref (G.1 1), .null, .null, .null, .int 0, .null, .null, .null, .int 0, .long 0, .long 0, .int 0, .null] 1 1 6 (fun i => some (G.1 (2 + 2 * i))) 5) (up_n2 (by decide) rfl rfl) ?_
  refine k_aast C 1 1 12 7 rfl (by decide) (by decide) up_e_eq rfl rfl 5 (by decide +kernel) (by decide) (by decide) (fun i => if i < 6 then (fun i => some (G.1 (2 + 2 * i))) i else none) (kb_st rfl) dX10_init_33 ?_
  refine k_to (e2 := eA G [.ref (G.1 1), .null, .null, .null, .int 0, .null, .null, .null, .int 0, .long 0, .long 0, .int 0, .null] 1 1 6 (fun i => some (G.1 (2 + 2 * i))) 6) up_e_up ?_
  refine k_arr 1 (by decide) (f2 := (fun i => some (G.1 (2 + 2 * i)))) up_e_eq (fun j h => if_pos h) ?_
  refine k_to (e2 := eB G [.ref (G.1 1), .null, .null, .null, .int 0, .null, .null, .null, .int 0, .long 0, .long 0, .int 0, .null]) (up_e_up.trans (up_e_self rfl)) ?_
  refine k_iinc C 0 6 [(1, .int 6), (0, .ref (G.1 0))] dX10_init_34 rfl (by decide +kernel) (by decide) rfl ?_
  refine k_goto C 15 dX10_init_37 (by decide) ?_
  refine k_iload_n C 0 dX10_init_15 rfl ?_
  refine k_bipush C 6 dX10_init_16 (by decide +kernel) ?_
  refine k_icmp_geT C 40 dX10_init_18 (by decide) (by decide) ?_
  refine k_aload_n C 1 dX10_init_40 rfl ?_
  refine k_iconst C 4 dX10_init_41 (by decide +kernel) ?_
  refine k_newq C 1 4 rfl (fun U h => h.1) (by decide +kernel) (by decide) wlX10_9 (15) 14 382 rfl rfl rfl (Nat.le_of_ble_eq_true rfl) (Nat.le_of_ble_eq_true rfl) dX10_init_42 ?_
  refine k_to (e2 := eA G [.ref (G.1 1), .null, .null, .null, .int 0, .null, .null, .null, .int 0, .long 0, .long 0, .int 0, .null] 14 1 4 (fun i => some (G.1 (15 + 2 * i))) 0) kb_new ?_
  refine k_putF C 0 (Nat.le_of_ble_eq_true rfl) ((up_e_ne (by decide)).trans up_e_eq) rfl nuX10 1 (by decide) rfl wfX10_16 tyX10 tyX10_ok nmX10 rfl rfl (ty := (.array (.object RX7))) (by decide +kernel) rfl rfl (Nat.le_of_ble_eq_true rfl) [.ref (G.1 1), .ref (G.1 14), .null, .null, .int 0, .null, .null, .null, .int 0, .long 0, .long 0, .int 0, .null] rfl dX10_init_45 ?_
  refine k_to (e2 := eA G [.ref (G.1 1), .ref (G.1 14), .null, .null, .int 0, .null, .null, .null, .int 0, .long 0, .long 0, .int 0, .null] 14 1 4 (fun i => some (G.1 (15 + 2 * i))) 0) (kb_put (by decide)) ?_
  refine k_iconst C 0 dX10_init_48 (by decide +kernel) ?_
  refine k_istore_n C [(1, .int 0), (0, .ref (G.1 0))] dX10_init_49 (by decide) rfl ?_
  refine k_iload_n C 0 dX10_init_50 rfl ?_
  refine k_iconst C 4 dX10_init_51 (by decide +kernel) ?_
  refine k_icmp_geF C 74 dX10_init_52 (by decide) (by decide) ?_
  refine k_aload_n C 1 dX10_init_55 rfl ?_
  refine k_get C 0 (Nat.le_of_ble_eq_true rfl) ((up_e_ne (by decide)).trans up_e_eq) rfl nuX10 1 (by decide) rfl wfX10_16 rfl dX10_init_56 ?_
  refine k_iload_n C 0 dX10_init_59 rfl ?_
  refine k_new C [.null, .int 0] tyX7 tyX7_ok (ci := 7) rfl nuX7 (by decide +kernel) wlX10_9 kiX7 izX7 (16) 15 384 rfl rfl rfl (Nat.le_of_ble_eq_true rfl) (Nat.le_of_ble_eq_true rfl) dX10_init_60 ?_
  refine k_dup C dX10_init_63 rfl ?_
  refine k_callIN C 15 (17) 16 444 (c_X7_init l G 16 15 (up_e (eA G [.ref (G.1 1), .ref (G.1 14), .null, .null, .int 0, .null, .null, .null, .int 0, .long 0, .long 0, .int 0, .null] 14 1 4 (fun i => some (G.1 (15 + 2 * i))) 0) 15 (.inr (7, [.null, .int 0]))) (by decide) up_e_eq) kkX10_15 (by decide) rfl rfl (Nat.le_of_ble_eq_true rfl) rfl rfl (Nat.le_of_ble_eq_true rfl) (Nat.le_of_ble_eq_true rfl) dX10_init_64 ?_
  refine k_to (e2 := eA G [.ref (G.1 1), .ref (G.1 14), .null, .null, .int 0, .null, .null, .null, .int 0, .long 0, .long 0, .int 0, .null] 14 1 4 (fun i => some (G.1 (15 + 2 * i))) 0) (up_n2 (by decide) rfl rfl) ?_
  refine k_aast C 14 1 15 7 rfl (by decide) (by decide) up_e_eq rfl rfl 0 (by decide +kernel) (by decide) (by decide) (fun i => if i < 1 then (fun i => some (G.1 (15 + 2 * i))) i else none) (kb_st rfl) dX10_init_67 ?_
  refine k_to (e2 := eA G [.ref (G.1 1), .ref (G.1 14), .null, .null, .int 0, .null, .null, .null, .int 0, .long 0, .long 0, .int 0, .null] 14 1 4 (fun i => some (G.1 (15 + 2 * i))) 1) up_e_up ?_
  refine k_iinc C 0 1 [(1, .int 1), (0, .ref (G.1 0))] dX10_init_68 rfl (by decide +kernel) (by decide) rfl ?_
  refine k_goto C 50 dX10_init_71 (by decide) ?_
  refine k_iload_n C 0 dX10_init_50 rfl ?_
  refine k_iconst C 4 dX10_init_51 (by decide +kernel) ?_
  refine k_icmp_geF C 74 dX10_init_52 (by decide) (by decide) ?_
  refine k_aload_n C 1 dX10_init_55 rfl ?_
  refine k_get C 0 (Nat.le_of_ble_eq_true rfl) ((up_e_ne (by decide)).trans up_e_eq) rfl nuX10 1 (by decide) rfl wfX10_16 rfl dX10_init_56 ?_
  refine k_iload_n C 0 dX10_init_59 rfl ?_
  refine k_new C [.null, .int 0] tyX7 tyX7_ok (ci := 7) rfl nuX7 (by decide +kernel) wlX10_9 kiX7 izX7 (18) 17 446 rfl rfl rfl (Nat.le_of_ble_eq_true rfl) (Nat.le_of_ble_eq_true rfl) dX10_init_60 ?_
  refine k_dup C dX10_init_63 rfl ?_
  refine k_callIN C 17 (19) 18 506 (c_X7_init l G 18 17 (up_e (eA G [.ref (G.1 1), .ref (G.1 14), .null, .null, .int 0, .null, .null, .null, .int 0, .long 0, .long 0, .int 0, .null] 14 1 4 (fun i => some (G.1 (15 + 2 * i))) 1) 17 (.inr (7, [.null, .int 0]))) (by decide) up_e_eq) kkX10_15 (by decide) rfl rfl (Nat.le_of_ble_eq_true rfl) rfl rfl (Nat.le_of_ble_eq_true rfl) (Nat.le_of_ble_eq_true rfl) dX10_init_64 ?_
  refine k_to (e2 := eA G [.ref (G.1 1), .ref (G.1 14), .null, .null, .int 0, .null, .null, .null, .int 0, .long 0, .long 0, .int 0, .null] 14 1 4 (fun i => some (G.1 (15 + 2 * i))) 1) (up_n2 (by decide) rfl rfl) ?_
  refine k_aast C 14 1 17 7 rfl (by decide) (by decide) up_e_eq rfl rfl 1 (by decide +kernel) (by decide) (by decide) (fun i => if i < 2 then (fun i => some (G.1 (15 + 2 * i))) i else none) (kb_st rfl) dX10_init_67 ?_
  refine k_to (e2 := eA G [.ref (G.1 1), .ref (G.1 14), .null, .null, .int 0, .null, .null, .null, .int 0, .long 0, .long 0, .int 0, .null] 14 1 4 (fun i => some (G.1 (15 + 2 * i))) 2) up_e_up ?_
  refine k_iinc C 0 2 [(1, .int 2), (0, .ref (G.1 0))] dX10_init_68 rfl (by decide +kernel) (by decide) rfl ?_
  refine k_goto C 50 dX10_init_71 (by decide) ?_
  refine k_iload_n C 0 dX10_init_50 rfl ?_
  refine k_iconst C 4 dX10_init_51 (by decide +kernel) ?_
  refine k_icmp_geF C 74 dX10_init_52 (by decide) (by decide) ?_
  refine k_aload_n C 1 dX10_init_55 rfl ?_
  refine k_get C 0 (Nat.le_of_ble_eq_true rfl) ((up_e_ne (by decide)).trans up_e_eq) rfl nuX10 1 (by decide) rfl wfX10_16 rfl dX10_init_56 ?_
  refine k_iload_n C 0 dX10_init_59 rfl ?_
  refine k_new C [.null, .int 0] tyX7 tyX7_ok (ci := 7) rfl nuX7 (by decide +kernel) wlX10_9 kiX7 izX7 (20) 19 508 rfl rfl rfl (Nat.le_of_ble_eq_true rfl) (Nat.le_of_ble_eq_true rfl) dX10_init_60 ?_
  refine k_dup C dX10_init_63 rfl ?_
  refine k_callIN C 19 (21) 20 568 (c_X7_init l G 20 19 (up_e (eA G [.ref (G.1 1), .ref (G.1 14), .null, .null, .int 0, .null, .null, .null, .int 0, .long 0, .long 0, .int 0, .null] 14 1 4 (fun i => some (G.1 (15 + 2 * i))) 2) 19 (.inr (7, [.null, .int 0]))) (by decide) up_e_eq) kkX10_15 (by decide) rfl rfl (Nat.le_of_ble_eq_true rfl) rfl rfl (Nat.le_of_ble_eq_true rfl) (Nat.le_of_ble_eq_true rfl) dX10_init_64 ?_
  refine k_to (e2 := eA G [.ref (G.1 1), .ref (G.1 14), .null, .null, .int 0, .null, .null, .null, .int 0, .long 0, .long 0, .int 0, .null] 14 1 4 (fun i => some (G.1 (15 + 2 * i))) 2) (up_n2 (by decide) rfl rfl) ?_
  refine k_aast C 14 1 19 7 rfl (by decide) (by decide) up_e_eq rfl rfl 2 (by decide +kernel) (by decide) (by decide) (fun i => if i < 3 then (fun i => some (G.1 (15 + 2 * i))) i else none) (kb_st rfl) dX10_init_67 ?_
  refine k_to (e2 := eA G [.ref (G.1 1), .ref (G.1 14), .null, .null, .int 0, .null, .null, .null, .int 0, .long 0, .long 0, .int 0, .null] 14 1 4 (fun i => some (G.1 (15 + 2 * i))) 3) up_e_up ?_
  refine k_iinc C 0 3 [(1, .int 3), (0, .ref (G.1 0))] dX10_init_68 rfl (by decide +kernel) (by decide) rfl ?_
  refine k_goto C 50 dX10_init_71 (by decide) ?_
  refine k_iload_n C 0 dX10_init_50 rfl ?_
  refine k_iconst C 4 dX10_init_51 (by decide +kernel) ?_
  refine k_icmp_geF C 74 dX10_init_52 (by decide) (by decide) ?_
  refine k_aload_n C 1 dX10_init_55 rfl ?_
  refine k_get C 0 (Nat.le_of_ble_eq_true rfl) ((up_e_ne (by decide)).trans up_e_eq) rfl nuX10 1 (by decide) rfl wfX10_16 rfl dX10_init_56 ?_
  refine k_iload_n C 0 dX10_init_59 rfl ?_
  refine k_new C [.null, .int 0] tyX7 tyX7_ok (ci := 7) rfl nuX7 (by decide +kernel) wlX10_9 kiX7 izX7 (22) 21 570 rfl rfl rfl (Nat.le_of_ble_eq_true rfl) (Nat.le_of_ble_eq_true rfl) dX10_init_60 ?_
  refine k_dup C dX10_init_63 rfl ?_
  refine k_callIN C 21 (23) 22 630 (c_X7_init l G 22 21 (up_e (eA G [.ref (G.1 1), .ref (G.1 14), .null, .null, .int 0, .null, .null, .null, .int 0, .long 0, .long 0, .int 0, .null] 14 1 4 (fun i => some (G.1 (15 + 2 * i))) 3) 21 (.inr (7, [.null, .int 0]))) (by decide) up_e_eq) kkX10_15 (by decide) rfl rfl (Nat.le_of_ble_eq_true rfl) rfl rfl (Nat.le_of_ble_eq_true rfl) (Nat.le_of_ble_eq_true rfl) dX10_init_64 ?_
  refine k_to (e2 := eA G [.ref (G.1 1), .ref (G.1 14), .null, .null, .int 0, .null, .null, .null, .int 0, .long 0, .long 0, .int 0, .null] 14 1 4 (fun i => some (G.1 (15 + 2 * i))) 3) (up_n2 (by decide) rfl rfl) ?_
  refine k_aast C 14 1 21 7 rfl (by decide) (by decide) up_e_eq rfl rfl 3 (by decide +kernel) (by decide) (by decide) (fun i => if i < 4 then (fun i => some (G.1 (15 + 2 * i))) i else none) (kb_st rfl) dX10_init_67 ?_
  refine k_to (e2 := eA G [.ref (G.1 1), .ref (G.1 14), .null, .null, .int 0, .null, .null, .null, .int 0, .long 0, .long 0, .int 0, .null] 14 1 4 (fun i => some (G.1 (15 + 2 * i))) 4) up_e_up ?_
  refine k_arr 14 (by decide) (f2 := (fun i => some (G.1 (15 + 2 * i)))) up_e_eq (fun j h => if_pos h) ?_
  refine k_to (e2 := eB G [.ref (G.1 1), .ref (G.1 14), .null, .null, .int 0, .null, .null, .null, .int 0, .long 0, .long 0, .int 0, .null]) (up_e_up.trans (up_e_self rfl)) ?_
  refine k_iinc C 0 4 [(1, .int 4), (0, .ref (G.1 0))] dX10_init_68 rfl (by decide +kernel) (by decide) rfl ?_
  refine k_goto C 50 dX10_init_71 (by decide) ?_
  refine k_iload_n C 0 dX10_init_50 rfl ?_
  refine k_iconst C 4 dX10_init_51 (by decide +kernel) ?_
  refine k_icmp_geT C 74 dX10_init_52 (by decide) (by decide) ?_
  refine k_aload_n C 1 dX10_init_74 rfl ?_
  refine k_bipush C 6 dX10_init_75 (by decide +kernel) ?_
  refine k_newq C 2 6 rfl (fun U h => h.2.1) (by decide +kernel) (by decide) wlX10_19 (24) 23 636 rfl rfl rfl (Nat.le_of_ble_eq_true rfl) (Nat.le_of_ble_eq_true rfl) dX10_init_77 ?_
  refine k_to (e2 := eA G [.ref (G.1 1), .ref (G.1 14), .null, .null, .int 0, .null, .null, .null, .int 0, .long 0, .long 0, .int 0, .null] 23 2 6 (fun i => some (G.1 (24 + i))) 0) kb_new ?_
  refine k_putF C 0 (Nat.le_of_ble_eq_true rfl) ((up_e_ne (by decide)).trans up_e_eq) rfl nuX10 2 (by decide) rfl wfX10_21 tyX10 tyX10_ok nmX10 rfl rfl (ty := (.array (.object RX3))) (by decide +kernel) rfl rfl (Nat.le_of_ble_eq_true rfl) [.ref (G.1 1), .ref (G.1 14), .ref (G.1 23), .null, .int 0, .null, .null, .null, .int 0, .long 0, .long 0, .int 0, .null] rfl dX10_init_80 ?_
  refine k_to (e2 := eA G [.ref (G.1 1), .ref (G.1 14), .ref (G.1 23), .null, .int 0, .null, .null, .null, .int 0, .long 0, .long 0, .int 0, .null] 23 2 6 (fun i => some (G.1 (24 + i))) 0) (kb_put (by decide)) ?_
  refine k_aload_n C 1 dX10_init_83 rfl ?_
  refine k_get C 0 (Nat.le_of_ble_eq_true rfl) ((up_e_ne (by decide)).trans up_e_eq) rfl nuX10 2 (by decide) rfl wfX10_21 rfl dX10_init_84 ?_
  refine k_iconst C 0 dX10_init_87 (by decide +kernel) ?_
  refine k_new C [] tyX3 tyX3_ok (ci := 3) rfl nuX3 (by decide +kernel) wlX10_19 kiX3 izX3 (25) 24 636 rfl rfl rfl (Nat.le_of_ble_eq_true rfl) (Nat.le_of_ble_eq_true rfl) dX10_init_88 ?_
  refine k_dup C dX10_init_91 rfl ?_
  refine k_callIN C 24 (25) 24 636 (c_X3_init l G 25 24 (up_e (eA G [.ref (G.1 1), .ref (G.1 14), .ref (G.1 23), .null, .int 0, .null, .null, .null, .int 0, .long 0, .long 0, .int 0, .null] 23 2 6 (fun i => some (G.1 (24 + i))) 0) 24 (.inr (3, [])))) kkX10_25 (by decide) rfl rfl (Nat.le_of_ble_eq_true rfl) rfl rfl (Nat.le_of_ble_eq_true rfl) (Nat.le_of_ble_eq_true rfl) dX10_init_92 ?_
  refine k_to (e2 := eA G [.ref (G.1 1), .ref (G.1 14), .ref (G.1 23), .null, .int 0, .null, .null, .null, .int 0, .long 0, .long 0, .int 0, .null] 23 2 6 (fun i => some (G.1 (24 + i))) 0) (up_e_self rfl) ?_
  refine k_aast C 23 2 24 3 rfl (by decide) (by decide) up_e_eq rfl rfl 0 (by decide +kernel) (by decide) (by decide) (fun i => if i < 1 then (fun i => some (G.1 (24 + i))) i else none) (kb_st rfl) dX10_init_95 ?_
  refine k_to (e2 := eA G [.ref (G.1 1), .ref (G.1 14), .ref (G.1 23), .null, .int 0, .null, .null, .null, .int 0, .long 0, .long 0, .int 0, .null] 23 2 6 (fun i => some (G.1 (24 + i))) 1) up_e_up ?_
  refine k_aload_n C 1 dX10_init_96 rfl ?_
  refine k_get C 0 (Nat.le_of_ble_eq_true rfl) ((up_e_ne (by decide)).trans up_e_eq) rfl nuX10 2 (by decide) rfl wfX10_21 rfl dX10_init_97 ?_
  refine k_iconst C 1 dX10_init_100 (by decide +kernel) ?_
  refine k_new C [] tyX9 tyX9_ok (ci := 9) rfl nuX9 (by decide +kernel) wlX10_26 kiX9 izX9 (26) 25 636 rfl rfl rfl (Nat.le_of_ble_eq_true rfl) (Nat.le_of_ble_eq_true rfl) dX10_init_101 ?_
  refine k_dup C dX10_init_104 rfl ?_
  refine k_callIN C 25 (26) 25 636 (c_X9_init l G 26 25 (up_e (eA G [.ref (G.1 1), .ref (G.1 14), .ref (G.1 23), .null, .int 0, .null, .null, .null, .int 0, .long 0, .long 0, .int 0, .null] 23 2 6 (fun i => some (G.1 (24 + i))) 1) 25 (.inr (9, [])))) kkX10_28 (by decide) rfl rfl (Nat.le_of_ble_eq_true rfl) rfl rfl (Nat.le_of_ble_eq_true rfl) (Nat.le_of_ble_eq_true rfl) dX10_init_105 ?_
  refine k_to (e2 := eA G [.ref (G.1 1), .ref (G.1 14), .ref (G.1 23), .null, .int 0, .null, .null, .null, .int 0, .long 0, .long 0, .int 0, .null] 23 2 6 (fun i => some (G.1 (24 + i))) 1) (up_e_self rfl) ?_
  refine k_aastO C 23 2 25 9 rfl wyX9_X3 (by decide) (by decide) up_e_eq rfl rfl 1 (by decide +kernel) (by decide) (by decide) (fun i => if i < 2 then (fun i => some (G.1 (24 + i))) i else none) (kb_st rfl) dX10_init_108 ?_
  refine k_to (e2 := eA G [.ref (G.1 1), .ref (G.1 14), .ref (G.1 23), .null, .int 0, .null, .null, .null, .int 0, .long 0, .long 0, .int 0, .null] 23 2 6 (fun i => some (G.1 (24 + i))) 2) up_e_up ?_
  refine k_aload_n C 1 dX10_init_109 rfl ?_
  refine k_get C 0 (Nat.le_of_ble_eq_true rfl) ((up_e_ne (by decide)).trans up_e_eq) rfl nuX10 2 (by decide) rfl wfX10_21 rfl dX10_init_110 ?_
  refine k_iconst C 2 dX10_init_113 (by decide +kernel) ?_
  refine k_new C [] tyX8 tyX8_ok (ci := 8) rfl nuX8 (by decide +kernel) wlX10_29 kiX8 izX8 (27) 26 636 rfl rfl rfl (Nat.le_of_ble_eq_true rfl) (Nat.le_of_ble_eq_true rfl) dX10_init_114 ?_
  refine k_dup C dX10_init_117 rfl ?_
  refine k_callIN C 26 (27) 26 636 (c_X8_init l G 27 26 (up_e (eA G [.ref (G.1 1), .ref (G.1 14), .ref (G.1 23), .null, .int 0, .null, .null, .null, .int 0, .long 0, .long 0, .int 0, .null] 23 2 6 (fun i => some (G.1 (24 + i))) 2) 26 (.inr (8, [])))) kkX10_31 (by decide) rfl rfl (Nat.le_of_ble_eq_true rfl) rfl rfl (Nat.le_of_ble_eq_true rfl) (Nat.le_of_ble_eq_true rfl) dX10_init_118 ?_
  refine k_to (e2 := eA G [.ref (G.1 1), .ref (G.1 14), .ref (G.1 23), .null, .int 0, .null, .null, .null, .int 0, .long 0, .long 0, .int 0, .null] 23 2 6 (fun i => some (G.1 (24 + i))) 2) (up_e_self rfl) ?_
  refine k_aastO C 23 2 26 8 rfl wyX8_X3 (by decide) (by decide) up_e_eq rfl rfl 2 (by decide +kernel) (by decide) (by decide) (fun i => if i < 3 then (fun i => some (G.1 (24 + i))) i else none) (kb_st rfl) dX10_init_121 ?_
  refine k_to (e2 := eA G [.ref (G.1 1), .ref (G.1 14), .ref (G.1 23), .null, .int 0, .null, .null, .null, .int 0, .long 0, .long 0, .int 0, .null] 23 2 6 (fun i => some (G.1 (24 + i))) 3) up_e_up ?_
  refine k_aload_n C 1 dX10_init_122 rfl ?_
  refine k_get C 0 (Nat.le_of_ble_eq_true rfl) ((up_e_ne (by decide)).trans up_e_eq) rfl nuX10 2 (by decide) rfl wfX10_21 rfl dX10_init_123 ?_
  refine k_iconst C 3 dX10_init_126 (by decide +kernel) ?_
  refine k_new C [] tyX6 tyX6_ok (ci := 6) rfl nuX6 (by decide +kernel) wlX10_32 kiX6 izX6 (28) 27 636 rfl rfl rfl (Nat.le_of_ble_eq_true rfl) (Nat.le_of_ble_eq_true rfl) dX10_init_127 ?_
  refine k_dup C dX10_init_130 rfl ?_
  refine k_callIN C 27 (28) 27 636 (c_X6_init l G 28 27 (up_e (eA G [.ref (G.1 1), .ref (G.1 14), .ref (G.1 23), .null, .int 0, .null, .null, .null, .int 0, .long 0, .long 0, .int 0, .null] 23 2 6 (fun i => some (G.1 (24 + i))) 3) 27 (.inr (6, [])))) kkX10_34 (by decide) rfl rfl (Nat.le_of_ble_eq_true rfl) rfl rfl (Nat.le_of_ble_eq_true rfl) (Nat.le_of_ble_eq_true rfl) dX10_init_131 ?_
  refine k_to (e2 := eA G [.ref (G.1 1), .ref (G.1 14), .ref (G.1 23), .null, .int 0, .null, .null, .null, .int 0, .long 0, .long 0, .int 0, .null] 23 2 6 (fun i => some (G.1 (24 + i))) 3) (up_e_self rfl) ?_
  refine k_aastO C 23 2 27 6 rfl wyX6_X3 (by decide) (by decide) up_e_eq rfl rfl 3 (by decide +kernel) (by decide) (by decide) (fun i => if i < 4 then (fun i => some (G.1 (24 + i))) i else none) (kb_st rfl) dX10_init_134 ?_
  refine k_to (e2 := eA G [.ref (G.1 1), .ref (G.1 14), .ref (G.1 23), .null, .int 0, .null, .null, .null, .int 0, .long 0, .long 0, .int 0, .null] 23 2 6 (fun i => some (G.1 (24 + i))) 4) up_e_up ?_
  refine k_aload_n C 1 dX10_init_135 rfl ?_
  refine k_get C 0 (Nat.le_of_ble_eq_true rfl) ((up_e_ne (by decide)).trans up_e_eq) rfl nuX10 2 (by decide) rfl wfX10_21 rfl dX10_init_136 ?_
  refine k_iconst C 4 dX10_init_139 (by decide +kernel) ?_
  refine k_new C [] tyX1 tyX1_ok (ci := 1) rfl nuX1 (by decide +kernel) wlX10_35 kiX1 izX1 (29) 28 636 rfl rfl rfl (Nat.le_of_ble_eq_true rfl) (Nat.le_of_ble_eq_true rfl) dX10_init_140 ?_
  refine k_dup C dX10_init_143 rfl ?_
  refine k_callIN C 28 (29) 28 636 (c_X1_init l G 29 28 (up_e (eA G [.ref (G.1 1), .ref (G.1 14), .ref (G.1 23), .null, .int 0, .null, .null, .null, .int 0, .long 0, .long 0, .int 0, .null] 23 2 6 (fun i => some (G.1 (24 + i))) 4) 28 (.inr (1, [])))) kkX10_37 (by decide) rfl rfl (Nat.le_of_ble_eq_true rfl) rfl rfl (Nat.le_of_ble_eq_true rfl) (Nat.le_of_ble_eq_true rfl) dX10_init_144 ?_
  refine k_to (e2 := eA G [.ref (G.1 1), .ref (G.1 14), .ref (G.1 23), .null, .int 0, .null, .null, .null, .int 0, .long 0, .long 0, .int 0, .null] 23 2 6 (fun i => some (G.1 (24 + i))) 4) (up_e_self rfl) ?_
  refine k_aastO C 23 2 28 1 rfl wyX1_X3 (by decide) (by decide) up_e_eq rfl rfl 4 (by decide +kernel) (by decide) (by decide) (fun i => if i < 5 then (fun i => some (G.1 (24 + i))) i else none) (kb_st rfl) dX10_init_147 ?_
  refine k_to (e2 := eA G [.ref (G.1 1), .ref (G.1 14), .ref (G.1 23), .null, .int 0, .null, .null, .null, .int 0, .long 0, .long 0, .int 0, .null] 23 2 6 (fun i => some (G.1 (24 + i))) 5) up_e_up ?_
  refine k_aload_n C 1 dX10_init_148 rfl ?_
  refine k_get C 0 (Nat.le_of_ble_eq_true rfl) ((up_e_ne (by decide)).trans up_e_eq) rfl nuX10 2 (by decide) rfl wfX10_21 rfl dX10_init_149 ?_
  refine k_iconst C 5 dX10_init_152 (by decide +kernel) ?_
  refine k_new C [] tyX2 tyX2_ok (ci := 2) rfl nuX2 (by decide +kernel) wlX10_38 kiX2 izX2 (30) 29 636 rfl rfl rfl (Nat.le_of_ble_eq_true rfl) (Nat.le_of_ble_eq_true rfl) dX10_init_153 ?_
  refine k_dup C dX10_init_156 rfl ?_
  refine k_callIN C 29 (30) 29 636 (c_X2_init l G 30 29 (up_e (eA G [.ref (G.1 1), .ref (G.1 14), .ref (G.1 23), .null, .int 0, .null, .null, .null, .int 0, .long 0, .long 0, .int 0, .null] 23 2 6 (fun i => some (G.1 (24 + i))) 5) 29 (.inr (2, [])))) kkX10_40 (by decide) rfl rfl (Nat.le_of_ble_eq_true rfl) rfl rfl (Nat.le_of_ble_eq_true rfl) (Nat.le_of_ble_eq_true rfl) dX10_init_157 ?_
  refine k_to (e2 := eA G [.ref (G.1 1), .ref (G.1 14), .ref (G.1 23), .null, .int 0, .null, .null, .null, .int 0, .long 0, .long 0, .int 0, .null] 23 2 6 (fun i => some (G.1 (24 + i))) 5) (up_e_self rfl) ?_
  refine k_aastO C 23 2 29 2 rfl wyX2_X3 (by decide) (by decide) up_e_eq rfl rfl 5 (by decide +kernel) (by decide) (by decide) (fun i => if i < 6 then (fun i => some (G.1 (24 + i))) i else none) (kb_st rfl) dX10_init_160 ?_
  refine k_to (e2 := eA G [.ref (G.1 1), .ref (G.1 14), .ref (G.1 23), .null, .int 0, .null, .null, .null, .int 0, .long 0, .long 0, .int 0, .null] 23 2 6 (fun i => some (G.1 (24 + i))) 6) up_e_up ?_
  refine k_arr 23 (by decide) (f2 := (fun i => some (G.1 (24 + i)))) up_e_eq (fun j h => if_pos h) ?_
  refine k_to (e2 := eB G [.ref (G.1 1), .ref (G.1 14), .ref (G.1 23), .null, .int 0, .null, .null, .null, .int 0, .long 0, .long 0, .int 0, .null]) (up_e_up.trans (up_e_self rfl)) ?_
  refine k_aload_n C 1 dX10_init_161 rfl ?_
  refine k_bipush C 7 dX10_init_162 (by decide +kernel) ?_
  refine k_newq C 3 7 rfl (fun U h => h.2.2.1) (by decide +kernel) (by decide) wlX10_41 (31) 30 643 rfl rfl rfl (Nat.le_of_ble_eq_true rfl) (Nat.le_of_ble_eq_true rfl) dX10_init_164 ?_
  refine k_to (e2 := eA G [.ref (G.1 1), .ref (G.1 14), .ref (G.1 23), .null, .int 0, .null, .null, .null, .int 0, .long 0, .long 0, .int 0, .null] 30 3 7 (fun i => some (G.1 (31 + i))) 0) kb_new ?_
  refine k_putF C 0 (Nat.le_of_ble_eq_true rfl) ((up_e_ne (by decide)).trans up_e_eq) rfl nuX10 3 (by decide) rfl wfX10_43 tyX10 tyX10_ok nmX10 rfl rfl (ty := (.array (.object RX4))) (by decide +kernel) rfl rfl (Nat.le_of_ble_eq_true rfl) [.ref (G.1 1), .ref (G.1 14), .ref (G.1 23), .ref (G.1 30), .int 0, .null, .null, .null, .int 0, .long 0, .long 0, .int 0, .null] rfl dX10_init_167 ?_
  refine k_to (e2 := eA G [.ref (G.1 1), .ref (G.1 14), .ref (G.1 23), .ref (G.1 30), .int 0, .null, .null, .null, .int 0, .long 0, .long 0, .int 0, .null] 30 3 7 (fun i => some (G.1 (31 + i))) 0) (kb_put (by decide)) ?_
  refine k_iconst C 0 dX10_init_170 (by decide +kernel) ?_
  refine k_istore_n C [(1, .int 0), (0, .ref (G.1 0))] dX10_init_171 (by decide) rfl ?_
  refine k_iload_n C 0 dX10_init_172 rfl ?_
  refine k_bipush C 7 dX10_init_173 (by decide +kernel) ?_
  refine k_icmp_geF C 203 dX10_init_175 (by decide) (by decide) ?_
  refine k_aload_n C 1 dX10_init_178 rfl ?_
  refine k_get C 0 (Nat.le_of_ble_eq_true rfl) ((up_e_ne (by decide)).trans up_e_eq) rfl nuX10 3 (by decide) rfl wfX10_43 rfl dX10_init_179 ?_
  refine k_iload_n C 0 dX10_init_182 rfl ?_
  refine k_new C [.null, .int 0, .int 0, .int 0] tyX4 tyX4_ok (ci := 4) rfl nuX4 (by decide +kernel) wlX10_41 kiX4 izX4 (32) 31 647 rfl rfl rfl (Nat.le_of_ble_eq_true rfl) (Nat.le_of_ble_eq_true rfl) dX10_init_183 ?_
  refine k_dup C dX10_init_186 rfl ?_
  refine k_aload_n C 1 dX10_init_187 rfl ?_
  refine k_get C 0 (Nat.le_of_ble_eq_true rfl) ((up_e_ne (by decide)).trans ((up_e_ne (by decide)).trans up_e_eq)) rfl nuX10 2 (by decide) rfl wfX10_21 rfl dX10_init_188 ?_
  refine k_iconst C 0 dX10_init_191 (by decide +kernel) ?_
  refine k_aald C 23 2 rfl (by decide) (f := (fun i => some (G.1 (24 + i)))) rfl 0 (G.1 24) (by decide +kernel) (by decide) (by decide) rfl dX10_init_192 ?_
  refine k_callI C 31 (32) 31 647 (c_X4_init l G 32 31 24 (up_e (eA G [.ref (G.1 1), .ref (G.1 14), .ref (G.1 23), .ref (G.1 30), .int 0, .null, .null, .null, .int 0, .long 0, .long 0, .int 0, .null] 30 3 7 (fun i => some (G.1 (31 + i))) 0) 31 (.inr (4, [.null, .int 0, .int 0, .int 0]))) (by decide) up_e_eq) kkX10_47 (by decide) rfl rfl (Nat.le_of_ble_eq_true rfl) rfl rfl (Nat.le_of_ble_eq_true rfl) (Nat.le_of_ble_eq_true rfl) dX10_init_193 ?_
  refine k_to (e2 := eA G [.ref (G.1 1), .ref (G.1 14), .ref (G.1 23), .ref (G.1 30), .int 0, .null, .null, .null, .int 0, .long 0, .long 0, .int 0, .null] 30 3 7 (fun i => some (G.1 (31 + i))) 0) (up_e_up.trans (up_e_self ((up_e_ne (by decide)).trans ((up_e_ne (by decide)).trans (f_rod (i := 0) (by decide)))))) ?_
  refine k_aast C 30 3 31 4 rfl (by decide) (by decide) up_e_eq rfl rfl 0 (by decide +kernel) (by decide) (by decide) (fun i => if i < 1 then (fun i => some (G.1 (31 + i))) i else none) (kb_st rfl) dX10_init_196 ?_
  refine k_to (e2 := eA G [.ref (G.1 1), .ref (G.1 14), .ref (G.1 23), .ref (G.1 30), .int 0, .null, .null, .null, .int 0, .long 0, .long 0, .int 0, .null] 30 3 7 (fun i => some (G.1 (31 + i))) 1) up_e_up ?_
  refine k_iinc C 0 1 [(1, .int 1), (0, .ref (G.1 0))] dX10_init_197 rfl (by decide +kernel) (by decide) rfl ?_
  refine k_goto C 172 dX10_init_200 (by decide) ?_
  refine k_iload_n C 0 dX10_init_172 rfl ?_
  refine k_bipush C 7 dX10_init_173 (by decide +kernel) ?_
  refine k_icmp_geF C 203 dX10_init_175 (by decide) (by decide) ?_
  refine k_aload_n C 1 dX10_init_178 rfl ?_
  refine k_get C 0 (Nat.le_of_ble_eq_true rfl) ((up_e_ne (by decide)).trans up_e_eq) rfl nuX10 3 (by decide) rfl wfX10_43 rfl dX10_init_179 ?_
  refine k_iload_n C 0 dX10_init_182 rfl ?_
  refine k_new C [.null, .int 0, .int 0, .int 0] tyX4 tyX4_ok (ci := 4) rfl nuX4 (by decide +kernel) wlX10_41 kiX4 izX4 (33) 32 651 rfl rfl rfl (Nat.le_of_ble_eq_true rfl) (Nat.le_of_ble_eq_true rfl) dX10_init_183 ?_
  refine k_dup C dX10_init_186 rfl ?_
  refine k_aload_n C 1 dX10_init_187 rfl ?_
  refine k_get C 0 (Nat.le_of_ble_eq_true rfl) ((up_e_ne (by decide)).trans ((up_e_ne (by decide)).trans up_e_eq)) rfl nuX10 2 (by decide) rfl wfX10_21 rfl dX10_init_188 ?_
  refine k_iconst C 0 dX10_init_191 (by decide +kernel) ?_
  refine k_aald C 23 2 rfl (by decide) (f := (fun i => some (G.1 (24 + i)))) rfl 0 (G.1 24) (by decide +kernel) (by decide) (by decide) rfl dX10_init_192 ?_
  refine k_callI C 32 (33) 32 651 (c_X4_init l G 33 32 24 (up_e (eA G [.ref (G.1 1), .ref (G.1 14), .ref (G.1 23), .ref (G.1 30), .int 0, .null, .null, .null, .int 0, .long 0, .long 0, .int 0, .null] 30 3 7 (fun i => some (G.1 (31 + i))) 1) 32 (.inr (4, [.null, .int 0, .int 0, .int 0]))) (by decide) up_e_eq) kkX10_47 (by decide) rfl rfl (Nat.le_of_ble_eq_true rfl) rfl rfl (Nat.le_of_ble_eq_true rfl) (Nat.le_of_ble_eq_true rfl) dX10_init_193 ?_
  refine k_to (e2 := eA G [.ref (G.1 1), .ref (G.1 14), .ref (G.1 23), .ref (G.1 30), .int 0, .null, .null, .null, .int 0, .long 0, .long 0, .int 0, .null] 30 3 7 (fun i => some (G.1 (31 + i))) 1) (up_e_up.trans (up_e_self ((up_e_ne (by decide)).trans ((up_e_ne (by decide)).trans (f_rod (i := 1) (by decide)))))) ?_
  refine k_aast C 30 3 32 4 rfl (by decide) (by decide) up_e_eq rfl rfl 1 (by decide +kernel) (by decide) (by decide) (fun i => if i < 2 then (fun i => some (G.1 (31 + i))) i else none) (kb_st rfl) dX10_init_196 ?_
  refine k_to (e2 := eA G [.ref (G.1 1), .ref (G.1 14), .ref (G.1 23), .ref (G.1 30), .int 0, .null, .null, .null, .int 0, .long 0, .long 0, .int 0, .null] 30 3 7 (fun i => some (G.1 (31 + i))) 2) up_e_up ?_
  refine k_iinc C 0 2 [(1, .int 2), (0, .ref (G.1 0))] dX10_init_197 rfl (by decide +kernel) (by decide) rfl ?_
  refine k_goto C 172 dX10_init_200 (by decide) ?_
  refine k_iload_n C 0 dX10_init_172 rfl ?_
  refine k_bipush C 7 dX10_init_173 (by decide +kernel) ?_
  refine k_icmp_geF C 203 dX10_init_175 (by decide) (by decide) ?_
  refine k_aload_n C 1 dX10_init_178 rfl ?_
  refine k_get C 0 (Nat.le_of_ble_eq_true rfl) ((up_e_ne (by decide)).trans up_e_eq) rfl nuX10 3 (by decide) rfl wfX10_43 rfl dX10_init_179 ?_
  refine k_iload_n C 0 dX10_init_182 rfl ?_
  refine k_new C [.null, .int 0, .int 0, .int 0] tyX4 tyX4_ok (ci := 4) rfl nuX4 (by decide +kernel) wlX10_41 kiX4 izX4 (34) 33 655 rfl rfl rfl (Nat.le_of_ble_eq_true rfl) (Nat.le_of_ble_eq_true rfl) dX10_init_183 ?_
  refine k_dup C dX10_init_186 rfl ?_
  refine k_aload_n C 1 dX10_init_187 rfl ?_
  refine k_get C 0 (Nat.le_of_ble_eq_true rfl) ((up_e_ne (by decide)).trans ((up_e_ne (by decide)).trans up_e_eq)) rfl nuX10 2 (by decide) rfl wfX10_21 rfl dX10_init_188 ?_
  refine k_iconst C 0 dX10_init_191 (by decide +kernel) ?_
  refine k_aald C 23 2 rfl (by decide) (f := (fun i => some (G.1 (24 + i)))) rfl 0 (G.1 24) (by decide +kernel) (by decide) (by decide) rfl dX10_init_192 ?_
  refine k_callI C 33 (34) 33 655 (c_X4_init l G 34 33 24 (up_e (eA G [.ref (G.1 1), .ref (G.1 14), .ref (G.1 23), .ref (G.1 30), .int 0, .null, .null, .null, .int 0, .long 0, .long 0, .int 0, .null] 30 3 7 (fun i => some (G.1 (31 + i))) 2) 33 (.inr (4, [.null, .int 0, .int 0, .int 0]))) (by decide) up_e_eq) kkX10_47 (by decide) rfl rfl (Nat.le_of_ble_eq_true rfl) rfl rfl (Nat.le_of_ble_eq_true rfl) (Nat.le_of_ble_eq_true rfl) dX10_init_193 ?_
  refine k_to (e2 := eA G [.ref (G.1 1), .ref (G.1 14), .ref (G.1 23), .ref (G.1 30), .int 0, .null, .null, .null, .int 0, .long 0, .long 0, .int 0, .null] 30 3 7 (fun i => some (G.1 (31 + i))) 2) (up_e_up.trans (up_e_self ((up_e_ne (by decide)).trans ((up_e_ne (by decide)).trans (f_rod (i := 2) (by decide)))))) ?_
  refine k_aast C 30 3 33 4 rfl (by decide) (by decide) up_e_eq rfl rfl 2 (by decide +kernel) (by decide) (by decide) (fun i => if i < 3 then (fun i => some (G.1 (31 + i))) i else none) (kb_st rfl) dX10_init_196 ?_
  refine k_to (e2 := eA G [.ref (G.1 1), .ref (G.1 14), .ref (G.1 23), .ref (G.1 30), .int 0, .null, .null, .null, .int 0, .long 0, .long 0, .int 0, .null] 30 3 7 (fun i => some (G.1 (31 + i))) 3) up_e_up ?_
  refine k_iinc C 0 3 [(1, .int 3), (0, .ref (G.1 0))] dX10_init_197 rfl (by decide +kernel) (by decide) rfl ?_
  refine k_goto C 172 dX10_init_200 (by decide) ?_
  refine k_iload_n C 0 dX10_init_172 rfl ?_
  refine k_bipush C 7 dX10_init_173 (by decide +kernel) ?_
  refine k_icmp_geF C 203 dX10_init_175 (by decide) (by decide) ?_
  refine k_aload_n C 1 dX10_init_178 rfl ?_
  refine k_get C 0 (Nat.le_of_ble_eq_true rfl) ((up_e_ne (by decide)).trans up_e_eq) rfl nuX10 3 (by decide) rfl wfX10_43 rfl dX10_init_179 ?_
  refine k_iload_n C 0 dX10_init_182 rfl ?_
  refine k_new C [.null, .int 0, .int 0, .int 0] tyX4 tyX4_ok (ci := 4) rfl nuX4 (by decide +kernel) wlX10_41 kiX4 izX4 (35) 34 659 rfl rfl rfl (Nat.le_of_ble_eq_true rfl) (Nat.le_of_ble_eq_true rfl) dX10_init_183 ?_
  refine k_dup C dX10_init_186 rfl ?_
  refine k_aload_n C 1 dX10_init_187 rfl ?_
  refine k_get C 0 (Nat.le_of_ble_eq_true rfl) ((up_e_ne (by decide)).trans ((up_e_ne (by decide)).trans up_e_eq)) rfl nuX10 2 (by decide) rfl wfX10_21 rfl dX10_init_188 ?_
  refine k_iconst C 0 dX10_init_191 (by decide +kernel) ?_
  refine k_aald C 23 2 rfl (by decide) (f := (fun i => some (G.1 (24 + i)))) rfl 0 (G.1 24) (by decide +kernel) (by decide) (by decide) rfl dX10_init_192 ?_
  refine k_callI C 34 (35) 34 659 (c_X4_init l G 35 34 24 (up_e (eA G [.ref (G.1 1), .ref (G.1 14), .ref (G.1 23), .ref (G.1 30), .int 0, .null, .null, .null, .int 0, .long 0, .long 0, .int 0, .null] 30 3 7 (fun i => some (G.1 (31 + i))) 3) 34 (.inr (4, [.null, .int 0, .int 0, .int 0]))) (by decide) up_e_eq) kkX10_47 (by decide) rfl rfl (Nat.le_of_ble_eq_true rfl) rfl rfl (Nat.le_of_ble_eq_true rfl) (Nat.le_of_ble_eq_true rfl) dX10_init_193 ?_
  refine k_to (e2 := eA G [.ref (G.1 1), .ref (G.1 14), .ref (G.1 23), .ref (G.1 30), .int 0, .null, .null, .null, .int 0, .long 0, .long 0, .int 0, .null] 30 3 7 (fun i => some (G.1 (31 + i))) 3) (up_e_up.trans (up_e_self ((up_e_ne (by decide)).trans ((up_e_ne (by decide)).trans (f_rod (i := 3) (by decide)))))) ?_
  refine k_aast C 30 3 34 4 rfl (by decide) (by decide) up_e_eq rfl rfl 3 (by decide +kernel) (by decide) (by decide) (fun i => if i < 4 then (fun i => some (G.1 (31 + i))) i else none) (kb_st rfl) dX10_init_196 ?_
  refine k_to (e2 := eA G [.ref (G.1 1), .ref (G.1 14), .ref (G.1 23), .ref (G.1 30), .int 0, .null, .null, .null, .int 0, .long 0, .long 0, .int 0, .null] 30 3 7 (fun i => some (G.1 (31 + i))) 4) up_e_up ?_
  refine k_iinc C 0 4 [(1, .int 4), (0, .ref (G.1 0))] dX10_init_197 rfl (by decide +kernel) (by decide) rfl ?_
  refine k_goto C 172 dX10_init_200 (by decide) ?_
  refine k_iload_n C 0 dX10_init_172 rfl ?_
  refine k_bipush C 7 dX10_init_173 (by decide +kernel) ?_
  refine k_icmp_geF C 203 dX10_init_175 (by decide) (by decide) ?_
  refine k_aload_n C 1 dX10_init_178 rfl ?_
  refine k_get C 0 (Nat.le_of_ble_eq_true rfl) ((up_e_ne (by decide)).trans up_e_eq) rfl nuX10 3 (by decide) rfl wfX10_43 rfl dX10_init_179 ?_
  refine k_iload_n C 0 dX10_init_182 rfl ?_
  refine k_new C [.null, .int 0, .int 0, .int 0] tyX4 tyX4_ok (ci := 4) rfl nuX4 (by decide +kernel) wlX10_41 kiX4 izX4 (36) 35 663 rfl rfl rfl (Nat.le_of_ble_eq_true rfl) (Nat.le_of_ble_eq_true rfl) dX10_init_183 ?_
  refine k_dup C dX10_init_186 rfl ?_
  refine k_aload_n C 1 dX10_init_187 rfl ?_
  refine k_get C 0 (Nat.le_of_ble_eq_true rfl) ((up_e_ne (by decide)).trans ((up_e_ne (by decide)).trans up_e_eq)) rfl nuX10 2 (by decide) rfl wfX10_21 rfl dX10_init_188 ?_
  refine k_iconst C 0 dX10_init_191 (by decide +kernel) ?_
  refine k_aald C 23 2 rfl (by decide) (f := (fun i => some (G.1 (24 + i)))) rfl 0 (G.1 24) (by decide +kernel) (by decide) (by decide) rfl dX10_init_192 ?_
  refine k_callI C 35 (36) 35 663 (c_X4_init l G 36 35 24 (up_e (eA G [.ref (G.1 1), .ref (G.1 14), .ref (G.1 23), .ref (G.1 30), .int 0, .null, .null, .null, .int 0, .long 0, .long 0, .int 0, .null] 30 3 7 (fun i => some (G.1 (31 + i))) 4) 35 (.inr (4, [.null, .int 0, .int 0, .int 0]))) (by decide) up_e_eq) kkX10_47 (by decide) rfl rfl (Nat.le_of_ble_eq_true rfl) rfl rfl (Nat.le_of_ble_eq_true rfl) (Nat.le_of_ble_eq_true rfl) dX10_init_193 ?_
  refine k_to (e2 := eA G [.ref (G.1 1), .ref (G.1 14), .ref (G.1 23), .ref (G.1 30), .int 0, .null, .null, .null, .int 0, .long 0, .long 0, .int 0, .null] 30 3 7 (fun i => some (G.1 (31 + i))) 4) (up_e_up.trans (up_e_self ((up_e_ne (by decide)).trans ((up_e_ne (by decide)).trans (f_rod (i := 4) (by decide)))))) ?_
  refine k_aast C 30 3 35 4 rfl (by decide) (by decide) up_e_eq rfl rfl 4 (by decide +kernel) (by decide) (by decide) (fun i => if i < 5 then (fun i => some (G.1 (31 + i))) i else none) (kb_st rfl) dX10_init_196 ?_
  refine k_to (e2 := eA G [.ref (G.1 1), .ref (G.1 14), .ref (G.1 23), .ref (G.1 30), .int 0, .null, .null, .null, .int 0, .long 0, .long 0, .int 0, .null] 30 3 7 (fun i => some (G.1 (31 + i))) 5) up_e_up ?_
  refine k_iinc C 0 5 [(1, .int 5), (0, .ref (G.1 0))] dX10_init_197 rfl (by decide +kernel) (by decide) rfl ?_
  refine k_goto C 172 dX10_init_200 (by decide) ?_
  refine k_iload_n C 0 dX10_init_172 rfl ?_
  refine k_bipush C 7 dX10_init_173 (by decide +kernel) ?_
  refine k_icmp_geF C 203 dX10_init_175 (by decide) (by decide) ?_
  refine k_aload_n C 1 dX10_init_178 rfl ?_
  refine k_get C 0 (Nat.le_of_ble_eq_true rfl) ((up_e_ne (by decide)).trans up_e_eq) rfl nuX10 3 (by decide) rfl wfX10_43 rfl dX10_init_179 ?_
  refine k_iload_n C 0 dX10_init_182 rfl ?_
  refine k_new C [.null, .int 0, .int 0, .int 0] tyX4 tyX4_ok (ci := 4) rfl nuX4 (by decide +kernel) wlX10_41 kiX4 izX4 (37) 36 667 rfl rfl rfl (Nat.le_of_ble_eq_true rfl) (Nat.le_of_ble_eq_true rfl) dX10_init_183 ?_
  refine k_dup C dX10_init_186 rfl ?_
  refine k_aload_n C 1 dX10_init_187 rfl ?_
  refine k_get C 0 (Nat.le_of_ble_eq_true rfl) ((up_e_ne (by decide)).trans ((up_e_ne (by decide)).trans up_e_eq)) rfl nuX10 2 (by decide) rfl wfX10_21 rfl dX10_init_188 ?_
  refine k_iconst C 0 dX10_init_191 (by decide +kernel) ?_
  refine k_aald C 23 2 rfl (by decide) (f := (fun i => some (G.1 (24 + i)))) rfl 0 (G.1 24) (by decide +kernel) (by decide) (by decide) rfl dX10_init_192 ?_
  refine k_callI C 36 (37) 36 667 (c_X4_init l G 37 36 24 (up_e (eA G [.ref (G.1 1), .ref (G.1 14), .ref (G.1 23), .ref (G.1 30), .int 0, .null, .null, .null, .int 0, .long 0, .long 0, .int 0, .null] 30 3 7 (fun i => some (G.1 (31 + i))) 5) 36 (.inr (4, [.null, .int 0, .int 0, .int 0]))) (by decide) up_e_eq) kkX10_47 (by decide) rfl rfl (Nat.le_of_ble_eq_true rfl) rfl rfl (Nat.le_of_ble_eq_true rfl) (Nat.le_of_ble_eq_true rfl) dX10_init_193 ?_
  refine k_to (e2 := eA G [.ref (G.1 1), .ref (G.1 14), .ref (G.1 23), .ref (G.1 30), .int 0, .null, .null, .null, .int 0, .long 0, .long 0, .int 0, .null] 30 3 7 (fun i => some (G.1 (31 + i))) 5) (up_e_up.trans (up_e_self ((up_e_ne (by decide)).trans ((up_e_ne (by decide)).trans (f_rod (i := 5) (by decide)))))) ?_
  refine k_aast C 30 3 36 4 rfl (by decide) (by decide) up_e_eq rfl rfl 5 (by decide +kernel) (by decide) (by decide) (fun i => if i < 6 then (fun i => some (G.1 (31 + i))) i else none) (kb_st rfl) dX10_init_196 ?_
  refine k_to (e2 := eA G [.ref (G.1 1), .ref (G.1 14), .ref (G.1 23), .ref (G.1 30), .int 0, .null, .null, .null, .int 0, .long 0, .long 0, .int 0, .null] 30 3 7 (fun i => some (G.1 (31 + i))) 6) up_e_up ?_
  refine k_iinc C 0 6 [(1, .int 6), (0, .ref (G.1 0))] dX10_init_197 rfl (by decide +kernel) (by decide) rfl ?_
  refine k_goto C 172 dX10_init_200 (by decide) ?_
  refine k_iload_n C 0 dX10_init_172 rfl ?_
  refine k_bipush C 7 dX10_init_173 (by decide +kernel) ?_
  refine k_icmp_geF C 203 dX10_init_175 (by decide) (by decide) ?_
  refine k_aload_n C 1 dX10_init_178 rfl ?_
  refine k_get C 0 (Nat.le_of_ble_eq_true rfl) ((up_e_ne (by decide)).trans up_e_eq) rfl nuX10 3 (by decide) rfl wfX10_43 rfl dX10_init_179 ?_
  refine k_iload_n C 0 dX10_init_182 rfl ?_
  refine k_new C [.null, .int 0, .int 0, .int 0] tyX4 tyX4_ok (ci := 4) rfl nuX4 (by decide +kernel) wlX10_41 kiX4 izX4 (38) 37 671 rfl rfl rfl (Nat.le_of_ble_eq_true rfl) (Nat.le_of_ble_eq_true rfl) dX10_init_183 ?_
  refine k_dup C dX10_init_186 rfl ?_
  refine k_aload_n C 1 dX10_init_187 rfl ?_
  refine k_get C 0 (Nat.le_of_ble_eq_true rfl) ((up_e_ne (by decide)).trans ((up_e_ne (by decide)).trans up_e_eq)) rfl nuX10 2 (by decide) rfl wfX10_21 rfl dX10_init_188 ?_
  refine k_iconst C 0 dX10_init_191 (by decide +kernel) ?_
  refine k_aald C 23 2 rfl (by decide) (f := (fun i => some (G.1 (24 + i)))) rfl 0 (G.1 24) (by decide +kernel) (by decide) (by decide) rfl dX10_init_192 ?_
  refine k_callI C 37 (38) 37 671 (c_X4_init l G 38 37 24 (up_e (eA G [.ref (G.1 1), .ref (G.1 14), .ref (G.1 23), .ref (G.1 30), .int 0, .null, .null, .null, .int 0, .long 0, .long 0, .int 0, .null] 30 3 7 (fun i => some (G.1 (31 + i))) 6) 37 (.inr (4, [.null, .int 0, .int 0, .int 0]))) (by decide) up_e_eq) kkX10_47 (by decide) rfl rfl (Nat.le_of_ble_eq_true rfl) rfl rfl (Nat.le_of_ble_eq_true rfl) (Nat.le_of_ble_eq_true rfl) dX10_init_193 ?_
  refine k_to (e2 := eA G [.ref (G.1 1), .ref (G.1 14), .ref (G.1 23), .ref (G.1 30), .int 0, .null, .null, .null, .int 0, .long 0, .long 0, .int 0, .null] 30 3 7 (fun i => some (G.1 (31 + i))) 6) (up_e_up.trans (up_e_self ((up_e_ne (by decide)).trans ((up_e_ne (by decide)).trans (f_rod (i := 6) (by decide)))))) ?_
  refine k_aast C 30 3 37 4 rfl (by decide) (by decide) up_e_eq rfl rfl 6 (by decide +kernel) (by decide) (by decide) (fun i => if i < 7 then (fun i => some (G.1 (31 + i))) i else none) (kb_st rfl) dX10_init_196 ?_
  refine k_to (e2 := eA G [.ref (G.1 1), .ref (G.1 14), .ref (G.1 23), .ref (G.1 30), .int 0, .null, .null, .null, .int 0, .long 0, .long 0, .int 0, .null] 30 3 7 (fun i => some (G.1 (31 + i))) 7) up_e_up ?_
  refine k_arr 30 (by decide) (f2 := (fun i => some (G.1 (31 + i)))) up_e_eq (fun j h => if_pos h) ?_
  refine k_to (e2 := eB G [.ref (G.1 1), .ref (G.1 14), .ref (G.1 23), .ref (G.1 30), .int 0, .null, .null, .null, .int 0, .long 0, .long 0, .int 0, .null]) (up_e_up.trans (up_e_self rfl)) ?_
  refine k_iinc C 0 7 [(1, .int 7), (0, .ref (G.1 0))] dX10_init_197 rfl (by decide +kernel) (by decide) rfl ?_
  refine k_goto C 172 dX10_init_200 (by decide) ?_
  refine k_iload_n C 0 dX10_init_172 rfl ?_
  refine k_bipush C 7 dX10_init_173 (by decide +kernel) ?_
  refine k_icmp_geT C 203 dX10_init_175 (by decide) (by decide) ?_
  refine k_aload_n C 1 dX10_init_203 rfl ?_
  refine k_new C [.null, .int 0, .int 0, .null, .null, .null, .int 0, .int 0] tyX0 tyX0_ok (ci := 0) rfl nuX0 (by decide +kernel) wlX10_50 kiX0 izX0 (39) 38 679 rfl rfl rfl (Nat.le_of_ble_eq_true rfl) (Nat.le_of_ble_eq_true rfl) dX10_init_204 ?_
  refine k_dup C dX10_init_207 rfl ?_
  refine k_callIN C 38 (43) 42 806 (c_X0_init l G 39 38 (up_e (eB G [.ref (G.1 1), .ref (G.1 14), .ref (G.1 23), .ref (G.1 30), .int 0, .null, .null, .null, .int 0, .long 0, .long 0, .int 0, .null]) 38 (.inr (0, [.null, .int 0, .int 0, .null, .null, .null, .int 0, .int 0]))) (by decide) up_e_eq) kkX10_52 (by decide) rfl rfl (Nat.le_of_ble_eq_true rfl) rfl rfl (Nat.le_of_ble_eq_true rfl) (Nat.le_of_ble_eq_true rfl) dX10_init_208 ?_
  refine k_to (e2 := eB G [.ref (G.1 1), .ref (G.1 14), .ref (G.1 23), .ref (G.1 30), .int 0, .null, .null, .null, .int 0, .long 0, .long 0, .int 0, .null]) (up_n5 (by decide) (by decide) (by decide) (by decide) rfl rfl rfl rfl rfl) ?_
  refine k_putF C 0 (Nat.le_of_ble_eq_true rfl) up_e_eq rfl nuX10 5 (by decide) rfl wfX10_53 tyX10 tyX10_ok nmX10 rfl rfl (ty := (.object RX0)) (by decide +kernel) rfl rfl (Nat.le_of_ble_eq_true rfl) [.ref (G.1 1), .ref (G.1 14), .ref (G.1 23), .ref (G.1 30), .int 0, .ref (G.1 38), .null, .null, .int 0, .long 0, .long 0, .int 0, .null] rfl dX10_init_211 ?_
  refine k_to (e2 := eB G [.ref (G.1 1), .ref (G.1 14), .ref (G.1 23), .ref (G.1 30), .int 0, .ref (G.1 38), .null, .null, .int 0, .long 0, .long 0, .int 0, .null]) up_e_up ?_
  refine k_aload_n C 1 dX10_init_214 rfl ?_
  refine k_iconst C 3 dX10_init_215 (by decide +kernel) ?_
  refine k_newq C 4 3 rfl (fun U h => h.2.2.2) (by decide +kernel) (by decide) wlX10_50 (44) 43 809 rfl rfl rfl (Nat.le_of_ble_eq_true rfl) (Nat.le_of_ble_eq_true rfl) dX10_init_216 ?_
  refine k_to (e2 := eA G [.ref (G.1 1), .ref (G.1 14), .ref (G.1 23), .ref (G.1 30), .int 0, .ref (G.1 38), .null, .null, .int 0, .long 0, .long 0, .int 0, .null] 43 4 3 (fun i => some (G.1 (44 + 5 * i))) 0) kb_new ?_
  refine k_putF C 0 (Nat.le_of_ble_eq_true rfl) ((up_e_ne (by decide)).trans up_e_eq) rfl nuX10 6 (by decide) rfl wfX10_57 tyX10 tyX10_ok nmX10 rfl rfl (ty := (.array (.object RX0))) (by decide +kernel) rfl rfl (Nat.le_of_ble_eq_true rfl) [.ref (G.1 1), .ref (G.1 14), .ref (G.1 23), .ref (G.1 30), .int 0, .ref (G.1 38), .ref (G.1 43), .null, .int 0, .long 0, .long 0, .int 0, .null] rfl dX10_init_219 ?_
  refine k_to (e2 := eA G [.ref (G.1 1), .ref (G.1 14), .ref (G.1 23), .ref (G.1 30), .int 0, .ref (G.1 38), .ref (G.1 43), .null, .int 0, .long 0, .long 0, .int 0, .null] 43 4 3 (fun i => some (G.1 (44 + 5 * i))) 0) (kb_put (by decide)) ?_
  refine k_iconst C 0 dX10_init_222 (by decide +kernel) ?_
  refine k_istore_n C [(1, .int 0), (0, .ref (G.1 0))] dX10_init_223 (by decide) rfl ?_
  refine k_iload_n C 0 dX10_init_224 rfl ?_
  refine k_iconst C 3 dX10_init_225 (by decide +kernel) ?_
  refine k_icmp_geF C 248 dX10_init_226 (by decide) (by decide) ?_
  refine k_aload_n C 1 dX10_init_229 rfl ?_
  refine k_get C 0 (Nat.le_of_ble_eq_true rfl) ((up_e_ne (by decide)).trans up_e_eq) rfl nuX10 6 (by decide) rfl wfX10_57 rfl dX10_init_230 ?_
  refine k_iload_n C 0 dX10_init_233 rfl ?_
  refine k_new C [.null, .int 0, .int 0, .null, .null, .null, .int 0, .int 0] tyX0 tyX0_ok (ci := 0) rfl nuX0 (by decide +kernel) wlX10_50 kiX0 izX0 (45) 44 817 rfl rfl rfl (Nat.le_of_ble_eq_true rfl) (Nat.le_of_ble_eq_true rfl) dX10_init_234 ?_
  refine k_dup C dX10_init_237 rfl ?_
  refine k_callIN C 44 (49) 48 944 (c_X0_init l G 45 44 (up_e (eA G [.ref (G.1 1), .ref (G.1 14), .ref (G.1 23), .ref (G.1 30), .int 0, .ref (G.1 38), .ref (G.1 43), .null, .int 0, .long 0, .long 0, .int 0, .null] 43 4 3 (fun i => some (G.1 (44 + 5 * i))) 0) 44 (.inr (0, [.null, .int 0, .int 0, .null, .null, .null, .int 0, .int 0]))) (by decide) up_e_eq) kkX10_52 (by decide) rfl rfl (Nat.le_of_ble_eq_true rfl) rfl rfl (Nat.le_of_ble_eq_true rfl) (Nat.le_of_ble_eq_true rfl) dX10_init_238 ?_
  refine k_to (e2 := eA G [.ref (G.1 1), .ref (G.1 14), .ref (G.1 23), .ref (G.1 30), .int 0, .ref (G.1 38), .ref (G.1 43), .null, .int 0, .long 0, .long 0, .int 0, .null] 43 4 3 (fun i => some (G.1 (44 + 5 * i))) 0) (up_n5 (by decide) (by decide) (by decide) (by decide) rfl rfl rfl rfl rfl) ?_
  refine k_aast C 43 4 44 0 rfl (by decide) (by decide) up_e_eq rfl rfl 0 (by decide +kernel) (by decide) (by decide) (fun i => if i < 1 then (fun i => some (G.1 (44 + 5 * i))) i else none) (kb_st rfl) dX10_init_241 ?_
  refine k_to (e2 := eA G [.ref (G.1 1), .ref (G.1 14), .ref (G.1 23), .ref (G.1 30), .int 0, .ref (G.1 38), .ref (G.1 43), .null, .int 0, .long 0, .long 0, .int 0, .null] 43 4 3 (fun i => some (G.1 (44 + 5 * i))) 1) up_e_up ?_
  refine k_iinc C 0 1 [(1, .int 1), (0, .ref (G.1 0))] dX10_init_242 rfl (by decide +kernel) (by decide) rfl ?_
  refine k_goto C 224 dX10_init_245 (by decide) ?_
  refine k_iload_n C 0 dX10_init_224 rfl ?_
  refine k_iconst C 3 dX10_init_225 (by decide +kernel) ?_
  refine k_icmp_geF C 248 dX10_init_226 (by decide) (by decide) ?_
  refine k_aload_n C 1 dX10_init_229 rfl ?_
  refine k_get C 0 (Nat.le_of_ble_eq_true rfl) ((up_e_ne (by decide)).trans up_e_eq) rfl nuX10 6 (by decide) rfl wfX10_57 rfl dX10_init_230 ?_
  refine k_iload_n C 0 dX10_init_233 rfl ?_
  refine k_new C [.null, .int 0, .int 0, .null, .null, .null, .int 0, .int 0] tyX0 tyX0_ok (ci := 0) rfl nuX0 (by decide +kernel) wlX10_50 kiX0 izX0 (50) 49 952 rfl rfl rfl (Nat.le_of_ble_eq_true rfl) (Nat.le_of_ble_eq_true rfl) dX10_init_234 ?_
  refine k_dup C dX10_init_237 rfl ?_
  refine k_callIN C 49 (54) 53 1079 (c_X0_init l G 50 49 (up_e (eA G [.ref (G.1 1), .ref (G.1 14), .ref (G.1 23), .ref (G.1 30), .int 0, .ref (G.1 38), .ref (G.1 43), .null, .int 0, .long 0, .long 0, .int 0, .null] 43 4 3 (fun i => some (G.1 (44 + 5 * i))) 1) 49 (.inr (0, [.null, .int 0, .int 0, .null, .null, .null, .int 0, .int 0]))) (by decide) up_e_eq) kkX10_52 (by decide) rfl rfl (Nat.le_of_ble_eq_true rfl) rfl rfl (Nat.le_of_ble_eq_true rfl) (Nat.le_of_ble_eq_true rfl) dX10_init_238 ?_
  refine k_to (e2 := eA G [.ref (G.1 1), .ref (G.1 14), .ref (G.1 23), .ref (G.1 30), .int 0, .ref (G.1 38), .ref (G.1 43), .null, .int 0, .long 0, .long 0, .int 0, .null] 43 4 3 (fun i => some (G.1 (44 + 5 * i))) 1) (up_n5 (by decide) (by decide) (by decide) (by decide) rfl rfl rfl rfl rfl) ?_
  refine k_aast C 43 4 49 0 rfl (by decide) (by decide) up_e_eq rfl rfl 1 (by decide +kernel) (by decide) (by decide) (fun i => if i < 2 then (fun i => some (G.1 (44 + 5 * i))) i else none) (kb_st rfl) dX10_init_241 ?_
  refine k_to (e2 := eA G [.ref (G.1 1), .ref (G.1 14), .ref (G.1 23), .ref (G.1 30), .int 0, .ref (G.1 38), .ref (G.1 43), .null, .int 0, .long 0, .long 0, .int 0, .null] 43 4 3 (fun i => some (G.1 (44 + 5 * i))) 2) up_e_up ?_
  refine k_iinc C 0 2 [(1, .int 2), (0, .ref (G.1 0))] dX10_init_242 rfl (by decide +kernel) (by decide) rfl ?_
  refine k_goto C 224 dX10_init_245 (by decide) ?_
  refine k_iload_n C 0 dX10_init_224 rfl ?_
  refine k_iconst C 3 dX10_init_225 (by decide +kernel) ?_
  refine k_icmp_geF C 248 dX10_init_226 (by decide) (by decide) ?_
  refine k_aload_n C 1 dX10_init_229 rfl ?_
  refine k_get C 0 (Nat.le_of_ble_eq_true rfl) ((up_e_ne (by decide)).trans up_e_eq) rfl nuX10 6 (by decide) rfl wfX10_57 rfl dX10_init_230 ?_
  refine k_iload_n C 0 dX10_init_233 rfl ?_
  refine k_new C [.null, .int 0, .int 0, .null, .null, .null, .int 0, .int 0] tyX0 tyX0_ok (ci := 0) rfl nuX0 (by decide +kernel) wlX10_50 kiX0 izX0 (55) 54 1087 rfl rfl rfl (Nat.le_of_ble_eq_true rfl) (Nat.le_of_ble_eq_true rfl) dX10_init_234 ?_
  refine k_dup C dX10_init_237 rfl ?_
  refine k_callIN C 54 (59) 58 1214 (c_X0_init l G 55 54 (up_e (eA G [.ref (G.1 1), .ref (G.1 14), .ref (G.1 23), .ref (G.1 30), .int 0, .ref (G.1 38), .ref (G.1 43), .null, .int 0, .long 0, .long 0, .int 0, .null] 43 4 3 (fun i => some (G.1 (44 + 5 * i))) 2) 54 (.inr (0, [.null, .int 0, .int 0, .null, .null, .null, .int 0, .int 0]))) (by decide) up_e_eq) kkX10_52 (by decide) rfl rfl (Nat.le_of_ble_eq_true rfl) rfl rfl (Nat.le_of_ble_eq_true rfl) (Nat.le_of_ble_eq_true rfl) dX10_init_238 ?_
  refine k_to (e2 := eA G [.ref (G.1 1), .ref (G.1 14), .ref (G.1 23), .ref (G.1 30), .int 0, .ref (G.1 38), .ref (G.1 43), .null, .int 0, .long 0, .long 0, .int 0, .null] 43 4 3 (fun i => some (G.1 (44 + 5 * i))) 2) (up_n5 (by decide) (by decide) (by decide) (by decide) rfl rfl rfl rfl rfl) ?_
  refine k_aast C 43 4 54 0 rfl (by decide) (by decide) up_e_eq rfl rfl 2 (by decide +kernel) (by decide) (by decide) (fun i => if i < 3 then (fun i => some (G.1 (44 + 5 * i))) i else none) (kb_st rfl) dX10_init_241 ?_
  refine k_to (e2 := eA G [.ref (G.1 1), .ref (G.1 14), .ref (G.1 23), .ref (G.1 30), .int 0, .ref (G.1 38), .ref (G.1 43), .null, .int 0, .long 0, .long 0, .int 0, .null] 43 4 3 (fun i => some (G.1 (44 + 5 * i))) 3) up_e_up ?_
  refine k_arr 43 (by decide) (f2 := (fun i => some (G.1 (44 + 5 * i)))) up_e_eq (fun j h => if_pos h) ?_
  refine k_to (e2 := eB G [.ref (G.1 1), .ref (G.1 14), .ref (G.1 23), .ref (G.1 30), .int 0, .ref (G.1 38), .ref (G.1 43), .null, .int 0, .long 0, .long 0, .int 0, .null]) (up_e_up.trans (up_e_self rfl)) ?_
  refine k_iinc C 0 3 [(1, .int 3), (0, .ref (G.1 0))] dX10_init_242 rfl (by decide +kernel) (by decide) rfl ?_
  refine k_goto C 224 dX10_init_245 (by decide) ?_
  refine k_iload_n C 0 dX10_init_224 rfl ?_
  refine k_iconst C 3 dX10_init_225 (by decide +kernel) ?_
  refine k_icmp_geT C 248 dX10_init_226 (by decide) (by decide) ?_
  refine k_aload_n C 1 dX10_init_248 rfl ?_
  refine k_new C [.null, .int 0, .null, .null, .int 0, .int 0, .int 0] tyX5 tyX5_ok (ci := 5) rfl nuX5 (by decide +kernel) wlX10_61 kiX5 izX5 (60) 59 1221 rfl rfl rfl (Nat.le_of_ble_eq_true rfl) (Nat.le_of_ble_eq_true rfl) dX10_init_249 ?_
  refine k_dup C dX10_init_252 rfl ?_
  refine k_callIN C 59 (63) 62 1242 (c_X5_init l G 60 59 (up_e (eB G [.ref (G.1 1), .ref (G.1 14), .ref (G.1 23), .ref (G.1 30), .int 0, .ref (G.1 38), .ref (G.1 43), .null, .int 0, .long 0, .long 0, .int 0, .null]) 59 (.inr (5, [.null, .int 0, .null, .null, .int 0, .int 0, .int 0]))) (by decide) up_e_eq) kkX10_63 (by decide) rfl rfl (Nat.le_of_ble_eq_true rfl) rfl rfl (Nat.le_of_ble_eq_true rfl) (Nat.le_of_ble_eq_true rfl) dX10_init_253 ?_
  refine k_to (e2 := eB G [.ref (G.1 1), .ref (G.1 14), .ref (G.1 23), .ref (G.1 30), .int 0, .ref (G.1 38), .ref (G.1 43), .null, .int 0, .long 0, .long 0, .int 0, .null]) (up_n4 (by decide) (by decide) (by decide) rfl rfl rfl rfl) ?_
  refine k_putF C 0 (Nat.le_of_ble_eq_true rfl) up_e_eq rfl nuX10 7 (by decide) rfl wfX10_64 tyX10 tyX10_ok nmX10 rfl rfl (ty := (.object RX5)) (by decide +kernel) rfl rfl (Nat.le_of_ble_eq_true rfl) [.ref (G.1 1), .ref (G.1 14), .ref (G.1 23), .ref (G.1 30), .int 0, .ref (G.1 38), .ref (G.1 43), .ref (G.1 59), .int 0, .long 0, .long 0, .int 0, .null] rfl dX10_init_256 ?_
  refine k_to (e2 := eB G [.ref (G.1 1), .ref (G.1 14), .ref (G.1 23), .ref (G.1 30), .int 0, .ref (G.1 38), .ref (G.1 43), .ref (G.1 59), .int 0, .long 0, .long 0, .int 0, .null]) up_e_up ?_
  refine k_aload_n C 1 dX10_init_259 rfl ?_
  refine k_lconst C 1 dX10_init_260 rfl ?_
  refine k_put C 0 (Nat.le_of_ble_eq_true rfl) up_e_eq rfl nuX10 10 (by decide) rfl wfX10_68 tyX10 tyX10_ok nmX10 rfl (ty := .long) (by decide +kernel) rfl rfl (Nat.le_of_ble_eq_true rfl) [.ref (G.1 1), .ref (G.1 14), .ref (G.1 23), .ref (G.1 30), .int 0, .ref (G.1 38), .ref (G.1 43), .ref (G.1 59), .int 0, .long 0, .long 1, .int 0, .null] rfl dX10_init_261 ?_
  refine k_to (e2 := eB G [.ref (G.1 1), .ref (G.1 14), .ref (G.1 23), .ref (G.1 30), .int 0, .ref (G.1 38), .ref (G.1 43), .ref (G.1 59), .int 0, .long 0, .long 1, .int 0, .null]) up_e_up ?_
  refine k_aload_n C 1 dX10_init_264 rfl ?_
  refine k_bipush C 6 dX10_init_265 (by decide +kernel) ?_
  refine k_newa C 6 (by decide +kernel) (by decide) k_int (64) 63 1248 rfl rfl rfl (Nat.le_of_ble_eq_true rfl) (Nat.le_of_ble_eq_true rfl) dX10_init_267 ?_
  refine k_to (e2 := eB G [.ref (G.1 1), .ref (G.1 14), .ref (G.1 23), .ref (G.1 30), .int 0, .ref (G.1 38), .ref (G.1 43), .ref (G.1 59), .int 0, .long 0, .long 1, .int 0, .null]) (up_e_self rfl) ?_
  refine k_putF C 0 (Nat.le_of_ble_eq_true rfl) up_e_eq rfl nuX10 12 (by decide) rfl wfX10_72 tyX10 tyX10_ok nmX10 rfl rfl (ty := (.array .int)) (by decide +kernel) rfl rfl (Nat.le_of_ble_eq_true rfl) [.ref (G.1 1), .ref (G.1 14), .ref (G.1 23), .ref (G.1 30), .int 0, .ref (G.1 38), .ref (G.1 43), .ref (G.1 59), .int 0, .long 0, .long 1, .int 0, .ref (G.1 63)] rfl dX10_init_269 ?_
  refine k_to (e2 := eB G [.ref (G.1 1), .ref (G.1 14), .ref (G.1 23), .ref (G.1 30), .int 0, .ref (G.1 38), .ref (G.1 43), .ref (G.1 59), .int 0, .long 0, .long 1, .int 0, .ref (G.1 63)]) up_e_up ?_
  refine k_to (e2 := Fz G) (up_e_self rfl) ?_
  subst hQ
  exact k_vret C dX10_init_272
