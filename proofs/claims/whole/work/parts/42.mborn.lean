abbrev eM (G : Gl) (fs : List Value) (a b : Nat) : Nat → va_E := up_e (up_e (up_e (Fz G) 66 (g_ia G 6 (fun j => if j < a then -1 else 0))) 68 (g_ia G 4 (fun j => if j < b then -1 else 0))) 64 (.inr (11, fs))
theorem km_0 : (fun j => if j < 0 then (-1 : Int32) else 0 : Nat → Int32) = fun _ => 0 := by
  funext j
  rw [if_neg (Nat.not_lt_zero j)]
theorem km_up {r : Nat} : upd (fun j => if j < r then (-1 : Int32) else 0) r (-1) = fun j => if j < r + 1 then -1 else 0 := by
  funext j
  by_cases h : j = r
  · subst h
    rw [pk_us, if_pos (Nat.lt_succ_self j)]
  · rw [pk_un h]
    by_cases h2 : j < r
    · rw [if_pos h2, if_pos (by omega)]
    · rw [if_neg h2, if_neg (by omega)]
theorem km_66 {G : Gl} {fs : List Value} {a b a2 : Nat} : up_e (eM G fs a b) 66 (g_ia G 6 (fun j => if j < a2 then -1 else 0)) = eM G fs a2 b := by
  funext i
  by_cases h : i = 66
  · subst h; rfl
  · rw [up_e_ne h]
    by_cases h2 : i = 64
    · subst h2; rfl
    · unfold eM
      rw [up_e_ne h2, up_e_ne h2]
      by_cases h3 : i = 68
      · subst h3; rfl
      · rw [up_e_ne h3, up_e_ne h3, up_e_ne h, up_e_ne h]
theorem km_68 {G : Gl} {fs : List Value} {a b b2 : Nat} : up_e (eM G fs a b) 68 (g_ia G 4 (fun j => if j < b2 then -1 else 0)) = eM G fs a b2 := by
  funext i
  by_cases h : i = 68
  · subst h; rfl
  · rw [up_e_ne h]
    by_cases h2 : i = 64
    · subst h2; rfl
    · unfold eM
      rw [up_e_ne h2, up_e_ne h2, up_e_ne h, up_e_ne h]
theorem km_in {G : Gl} {fs : List Value} : ∀ c, c < 65 → up_e (Fz G) 64 (.inr (11, fs)) c = eM G fs 0 0 c := by
  intro i hi
  by_cases h : i = 64
  · subst h; rfl
  · unfold eM
    rw [up_e_ne h, up_e_ne h, up_e_ne (by omega), up_e_ne (by omega)]
set_option maxHeartbeats 4000000 in
set_option maxRecDepth 100000 in
theorem c_X11_init (l : Launch) (G : Gl)  : Ck l G mX11_init 4 14 2168 [.ref (G.1 64)] 65 (up_e (Fz G) 64 (.inr (11, [.null, .null, .null, .null, .null, .int 0, .null, .int 0, .long 0, .long 0, .null, .int 0, .int 0, .int 0, .int 0, .null, .null, .null, .null, .int 0, .null, .null, .null, .long 0]))) 79 (Fz G) := by
  refine Ck.of (lv := [(0, .ref (G.1 64))]) rfl rfl (Nat.le_of_ble_eq_true rfl) rfl (fun X C => ?_)
  generalize hQ : k_E G X _ _ _ _ = Q
  replace C : Cy G 2 X cX11_init RX11 none 4 "<init>" 14 2168 := C
  show Mk l G 2 X Q 0 [(0, .ref (G.1 64))] [] 0 0 65 (up_e (Fz G) 64 (.inr (11, [.null, .null, .null, .null, .null, .int 0, .null, .int 0, .long 0, .long 0, .null, .int 0, .int 0, .int 0, .int 0, .null, .null, .null, .null, .int 0, .null, .null, .null, .long 0])))
  refine k_congr (e2 := eM G [.null, .null, .null, .null, .null, .int 0, .null, .int 0, .long 0, .long 0, .null, .int 0, .int 0, .int 0, .int 0, .null, .null, .null, .null, .int 0, .null, .null, .null, .long 0] 0 0) km_in ?_
  refine k_aload_n C 0 dX11_init_0 rfl ?_
  refine k_objInit C koX11_1 (by decide) (Nat.le_of_ble_eq_true rfl) dX11_init_1 ?_
  refine k_aload_n C 0 dX11_init_4 rfl ?_
  refine k_sipush C 1568 dX11_init_5 (by decide +kernel) ?_
  refine k_newa C 1568 (by decide +kernel) (by decide) k_int (66) 1 1568 rfl rfl rfl (Nat.le_of_ble_eq_true rfl) (Nat.le_of_ble_eq_true rfl) dX11_init_8 ?_
  refine k_to (e2 := eM G [.null, .null, .null, .null, .null, .int 0, .null, .int 0, .long 0, .long 0, .null, .int 0, .int 0, .int 0, .int 0, .null, .null, .null, .null, .int 0, .null, .null, .null, .long 0] 0 0) (up_e_self rfl) ?_
  refine k_putF C 64 (Nat.le_of_ble_eq_true rfl) up_e_eq rfl nuX11 0 (by decide) rfl wfX11_7 tyX11 tyX11_ok nmX11 rfl rfl (ty := (.array .int)) (by decide +kernel) rfl rfl (Nat.le_of_ble_eq_true rfl) [.ref (G.1 65), .null, .null, .null, .null, .int 0, .null, .int 0, .long 0, .long 0, .null, .int 0, .int 0, .int 0, .int 0, .null, .null, .null, .null, .int 0, .null, .null, .null, .long 0] rfl dX11_init_10 ?_
  refine k_to (e2 := eM G [.ref (G.1 65), .null, .null, .null, .null, .int 0, .null, .int 0, .long 0, .long 0, .null, .int 0, .int 0, .int 0, .int 0, .null, .null, .null, .null, .int 0, .null, .null, .null, .long 0] 0 0) up_e_up ?_
  refine k_aload_n C 0 dX11_init_13 rfl ?_
  refine k_bipush C 6 dX11_init_14 (by decide +kernel) ?_
  refine k_newa C 6 (by decide +kernel) (by decide) k_int (67) 2 1574 rfl rfl rfl (Nat.le_of_ble_eq_true rfl) (Nat.le_of_ble_eq_true rfl) dX11_init_16 ?_
  refine k_to (e2 := eM G [.ref (G.1 65), .null, .null, .null, .null, .int 0, .null, .int 0, .long 0, .long 0, .null, .int 0, .int 0, .int 0, .int 0, .null, .null, .null, .null, .int 0, .null, .null, .null, .long 0] 0 0) (up_e_self (by show g_ia G 6 _ = g_ia G 6 _; rw [km_0])) ?_
  refine k_putF C 64 (Nat.le_of_ble_eq_true rfl) up_e_eq rfl nuX11 1 (by decide) rfl wfX11_13 tyX11 tyX11_ok nmX11 rfl rfl (ty := (.array .int)) (by decide +kernel) rfl rfl (Nat.le_of_ble_eq_true rfl) [.ref (G.1 65), .ref (G.1 66), .null, .null, .null, .int 0, .null, .int 0, .long 0, .long 0, .null, .int 0, .int 0, .int 0, .int 0, .null, .null, .null, .null, .int 0, .null, .null, .null, .long 0] rfl dX11_init_18 ?_
  refine k_to (e2 := eM G [.ref (G.1 65), .ref (G.1 66), .null, .null, .null, .int 0, .null, .int 0, .long 0, .long 0, .null, .int 0, .int 0, .int 0, .int 0, .null, .null, .null, .null, .int 0, .null, .null, .null, .long 0] 0 0) up_e_up ?_
  refine k_aload_n C 0 dX11_init_21 rfl ?_
  refine k_sipush C 240 dX11_init_22 (by decide +kernel) ?_
  refine k_newa C 240 (by decide +kernel) (by decide) k_int (68) 3 1814 rfl rfl rfl (Nat.le_of_ble_eq_true rfl) (Nat.le_of_ble_eq_true rfl) dX11_init_25 ?_
  refine k_to (e2 := eM G [.ref (G.1 65), .ref (G.1 66), .null, .null, .null, .int 0, .null, .int 0, .long 0, .long 0, .null, .int 0, .int 0, .int 0, .int 0, .null, .null, .null, .null, .int 0, .null, .null, .null, .long 0] 0 0) (up_e_self rfl) ?_
  refine k_putF C 64 (Nat.le_of_ble_eq_true rfl) up_e_eq rfl nuX11 2 (by decide) rfl wfX11_16 tyX11 tyX11_ok nmX11 rfl rfl (ty := (.array .int)) (by decide +kernel) rfl rfl (Nat.le_of_ble_eq_true rfl) [.ref (G.1 65), .ref (G.1 66), .ref (G.1 67), .null, .null, .int 0, .null, .int 0, .long 0, .long 0, .null, .int 0, .int 0, .int 0, .int 0, .null, .null, .null, .null, .int 0, .null, .null, .null, .long 0] rfl dX11_init_27 ?_
  refine k_to (e2 := eM G [.ref (G.1 65), .ref (G.1 66), .ref (G.1 67), .null, .null, .int 0, .null, .int 0, .long 0, .long 0, .null, .int 0, .int 0, .int 0, .int 0, .null, .null, .null, .null, .int 0, .null, .null, .null, .long 0] 0 0) up_e_up ?_
  refine k_aload_n C 0 dX11_init_30 rfl ?_
  refine k_iconst C 4 dX11_init_31 (by decide +kernel) ?_
  refine k_newa C 4 (by decide +kernel) (by decide) k_int (69) 4 1818 rfl rfl rfl (Nat.le_of_ble_eq_true rfl) (Nat.le_of_ble_eq_true rfl) dX11_init_32 ?_
  refine k_to (e2 := eM G [.ref (G.1 65), .ref (G.1 66), .ref (G.1 67), .null, .null, .int 0, .null, .int 0, .long 0, .long 0, .null, .int 0, .int 0, .int 0, .int 0, .null, .null, .null, .null, .int 0, .null, .null, .null, .long 0] 0 0) (up_e_self (by show g_ia G 4 _ = g_ia G 4 _; rw [km_0])) ?_
  refine k_putF C 64 (Nat.le_of_ble_eq_true rfl) up_e_eq rfl nuX11 3 (by decide) rfl wfX11_19 tyX11 tyX11_ok nmX11 rfl rfl (ty := (.array .int)) (by decide +kernel) rfl rfl (Nat.le_of_ble_eq_true rfl) [.ref (G.1 65), .ref (G.1 66), .ref (G.1 67), .ref (G.1 68), .null, .int 0, .null, .int 0, .long 0, .long 0, .null, .int 0, .int 0, .int 0, .int 0, .null, .null, .null, .null, .int 0, .null, .null, .null, .long 0] rfl dX11_init_34 ?_
  refine k_to (e2 := eM G [.ref (G.1 65), .ref (G.1 66), .ref (G.1 67), .ref (G.1 68), .null, .int 0, .null, .int 0, .long 0, .long 0, .null, .int 0, .int 0, .int 0, .int 0, .null, .null, .null, .null, .int 0, .null, .null, .null, .long 0] 0 0) up_e_up ?_
  refine k_aload_n C 0 dX11_init_37 rfl ?_
  refine k_sipush C 240 dX11_init_38 (by decide +kernel) ?_
  refine k_newa C 240 (by decide +kernel) (by decide) k_int (70) 5 2058 rfl rfl rfl (Nat.le_of_ble_eq_true rfl) (Nat.le_of_ble_eq_true rfl) dX11_init_41 ?_
  refine k_to (e2 := eM G [.ref (G.1 65), .ref (G.1 66), .ref (G.1 67), .ref (G.1 68), .null, .int 0, .null, .int 0, .long 0, .long 0, .null, .int 0, .int 0, .int 0, .int 0, .null, .null, .null, .null, .int 0, .null, .null, .null, .long 0] 0 0) (up_e_self rfl) ?_
  refine k_putF C 64 (Nat.le_of_ble_eq_true rfl) up_e_eq rfl nuX11 4 (by decide) rfl wfX11_22 tyX11 tyX11_ok nmX11 rfl rfl (ty := (.array .int)) (by decide +kernel) rfl rfl (Nat.le_of_ble_eq_true rfl) [.ref (G.1 65), .ref (G.1 66), .ref (G.1 67), .ref (G.1 68), .ref (G.1 69), .int 0, .null, .int 0, .long 0, .long 0, .null, .int 0, .int 0, .int 0, .int 0, .null, .null, .null, .null, .int 0, .null, .null, .null, .long 0] rfl dX11_init_43 ?_
  refine k_to (e2 := eM G [.ref (G.1 65), .ref (G.1 66), .ref (G.1 67), .ref (G.1 68), .ref (G.1 69), .int 0, .null, .int 0, .long 0, .long 0, .null, .int 0, .int 0, .int 0, .int 0, .null, .null, .null, .null, .int 0, .null, .null, .null, .long 0] 0 0) up_e_up ?_
  refine k_aload_n C 0 dX11_init_46 rfl ?_
  refine k_bipush C 6 dX11_init_47 (by decide +kernel) ?_
  refine k_newa C 6 (by decide +kernel) (by decide) k_int (71) 6 2064 rfl rfl rfl (Nat.le_of_ble_eq_true rfl) (Nat.le_of_ble_eq_true rfl) dX11_init_49 ?_
  refine k_to (e2 := eM G [.ref (G.1 65), .ref (G.1 66), .ref (G.1 67), .ref (G.1 68), .ref (G.1 69), .int 0, .null, .int 0, .long 0, .long 0, .null, .int 0, .int 0, .int 0, .int 0, .null, .null, .null, .null, .int 0, .null, .null, .null, .long 0] 0 0) (up_e_self rfl) ?_
  refine k_putF C 64 (Nat.le_of_ble_eq_true rfl) up_e_eq rfl nuX11 6 (by decide) rfl wfX11_25 tyX11 tyX11_ok nmX11 rfl rfl (ty := (.array .int)) (by decide +kernel) rfl rfl (Nat.le_of_ble_eq_true rfl) [.ref (G.1 65), .ref (G.1 66), .ref (G.1 67), .ref (G.1 68), .ref (G.1 69), .int 0, .ref (G.1 70), .int 0, .long 0, .long 0, .null, .int 0, .int 0, .int 0, .int 0, .null, .null, .null, .null, .int 0, .null, .null, .null, .long 0] rfl dX11_init_51 ?_
  refine k_to (e2 := eM G [.ref (G.1 65), .ref (G.1 66), .ref (G.1 67), .ref (G.1 68), .ref (G.1 69), .int 0, .ref (G.1 70), .int 0, .long 0, .long 0, .null, .int 0, .int 0, .int 0, .int 0, .null, .null, .null, .null, .int 0, .null, .null, .null, .long 0] 0 0) up_e_up ?_
  refine k_aload_n C 0 dX11_init_54 rfl ?_
  refine k_lconst C 1 dX11_init_55 rfl ?_
  refine k_put C 64 (Nat.le_of_ble_eq_true rfl) up_e_eq rfl nuX11 9 (by decide) rfl wfX11_28 tyX11 tyX11_ok nmX11 rfl (ty := .long) (by decide +kernel) rfl rfl (Nat.le_of_ble_eq_true rfl) [.ref (G.1 65), .ref (G.1 66), .ref (G.1 67), .ref (G.1 68), .ref (G.1 69), .int 0, .ref (G.1 70), .int 0, .long 0, .long 1, .null, .int 0, .int 0, .int 0, .int 0, .null, .null, .null, .null, .int 0, .null, .null, .null, .long 0] rfl dX11_init_56 ?_
  refine k_to (e2 := eM G [.ref (G.1 65), .ref (G.1 66), .ref (G.1 67), .ref (G.1 68), .ref (G.1 69), .int 0, .ref (G.1 70), .int 0, .long 0, .long 1, .null, .int 0, .int 0, .int 0, .int 0, .null, .null, .null, .null, .int 0, .null, .null, .null, .long 0] 0 0) up_e_up ?_
  refine k_aload_n C 0 dX11_init_59 rfl ?_
  refine k_bipush C 40 dX11_init_60 (by decide +kernel) ?_
  refine k_newa C 40 (by decide +kernel) (by decide) k_int (72) 7 2104 rfl rfl rfl (Nat.le_of_ble_eq_true rfl) (Nat.le_of_ble_eq_true rfl) dX11_init_62 ?_
  refine k_to (e2 := eM G [.ref (G.1 65), .ref (G.1 66), .ref (G.1 67), .ref (G.1 68), .ref (G.1 69), .int 0, .ref (G.1 70), .int 0, .long 0, .long 1, .null, .int 0, .int 0, .int 0, .int 0, .null, .null, .null, .null, .int 0, .null, .null, .null, .long 0] 0 0) (up_e_self rfl) ?_
  refine k_putF C 64 (Nat.le_of_ble_eq_true rfl) up_e_eq rfl nuX11 10 (by decide) rfl wfX11_32 tyX11 tyX11_ok nmX11 rfl rfl (ty := (.array .int)) (by decide +kernel) rfl rfl (Nat.le_of_ble_eq_true rfl) [.ref (G.1 65), .ref (G.1 66), .ref (G.1 67), .ref (G.1 68), .ref (G.1 69), .int 0, .ref (G.1 70), .int 0, .long 0, .long 1, .ref (G.1 71), .int 0, .int 0, .int 0, .int 0, .null, .null, .null, .null, .int 0, .null, .null, .null, .long 0] rfl dX11_init_64 ?_
  refine k_to (e2 := eM G [.ref (G.1 65), .ref (G.1 66), .ref (G.1 67), .ref (G.1 68), .ref (G.1 69), .int 0, .ref (G.1 70), .int 0, .long 0, .long 1, .ref (G.1 71), .int 0, .int 0, .int 0, .int 0, .null, .null, .null, .null, .int 0, .null, .null, .null, .long 0] 0 0) up_e_up ?_
  refine k_aload_n C 0 dX11_init_67 rfl ?_
  refine k_bipush C 21 dX11_init_68 (by decide +kernel) ?_
  refine k_newa C 21 (by decide +kernel) (by decide) k_int (73) 8 2125 rfl rfl rfl (Nat.le_of_ble_eq_true rfl) (Nat.le_of_ble_eq_true rfl) dX11_init_70 ?_
  refine k_to (e2 := eM G [.ref (G.1 65), .ref (G.1 66), .ref (G.1 67), .ref (G.1 68), .ref (G.1 69), .int 0, .ref (G.1 70), .int 0, .long 0, .long 1, .ref (G.1 71), .int 0, .int 0, .int 0, .int 0, .null, .null, .null, .null, .int 0, .null, .null, .null, .long 0] 0 0) (up_e_self rfl) ?_
  refine k_putF C 64 (Nat.le_of_ble_eq_true rfl) up_e_eq rfl nuX11 15 (by decide) rfl wfX11_35 tyX11 tyX11_ok nmX11 rfl rfl (ty := (.array .int)) (by decide +kernel) rfl rfl (Nat.le_of_ble_eq_true rfl) [.ref (G.1 65), .ref (G.1 66), .ref (G.1 67), .ref (G.1 68), .ref (G.1 69), .int 0, .ref (G.1 70), .int 0, .long 0, .long 1, .ref (G.1 71), .int 0, .int 0, .int 0, .int 0, .ref (G.1 72), .null, .null, .null, .int 0, .null, .null, .null, .long 0] rfl dX11_init_72 ?_
  refine k_to (e2 := eM G [.ref (G.1 65), .ref (G.1 66), .ref (G.1 67), .ref (G.1 68), .ref (G.1 69), .int 0, .ref (G.1 70), .int 0, .long 0, .long 1, .ref (G.1 71), .int 0, .int 0, .int 0, .int 0, .ref (G.1 72), .null, .null, .null, .int 0, .null, .null, .null, .long 0] 0 0) up_e_up ?_
  refine k_aload_n C 0 dX11_init_75 rfl ?_
  refine k_bipush C 8 dX11_init_76 (by decide +kernel) ?_
  refine k_newa C 8 (by decide +kernel) (by decide) k_int (74) 9 2133 rfl rfl rfl (Nat.le_of_ble_eq_true rfl) (Nat.le_of_ble_eq_true rfl) dX11_init_78 ?_
  refine k_to (e2 := eM G [.ref (G.1 65), .ref (G.1 66), .ref (G.1 67), .ref (G.1 68), .ref (G.1 69), .int 0, .ref (G.1 70), .int 0, .long 0, .long 1, .ref (G.1 71), .int 0, .int 0, .int 0, .int 0, .ref (G.1 72), .null, .null, .null, .int 0, .null, .null, .null, .long 0] 0 0) (up_e_self rfl) ?_
  refine k_putF C 64 (Nat.le_of_ble_eq_true rfl) up_e_eq rfl nuX11 16 (by decide) rfl wfX11_38 tyX11 tyX11_ok nmX11 rfl rfl (ty := (.array .int)) (by decide +kernel) rfl rfl (Nat.le_of_ble_eq_true rfl) [.ref (G.1 65), .ref (G.1 66), .ref (G.1 67), .ref (G.1 68), .ref (G.1 69), .int 0, .ref (G.1 70), .int 0, .long 0, .long 1, .ref (G.1 71), .int 0, .int 0, .int 0, .int 0, .ref (G.1 72), .ref (G.1 73), .null, .null, .int 0, .null, .null, .null, .long 0] rfl dX11_init_80 ?_
  refine k_to (e2 := eM G [.ref (G.1 65), .ref (G.1 66), .ref (G.1 67), .ref (G.1 68), .ref (G.1 69), .int 0, .ref (G.1 70), .int 0, .long 0, .long 1, .ref (G.1 71), .int 0, .int 0, .int 0, .int 0, .ref (G.1 72), .ref (G.1 73), .null, .null, .int 0, .null, .null, .null, .long 0] 0 0) up_e_up ?_
  refine k_aload_n C 0 dX11_init_83 rfl ?_
  refine k_bipush C 9 dX11_init_84 (by decide +kernel) ?_
  refine k_newa C 9 (by decide +kernel) (by decide) k_int (75) 10 2142 rfl rfl rfl (Nat.le_of_ble_eq_true rfl) (Nat.le_of_ble_eq_true rfl) dX11_init_86 ?_
  refine k_to (e2 := eM G [.ref (G.1 65), .ref (G.1 66), .ref (G.1 67), .ref (G.1 68), .ref (G.1 69), .int 0, .ref (G.1 70), .int 0, .long 0, .long 1, .ref (G.1 71), .int 0, .int 0, .int 0, .int 0, .ref (G.1 72), .ref (G.1 73), .null, .null, .int 0, .null, .null, .null, .long 0] 0 0) (up_e_self rfl) ?_
  refine k_putF C 64 (Nat.le_of_ble_eq_true rfl) up_e_eq rfl nuX11 17 (by decide) rfl wfX11_41 tyX11 tyX11_ok nmX11 rfl rfl (ty := (.array .int)) (by decide +kernel) rfl rfl (Nat.le_of_ble_eq_true rfl) [.ref (G.1 65), .ref (G.1 66), .ref (G.1 67), .ref (G.1 68), .ref (G.1 69), .int 0, .ref (G.1 70), .int 0, .long 0, .long 1, .ref (G.1 71), .int 0, .int 0, .int 0, .int 0, .ref (G.1 72), .ref (G.1 73), .ref (G.1 74), .null, .int 0, .null, .null, .null, .long 0] rfl dX11_init_88 ?_
  refine k_to (e2 := eM G [.ref (G.1 65), .ref (G.1 66), .ref (G.1 67), .ref (G.1 68), .ref (G.1 69), .int 0, .ref (G.1 70), .int 0, .long 0, .long 1, .ref (G.1 71), .int 0, .int 0, .int 0, .int 0, .ref (G.1 72), .ref (G.1 73), .ref (G.1 74), .null, .int 0, .null, .null, .null, .long 0] 0 0) up_e_up ?_
  refine k_aload_n C 0 dX11_init_91 rfl ?_
  refine k_bipush C 7 dX11_init_92 (by decide +kernel) ?_
  refine k_newa C 7 (by decide +kernel) (by decide) k_int (76) 11 2149 rfl rfl rfl (Nat.le_of_ble_eq_true rfl) (Nat.le_of_ble_eq_true rfl) dX11_init_94 ?_
  refine k_to (e2 := eM G [.ref (G.1 65), .ref (G.1 66), .ref (G.1 67), .ref (G.1 68), .ref (G.1 69), .int 0, .ref (G.1 70), .int 0, .long 0, .long 1, .ref (G.1 71), .int 0, .int 0, .int 0, .int 0, .ref (G.1 72), .ref (G.1 73), .ref (G.1 74), .null, .int 0, .null, .null, .null, .long 0] 0 0) (up_e_self rfl) ?_
  refine k_putF C 64 (Nat.le_of_ble_eq_true rfl) up_e_eq rfl nuX11 18 (by decide) rfl wfX11_44 tyX11 tyX11_ok nmX11 rfl rfl (ty := (.array .int)) (by decide +kernel) rfl rfl (Nat.le_of_ble_eq_true rfl) [.ref (G.1 65), .ref (G.1 66), .ref (G.1 67), .ref (G.1 68), .ref (G.1 69), .int 0, .ref (G.1 70), .int 0, .long 0, .long 1, .ref (G.1 71), .int 0, .int 0, .int 0, .int 0, .ref (G.1 72), .ref (G.1 73), .ref (G.1 74), .ref (G.1 75), .int 0, .null, .null, .null, .long 0] rfl dX11_init_96 ?_
  refine k_to (e2 := eM G [.ref (G.1 65), .ref (G.1 66), .ref (G.1 67), .ref (G.1 68), .ref (G.1 69), .int 0, .ref (G.1 70), .int 0, .long 0, .long 1, .ref (G.1 71), .int 0, .int 0, .int 0, .int 0, .ref (G.1 72), .ref (G.1 73), .ref (G.1 74), .ref (G.1 75), .int 0, .null, .null, .null, .long 0] 0 0) up_e_up ?_
  refine k_aload_n C 0 dX11_init_99 rfl ?_
  refine k_bipush C 6 dX11_init_100 (by decide +kernel) ?_
  refine k_newa C 6 (by decide +kernel) (by decide) k_int (77) 12 2155 rfl rfl rfl (Nat.le_of_ble_eq_true rfl) (Nat.le_of_ble_eq_true rfl) dX11_init_102 ?_
  refine k_to (e2 := eM G [.ref (G.1 65), .ref (G.1 66), .ref (G.1 67), .ref (G.1 68), .ref (G.1 69), .int 0, .ref (G.1 70), .int 0, .long 0, .long 1, .ref (G.1 71), .int 0, .int 0, .int 0, .int 0, .ref (G.1 72), .ref (G.1 73), .ref (G.1 74), .ref (G.1 75), .int 0, .null, .null, .null, .long 0] 0 0) (up_e_self rfl) ?_
  refine k_putF C 64 (Nat.le_of_ble_eq_true rfl) up_e_eq rfl nuX11 20 (by decide) rfl wfX11_47 tyX11 tyX11_ok nmX11 rfl rfl (ty := (.array .int)) (by decide +kernel) rfl rfl (Nat.le_of_ble_eq_true rfl) [.ref (G.1 65), .ref (G.1 66), .ref (G.1 67), .ref (G.1 68), .ref (G.1 69), .int 0, .ref (G.1 70), .int 0, .long 0, .long 1, .ref (G.1 71), .int 0, .int 0, .int 0, .int 0, .ref (G.1 72), .ref (G.1 73), .ref (G.1 74), .ref (G.1 75), .int 0, .ref (G.1 76), .null, .null, .long 0] rfl dX11_init_104 ?_
  refine k_to (e2 := eM G [.ref (G.1 65), .ref (G.1 66), .ref (G.1 67), .ref (G.1 68), .ref (G.1 69), .int 0, .ref (G.1 70), .int 0, .long 0, .long 1, .ref (G.1 71), .int 0, .int 0, .int 0, .int 0, .ref (G.1 72), .ref (G.1 73), .ref (G.1 74), .ref (G.1 75), .int 0, .ref (G.1 76), .null, .null, .long 0] 0 0) up_e_up ?_
  refine k_aload_n C 0 dX11_init_107 rfl ?_
  refine k_bipush C 7 dX11_init_108 (by decide +kernel) ?_
  refine k_newa C 7 (by decide +kernel) (by decide) k_int (78) 13 2162 rfl rfl rfl (Nat.le_of_ble_eq_true rfl) (Nat.le_of_ble_eq_true rfl) dX11_init_110 ?_
  refine k_to (e2 := eM G [.ref (G.1 65), .ref (G.1 66), .ref (G.1 67), .ref (G.1 68), .ref (G.1 69), .int 0, .ref (G.1 70), .int 0, .long 0, .long 1, .ref (G.1 71), .int 0, .int 0, .int 0, .int 0, .ref (G.1 72), .ref (G.1 73), .ref (G.1 74), .ref (G.1 75), .int 0, .ref (G.1 76), .null, .null, .long 0] 0 0) (up_e_self rfl) ?_
  refine k_putF C 64 (Nat.le_of_ble_eq_true rfl) up_e_eq rfl nuX11 21 (by decide) rfl wfX11_50 tyX11 tyX11_ok nmX11 rfl rfl (ty := (.array .int)) (by decide +kernel) rfl rfl (Nat.le_of_ble_eq_true rfl) [.ref (G.1 65), .ref (G.1 66), .ref (G.1 67), .ref (G.1 68), .ref (G.1 69), .int 0, .ref (G.1 70), .int 0, .long 0, .long 1, .ref (G.1 71), .int 0, .int 0, .int 0, .int 0, .ref (G.1 72), .ref (G.1 73), .ref (G.1 74), .ref (G.1 75), .int 0, .ref (G.1 76), .ref (G.1 77), .null, .long 0] rfl dX11_init_112 ?_
  refine k_to (e2 := eM G [.ref (G.1 65), .ref (G.1 66), .ref (G.1 67), .ref (G.1 68), .ref (G.1 69), .int 0, .ref (G.1 70), .int 0, .long 0, .long 1, .ref (G.1 71), .int 0, .int 0, .int 0, .int 0, .ref (G.1 72), .ref (G.1 73), .ref (G.1 74), .ref (G.1 75), .int 0, .ref (G.1 76), .ref (G.1 77), .null, .long 0] 0 0) up_e_up ?_
  refine k_aload_n C 0 dX11_init_115 rfl ?_
  refine k_bipush C 6 dX11_init_116 (by decide +kernel) ?_
  refine k_newa C 6 (by decide +kernel) (by decide) k_int (79) 14 2168 rfl rfl rfl (Nat.le_of_ble_eq_true rfl) (Nat.le_of_ble_eq_true rfl) dX11_init_118 ?_
  refine k_to (e2 := eM G [.ref (G.1 65), .ref (G.1 66), .ref (G.1 67), .ref (G.1 68), .ref (G.1 69), .int 0, .ref (G.1 70), .int 0, .long 0, .long 1, .ref (G.1 71), .int 0, .int 0, .int 0, .int 0, .ref (G.1 72), .ref (G.1 73), .ref (G.1 74), .ref (G.1 75), .int 0, .ref (G.1 76), .ref (G.1 77), .null, .long 0] 0 0) (up_e_self rfl) ?_
  refine k_putF C 64 (Nat.le_of_ble_eq_true rfl) up_e_eq rfl nuX11 22 (by decide) rfl wfX11_53 tyX11 tyX11_ok nmX11 rfl rfl (ty := (.array .int)) (by decide +kernel) rfl rfl (Nat.le_of_ble_eq_true rfl) [.ref (G.1 65), .ref (G.1 66), .ref (G.1 67), .ref (G.1 68), .ref (G.1 69), .int 0, .ref (G.1 70), .int 0, .long 0, .long 1, .ref (G.1 71), .int 0, .int 0, .int 0, .int 0, .ref (G.1 72), .ref (G.1 73), .ref (G.1 74), .ref (G.1 75), .int 0, .ref (G.1 76), .ref (G.1 77), .ref (G.1 78), .long 0] rfl dX11_init_120 ?_
  refine k_to (e2 := eM G [.ref (G.1 65), .ref (G.1 66), .ref (G.1 67), .ref (G.1 68), .ref (G.1 69), .int 0, .ref (G.1 70), .int 0, .long 0, .long 1, .ref (G.1 71), .int 0, .int 0, .int 0, .int 0, .ref (G.1 72), .ref (G.1 73), .ref (G.1 74), .ref (G.1 75), .int 0, .ref (G.1 76), .ref (G.1 77), .ref (G.1 78), .long 0] 0 0) up_e_up ?_
  refine k_iconst C 0 dX11_init_123 (by decide +kernel) ?_
  refine k_istore_n C [(1, .int 0), (0, .ref (G.1 64))] dX11_init_124 (by decide) rfl ?_
  refine k_iload_n C 0 dX11_init_125 rfl ?_
  refine k_bipush C 6 dX11_init_126 (by decide +kernel) ?_
  refine k_icmp_geF C 144 dX11_init_128 (by decide) (by decide) ?_
  refine k_aload_n C 1 dX11_init_131 rfl ?_
  refine k_get C 64 (Nat.le_of_ble_eq_true rfl) up_e_eq rfl nuX11 1 (by decide) rfl wfX11_13 rfl dX11_init_132 ?_
  refine k_iload_n C 0 dX11_init_135 rfl ?_
  refine k_iconst C (-1) dX11_init_136 (by decide +kernel) ?_
  refine k_iast C 66 (by decide) (f := fun j => if j < 0 then -1 else 0) rfl 0 (by decide +kernel) (by decide) (by decide) (fun j => if j < 1 then -1 else 0) km_up dX11_init_137 ?_
  refine k_to (e2 := eM G [.ref (G.1 65), .ref (G.1 66), .ref (G.1 67), .ref (G.1 68), .ref (G.1 69), .int 0, .ref (G.1 70), .int 0, .long 0, .long 1, .ref (G.1 71), .int 0, .int 0, .int 0, .int 0, .ref (G.1 72), .ref (G.1 73), .ref (G.1 74), .ref (G.1 75), .int 0, .ref (G.1 76), .ref (G.1 77), .ref (G.1 78), .long 0] 1 0) km_66 ?_
  refine k_iinc C 0 1 [(1, .int 1), (0, .ref (G.1 64))] dX11_init_138 rfl (by decide +kernel) (by decide) rfl ?_
  refine k_goto C 125 dX11_init_141 (by decide) ?_
  refine k_iload_n C 0 dX11_init_125 rfl ?_
  refine k_bipush C 6 dX11_init_126 (by decide +kernel) ?_
  refine k_icmp_geF C 144 dX11_init_128 (by decide) (by decide) ?_
  refine k_aload_n C 1 dX11_init_131 rfl ?_
  refine k_get C 64 (Nat.le_of_ble_eq_true rfl) up_e_eq rfl nuX11 1 (by decide) rfl wfX11_13 rfl dX11_init_132 ?_
  refine k_iload_n C 0 dX11_init_135 rfl ?_
  refine k_iconst C (-1) dX11_init_136 (by decide +kernel) ?_
  refine k_iast C 66 (by decide) (f := fun j => if j < 1 then -1 else 0) rfl 1 (by decide +kernel) (by decide) (by decide) (fun j => if j < 2 then -1 else 0) km_up dX11_init_137 ?_
  refine k_to (e2 := eM G [.ref (G.1 65), .ref (G.1 66), .ref (G.1 67), .ref (G.1 68), .ref (G.1 69), .int 0, .ref (G.1 70), .int 0, .long 0, .long 1, .ref (G.1 71), .int 0, .int 0, .int 0, .int 0, .ref (G.1 72), .ref (G.1 73), .ref (G.1 74), .ref (G.1 75), .int 0, .ref (G.1 76), .ref (G.1 77), .ref (G.1 78), .long 0] 2 0) km_66 ?_
  refine k_iinc C 0 2 [(1, .int 2), (0, .ref (G.1 64))] dX11_init_138 rfl (by decide +kernel) (by decide) rfl ?_
  refine k_goto C 125 dX11_init_141 (by decide) ?_
  refine k_iload_n C 0 dX11_init_125 rfl ?_
  refine k_bipush C 6 dX11_init_126 (by decide +kernel) ?_
  refine k_icmp_geF C 144 dX11_init_128 (by decide) (by decide) ?_
  refine k_aload_n C 1 dX11_init_131 rfl ?_
  refine k_get C 64 (Nat.le_of_ble_eq_true rfl) up_e_eq rfl nuX11 1 (by decide) rfl wfX11_13 rfl dX11_init_132 ?_
  refine k_iload_n C 0 dX11_init_135 rfl ?_
  refine k_iconst C (-1) dX11_init_136 (by decide +kernel) ?_
  refine k_iast C 66 (by decide) (f := fun j => if j < 2 then -1 else 0) rfl 2 (by decide +kernel) (by decide) (by decide) (fun j => if j < 3 then -1 else 0) km_up dX11_init_137 ?_
  refine k_to (e2 := eM G [.ref (G.1 65), .ref (G.1 66), .ref (G.1 67), .ref (G.1 68), .ref (G.1 69), .int 0, .ref (G.1 70), .int 0, .long 0, .long 1, .ref (G.1 71), .int 0, .int 0, .int 0, .int 0, .ref (G.1 72), .ref (G.1 73), .ref (G.1 74), .ref (G.1 75), .int 0, .ref (G.1 76), .ref (G.1 77), .ref (G.1 78), .long 0] 3 0) km_66 ?_
  refine k_iinc C 0 3 [(1, .int 3), (0, .ref (G.1 64))] dX11_init_138 rfl (by decide +kernel) (by decide) rfl ?_
  refine k_goto C 125 dX11_init_141 (by decide) ?_
  refine k_iload_n C 0 dX11_init_125 rfl ?_
  refine k_bipush C 6 dX11_init_126 (by decide +kernel) ?_
  refine k_icmp_geF C 144 dX11_init_128 (by decide) (by decide) ?_
  refine k_aload_n C 1 dX11_init_131 rfl ?_
  refine k_get C 64 (Nat.le_of_ble_eq_true rfl) up_e_eq rfl nuX11 1 (by decide) rfl wfX11_13 rfl dX11_init_132 ?_
  refine k_iload_n C 0 dX11_init_135 rfl ?_
  refine k_iconst C (-1) dX11_init_136 (by decide +kernel) ?_
  refine k_iast C 66 (by decide) (f := fun j => if j < 3 then -1 else 0) rfl 3 (by decide +kernel) (by decide) (by decide) (fun j => if j < 4 then -1 else 0) km_up dX11_init_137 ?_
  refine k_to (e2 := eM G [.ref (G.1 65), .ref (G.1 66), .ref (G.1 67), .ref (G.1 68), .ref (G.1 69), .int 0, .ref (G.1 70), .int 0, .long 0, .long 1, .ref (G.1 71), .int 0, .int 0, .int 0, .int 0, .ref (G.1 72), .ref (G.1 73), .ref (G.1 74), .ref (G.1 75), .int 0, .ref (G.1 76), .ref (G.1 77), .ref (G.1 78), .long 0] 4 0) km_66 ?_
  refine k_iinc C 0 4 [(1, .int 4), (0, .ref (G.1 64))] dX11_init_138 rfl (by decide +kernel) (by decide) rfl ?_
  refine k_goto C 125 dX11_init_141 (by decide) ?_
  refine k_iload_n C 0 dX11_init_125 rfl ?_
  refine k_bipush C 6 dX11_init_126 (by decide +kernel) ?_
  refine k_icmp_geF C 144 dX11_init_128 (by decide) (by decide) ?_
  refine k_aload_n C 1 dX11_init_131 rfl ?_
  refine k_get C 64 (Nat.le_of_ble_eq_true rfl) up_e_eq rfl nuX11 1 (by decide) rfl wfX11_13 rfl dX11_init_132 ?_
  refine k_iload_n C 0 dX11_init_135 rfl ?_
  refine k_iconst C (-1) dX11_init_136 (by decide +kernel) ?_
  refine k_iast C 66 (by decide) (f := fun j => if j < 4 then -1 else 0) rfl 4 (by decide +kernel) (by decide) (by decide) (fun j => if j < 5 then -1 else 0) km_up dX11_init_137 ?_
  refine k_to (e2 := eM G [.ref (G.1 65), .ref (G.1 66), .ref (G.1 67), .ref (G.1 68), .ref (G.1 69), .int 0, .ref (G.1 70), .int 0, .long 0, .long 1, .ref (G.1 71), .int 0, .int 0, .int 0, .int 0, .ref (G.1 72), .ref (G.1 73), .ref (G.1 74), .ref (G.1 75), .int 0, .ref (G.1 76), .ref (G.1 77), .ref (G.1 78), .long 0] 5 0) km_66 ?_
  refine k_iinc C 0 5 [(1, .int 5), (0, .ref (G.1 64))] dX11_init_138 rfl (by decide +kernel) (by decide) rfl ?_
  refine k_goto C 125 dX11_init_141 (by decide) ?_
  refine k_iload_n C 0 dX11_init_125 rfl ?_
  refine k_bipush C 6 dX11_init_126 (by decide +kernel) ?_
  refine k_icmp_geF C 144 dX11_init_128 (by decide) (by decide) ?_
  refine k_aload_n C 1 dX11_init_131 rfl ?_
  refine k_get C 64 (Nat.le_of_ble_eq_true rfl) up_e_eq rfl nuX11 1 (by decide) rfl wfX11_13 rfl dX11_init_132 ?_
  refine k_iload_n C 0 dX11_init_135 rfl ?_
  refine k_iconst C (-1) dX11_init_136 (by decide +kernel) ?_
  refine k_iast C 66 (by decide) (f := fun j => if j < 5 then -1 else 0) rfl 5 (by decide +kernel) (by decide) (by decide) (fun j => if j < 6 then -1 else 0) km_up dX11_init_137 ?_
  refine k_to (e2 := eM G [.ref (G.1 65), .ref (G.1 66), .ref (G.1 67), .ref (G.1 68), .ref (G.1 69), .int 0, .ref (G.1 70), .int 0, .long 0, .long 1, .ref (G.1 71), .int 0, .int 0, .int 0, .int 0, .ref (G.1 72), .ref (G.1 73), .ref (G.1 74), .ref (G.1 75), .int 0, .ref (G.1 76), .ref (G.1 77), .ref (G.1 78), .long 0] 6 0) km_66 ?_
  refine k_iinc C 0 6 [(1, .int 6), (0, .ref (G.1 64))] dX11_init_138 rfl (by decide +kernel) (by decide) rfl ?_
  refine k_goto C 125 dX11_init_141 (by decide) ?_
  refine k_iload_n C 0 dX11_init_125 rfl ?_
  refine k_bipush C 6 dX11_init_126 (by decide +kernel) ?_
  refine k_icmp_geT C 144 dX11_init_128 (by decide) (by decide) ?_
  refine k_iconst C 0 dX11_init_144 (by decide +kernel) ?_
  refine k_istore_n C [(1, .int 0), (0, .ref (G.1 64))] dX11_init_145 (by decide) rfl ?_
  refine k_iload_n C 0 dX11_init_146 rfl ?_
  refine k_iconst C 4 dX11_init_147 (by decide +kernel) ?_
  refine k_icmp_geF C 164 dX11_init_148 (by decide) (by decide) ?_
  refine k_aload_n C 1 dX11_init_151 rfl ?_
  refine k_get C 64 (Nat.le_of_ble_eq_true rfl) up_e_eq rfl nuX11 3 (by decide) rfl wfX11_19 rfl dX11_init_152 ?_
  refine k_iload_n C 0 dX11_init_155 rfl ?_
  refine k_iconst C (-1) dX11_init_156 (by decide +kernel) ?_
  refine k_iast C 68 (by decide) (f := fun j => if j < 0 then -1 else 0) rfl 0 (by decide +kernel) (by decide) (by decide) (fun j => if j < 1 then -1 else 0) km_up dX11_init_157 ?_
  refine k_to (e2 := eM G [.ref (G.1 65), .ref (G.1 66), .ref (G.1 67), .ref (G.1 68), .ref (G.1 69), .int 0, .ref (G.1 70), .int 0, .long 0, .long 1, .ref (G.1 71), .int 0, .int 0, .int 0, .int 0, .ref (G.1 72), .ref (G.1 73), .ref (G.1 74), .ref (G.1 75), .int 0, .ref (G.1 76), .ref (G.1 77), .ref (G.1 78), .long 0] 6 1) km_68 ?_
  refine k_iinc C 0 1 [(1, .int 1), (0, .ref (G.1 64))] dX11_init_158 rfl (by decide +kernel) (by decide) rfl ?_
  refine k_goto C 146 dX11_init_161 (by decide) ?_
  refine k_iload_n C 0 dX11_init_146 rfl ?_
  refine k_iconst C 4 dX11_init_147 (by decide +kernel) ?_
  refine k_icmp_geF C 164 dX11_init_148 (by decide) (by decide) ?_
  refine k_aload_n C 1 dX11_init_151 rfl ?_
  refine k_get C 64 (Nat.le_of_ble_eq_true rfl) up_e_eq rfl nuX11 3 (by decide) rfl wfX11_19 rfl dX11_init_152 ?_
  refine k_iload_n C 0 dX11_init_155 rfl ?_
  refine k_iconst C (-1) dX11_init_156 (by decide +kernel) ?_
  refine k_iast C 68 (by decide) (f := fun j => if j < 1 then -1 else 0) rfl 1 (by decide +kernel) (by decide) (by decide) (fun j => if j < 2 then -1 else 0) km_up dX11_init_157 ?_
  refine k_to (e2 := eM G [.ref (G.1 65), .ref (G.1 66), .ref (G.1 67), .ref (G.1 68), .ref (G.1 69), .int 0, .ref (G.1 70), .int 0, .long 0, .long 1, .ref (G.1 71), .int 0, .int 0, .int 0, .int 0, .ref (G.1 72), .ref (G.1 73), .ref (G.1 74), .ref (G.1 75), .int 0, .ref (G.1 76), .ref (G.1 77), .ref (G.1 78), .long 0] 6 2) km_68 ?_
  refine k_iinc C 0 2 [(1, .int 2), (0, .ref (G.1 64))] dX11_init_158 rfl (by decide +kernel) (by decide) rfl ?_
  refine k_goto C 146 dX11_init_161 (by decide) ?_
  refine k_iload_n C 0 dX11_init_146 rfl ?_
  refine k_iconst C 4 dX11_init_147 (by decide +kernel) ?_
  refine k_icmp_geF C 164 dX11_init_148 (by decide) (by decide) ?_
  refine k_aload_n C 1 dX11_init_151 rfl ?_
  refine k_get C 64 (Nat.le_of_ble_eq_true rfl) up_e_eq rfl nuX11 3 (by decide) rfl wfX11_19 rfl dX11_init_152 ?_
  refine k_iload_n C 0 dX11_init_155 rfl ?_
  refine k_iconst C (-1) dX11_init_156 (by decide +kernel) ?_
  refine k_iast C 68 (by decide) (f := fun j => if j < 2 then -1 else 0) rfl 2 (by decide +kernel) (by decide) (by decide) (fun j => if j < 3 then -1 else 0) km_up dX11_init_157 ?_
  refine k_to (e2 := eM G [.ref (G.1 65), .ref (G.1 66), .ref (G.1 67), .ref (G.1 68), .ref (G.1 69), .int 0, .ref (G.1 70), .int 0, .long 0, .long 1, .ref (G.1 71), .int 0, .int 0, .int 0, .int 0, .ref (G.1 72), .ref (G.1 73), .ref (G.1 74), .ref (G.1 75), .int 0, .ref (G.1 76), .ref (G.1 77), .ref (G.1 78), .long 0] 6 3) km_68 ?_
  refine k_iinc C 0 3 [(1, .int 3), (0, .ref (G.1 64))] dX11_init_158 rfl (by decide +kernel) (by decide) rfl ?_
  refine k_goto C 146 dX11_init_161 (by decide) ?_
  refine k_iload_n C 0 dX11_init_146 rfl ?_
  refine k_iconst C 4 dX11_init_147 (by decide +kernel) ?_
  refine k_icmp_geF C 164 dX11_init_148 (by decide) (by decide) ?_
  refine k_aload_n C 1 dX11_init_151 rfl ?_
  refine k_get C 64 (Nat.le_of_ble_eq_true rfl) up_e_eq rfl nuX11 3 (by decide) rfl wfX11_19 rfl dX11_init_152 ?_
  refine k_iload_n C 0 dX11_init_155 rfl ?_
  refine k_iconst C (-1) dX11_init_156 (by decide +kernel) ?_
  refine k_iast C 68 (by decide) (f := fun j => if j < 3 then -1 else 0) rfl 3 (by decide +kernel) (by decide) (by decide) (fun j => if j < 4 then -1 else 0) km_up dX11_init_157 ?_
  refine k_to (e2 := eM G [.ref (G.1 65), .ref (G.1 66), .ref (G.1 67), .ref (G.1 68), .ref (G.1 69), .int 0, .ref (G.1 70), .int 0, .long 0, .long 1, .ref (G.1 71), .int 0, .int 0, .int 0, .int 0, .ref (G.1 72), .ref (G.1 73), .ref (G.1 74), .ref (G.1 75), .int 0, .ref (G.1 76), .ref (G.1 77), .ref (G.1 78), .long 0] 6 4) km_68 ?_
  refine k_iinc C 0 4 [(1, .int 4), (0, .ref (G.1 64))] dX11_init_158 rfl (by decide +kernel) (by decide) rfl ?_
  refine k_goto C 146 dX11_init_161 (by decide) ?_
  refine k_iload_n C 0 dX11_init_146 rfl ?_
  refine k_iconst C 4 dX11_init_147 (by decide +kernel) ?_
  refine k_icmp_geT C 164 dX11_init_148 (by decide) (by decide) ?_
  refine k_to (e2 := Fz G) (by show up_e (up_e (up_e (Fz G) 66 _) 68 _) 64 _ = _; rw [up_e_self (e := Fz G) (c := 66) (a := g_ia G 6 (fun j => if j < 6 then -1 else 0)) rfl, up_e_self (e := Fz G) (c := 68) (a := g_ia G 4 (fun j => if j < 4 then -1 else 0)) rfl]; exact up_e_self rfl) ?_
  subst hQ
  exact k_vret C dX11_init_164
