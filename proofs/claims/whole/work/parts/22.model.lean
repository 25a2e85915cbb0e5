set_option maxHeartbeats 4000000 in
set_option maxRecDepth 100000 in
theorem c_X10_type (l : Launch) (g : XG) (mq : Nat) (mf : Int64) (mt : Nat) (mmq : Nat) (mn : Nat) (mkq : Nat) (mcq : Nat) (mhq : Nat) (maq : Nat) (mz : Int32) (my : Int32) (mS : Int64) (mzq : Nat) (mtq : Nat) (mT : Nat) (mA : Nat) (mrq : Nat) (muq : Nat) (mF : Int64) (mZ : Int32) (moq : Nat) (mK : Int32) (mH : Int32) (mgq : Nat) (miq : Nat) (mI : Int64) (mB : Bool) (mlq : Nat) (msq : Nat) (meq : Nat) (mvq : Nat) (mta : Nat → Int32) (w : Int64) (x : Int32) (hT : mT ≤ 60) : Ke l g yX10_type wsX10_type ({ frames := 1, cells := 0, slots := 0, locals := 25 } : Room) 0 0 [.ref mq, .long w, .int x] [ob mq 10 [.long mf, .int (nI mt), .ref mmq, .int (nI mn), .ref mkq, .ref mcq, .ref mhq, .ref maq, .int mz, .int my, .long mS, .ref mzq, .ref mtq, .int (nI mT), .int (nI mA), .ref mrq, .ref muq, .long mF, .int mZ, .ref moq, .int mK, .int mH, .ref mgq, .ref miq, .long mI, .int (bI mB), .ref mlq, .ref msq, .ref meq, .ref mvq], ai g mtq 60 mta] (fun u : Int32 × Nat × (Nat → Int32) => some (.int u.1)) (fun u => [ob mq 10 [.long mf, .int (nI mt), .ref mmq, .int (nI mn), .ref mkq, .ref mcq, .ref mhq, .ref maq, .int mz, .int my, .long mS, .ref mzq, .ref mtq, .int (nI u.2.1), .int (nI mA), .ref mrq, .ref muq, .long mF, .int mZ, .ref moq, .int mK, .int mH, .ref mgq, .ref miq, .long mI, .int (bI mB), .ref mlq, .ref msq, .ref meq, .ref mvq], ai g mtq 60 u.2.2]) (fun u => (R_type (ctM w) (fun k => apM w k mta mT) x mT mta u.1 u.2.1 u.2.2)) := by
  refine Ke.of (cc := cX10_type) (maxL := 5) (ret := (some .int)) (lv := [(0, .ref mq), (1, .long w), (3, .int x)]) RX10 rfl (by decide) rfl (Nat.le_of_ble_eq_true rfl) rfl ?_
  intro p e s m below meth c A sz hA9 X hr hin2
  have in10 : ∀ w ∈ u_ws RX10 TX10 30, w ∈ wsX10_type := by decide +kernel
  refine V_iload_n (pc := 0) X dX10_type_0 rfl 2 rfl ?_
  refine V_i2l (pc := 1) X dX10_type_1 ?_
  refine V_lconst (v := 1) (pc := 2) X dX10_type_2 (by decide) ?_
  refine V_ldc2 (v := 8) (pc := 3) X dX10_type_3 (by decide +kernel) ?_
  refine V_sg (pc := 6) (nA := 3) (As := [.long x.toInt64, .long 1, .long 8]) (rest := []) X (c_X10_in l g (v := x.toInt64) (v1 := 1) (v2 := 8) ) gX10_type_X10_in dX10_type_6 rfl (by decide +kernel) rfl ⟨rfl, rfl⟩ ⟨Nat.le_of_ble_eq_true rfl, Nat.le_of_ble_eq_true rfl⟩ ⟨Nat.le_of_ble_eq_true rfl, Nat.le_of_ble_eq_true rfl⟩ [] (by decide) rfl rfl (Nat.le_of_ble_eq_true rfl) (st' := [.int (bI (inJ x.toInt64 1 8))]) rfl ?_
  refine V_seti (y := bI (!decide (x < 1) && !decide (8 < x))) (congrArg bI inJ_18) ?_
  refine V_if_ne (tgt := 14) (pc := 9) X dX10_type_9 (by decide) (fun c_1 => ?_) (fun c_1 => ?_)
  · skip
    have b_2 : (!decide (x < 1) && !decide (8 < x)) = true := bI1 c_1
    obtain ⟨k_3, rfl, h1_4, h2_5⟩ := ty18 b_2
    refine V_iconst (v := 0) (pc := 14) X dX10_type_14 (by decide) ?_
    refine V_istore (lv' := [(4, .int 0), (0, .ref mq), (1, .long w), (3, .int (nI k_3))]) (pc := 15) X dX10_type_15 (Nat.le_of_ble_eq_true rfl) rfl ?_
    refine V_loop (pc := 17) (σ := Nat) (fun v9 => [(0, .ref mq), (1, .long w), (3, .int (nI k_3)), (4, .int (nI v9))]) (fun v9 => [ob mq 10 [.long mf, .int (nI mt), .ref mmq, .int (nI mn), .ref mkq, .ref mcq, .ref mhq, .ref maq, .int mz, .int my, .long mS, .ref mzq, .ref mtq, .int (nI mT), .int (nI mA), .ref mrq, .ref muq, .long mF, .int mZ, .ref moq, .int mK, .int mH, .ref mgq, .ref miq, .long mI, .int (bI mB), .ref mlq, .ref msq, .ref meq, .ref mvq], ai g mtq 60 mta]) (fun v9 => (v9 ≤ k_3) ∧ (ctM w v9 = true)) (fun v9 => 100 - v9) 0 ⟨(by
          try dsimp only
          all_goals omega), (by
          try dsimp only
          all_goals rfl)⟩ rfl [1, 2, 3, 0] rfl ?_
    rintro k ⟨hk, hct⟩ ih17
    refine V_eqw (ws2 := [ob mq 10 [.long mf, .int (nI mt), .ref mmq, .int (nI mn), .ref mkq, .ref mcq, .ref mhq, .ref maq, .int mz, .int my, .long mS, .ref mzq, .ref mtq, .int (nI mT), .int (nI mA), .ref mrq, .ref muq, .long mF, .int mZ, .ref moq, .int mK, .int mH, .ref mgq, .ref miq, .long mI, .int (bI mB), .ref mlq, .ref msq, .ref meq, .ref mvq], ai g mtq 60 mta]) rfl (V_eql (lv' := [(0, .ref mq), (1, .long w), (3, .int (nI k_3)), (4, .int (nI k))]) rfl ?_)
    refine V_iload (pc := 17) X dX10_type_17 3 rfl ?_
    refine V_iload_n (pc := 19) X dX10_type_19 rfl 2 rfl ?_
    refine V_icmp_ge (tgt := 54) (pc := 20) X dX10_type_20 (by decide) (fun c_6 => ?_) (fun c_6 => ?_)
    · skip
      have n_7 : k_3 ≤ k := nJ_le (a := k_3) (b := k) (by omega) (by omega) c_6
      refine V_aload_n (pc := 54) X dX10_type_54 rfl 0 rfl ?_
      refine V_get (C := RX10) (T := TX10) (N := 30) (ci := 10) (pc := 55) X dX10_type_55 in10 0 rfl rfl 13 (by decide) (by decide +kernel) rfl rfl ?_
      refine V_iload_n (pc := 58) X dX10_type_58 rfl 2 rfl ?_
      refine V_iadd (pc := 59) X dX10_type_59 ?_
      refine V_seti (y := nI (mT + k_3)) (nI_add mT k_3) ?_
      refine V_bipush (v := 60) (pc := 60) X dX10_type_60 (by decide) ?_
      refine V_icmp_le (tgt := 68) (pc := 62) X dX10_type_62 (by decide) (fun c_8 => ?_) (fun c_8 => ?_)
      · skip
        have n_9 : (mT + k_3) ≤ 60 := nJ_le (a := mT + k_3) (b := 60) (by omega) (by omega) c_8
        refine V_iload_n (pc := 68) X dX10_type_68 rfl 2 rfl ?_
        refine V_iconst (v := 1) (pc := 69) X dX10_type_69 (by decide) ?_
        refine V_isub (pc := 70) X dX10_type_70 ?_
        refine V_istore (lv' := [(4, .int ((nI k_3) - 1)), (0, .ref mq), (1, .long w), (3, .int (nI k_3))]) (pc := 71) X dX10_type_71 (Nat.le_of_ble_eq_true rfl) rfl ?_
        refine V_loop (pc := 73) (σ := Nat × (Nat → Int32) × Nat) (fun v9 => [(0, .ref mq), (1, .long w), (3, .int (nI k_3)), (4, .int ((nI v9.1) - 1))]) (fun v9 => [ob mq 10 [.long mf, .int (nI mt), .ref mmq, .int (nI mn), .ref mkq, .ref mcq, .ref mhq, .ref maq, .int mz, .int my, .long mS, .ref mzq, .ref mtq, .int (nI v9.2.2), .int (nI mA), .ref mrq, .ref muq, .long mF, .int mZ, .ref moq, .int mK, .int mH, .ref mgq, .ref miq, .long mI, .int (bI mB), .ref mlq, .ref msq, .ref meq, .ref mvq], ai g mtq 60 v9.2.1]) (fun v9 => (v9.2.2 + v9.1 = mT + k_3) ∧ (mT + k_3 ≤ 60) ∧ (apM w v9.1 v9.2.1 v9.2.2 = apM w k_3 mta mT)) (fun v9 => v9.1) (k_3, mta, mT) ⟨(by
              try dsimp only
              all_goals omega), (by
              try dsimp only
              all_goals omega), (by
              try dsimp only
              all_goals rfl)⟩ rfl [1, 2, 3, 0] rfl ?_
        rintro ⟨j, z, m⟩ ⟨hm, hj, ha⟩ ih73
        try dsimp only at hm
        try dsimp only at hj
        try dsimp only at ha
        refine V_eqw (ws2 := [ob mq 10 [.long mf, .int (nI mt), .ref mmq, .int (nI mn), .ref mkq, .ref mcq, .ref mhq, .ref maq, .int mz, .int my, .long mS, .ref mzq, .ref mtq, .int (nI m), .int (nI mA), .ref mrq, .ref muq, .long mF, .int mZ, .ref moq, .int mK, .int mH, .ref mgq, .ref miq, .long mI, .int (bI mB), .ref mlq, .ref msq, .ref meq, .ref mvq], ai g mtq 60 z]) rfl (V_eql (lv' := [(0, .ref mq), (1, .long w), (3, .int (nI k_3)), (4, .int ((nI j) - 1))]) rfl ?_)
        refine V_iload (pc := 73) X dX10_type_73 3 rfl ?_
        refine V_if_lt (tgt := 115) (pc := 75) X dX10_type_75 (by decide) (fun c_10 => ?_) (fun c_10 => ?_)
        · skip
          have hj0 := jr0 c_10 (by omega)
          refine V_aload_n (pc := 115) X dX10_type_115 rfl 0 rfl ?_
          refine V_get (C := RX10) (T := TX10) (N := 30) (ci := 10) (pc := 116) X dX10_type_116 in10 0 rfl rfl 13 (by decide) (by decide +kernel) rfl rfl ?_
          exact Ve_iret (pc := 119) X hA9 dX10_type_119 hr (nI m, m, z) (by first | rfl | (simp [b_2, h1_4, h2_5, n_7, n_9, c_10]; done)) (by
                try dsimp only
                (unfold R_type; exact Or.inr (Or.inr (Or.inr ⟨k_3, rfl, by assumption, by assumption, (by rw [show k_3 = k by omega]; exact hct), by omega, by rw [show mT + k_3 = m by omega], by omega, by show z = apM w k_3 mta mT; rw [← ha, hj0]; rfl⟩)))) (by rfl)
        · skip
          obtain ⟨j_11, rfl⟩ := jr1 c_10
          refine V_eql (lv' := [(0, .ref mq), (1, .long w), (3, .int (nI k_3)), (4, .int (nI j_11))]) (by rw [nI_pred]) ?_
          refine V_aload_n (pc := 78) X dX10_type_78 rfl 0 rfl ?_
          refine V_get (C := RX10) (T := TX10) (N := 30) (ci := 10) (pc := 79) X dX10_type_79 in10 0 rfl rfl 12 (by decide) (by decide +kernel) rfl rfl ?_
          refine V_aload_n (pc := 82) X dX10_type_82 rfl 0 rfl ?_
          refine V_get (C := RX10) (T := TX10) (N := 30) (ci := 10) (pc := 83) X dX10_type_83 in10 0 rfl rfl 13 (by decide) (by decide +kernel) rfl rfl ?_
          refine V_lload_n (pc := 86) X dX10_type_86 rfl 1 rfl ?_
          refine V_bipush (v := 8) (pc := 87) X dX10_type_87 (by decide) ?_
          refine V_iload (pc := 89) X dX10_type_89 3 rfl ?_
          refine V_imul (pc := 91) X dX10_type_91 ?_
          refine V_seti (y := nI (8 * j_11)) (pk_mul 8 j_11) ?_
          refine V_lshr (pc := 92) X dX10_type_92 ?_
          refine V_ldc2 (v := 255) (pc := 93) X dX10_type_93 (by decide +kernel) ?_
          refine V_land (pc := 96) X dX10_type_96 ?_
          refine V_setl (y := sgM w j_11) (rfl) ?_
          refine V_l2i (pc := 97) X dX10_type_97 ?_
          refine V_iast (f' := upd z m ((sgM w j_11).toInt32)) (ws' := [ob mq 10 [.long mf, .int (nI mt), .ref mmq, .int (nI mn), .ref mkq, .ref mcq, .ref mhq, .ref maq, .int mz, .int my, .long mS, .ref mzq, .ref mtq, .int (nI m), .int (nI mA), .ref mrq, .ref muq, .long mF, .int mZ, .ref moq, .int mK, .int mH, .ref mgq, .ref miq, .long mI, .int (bI mB), .ref mlq, .ref msq, .ref meq, .ref mvq], ai g mtq 60 (upd z m ((sgM w j_11).toInt32))]) (pc := 98) X dX10_type_98 1 rfl (vp_in_nI (by omega) (by omega)) (by rw [nI_clamp (by omega)]) rfl ?_
          refine V_aload_n (pc := 99) X dX10_type_99 rfl 0 rfl ?_
          refine V_dup (pc := 100) X dX10_type_100 rfl ?_
          refine V_get (C := RX10) (T := TX10) (N := 30) (ci := 10) (pc := 101) X dX10_type_101 in10 0 rfl rfl 13 (by decide) (by decide +kernel) rfl rfl ?_
          refine V_iconst (v := 1) (pc := 104) X dX10_type_104 (by decide) ?_
          refine V_iadd (pc := 105) X dX10_type_105 ?_
          refine V_seti (y := nI (m + 1)) (nI_add m 1) ?_
          refine V_put (C := RX10) (T := TX10) (N := 30) (ci := 10) (ws' := [ob mq 10 [.long mf, .int (nI mt), .ref mmq, .int (nI mn), .ref mkq, .ref mcq, .ref mhq, .ref maq, .int mz, .int my, .long mS, .ref mzq, .ref mtq, .int (nI (m + 1)), .int (nI mA), .ref mrq, .ref muq, .long mF, .int mZ, .ref moq, .int mK, .int mH, .ref mgq, .ref miq, .long mI, .int (bI mB), .ref mlq, .ref msq, .ref meq, .ref mvq], ai g mtq 60 (upd z m ((sgM w j_11).toInt32))]) (pc := 106) X dX10_type_106 in10 tyX10 tyX10_ok nmX10 0 rfl rfl 13 (by decide) (by decide +kernel) rfl rfl rfl rfl rfl (Nat.le_of_ble_eq_true rfl) rfl ?_
          refine V_iinc (v := (nI j_11) - 1) (lv' := [(4, .int ((nI j_11) - 1)), (0, .ref mq), (1, .long w), (3, .int (nI k_3))]) (pc := 109) X dX10_type_109 3 rfl (by rw [Int32.sub_eq_add_neg]; rfl) (Nat.le_of_ble_eq_true rfl) rfl ?_
          refine V_goto (tgt := 73) (pc := 112) X dX10_type_112 (by decide) ?_
          refine V_lv [1, 2, 3, 0] rfl ?_
          exact ih73 (j_11, upd z m ((sgM w j_11).toInt32), m + 1) ⟨(by
                try dsimp only
                all_goals omega), (by
                try dsimp only
                all_goals omega), (by
                try dsimp only
                exact ha)⟩ (by
                try dsimp only
                all_goals omega)
      · skip
        have n_12 : 60 < (mT + k_3) := nJ_nle (a := mT + k_3) (b := 60) (by omega) (by omega) c_8
        refine V_bipush (v := (-3)) (pc := 65) X dX10_type_65 (by decide) ?_
        exact Ve_iret (pc := 67) X hA9 dX10_type_67 hr ((-3), mT, mta) (by first | rfl | (simp [b_2, h1_4, h2_5, n_7, n_12]; done)) (by
              try dsimp only
              (unfold R_type; exact Or.inr (Or.inr (Or.inl ⟨k_3, rfl, by assumption, by assumption, (by rw [show k_3 = k by omega]; exact hct), by omega, rfl, rfl, rfl⟩)))) (by rfl)
    · skip
      have n_13 : k < k_3 := nJ_nle (a := k_3) (b := k) (by omega) (by omega) c_6
      refine V_lload_n (pc := 23) X dX10_type_23 rfl 1 rfl ?_
      refine V_bipush (v := 8) (pc := 24) X dX10_type_24 (by decide) ?_
      refine V_iload (pc := 26) X dX10_type_26 3 rfl ?_
      refine V_imul (pc := 28) X dX10_type_28 ?_
      refine V_seti (y := nI (8 * k)) (pk_mul 8 k) ?_
      refine V_lshr (pc := 29) X dX10_type_29 ?_
      refine V_ldc2 (v := 255) (pc := 30) X dX10_type_30 (by decide +kernel) ?_
      refine V_land (pc := 33) X dX10_type_33 ?_
      refine V_setl (y := sgM w k) (rfl) ?_
      refine V_ldc2 (v := 32) (pc := 34) X dX10_type_34 (by decide +kernel) ?_
      refine V_ldc2 (v := 126) (pc := 37) X dX10_type_37 (by decide +kernel) ?_
      refine V_sg (pc := 40) (nA := 3) (As := [.long (sgM w k), .long 32, .long 126]) (rest := []) X (c_X10_in l g (v := sgM w k) (v1 := 32) (v2 := 126) ) gX10_type_X10_in dX10_type_40 rfl (by decide +kernel) rfl ⟨rfl, rfl⟩ ⟨Nat.le_of_ble_eq_true rfl, Nat.le_of_ble_eq_true rfl⟩ ⟨Nat.le_of_ble_eq_true rfl, Nat.le_of_ble_eq_true rfl⟩ [] (by decide) rfl rfl (Nat.le_of_ble_eq_true rfl) (st' := [.int (bI (inJ (sgM w k) 32 126))]) rfl ?_
      refine V_if_ne (tgt := 48) (pc := 43) X dX10_type_43 (by decide) (fun c_14 => ?_) (fun c_14 => ?_)
      · skip
        have b_15 : (inJ (sgM w k) 32 126) = true := bI1 c_14
        refine V_iinc (v := nI (k + 1)) (lv' := [(4, .int (nI (k + 1))), (0, .ref mq), (1, .long w), (3, .int (nI k_3))]) (pc := 48) X dX10_type_48 3 rfl (nI_add k 1) (Nat.le_of_ble_eq_true rfl) rfl ?_
        refine V_goto (tgt := 17) (pc := 51) X dX10_type_51 (by decide) ?_
        refine V_lv [1, 2, 3, 0] rfl ?_
        exact ih17 (k + 1) ⟨(by
              try dsimp only
              all_goals omega), (by
              try dsimp only
              exact ctM_s hct (by assumption))⟩ (by
              try dsimp only
              all_goals omega)
      · skip
        have b_16 : (inJ (sgM w k) 32 126) = false := bI0 c_14
        refine V_iconst (v := (-1)) (pc := 46) X dX10_type_46 (by decide) ?_
        exact Ve_iret (pc := 47) X hA9 dX10_type_47 hr ((-1), mT, mta) (by first | rfl | (simp [b_2, h1_4, h2_5, n_13, b_16]; done)) (by
              try dsimp only
              (unfold R_type; exact Or.inr (Or.inl ⟨k_3, rfl, by assumption, by assumption, ctM_no (by assumption) (by assumption), rfl, rfl, rfl⟩))) (by rfl)
  · skip
    have b_17 : (!decide (x < 1) && !decide (8 < x)) = false := bI0 c_1
    refine V_iconst (v := (-1)) (pc := 12) X dX10_type_12 (by decide) ?_
    exact Ve_iret (pc := 13) X hA9 dX10_type_13 hr ((-1), mT, mta) (by first | rfl | (simp [b_17]; done)) (by
          try dsimp only
          (unfold R_type; exact Or.inl ⟨ty18f (by assumption), rfl, rfl, rfl⟩)) (by rfl)
set_option maxHeartbeats 4000000 in
set_option maxRecDepth 100000 in
theorem c_X10_here (l : Launch) (g : XG) (mq : Nat) (mf : Int64) (mt : Nat) (mmq : Nat) (mn : Nat) (mkq : Nat) (mcq : Nat) (mhq : Nat) (maq : Nat) (mz : Int32) (my : Int32) (mS : Int64) (mzq : Nat) (mtq : Nat) (mT : Nat) (mA : Nat) (mrq : Nat) (muq : Nat) (mF : Int64) (mZ : Int32) (moq : Nat) (mK : Int32) (mH : Int32) (mgq : Nat) (miq : Nat) (mI : Int64) (mB : Bool) (mlq : Nat) (msq : Nat) (meq : Nat) (mvq : Nat) (mta : Nat → Int32) (hTA : mA ≤ mT) (hT : mT ≤ 60) : Ke l g yX10_here wsX10_here ({ frames := 0, cells := 0, slots := 0, locals := 0 } : Room) 0 0 [.ref mq] [ob mq 10 [.long mf, .int (nI mt), .ref mmq, .int (nI mn), .ref mkq, .ref mcq, .ref mhq, .ref maq, .int mz, .int my, .long mS, .ref mzq, .ref mtq, .int (nI mT), .int (nI mA), .ref mrq, .ref muq, .long mF, .int mZ, .ref moq, .int mK, .int mH, .ref mgq, .ref miq, .long mI, .int (bI mB), .ref mlq, .ref msq, .ref meq, .ref mvq], ai g mtq 60 mta] (fun u : Int32 × Nat => some (.int u.1)) (fun u => [ob mq 10 [.long mf, .int (nI mt), .ref mmq, .int (nI mn), .ref mkq, .ref mcq, .ref mhq, .ref maq, .int mz, .int my, .long mS, .ref mzq, .ref mtq, .int (nI mT), .int (nI u.2), .ref mrq, .ref muq, .long mF, .int mZ, .ref moq, .int mK, .int mH, .ref mgq, .ref miq, .long mI, .int (bI mB), .ref mlq, .ref msq, .ref meq, .ref mvq], ai g mtq 60 mta]) (fun u => (HR mta mT mA u.2 u.1)) := by
  refine Ke.of (cc := cX10_here) (maxL := 1) (ret := (some .int)) (lv := [(0, .ref mq)]) RX10 rfl (by decide) rfl (Nat.le_of_ble_eq_true rfl) rfl ?_
  intro p e s m below meth c A sz hA9 X hr hin2
  have in10 : ∀ w ∈ u_ws RX10 TX10 30, w ∈ wsX10_here := by decide +kernel
  refine V_loop (pc := 0) (σ := Nat) (fun v9 => [(0, .ref mq)]) (fun v9 => [ob mq 10 [.long mf, .int (nI mt), .ref mmq, .int (nI mn), .ref mkq, .ref mcq, .ref mhq, .ref maq, .int mz, .int my, .long mS, .ref mzq, .ref mtq, .int (nI mT), .int (nI v9), .ref mrq, .ref muq, .long mF, .int mZ, .ref moq, .int mK, .int mH, .ref mgq, .ref miq, .long mI, .int (bI mB), .ref mlq, .ref msq, .ref meq, .ref mvq], ai g mtq 60 mta]) (fun v9 => (mA ≤ v9 ∧ v9 ≤ mT) ∧ (∀ j, mA ≤ j → j < v9 → mta j = 32)) (fun v9 => mT - v9) mA ⟨(by
        try dsimp only
        exact ⟨Nat.le_refl _, hTA⟩), (by
        try dsimp only
        intro j h1 h2; omega)⟩ rfl [0] rfl ?_
  rintro a ⟨ha, hb⟩ ih0
  refine V_eqw (ws2 := [ob mq 10 [.long mf, .int (nI mt), .ref mmq, .int (nI mn), .ref mkq, .ref mcq, .ref mhq, .ref maq, .int mz, .int my, .long mS, .ref mzq, .ref mtq, .int (nI mT), .int (nI a), .ref mrq, .ref muq, .long mF, .int mZ, .ref moq, .int mK, .int mH, .ref mgq, .ref miq, .long mI, .int (bI mB), .ref mlq, .ref msq, .ref meq, .ref mvq], ai g mtq 60 mta]) rfl (V_eql (lv' := [(0, .ref mq)]) rfl ?_)
  refine V_aload_n (pc := 0) X dX10_here_0 rfl 0 rfl ?_
  refine V_get (C := RX10) (T := TX10) (N := 30) (ci := 10) (pc := 1) X dX10_here_1 in10 0 rfl rfl 14 (by decide) (by decide +kernel) rfl rfl ?_
  refine V_aload_n (pc := 4) X dX10_here_4 rfl 0 rfl ?_
  refine V_get (C := RX10) (T := TX10) (N := 30) (ci := 10) (pc := 5) X dX10_here_5 in10 0 rfl rfl 13 (by decide) (by decide +kernel) rfl rfl ?_
  refine V_icmp_ge (tgt := 38) (pc := 8) X dX10_here_8 (by decide) (fun c_1 => ?_) (fun c_1 => ?_)
  · skip
    have n_2 : mT ≤ a := nJ_le (a := mT) (b := a) (by omega) (by omega) c_1
    refine V_aload_n (pc := 38) X dX10_here_38 rfl 0 rfl ?_
    refine V_get (C := RX10) (T := TX10) (N := 30) (ci := 10) (pc := 39) X dX10_here_39 in10 0 rfl rfl 14 (by decide) (by decide +kernel) rfl rfl ?_
    refine V_aload_n (pc := 42) X dX10_here_42 rfl 0 rfl ?_
    refine V_get (C := RX10) (T := TX10) (N := 30) (ci := 10) (pc := 43) X dX10_here_43 in10 0 rfl rfl 13 (by decide) (by decide +kernel) rfl rfl ?_
    refine V_icmp_ge (tgt := 61) (pc := 46) X dX10_here_46 (by decide) (fun c_3 => ?_) (fun c_3 => ?_)
    · skip
      have n_4 : mT ≤ a := nJ_le (a := mT) (b := a) (by omega) (by omega) c_3
      refine V_iconst (v := 0) (pc := 61) X dX10_here_61 (by decide) ?_
      exact Ve_iret (pc := 62) X hA9 dX10_here_62 hr (0, a) (by first | rfl | (simp [n_2, n_4]; done)) (by
            try dsimp only
            unfold HR
            first | exact ⟨ha.1, ha.2, hb, Or.inr ⟨by omega, by assumption, rfl⟩⟩ | exact ⟨ha.1, ha.2, hb, Or.inl ⟨by omega, rfl⟩⟩ | (exfalso; omega)) (by rfl)
    · skip
      have n_5 : a < mT := nJ_nle (a := mT) (b := a) (by omega) (by omega) c_3
      refine V_aload_n (pc := 49) X dX10_here_49 rfl 0 rfl ?_
      refine V_get (C := RX10) (T := TX10) (N := 30) (ci := 10) (pc := 50) X dX10_here_50 in10 0 rfl rfl 12 (by decide) (by decide +kernel) rfl rfl ?_
      refine V_aload_n (pc := 53) X dX10_here_53 rfl 0 rfl ?_
      refine V_get (C := RX10) (T := TX10) (N := 30) (ci := 10) (pc := 54) X dX10_here_54 in10 0 rfl rfl 14 (by decide) (by decide +kernel) rfl rfl ?_
      refine V_iald (v := mta a) (pc := 57) X dX10_here_57 1 rfl (vp_in_nI (by omega) (by omega)) (by rw [nI_clamp (by omega)]) ?_
      refine V_goto (tgt := 62) (pc := 58) X dX10_here_58 (by decide) ?_
      exact Ve_iret (pc := 62) X hA9 dX10_here_62 hr (mta a, a) (by first | rfl | (simp [n_2, n_5]; done)) (by
            try dsimp only
            unfold HR
            first | exact ⟨ha.1, ha.2, hb, Or.inr ⟨by omega, by assumption, rfl⟩⟩ | exact ⟨ha.1, ha.2, hb, Or.inl ⟨by omega, rfl⟩⟩ | (exfalso; omega)) (by rfl)
  · skip
    have n_6 : a < mT := nJ_nle (a := mT) (b := a) (by omega) (by omega) c_1
    refine V_aload_n (pc := 11) X dX10_here_11 rfl 0 rfl ?_
    refine V_get (C := RX10) (T := TX10) (N := 30) (ci := 10) (pc := 12) X dX10_here_12 in10 0 rfl rfl 12 (by decide) (by decide +kernel) rfl rfl ?_
    refine V_aload_n (pc := 15) X dX10_here_15 rfl 0 rfl ?_
    refine V_get (C := RX10) (T := TX10) (N := 30) (ci := 10) (pc := 16) X dX10_here_16 in10 0 rfl rfl 14 (by decide) (by decide +kernel) rfl rfl ?_
    refine V_iald (v := mta a) (pc := 19) X dX10_here_19 1 rfl (vp_in_nI (by omega) (by omega)) (by rw [nI_clamp (by omega)]) ?_
    refine V_bipush (v := 32) (pc := 20) X dX10_here_20 (by decide) ?_
    refine V_icmp_ne (tgt := 38) (pc := 22) X dX10_here_22 (by decide) (fun c_7 => ?_) (fun c_7 => ?_)
    · skip
      refine V_aload_n (pc := 38) X dX10_here_38 rfl 0 rfl ?_
      refine V_get (C := RX10) (T := TX10) (N := 30) (ci := 10) (pc := 39) X dX10_here_39 in10 0 rfl rfl 14 (by decide) (by decide +kernel) rfl rfl ?_
      refine V_aload_n (pc := 42) X dX10_here_42 rfl 0 rfl ?_
      refine V_get (C := RX10) (T := TX10) (N := 30) (ci := 10) (pc := 43) X dX10_here_43 in10 0 rfl rfl 13 (by decide) (by decide +kernel) rfl rfl ?_
      refine V_icmp_ge (tgt := 61) (pc := 46) X dX10_here_46 (by decide) (fun c_8 => ?_) (fun c_8 => ?_)
      · skip
        have n_9 : mT ≤ a := nJ_le (a := mT) (b := a) (by omega) (by omega) c_8
        refine V_iconst (v := 0) (pc := 61) X dX10_here_61 (by decide) ?_
        exact Ve_iret (pc := 62) X hA9 dX10_here_62 hr (0, a) (by first | rfl | (simp [n_6, c_7, n_9]; done)) (by
              try dsimp only
              unfold HR
              first | exact ⟨ha.1, ha.2, hb, Or.inr ⟨by omega, by assumption, rfl⟩⟩ | exact ⟨ha.1, ha.2, hb, Or.inl ⟨by omega, rfl⟩⟩ | (exfalso; omega)) (by rfl)
      · skip
        have n_10 : a < mT := nJ_nle (a := mT) (b := a) (by omega) (by omega) c_8
        refine V_aload_n (pc := 49) X dX10_here_49 rfl 0 rfl ?_
        refine V_get (C := RX10) (T := TX10) (N := 30) (ci := 10) (pc := 50) X dX10_here_50 in10 0 rfl rfl 12 (by decide) (by decide +kernel) rfl rfl ?_
        refine V_aload_n (pc := 53) X dX10_here_53 rfl 0 rfl ?_
        refine V_get (C := RX10) (T := TX10) (N := 30) (ci := 10) (pc := 54) X dX10_here_54 in10 0 rfl rfl 14 (by decide) (by decide +kernel) rfl rfl ?_
        refine V_iald (v := mta a) (pc := 57) X dX10_here_57 1 rfl (vp_in_nI (by omega) (by omega)) (by rw [nI_clamp (by omega)]) ?_
        refine V_goto (tgt := 62) (pc := 58) X dX10_here_58 (by decide) ?_
        exact Ve_iret (pc := 62) X hA9 dX10_here_62 hr (mta a, a) (by first | rfl | (simp [n_6, c_7, n_10]; done)) (by
              try dsimp only
              unfold HR
              first | exact ⟨ha.1, ha.2, hb, Or.inr ⟨by omega, by assumption, rfl⟩⟩ | exact ⟨ha.1, ha.2, hb, Or.inl ⟨by omega, rfl⟩⟩ | (exfalso; omega)) (by rfl)
    · skip
      refine V_aload_n (pc := 25) X dX10_here_25 rfl 0 rfl ?_
      refine V_dup (pc := 26) X dX10_here_26 rfl ?_
      refine V_get (C := RX10) (T := TX10) (N := 30) (ci := 10) (pc := 27) X dX10_here_27 in10 0 rfl rfl 14 (by decide) (by decide +kernel) rfl rfl ?_
      refine V_iconst (v := 1) (pc := 30) X dX10_here_30 (by decide) ?_
      refine V_iadd (pc := 31) X dX10_here_31 ?_
      refine V_seti (y := nI (a + 1)) (nI_add a 1) ?_
      refine V_put (C := RX10) (T := TX10) (N := 30) (ci := 10) (ws' := [ob mq 10 [.long mf, .int (nI mt), .ref mmq, .int (nI mn), .ref mkq, .ref mcq, .ref mhq, .ref maq, .int mz, .int my, .long mS, .ref mzq, .ref mtq, .int (nI mT), .int (nI (a + 1)), .ref mrq, .ref muq, .long mF, .int mZ, .ref moq, .int mK, .int mH, .ref mgq, .ref miq, .long mI, .int (bI mB), .ref mlq, .ref msq, .ref meq, .ref mvq], ai g mtq 60 mta]) (pc := 32) X dX10_here_32 in10 tyX10 tyX10_ok nmX10 0 rfl rfl 14 (by decide) (by decide +kernel) rfl rfl rfl rfl rfl (Nat.le_of_ble_eq_true rfl) rfl ?_
      refine V_goto (tgt := 0) (pc := 35) X dX10_here_35 (by decide) ?_
      refine V_lv [0] rfl ?_
      exact ih0 (a + 1) ⟨(by
            try dsimp only
            all_goals omega), (by
            try dsimp only
            intro j h1 h2
            by_cases q : j = a
            · rw [q]; assumption
            · exact hb j h1 (by omega))⟩ (by
            try dsimp only
            all_goals omega)
set_option maxHeartbeats 4000000 in
set_option maxRecDepth 100000 in
theorem c_X10_marsh (l : Launch) (g : XG) (mq : Nat) (mf : Int64) (mt : Nat) (mmq : Nat) (mn : Nat) (mkq : Nat) (mcq : Nat) (mhq : Nat) (maq : Nat) (mz : Int32) (my : Int32) (mS : Int64) (mzq : Nat) (mtq : Nat) (mT : Nat) (mA : Nat) (mrq : Nat) (muq : Nat) (mF : Int64) (mZ : Int32) (moq : Nat) (mK : Int32) (mH : Int32) (mgq : Nat) (miq : Nat) (mI : Int64) (mB : Bool) (mlq : Nat) (msq : Nat) (meq : Nat) (mvq : Nat) (mta : Nat → Int32) (mre : Nat → Int32) (mm : Nat → Int32) (mho : Nat → Int32) (hT : mT ≤ 60) (ht : mt ≤ 6) (hn : mn ≤ 6) (hta : ∀ j, j < mT → ¬ mta j = 0) : Ke l g yX10_marsh wsX10_marsh ({ frames := 1, cells := 0, slots := 0, locals := 20 } : Room) 0 0 [.ref mq] [ob mq 10 [.long mf, .int (nI mt), .ref mmq, .int (nI mn), .ref mkq, .ref mcq, .ref mhq, .ref maq, .int mz, .int my, .long mS, .ref mzq, .ref mtq, .int (nI mT), .int (nI mA), .ref mrq, .ref muq, .long mF, .int mZ, .ref moq, .int mK, .int mH, .ref mgq, .ref miq, .long mI, .int (bI mB), .ref mlq, .ref msq, .ref meq, .ref mvq], ai g mtq 60 mta, ai g mrq 6 mre, ai g mmq 6 mm, ai g mhq 6 mho] (fun u : Int32 × Int64 × Nat × (Nat → Int32) × (Nat → Int32) × Nat × (Nat → Int32) => some (.int u.1)) (fun u => [ob mq 10 [.long u.2.1, .int (nI u.2.2.1), .ref mmq, .int (nI mn), .ref mkq, .ref mcq, .ref mhq, .ref maq, .int mz, .int my, .long mS, .ref mzq, .ref mtq, .int 0, .int (nI u.2.2.2.2.2.1), .ref mrq, .ref muq, .long mF, .int mZ, .ref moq, .int mK, .int mH, .ref mgq, .ref miq, .long mI, .int (bI mB), .ref mlq, .ref msq, .ref meq, .ref mvq], ai g mtq 60 mta, ai g mrq 6 u.2.2.2.2.2.2, ai g mmq 6 u.2.2.2.1, ai g mhq 6 u.2.2.2.2.1]) (fun u => (R_marsh (rdT mta mT mT 0 0 (0, mre, 0)) mf mt mm mn mho u.1 u.2.1 u.2.2.1 u.2.2.2.1 u.2.2.2.2.1)) := by
  refine Ke.of (cc := cX10_marsh) (maxL := 8) (ret := (some .int)) (lv := [(0, .ref mq)]) RX10 rfl (by decide) rfl (Nat.le_of_ble_eq_true rfl) rfl ?_
  intro p e s m below meth c A sz hA9 X hr hin2
  have in10 : ∀ w ∈ u_ws RX10 TX10 30, w ∈ wsX10_marsh := by decide +kernel
  refine V_aload_n (pc := 0) X dX10_marsh_0 rfl 0 rfl ?_
  refine V_iconst (v := 0) (pc := 1) X dX10_marsh_1 (by decide) ?_
  refine V_put (C := RX10) (T := TX10) (N := 30) (ci := 10) (ws' := [ob mq 10 [.long mf, .int (nI mt), .ref mmq, .int (nI mn), .ref mkq, .ref mcq, .ref mhq, .ref maq, .int mz, .int my, .long mS, .ref mzq, .ref mtq, .int (nI mT), .int 0, .ref mrq, .ref muq, .long mF, .int mZ, .ref moq, .int mK, .int mH, .ref mgq, .ref miq, .long mI, .int (bI mB), .ref mlq, .ref msq, .ref meq, .ref mvq], ai g mtq 60 mta, ai g mrq 6 mre, ai g mmq 6 mm, ai g mhq 6 mho]) (pc := 2) X dX10_marsh_2 in10 tyX10 tyX10_ok nmX10 0 rfl rfl 14 (by decide) (by decide +kernel) rfl rfl rfl rfl rfl (Nat.le_of_ble_eq_true rfl) rfl ?_
  refine V_iconst (v := 0) (pc := 5) X dX10_marsh_5 (by decide) ?_
  refine V_istore_n (lv' := [(1, .int 0), (0, .ref mq)]) (pc := 6) X dX10_marsh_6 rfl (Nat.le_of_ble_eq_true rfl) rfl ?_
  refine V_lconst (v := 0) (pc := 7) X dX10_marsh_7 (by decide) ?_
  refine V_lstore_n (lv' := [(2, .long 0), (1, .int 0), (0, .ref mq)]) (pc := 8) X dX10_marsh_8 rfl (Nat.le_of_ble_eq_true rfl) rfl ?_
  refine V_iconst (v := 0) (pc := 9) X dX10_marsh_9 (by decide) ?_
  refine V_istore (lv' := [(4, .int 0), (2, .long 0), (1, .int 0), (0, .ref mq)]) (pc := 10) X dX10_marsh_10 (Nat.le_of_ble_eq_true rfl) rfl ?_
  refine V_iconst (v := 0) (pc := 12) X dX10_marsh_12 (by decide) ?_
  refine V_istore (lv' := [(5, .int 0), (4, .int 0), (2, .long 0), (1, .int 0), (0, .ref mq)]) (pc := 13) X dX10_marsh_13 (Nat.le_of_ble_eq_true rfl) rfl ?_
  refine V_loop (pc := 15) (σ := Nat × Bool × Int64 × Nat × Nat × (Nat → Int32)) (fun v9 => [(0, .ref mq), (1, .int (bI v9.2.1)), (2, .long v9.2.2.1), (4, .int (nI v9.2.2.2.1)), (5, .int (nI v9.1))]) (fun v9 => [ob mq 10 [.long mf, .int (nI mt), .ref mmq, .int (nI mn), .ref mkq, .ref mcq, .ref mhq, .ref maq, .int mz, .int my, .long mS, .ref mzq, .ref mtq, .int (nI mT), .int (nI v9.2.2.2.2.1), .ref mrq, .ref muq, .long mF, .int mZ, .ref moq, .int mK, .int mH, .ref mgq, .ref miq, .long mI, .int (bI mB), .ref mlq, .ref msq, .ref meq, .ref mvq], ai g mtq 60 mta, ai g mrq 6 v9.2.2.2.2.2, ai g mmq 6 mm, ai g mhq 6 mho]) (fun v9 => (v9.1 ≤ 41) ∧ (v9.2.2.2.1 ≤ 6) ∧ (v9.2.2.2.2.1 ≤ mT) ∧ ((v9.2.1 = false ∧ rdT mta mT (mT - v9.2.2.2.2.1) v9.2.2.2.2.1 v9.1 (v9.2.2.1, v9.2.2.2.2.2, v9.2.2.2.1) = (rdT mta mT mT 0 0 (0, mre, 0))) ∨ (v9.2.1 = true ∧ (rdT mta mT mT 0 0 (0, mre, 0)).1 = -20 - nI v9.2.2.2.2.1))) (fun v9 => 42 - v9.1) (0, false, 0, 0, 0, mre) ⟨(by
        try dsimp only
        all_goals omega), (by
        try dsimp only
        all_goals omega), (by
        try dsimp only
        all_goals omega), (by
        try dsimp only
        exact Or.inl ⟨rfl, rfl⟩)⟩ rfl [4, 3, 2, 1, 0] rfl ?_
  rintro ⟨pl, wr, f, n, a, z⟩ ⟨hpl, hn6, haT, hd⟩ ih15
  try dsimp only at hpl
  try dsimp only at hn6
  try dsimp only at haT
  try dsimp only at hd
  refine V_eqw (ws2 := [ob mq 10 [.long mf, .int (nI mt), .ref mmq, .int (nI mn), .ref mkq, .ref mcq, .ref mhq, .ref maq, .int mz, .int my, .long mS, .ref mzq, .ref mtq, .int (nI mT), .int (nI a), .ref mrq, .ref muq, .long mF, .int mZ, .ref moq, .int mK, .int mH, .ref mgq, .ref miq, .long mI, .int (bI mB), .ref mlq, .ref msq, .ref meq, .ref mvq], ai g mtq 60 mta, ai g mrq 6 z, ai g mmq 6 mm, ai g mhq 6 mho]) rfl (V_eql (lv' := [(0, .ref mq), (1, .int (bI wr)), (2, .long f), (4, .int (nI n)), (5, .int (nI pl))]) rfl ?_)
  refine V_iload (pc := 15) X dX10_marsh_15 4 rfl ?_
  refine V_bipush (v := 41) (pc := 17) X dX10_marsh_17 (by decide) ?_
  refine V_icmp_ge (tgt := 171) (pc := 19) X dX10_marsh_19 (by decide) (fun c_1 => ?_) (fun c_1 => ?_)
  · skip
    have n_2 : 41 ≤ pl := nJ_le (a := 41) (b := pl) (by omega) (by omega) c_1
    refine V_iload_n (pc := 171) X dX10_marsh_171 rfl 1 rfl ?_
    refine V_if_ne (tgt := 182) (pc := 172) X dX10_marsh_172 (by decide) (fun c_3 => ?_) (fun c_3 => ?_)
    · skip
      have b_4 : wr = true := bI1 c_3
      have hw := (hd.resolve_left (fun q => by rw [q.1] at b_4; cases b_4)).2
      refine V_iconst (v := 1) (pc := 182) X dX10_marsh_182 (by decide) ?_
      refine V_goto (tgt := 187) (pc := 183) X dX10_marsh_183 (by decide) ?_
      refine V_istore_n (lv' := [(1, .int 1), (0, .ref mq), (2, .long f), (4, .int (nI n)), (5, .int (nI pl))]) (pc := 187) X dX10_marsh_187 rfl (Nat.le_of_ble_eq_true rfl) rfl ?_
      refine V_aload_n (pc := 188) X dX10_marsh_188 rfl 1 rfl ?_
      refine V_iconst (v := 0) (pc := 189) X dX10_marsh_189 (by decide) ?_
      refine V_put (C := RX10) (T := TX10) (N := 30) (ci := 10) (ws' := [ob mq 10 [.long mf, .int (nI mt), .ref mmq, .int (nI mn), .ref mkq, .ref mcq, .ref mhq, .ref maq, .int mz, .int my, .long mS, .ref mzq, .ref mtq, .int 0, .int (nI a), .ref mrq, .ref muq, .long mF, .int mZ, .ref moq, .int mK, .int mH, .ref mgq, .ref miq, .long mI, .int (bI mB), .ref mlq, .ref msq, .ref meq, .ref mvq], ai g mtq 60 mta, ai g mrq 6 z, ai g mmq 6 mm, ai g mhq 6 mho]) (pc := 190) X dX10_marsh_190 in10 tyX10 tyX10_ok nmX10 0 rfl rfl 13 (by decide) (by decide +kernel) rfl rfl rfl rfl rfl (Nat.le_of_ble_eq_true rfl) rfl ?_
      refine V_iload_n (pc := 193) X dX10_marsh_193 rfl 0 rfl ?_
      refine V_if_eq (tgt := 205) (pc := 194) X dX10_marsh_194 (by decide) (fun c_5 => ?_) (fun c_5 => ?_)
      · exact absurd c_5 (by decide)
      · skip
        refine V_bipush (v := (-20)) (pc := 197) X dX10_marsh_197 (by decide) ?_
        refine V_aload_n (pc := 199) X dX10_marsh_199 rfl 1 rfl ?_
        refine V_get (C := RX10) (T := TX10) (N := 30) (ci := 10) (pc := 200) X dX10_marsh_200 in10 0 rfl rfl 14 (by decide) (by decide +kernel) rfl rfl ?_
        refine V_isub (pc := 203) X dX10_marsh_203 ?_
        exact Ve_iret (pc := 204) X hA9 dX10_marsh_204 hr ((-20) - (nI a), mf, mt, mm, mho, a, z) (by first | rfl | (simp [n_2, b_4, hw]; done)) (by
              try dsimp only
              (unfold R_marsh; exact Or.inl ⟨neg20' (by omega) hw, hw.symm, rfl, rfl, rfl, rfl⟩)) (by rfl)
    · skip
      have b_6 : wr = false := bI0 c_3
      have hs := (hd.resolve_right (fun q => by rw [q.1] at b_6; cases b_6)).2
      rw [show pl = 41 by omega] at hs
      refine V_aload_n (pc := 175) X dX10_marsh_175 rfl 0 rfl ?_
      refine V_ve (pc := 176) (nA := 0) (As := []) (rest := []) X (c_X10_here l g (mq := mq) (mf := mf) (mt := mt) (mmq := mmq) (mn := mn) (mkq := mkq) (mcq := mcq) (mhq := mhq) (maq := maq) (mz := mz) (my := my) (mS := mS) (mzq := mzq) (mtq := mtq) (mT := mT) (mA := a) (mrq := mrq) (muq := muq) (mF := mF) (mZ := mZ) (moq := moq) (mK := mK) (mH := mH) (mgq := mgq) (miq := miq) (mI := mI) (mB := mB) (mlq := mlq) (msq := msq) (meq := meq) (mvq := mvq) (mta := mta) (hTA := by first | assumption | omega) (hT := by first | assumption | omega)) gX10_marsh_X10_here dX10_marsh_176 rfl (by decide +kernel) rfl (qb := 0) rfl rfl rfl ⟨rfl, rfl⟩ ⟨Nat.le_of_ble_eq_true rfl, Nat.le_of_ble_eq_true rfl⟩ ⟨Nat.le_of_ble_eq_true rfl, Nat.le_of_ble_eq_true rfl⟩ [0, 1] (by decide) rfl [2, 3, 4] (by decide) (by decide) [ai g mrq 6 z, ai g mmq 6 mm, ai g mhq 6 mho] rfl [3, 4, 0, 1, 2] (by decide) (fun u => [ob mq 10 [.long mf, .int (nI mt), .ref mmq, .int (nI mn), .ref mkq, .ref mcq, .ref mhq, .ref maq, .int mz, .int my, .long mS, .ref mzq, .ref mtq, .int (nI mT), .int (nI u.2), .ref mrq, .ref muq, .long mF, .int mZ, .ref moq, .int mK, .int mH, .ref mgq, .ref miq, .long mI, .int (bI mB), .ref mlq, .ref msq, .ref meq, .ref mvq], ai g mtq 60 mta, ai g mrq 6 z, ai g mmq 6 mm, ai g mhq 6 mho]) (fun _ => rfl) rfl (Nat.le_of_ble_eq_true rfl) (fun u => [.int u.1]) (fun _ => rfl) (fun u hu_9 => ?_)
      obtain ⟨r_7, a2_8⟩ := u
      try dsimp only at hu_9
      have hhr9_10 := hu_9
      refine V_eqw (ws2 := [ob mq 10 [.long mf, .int (nI mt), .ref mmq, .int (nI mn), .ref mkq, .ref mcq, .ref mhq, .ref maq, .int mz, .int my, .long mS, .ref mzq, .ref mtq, .int (nI mT), .int (nI a2_8), .ref mrq, .ref muq, .long mF, .int mZ, .ref moq, .int mK, .int mH, .ref mgq, .ref miq, .long mI, .int (bI mB), .ref mlq, .ref msq, .ref meq, .ref mvq], ai g mtq 60 mta, ai g mrq 6 z, ai g mmq 6 mm, ai g mhq 6 mho]) rfl (V_eqs (st2 := [.int r_7]) rfl ?_)
      refine V_if_eq (tgt := 186) (pc := 179) X dX10_marsh_179 (by decide) (fun c_11 => ?_) (fun c_11 => ?_)
      · skip
        have hok := mend_y hta hhr9_10 hs c_11
        refine V_iconst (v := 0) (pc := 186) X dX10_marsh_186 (by decide) ?_
        refine V_istore_n (lv' := [(1, .int 0), (0, .ref mq), (2, .long f), (4, .int (nI n)), (5, .int (nI pl))]) (pc := 187) X dX10_marsh_187 rfl (Nat.le_of_ble_eq_true rfl) rfl ?_
        refine V_aload_n (pc := 188) X dX10_marsh_188 rfl 1 rfl ?_
        refine V_iconst (v := 0) (pc := 189) X dX10_marsh_189 (by decide) ?_
        refine V_put (C := RX10) (T := TX10) (N := 30) (ci := 10) (ws' := [ob mq 10 [.long mf, .int (nI mt), .ref mmq, .int (nI mn), .ref mkq, .ref mcq, .ref mhq, .ref maq, .int mz, .int my, .long mS, .ref mzq, .ref mtq, .int 0, .int (nI a2_8), .ref mrq, .ref muq, .long mF, .int mZ, .ref moq, .int mK, .int mH, .ref mgq, .ref miq, .long mI, .int (bI mB), .ref mlq, .ref msq, .ref meq, .ref mvq], ai g mtq 60 mta, ai g mrq 6 z, ai g mmq 6 mm, ai g mhq 6 mho]) (pc := 190) X dX10_marsh_190 in10 tyX10 tyX10_ok nmX10 0 rfl rfl 13 (by decide) (by decide +kernel) rfl rfl rfl rfl rfl (Nat.le_of_ble_eq_true rfl) rfl ?_
        refine V_iload_n (pc := 193) X dX10_marsh_193 rfl 0 rfl ?_
        refine V_if_eq (tgt := 205) (pc := 194) X dX10_marsh_194 (by decide) (fun c_12 => ?_) (fun c_12 => ?_)
        · skip
          refine V_aload_n (pc := 205) X dX10_marsh_205 rfl 1 rfl ?_
          refine V_lload_n (pc := 206) X dX10_marsh_206 rfl 2 rfl ?_
          refine V_put (C := RX10) (T := TX10) (N := 30) (ci := 10) (ws' := [ob mq 10 [.long f, .int (nI mt), .ref mmq, .int (nI mn), .ref mkq, .ref mcq, .ref mhq, .ref maq, .int mz, .int my, .long mS, .ref mzq, .ref mtq, .int 0, .int (nI a2_8), .ref mrq, .ref muq, .long mF, .int mZ, .ref moq, .int mK, .int mH, .ref mgq, .ref miq, .long mI, .int (bI mB), .ref mlq, .ref msq, .ref meq, .ref mvq], ai g mtq 60 mta, ai g mrq 6 z, ai g mmq 6 mm, ai g mhq 6 mho]) (pc := 207) X dX10_marsh_207 in10 tyX10 tyX10_ok nmX10 0 rfl rfl 0 (by decide) (by decide +kernel) rfl rfl rfl rfl rfl (Nat.le_of_ble_eq_true rfl) rfl ?_
          refine V_aload_n (pc := 210) X dX10_marsh_210 rfl 1 rfl ?_
          refine V_iload (pc := 211) X dX10_marsh_211 3 rfl ?_
          refine V_put (C := RX10) (T := TX10) (N := 30) (ci := 10) (ws' := [ob mq 10 [.long f, .int (nI n), .ref mmq, .int (nI mn), .ref mkq, .ref mcq, .ref mhq, .ref maq, .int mz, .int my, .long mS, .ref mzq, .ref mtq, .int 0, .int (nI a2_8), .ref mrq, .ref muq, .long mF, .int mZ, .ref moq, .int mK, .int mH, .ref mgq, .ref miq, .long mI, .int (bI mB), .ref mlq, .ref msq, .ref meq, .ref mvq], ai g mtq 60 mta, ai g mrq 6 z, ai g mmq 6 mm, ai g mhq 6 mho]) (pc := 213) X dX10_marsh_213 in10 tyX10 tyX10_ok nmX10 0 rfl rfl 1 (by decide) (by decide +kernel) rfl rfl rfl rfl rfl (Nat.le_of_ble_eq_true rfl) rfl ?_
          refine V_iconst (v := 0) (pc := 216) X dX10_marsh_216 (by decide) ?_
          refine V_istore (lv' := [(5, .int 0), (1, .int 0), (0, .ref mq), (2, .long f), (4, .int (nI n))]) (pc := 217) X dX10_marsh_217 (Nat.le_of_ble_eq_true rfl) rfl ?_
          refine V_loop (pc := 219) (σ := Nat × (Nat → Int32)) (fun v9 => [(0, .ref mq), (4, .int (nI n)), (5, .int (nI v9.1))]) (fun v9 => [ob mq 10 [.long f, .int (nI n), .ref mmq, .int (nI mn), .ref mkq, .ref mcq, .ref mhq, .ref maq, .int mz, .int my, .long mS, .ref mzq, .ref mtq, .int 0, .int (nI a2_8), .ref mrq, .ref muq, .long mF, .int mZ, .ref moq, .int mK, .int mH, .ref mgq, .ref miq, .long mI, .int (bI mB), .ref mlq, .ref msq, .ref meq, .ref mvq], ai g mtq 60 mta, ai g mrq 6 z, ai g mmq 6 v9.2, ai g mhq 6 mho]) (fun v9 => (v9.1 ≤ n) ∧ (v9.2 = cpF mm z v9.1)) (fun v9 => n - v9.1) (0, mm) ⟨(by
                try dsimp only
                all_goals omega), (by
                try dsimp only
                exact cpF_0 _ _)⟩ rfl [2, 4, 0] rfl ?_
          rintro ⟨k1, zm⟩ ⟨hi1, hk1⟩ ih219
          try dsimp only at hi1
          try dsimp only at hk1
          refine V_eqw (ws2 := [ob mq 10 [.long f, .int (nI n), .ref mmq, .int (nI mn), .ref mkq, .ref mcq, .ref mhq, .ref maq, .int mz, .int my, .long mS, .ref mzq, .ref mtq, .int 0, .int (nI a2_8), .ref mrq, .ref muq, .long mF, .int mZ, .ref moq, .int mK, .int mH, .ref mgq, .ref miq, .long mI, .int (bI mB), .ref mlq, .ref msq, .ref meq, .ref mvq], ai g mtq 60 mta, ai g mrq 6 z, ai g mmq 6 zm, ai g mhq 6 mho]) rfl (V_eql (lv' := [(0, .ref mq), (4, .int (nI n)), (5, .int (nI k1))]) rfl ?_)
          refine V_iload (pc := 219) X dX10_marsh_219 2 rfl ?_
          refine V_iload (pc := 221) X dX10_marsh_221 1 rfl ?_
          refine V_icmp_ge (tgt := 246) (pc := 223) X dX10_marsh_223 (by decide) (fun c_13 => ?_) (fun c_13 => ?_)
          · skip
            have n_14 : n ≤ k1 := nJ_le (a := n) (b := k1) (by omega) (by omega) c_13
            refine V_iconst (v := 0) (pc := 246) X dX10_marsh_246 (by decide) ?_
            refine V_istore (lv' := [(5, .int 0), (0, .ref mq), (4, .int (nI n))]) (pc := 247) X dX10_marsh_247 (Nat.le_of_ble_eq_true rfl) rfl ?_
            refine V_loop (pc := 249) (σ := Nat × (Nat → Int32)) (fun v9 => [(0, .ref mq), (4, .int (nI n)), (5, .int (nI v9.1))]) (fun v9 => [ob mq 10 [.long f, .int (nI n), .ref mmq, .int (nI mn), .ref mkq, .ref mcq, .ref mhq, .ref maq, .int mz, .int my, .long mS, .ref mzq, .ref mtq, .int 0, .int (nI a2_8), .ref mrq, .ref muq, .long mF, .int mZ, .ref moq, .int mK, .int mH, .ref mgq, .ref miq, .long mI, .int (bI mB), .ref mlq, .ref msq, .ref meq, .ref mvq], ai g mtq 60 mta, ai g mrq 6 z, ai g mmq 6 zm, ai g mhq 6 v9.2]) (fun v9 => (v9.1 ≤ mn) ∧ (v9.2 = cpF mho (fun _ => 0) v9.1)) (fun v9 => mn - v9.1) (0, mho) ⟨(by
                  try dsimp only
                  all_goals omega), (by
                  try dsimp only
                  exact cpF_0 _ _)⟩ rfl [1, 2, 0] rfl ?_
            rintro ⟨k2, zh⟩ ⟨hi2, hk2⟩ ih249
            try dsimp only at hi2
            try dsimp only at hk2
            refine V_eqw (ws2 := [ob mq 10 [.long f, .int (nI n), .ref mmq, .int (nI mn), .ref mkq, .ref mcq, .ref mhq, .ref maq, .int mz, .int my, .long mS, .ref mzq, .ref mtq, .int 0, .int (nI a2_8), .ref mrq, .ref muq, .long mF, .int mZ, .ref moq, .int mK, .int mH, .ref mgq, .ref miq, .long mI, .int (bI mB), .ref mlq, .ref msq, .ref meq, .ref mvq], ai g mtq 60 mta, ai g mrq 6 z, ai g mmq 6 zm, ai g mhq 6 zh]) rfl (V_eql (lv' := [(0, .ref mq), (4, .int (nI n)), (5, .int (nI k2))]) rfl ?_)
            refine V_iload (pc := 249) X dX10_marsh_249 2 rfl ?_
            refine V_aload_n (pc := 251) X dX10_marsh_251 rfl 0 rfl ?_
            refine V_get (C := RX10) (T := TX10) (N := 30) (ci := 10) (pc := 252) X dX10_marsh_252 in10 0 rfl rfl 3 (by decide) (by decide +kernel) rfl rfl ?_
            refine V_icmp_ge (tgt := 272) (pc := 255) X dX10_marsh_255 (by decide) (fun c_15 => ?_) (fun c_15 => ?_)
            · skip
              have n_16 : mn ≤ k2 := nJ_le (a := mn) (b := k2) (by omega) (by omega) c_15
              refine V_iload (pc := 272) X dX10_marsh_272 1 rfl ?_
              exact Ve_iret (pc := 274) X hA9 dX10_marsh_274 hr (nI n, f, n, zm, zh, a2_8, z) (by first | rfl | (simp [n_2, b_6, hhr9_10, c_11, hok, n_14, n_16]; done)) (by
                    try dsimp only
                    unfold R_marsh
                    refine Or.inr ⟨?_, ?_, rfl, ?_, ?_, ?_, ?_⟩
                    · rw [hok]; exact (show (0 : Int32) ≤ nI n from Int32.not_lt.mp (nI_pos (by omega)))
                    · rw [hok]
                    · rw [hok]
                    · rw [hok]
                    · intro j hj; rw [hok, hk1]; simp [cpF, show j < k1 by omega]
                    · intro j hj; rw [hk2]; simp [cpF, show j < k2 by omega]) (by rfl)
            · skip
              have n_17 : k2 < mn := nJ_nle (a := mn) (b := k2) (by omega) (by omega) c_15
              refine V_aload_n (pc := 258) X dX10_marsh_258 rfl 0 rfl ?_
              refine V_get (C := RX10) (T := TX10) (N := 30) (ci := 10) (pc := 259) X dX10_marsh_259 in10 0 rfl rfl 6 (by decide) (by decide +kernel) rfl rfl ?_
              refine V_iload (pc := 262) X dX10_marsh_262 2 rfl ?_
              refine V_iconst (v := 0) (pc := 264) X dX10_marsh_264 (by decide) ?_
              refine V_iast (f' := upd zh k2 0) (ws' := [ob mq 10 [.long f, .int (nI n), .ref mmq, .int (nI mn), .ref mkq, .ref mcq, .ref mhq, .ref maq, .int mz, .int my, .long mS, .ref mzq, .ref mtq, .int 0, .int (nI a2_8), .ref mrq, .ref muq, .long mF, .int mZ, .ref moq, .int mK, .int mH, .ref mgq, .ref miq, .long mI, .int (bI mB), .ref mlq, .ref msq, .ref meq, .ref mvq], ai g mtq 60 mta, ai g mrq 6 z, ai g mmq 6 zm, ai g mhq 6 (upd zh k2 0)]) (pc := 265) X dX10_marsh_265 4 rfl (vp_in_nI (by omega) (by omega)) (by rw [nI_clamp (by omega)]) rfl ?_
              refine V_iinc (v := nI (k2 + 1)) (lv' := [(5, .int (nI (k2 + 1))), (0, .ref mq), (4, .int (nI n))]) (pc := 266) X dX10_marsh_266 2 rfl (nI_add k2 1) (Nat.le_of_ble_eq_true rfl) rfl ?_
              refine V_goto (tgt := 249) (pc := 269) X dX10_marsh_269 (by decide) ?_
              refine V_lv [1, 2, 0] rfl ?_
              exact ih249 (k2 + 1, upd zh k2 0) ⟨(by
                    try dsimp only
                    all_goals omega), (by
                    try dsimp only
                    rw [hk2]; exact cpF_s mho (fun _ => 0) k2)⟩ (by
                    try dsimp only
                    all_goals omega)
          · skip
            have n_18 : k1 < n := nJ_nle (a := n) (b := k1) (by omega) (by omega) c_13
            refine V_aload_n (pc := 226) X dX10_marsh_226 rfl 0 rfl ?_
            refine V_get (C := RX10) (T := TX10) (N := 30) (ci := 10) (pc := 227) X dX10_marsh_227 in10 0 rfl rfl 2 (by decide) (by decide +kernel) rfl rfl ?_
            refine V_iload (pc := 230) X dX10_marsh_230 2 rfl ?_
            refine V_aload_n (pc := 232) X dX10_marsh_232 rfl 0 rfl ?_
            refine V_get (C := RX10) (T := TX10) (N := 30) (ci := 10) (pc := 233) X dX10_marsh_233 in10 0 rfl rfl 15 (by decide) (by decide +kernel) rfl rfl ?_
            refine V_iload (pc := 236) X dX10_marsh_236 2 rfl ?_
            refine V_iald (v := z k1) (pc := 238) X dX10_marsh_238 2 rfl (vp_in_nI (by omega) (by omega)) (by rw [nI_clamp (by omega)]) ?_
            refine V_iast (f' := upd zm k1 (z k1)) (ws' := [ob mq 10 [.long f, .int (nI n), .ref mmq, .int (nI mn), .ref mkq, .ref mcq, .ref mhq, .ref maq, .int mz, .int my, .long mS, .ref mzq, .ref mtq, .int 0, .int (nI a2_8), .ref mrq, .ref muq, .long mF, .int mZ, .ref moq, .int mK, .int mH, .ref mgq, .ref miq, .long mI, .int (bI mB), .ref mlq, .ref msq, .ref meq, .ref mvq], ai g mtq 60 mta, ai g mrq 6 z, ai g mmq 6 (upd zm k1 (z k1)), ai g mhq 6 mho]) (pc := 239) X dX10_marsh_239 3 rfl (vp_in_nI (by omega) (by omega)) (by rw [nI_clamp (by omega)]) rfl ?_
            refine V_iinc (v := nI (k1 + 1)) (lv' := [(5, .int (nI (k1 + 1))), (0, .ref mq), (4, .int (nI n))]) (pc := 240) X dX10_marsh_240 2 rfl (nI_add k1 1) (Nat.le_of_ble_eq_true rfl) rfl ?_
            refine V_goto (tgt := 219) (pc := 243) X dX10_marsh_243 (by decide) ?_
            refine V_lv [1, 2, 0] rfl ?_
            exact ih219 (k1 + 1, upd zm k1 (z k1)) ⟨(by
                  try dsimp only
                  all_goals omega), (by
                  try dsimp only
                  rw [hk1]; exact cpF_s mm z k1)⟩ (by
                  try dsimp only
                  all_goals omega)
        · exact absurd (by decide) c_12
      · skip
        refine V_iconst (v := 1) (pc := 182) X dX10_marsh_182 (by decide) ?_
        refine V_goto (tgt := 187) (pc := 183) X dX10_marsh_183 (by decide) ?_
        refine V_istore_n (lv' := [(1, .int 1), (0, .ref mq), (2, .long f), (4, .int (nI n)), (5, .int (nI pl))]) (pc := 187) X dX10_marsh_187 rfl (Nat.le_of_ble_eq_true rfl) rfl ?_
        refine V_aload_n (pc := 188) X dX10_marsh_188 rfl 1 rfl ?_
        refine V_iconst (v := 0) (pc := 189) X dX10_marsh_189 (by decide) ?_
        refine V_put (C := RX10) (T := TX10) (N := 30) (ci := 10) (ws' := [ob mq 10 [.long mf, .int (nI mt), .ref mmq, .int (nI mn), .ref mkq, .ref mcq, .ref mhq, .ref maq, .int mz, .int my, .long mS, .ref mzq, .ref mtq, .int 0, .int (nI a2_8), .ref mrq, .ref muq, .long mF, .int mZ, .ref moq, .int mK, .int mH, .ref mgq, .ref miq, .long mI, .int (bI mB), .ref mlq, .ref msq, .ref meq, .ref mvq], ai g mtq 60 mta, ai g mrq 6 z, ai g mmq 6 mm, ai g mhq 6 mho]) (pc := 190) X dX10_marsh_190 in10 tyX10 tyX10_ok nmX10 0 rfl rfl 13 (by decide) (by decide +kernel) rfl rfl rfl rfl rfl (Nat.le_of_ble_eq_true rfl) rfl ?_
        refine V_iload_n (pc := 193) X dX10_marsh_193 rfl 0 rfl ?_
        refine V_if_eq (tgt := 205) (pc := 194) X dX10_marsh_194 (by decide) (fun c_19 => ?_) (fun c_19 => ?_)
        · exact absurd c_19 (by decide)
        · skip
          refine V_bipush (v := (-20)) (pc := 197) X dX10_marsh_197 (by decide) ?_
          refine V_aload_n (pc := 199) X dX10_marsh_199 rfl 1 rfl ?_
          refine V_get (C := RX10) (T := TX10) (N := 30) (ci := 10) (pc := 200) X dX10_marsh_200 in10 0 rfl rfl 14 (by decide) (by decide +kernel) rfl rfl ?_
          refine V_isub (pc := 203) X dX10_marsh_203 ?_
          exact Ve_iret (pc := 204) X hA9 dX10_marsh_204 hr ((-20) - (nI a2_8), mf, mt, mm, mho, a2_8, z) (by first | rfl | (simp [n_2, b_6, hhr9_10, c_11]; done)) (by
                try dsimp only
                (have hw := mend_n hhr9_10 hs (by assumption); unfold R_marsh; exact Or.inl ⟨neg20' (Nat.le_trans hhr9_10.2.1 hT) hw, hw.symm, rfl, rfl, rfl, rfl⟩)) (by rfl)
  · skip
    have n_20 : pl < 41 := nJ_nle (a := 41) (b := pl) (by omega) (by omega) c_1
    refine V_iload_n (pc := 22) X dX10_marsh_22 rfl 1 rfl ?_
    refine V_if_ne (tgt := 171) (pc := 23) X dX10_marsh_23 (by decide) (fun c_21 => ?_) (fun c_21 => ?_)
    · skip
      have b_22 : wr = true := bI1 c_21
      have hw := (hd.resolve_left (fun q => by rw [q.1] at b_22; cases b_22)).2
      refine V_iload_n (pc := 171) X dX10_marsh_171 rfl 1 rfl ?_
      refine V_if_ne (tgt := 182) (pc := 172) X dX10_marsh_172 (by decide) (fun c_23 => ?_) (fun c_23 => ?_)
      · skip
        have b_24 : wr = true := bI1 c_23
        have hw := (hd.resolve_left (fun q => by rw [q.1] at b_24; cases b_24)).2
        refine V_iconst (v := 1) (pc := 182) X dX10_marsh_182 (by decide) ?_
        refine V_goto (tgt := 187) (pc := 183) X dX10_marsh_183 (by decide) ?_
        refine V_istore_n (lv' := [(1, .int 1), (0, .ref mq), (2, .long f), (4, .int (nI n)), (5, .int (nI pl))]) (pc := 187) X dX10_marsh_187 rfl (Nat.le_of_ble_eq_true rfl) rfl ?_
        refine V_aload_n (pc := 188) X dX10_marsh_188 rfl 1 rfl ?_
        refine V_iconst (v := 0) (pc := 189) X dX10_marsh_189 (by decide) ?_
        refine V_put (C := RX10) (T := TX10) (N := 30) (ci := 10) (ws' := [ob mq 10 [.long mf, .int (nI mt), .ref mmq, .int (nI mn), .ref mkq, .ref mcq, .ref mhq, .ref maq, .int mz, .int my, .long mS, .ref mzq, .ref mtq, .int 0, .int (nI a), .ref mrq, .ref muq, .long mF, .int mZ, .ref moq, .int mK, .int mH, .ref mgq, .ref miq, .long mI, .int (bI mB), .ref mlq, .ref msq, .ref meq, .ref mvq], ai g mtq 60 mta, ai g mrq 6 z, ai g mmq 6 mm, ai g mhq 6 mho]) (pc := 190) X dX10_marsh_190 in10 tyX10 tyX10_ok nmX10 0 rfl rfl 13 (by decide) (by decide +kernel) rfl rfl rfl rfl rfl (Nat.le_of_ble_eq_true rfl) rfl ?_
        refine V_iload_n (pc := 193) X dX10_marsh_193 rfl 0 rfl ?_
        refine V_if_eq (tgt := 205) (pc := 194) X dX10_marsh_194 (by decide) (fun c_25 => ?_) (fun c_25 => ?_)
        · exact absurd c_25 (by decide)
        · skip
          refine V_bipush (v := (-20)) (pc := 197) X dX10_marsh_197 (by decide) ?_
          refine V_aload_n (pc := 199) X dX10_marsh_199 rfl 1 rfl ?_
          refine V_get (C := RX10) (T := TX10) (N := 30) (ci := 10) (pc := 200) X dX10_marsh_200 in10 0 rfl rfl 14 (by decide) (by decide +kernel) rfl rfl ?_
          refine V_isub (pc := 203) X dX10_marsh_203 ?_
          exact Ve_iret (pc := 204) X hA9 dX10_marsh_204 hr ((-20) - (nI a), mf, mt, mm, mho, a, z) (by first | rfl | (simp [n_20, b_22, hw, b_24, hw]; done)) (by
                try dsimp only
                (unfold R_marsh; exact Or.inl ⟨neg20' (by omega) hw, hw.symm, rfl, rfl, rfl, rfl⟩)) (by rfl)
      · exact absurd ((bI0 c_23).symm.trans b_22) (by decide)
    · skip
      have b_26 : wr = false := bI0 c_21
      have hs := (hd.resolve_right (fun q => by rw [q.1] at b_26; cases b_26)).2
      refine V_aload_n (pc := 26) X dX10_marsh_26 rfl 0 rfl ?_
      refine V_ve (pc := 27) (nA := 0) (As := []) (rest := []) X (c_X10_here l g (mq := mq) (mf := mf) (mt := mt) (mmq := mmq) (mn := mn) (mkq := mkq) (mcq := mcq) (mhq := mhq) (maq := maq) (mz := mz) (my := my) (mS := mS) (mzq := mzq) (mtq := mtq) (mT := mT) (mA := a) (mrq := mrq) (muq := muq) (mF := mF) (mZ := mZ) (moq := moq) (mK := mK) (mH := mH) (mgq := mgq) (miq := miq) (mI := mI) (mB := mB) (mlq := mlq) (msq := msq) (meq := meq) (mvq := mvq) (mta := mta) (hTA := by first | assumption | omega) (hT := by first | assumption | omega)) gX10_marsh_X10_here dX10_marsh_27 rfl (by decide +kernel) rfl (qb := 0) rfl rfl rfl ⟨rfl, rfl⟩ ⟨Nat.le_of_ble_eq_true rfl, Nat.le_of_ble_eq_true rfl⟩ ⟨Nat.le_of_ble_eq_true rfl, Nat.le_of_ble_eq_true rfl⟩ [0, 1] (by decide) rfl [2, 3, 4] (by decide) (by decide) [ai g mrq 6 z, ai g mmq 6 mm, ai g mhq 6 mho] rfl [3, 4, 0, 1, 2] (by decide) (fun u => [ob mq 10 [.long mf, .int (nI mt), .ref mmq, .int (nI mn), .ref mkq, .ref mcq, .ref mhq, .ref maq, .int mz, .int my, .long mS, .ref mzq, .ref mtq, .int (nI mT), .int (nI u.2), .ref mrq, .ref muq, .long mF, .int mZ, .ref moq, .int mK, .int mH, .ref mgq, .ref miq, .long mI, .int (bI mB), .ref mlq, .ref msq, .ref meq, .ref mvq], ai g mtq 60 mta, ai g mrq 6 z, ai g mmq 6 mm, ai g mhq 6 mho]) (fun _ => rfl) rfl (Nat.le_of_ble_eq_true rfl) (fun u => [.int u.1]) (fun _ => rfl) (fun u hu_29 => ?_)
      obtain ⟨r_27, a2_28⟩ := u
      try dsimp only at hu_29
      have hhr9_30 := hu_29
      refine V_eqw (ws2 := [ob mq 10 [.long mf, .int (nI mt), .ref mmq, .int (nI mn), .ref mkq, .ref mcq, .ref mhq, .ref maq, .int mz, .int my, .long mS, .ref mzq, .ref mtq, .int (nI mT), .int (nI a2_28), .ref mrq, .ref muq, .long mF, .int mZ, .ref moq, .int mK, .int mH, .ref mgq, .ref miq, .long mI, .int (bI mB), .ref mlq, .ref msq, .ref meq, .ref mvq], ai g mtq 60 mta, ai g mrq 6 z, ai g mmq 6 mm, ai g mhq 6 mho]) rfl (V_eqs (st2 := [.int r_27]) rfl ?_)
      refine V_istore (lv' := [(6, .int r_27), (0, .ref mq), (1, .int (bI wr)), (2, .long f), (4, .int (nI n)), (5, .int (nI pl))]) (pc := 30) X dX10_marsh_30 (Nat.le_of_ble_eq_true rfl) rfl ?_
      refine V_iload (pc := 32) X dX10_marsh_32 5 rfl ?_
      refine V_iload (pc := 34) X dX10_marsh_34 5 rfl ?_
      refine V_bipush (v := 7) (pc := 36) X dX10_marsh_36 (by decide) ?_
      refine V_idiv (pc := 38) X dX10_marsh_38 (by decide) ?_
      refine V_seti (y := nI (pl / 7)) (pk_div (a := pl) (d := 7) (by omega) (by omega) (by omega)) ?_
      refine V_isub (pc := 39) X dX10_marsh_39 ?_
      refine V_seti (y := nI (pl - (pl / 7))) (pk_sub (a := pl) (b := pl / 7) (by omega)) ?_
      refine V_istore (lv' := [(7, .int (nI (pl - (pl / 7)))), (6, .int r_27), (0, .ref mq), (1, .int (bI wr)), (2, .long f), (4, .int (nI n)), (5, .int (nI pl))]) (pc := 40) X dX10_marsh_40 (Nat.le_of_ble_eq_true rfl) rfl ?_
      refine V_iload (pc := 42) X dX10_marsh_42 6 rfl ?_
      refine V_bipush (v := 7) (pc := 44) X dX10_marsh_44 (by decide) ?_
      refine V_irem (pc := 46) X dX10_marsh_46 (by decide) ?_
      refine V_seti (y := nI (pl % 7)) (pk_rem (a := pl) (d := 7) (by omega) (by omega) (by omega)) ?_
      refine V_bipush (v := 6) (pc := 47) X dX10_marsh_47 (by decide) ?_
      refine V_icmp_ne (tgt := 68) (pc := 49) X dX10_marsh_49 (by decide) (fun c_31 => ?_) (fun c_31 => ?_)
      · skip
        have n_32 : (pl % 7) ≠ 6 := nJ_ne (a := pl % 7) (b := 6) (by omega) (by omega) c_31
        refine V_iload (pc := 68) X dX10_marsh_68 1 rfl ?_
        refine V_bipush (v := 46) (pc := 70) X dX10_marsh_70 (by decide) ?_
        refine V_icmp_eq (tgt := 100) (pc := 72) X dX10_marsh_72 (by decide) (fun c_33 => ?_) (fun c_33 => ?_)
        · skip
          refine V_iconst (v := 0) (pc := 100) X dX10_marsh_100 (by decide) ?_
          refine V_istore_n (lv' := [(1, .int 0), (7, .int (nI (pl - (pl / 7)))), (6, .int r_27), (0, .ref mq), (2, .long f), (4, .int (nI n)), (5, .int (nI pl))]) (pc := 101) X dX10_marsh_101 rfl (Nat.le_of_ble_eq_true rfl) rfl ?_
          refine V_lload_n (pc := 102) X dX10_marsh_102 rfl 4 rfl ?_
          refine V_iload (pc := 103) X dX10_marsh_103 2 rfl ?_
          refine V_bipush (v := 35) (pc := 105) X dX10_marsh_105 (by decide) ?_
          refine V_icmp_ne (tgt := 121) (pc := 107) X dX10_marsh_107 (by decide) (fun c_34 => ?_) (fun c_34 => ?_)
          · skip
            refine V_lconst (v := 0) (pc := 121) X dX10_marsh_121 (by decide) ?_
            refine V_lor (pc := 122) X dX10_marsh_122 ?_
            refine V_lstore_n (lv' := [(2, .long (f ||| 0)), (1, .int 0), (7, .int (nI (pl - (pl / 7)))), (6, .int r_27), (0, .ref mq), (4, .int (nI n)), (5, .int (nI pl))]) (pc := 123) X dX10_marsh_123 rfl (Nat.le_of_ble_eq_true rfl) rfl ?_
            refine V_iload (pc := 124) X dX10_marsh_124 3 rfl ?_
            refine V_bipush (v := 109) (pc := 126) X dX10_marsh_126 (by decide) ?_
            refine V_icmp_ne (tgt := 147) (pc := 128) X dX10_marsh_128 (by decide) (fun c_35 => ?_) (fun c_35 => ?_)
            · skip
              refine V_aload_n (pc := 147) X dX10_marsh_147 rfl 4 rfl ?_
              refine V_dup (pc := 148) X dX10_marsh_148 rfl ?_
              refine V_get (C := RX10) (T := TX10) (N := 30) (ci := 10) (pc := 149) X dX10_marsh_149 in10 0 rfl rfl 14 (by decide) (by decide +kernel) rfl rfl ?_
              refine V_iload_n (pc := 152) X dX10_marsh_152 rfl 1 rfl ?_
              refine V_if_eq (tgt := 160) (pc := 153) X dX10_marsh_153 (by decide) (fun c_36 => ?_) (fun c_36 => ?_)
              · skip
                refine V_iconst (v := 1) (pc := 160) X dX10_marsh_160 (by decide) ?_
                refine V_iadd (pc := 161) X dX10_marsh_161 ?_
                refine V_seti (y := nI (a2_28 + 1)) (nI_add a2_28 1) ?_
                refine V_put (C := RX10) (T := TX10) (N := 30) (ci := 10) (ws' := [ob mq 10 [.long mf, .int (nI mt), .ref mmq, .int (nI mn), .ref mkq, .ref mcq, .ref mhq, .ref maq, .int mz, .int my, .long mS, .ref mzq, .ref mtq, .int (nI mT), .int (nI (a2_28 + 1)), .ref mrq, .ref muq, .long mF, .int mZ, .ref moq, .int mK, .int mH, .ref mgq, .ref miq, .long mI, .int (bI mB), .ref mlq, .ref msq, .ref meq, .ref mvq], ai g mtq 60 mta, ai g mrq 6 z, ai g mmq 6 mm, ai g mhq 6 mho]) (pc := 162) X dX10_marsh_162 in10 tyX10 tyX10_ok nmX10 0 rfl rfl 14 (by decide) (by decide +kernel) rfl rfl rfl rfl rfl (Nat.le_of_ble_eq_true rfl) rfl ?_
                refine V_iinc (v := nI (pl + 1)) (lv' := [(5, .int (nI (pl + 1))), (2, .long (f ||| 0)), (1, .int 0), (7, .int (nI (pl - (pl / 7)))), (6, .int r_27), (0, .ref mq), (4, .int (nI n))]) (pc := 165) X dX10_marsh_165 6 rfl (nI_add pl 1) (Nat.le_of_ble_eq_true rfl) rfl ?_
                refine V_goto (tgt := 15) (pc := 168) X dX10_marsh_168 (by decide) ?_
                refine V_lv [5, 2, 1, 6, 0] rfl ?_
                exact ih15 (pl + 1, false, f ||| 0, n, a2_28 + 1, z) ⟨(by
                      try dsimp only
                      all_goals omega), (by
                      try dsimp only
                      all_goals omega), (by
                      try dsimp only
                      have e8 : tkF pl r_27 (f, z, n) = (true, f ||| 0, z, n) := by rw [tk_cell (by omega) (by omega), tcF, if_neg (by first | assumption | (rw [show r_27 = 46 by assumption]; decide)), if_pos (by assumption), or64_0]
                      have e9 := mst_lt hhr9_30 (by omega) (congrArg Prod.fst e8)
                      omega), (by
                      try dsimp only
                      exact Or.inl ⟨rfl, mst_y hhr9_30 (by omega) hs (by rw [tk_cell (by omega) (by omega), tcF, if_neg (by first | assumption | (rw [show r_27 = 46 by assumption]; decide)), if_pos (by assumption), or64_0])⟩)⟩ (by
                      try dsimp only
                      all_goals omega)
              · exact absurd (by decide) c_36
            · exact absurd c_35 (by rw [c_33]; decide)
          · exact absurd c_34 (by rw [c_33]; decide)
        · skip
          refine V_iload (pc := 75) X dX10_marsh_75 1 rfl ?_
          refine V_bipush (v := 35) (pc := 77) X dX10_marsh_77 (by decide) ?_
          refine V_icmp_eq (tgt := 100) (pc := 79) X dX10_marsh_79 (by decide) (fun c_37 => ?_) (fun c_37 => ?_)
          · skip
            refine V_iconst (v := 0) (pc := 100) X dX10_marsh_100 (by decide) ?_
            refine V_istore_n (lv' := [(1, .int 0), (7, .int (nI (pl - (pl / 7)))), (6, .int r_27), (0, .ref mq), (2, .long f), (4, .int (nI n)), (5, .int (nI pl))]) (pc := 101) X dX10_marsh_101 rfl (Nat.le_of_ble_eq_true rfl) rfl ?_
            refine V_lload_n (pc := 102) X dX10_marsh_102 rfl 4 rfl ?_
            refine V_iload (pc := 103) X dX10_marsh_103 2 rfl ?_
            refine V_bipush (v := 35) (pc := 105) X dX10_marsh_105 (by decide) ?_
            refine V_icmp_ne (tgt := 121) (pc := 107) X dX10_marsh_107 (by decide) (fun c_38 => ?_) (fun c_38 => ?_)
            · exact absurd c_37 c_38
            · skip
              refine V_iload_n (pc := 110) X dX10_marsh_110 rfl 0 rfl ?_
              refine V_if_ne (tgt := 121) (pc := 111) X dX10_marsh_111 (by decide) (fun c_39 => ?_) (fun c_39 => ?_)
              · exact absurd (by decide) c_39
              · skip
                refine V_lconst (v := 1) (pc := 114) X dX10_marsh_114 (by decide) ?_
                refine V_iload (pc := 115) X dX10_marsh_115 1 rfl ?_
                refine V_lshl (pc := 117) X dX10_marsh_117 ?_
                refine V_setl (y := bitI (nI (pl - (pl / 7)))) rfl ?_
                refine V_goto (tgt := 122) (pc := 118) X dX10_marsh_118 (by decide) ?_
                refine V_lor (pc := 122) X dX10_marsh_122 ?_
                refine V_lstore_n (lv' := [(2, .long (f ||| (bitI (nI (pl - (pl / 7)))))), (1, .int 0), (7, .int (nI (pl - (pl / 7)))), (6, .int r_27), (0, .ref mq), (4, .int (nI n)), (5, .int (nI pl))]) (pc := 123) X dX10_marsh_123 rfl (Nat.le_of_ble_eq_true rfl) rfl ?_
                refine V_iload (pc := 124) X dX10_marsh_124 3 rfl ?_
                refine V_bipush (v := 109) (pc := 126) X dX10_marsh_126 (by decide) ?_
                refine V_icmp_ne (tgt := 147) (pc := 128) X dX10_marsh_128 (by decide) (fun c_40 => ?_) (fun c_40 => ?_)
                · skip
                  refine V_aload_n (pc := 147) X dX10_marsh_147 rfl 4 rfl ?_
                  refine V_dup (pc := 148) X dX10_marsh_148 rfl ?_
                  refine V_get (C := RX10) (T := TX10) (N := 30) (ci := 10) (pc := 149) X dX10_marsh_149 in10 0 rfl rfl 14 (by decide) (by decide +kernel) rfl rfl ?_
                  refine V_iload_n (pc := 152) X dX10_marsh_152 rfl 1 rfl ?_
                  refine V_if_eq (tgt := 160) (pc := 153) X dX10_marsh_153 (by decide) (fun c_41 => ?_) (fun c_41 => ?_)
                  · skip
                    refine V_iconst (v := 1) (pc := 160) X dX10_marsh_160 (by decide) ?_
                    refine V_iadd (pc := 161) X dX10_marsh_161 ?_
                    refine V_seti (y := nI (a2_28 + 1)) (nI_add a2_28 1) ?_
                    refine V_put (C := RX10) (T := TX10) (N := 30) (ci := 10) (ws' := [ob mq 10 [.long mf, .int (nI mt), .ref mmq, .int (nI mn), .ref mkq, .ref mcq, .ref mhq, .ref maq, .int mz, .int my, .long mS, .ref mzq, .ref mtq, .int (nI mT), .int (nI (a2_28 + 1)), .ref mrq, .ref muq, .long mF, .int mZ, .ref moq, .int mK, .int mH, .ref mgq, .ref miq, .long mI, .int (bI mB), .ref mlq, .ref msq, .ref meq, .ref mvq], ai g mtq 60 mta, ai g mrq 6 z, ai g mmq 6 mm, ai g mhq 6 mho]) (pc := 162) X dX10_marsh_162 in10 tyX10 tyX10_ok nmX10 0 rfl rfl 14 (by decide) (by decide +kernel) rfl rfl rfl rfl rfl (Nat.le_of_ble_eq_true rfl) rfl ?_
                    refine V_iinc (v := nI (pl + 1)) (lv' := [(5, .int (nI (pl + 1))), (2, .long (f ||| (bitI (nI (pl - (pl / 7)))))), (1, .int 0), (7, .int (nI (pl - (pl / 7)))), (6, .int r_27), (0, .ref mq), (4, .int (nI n))]) (pc := 165) X dX10_marsh_165 6 rfl (nI_add pl 1) (Nat.le_of_ble_eq_true rfl) rfl ?_
                    refine V_goto (tgt := 15) (pc := 168) X dX10_marsh_168 (by decide) ?_
                    refine V_lv [5, 2, 1, 6, 0] rfl ?_
                    exact ih15 (pl + 1, false, f ||| (bitI (nI (pl - (pl / 7)))), n, a2_28 + 1, z) ⟨(by
                          try dsimp only
                          all_goals omega), (by
                          try dsimp only
                          all_goals omega), (by
                          try dsimp only
                          have e8 : tkF pl r_27 (f, z, n) = (true, f ||| (bitI (nI (pl - (pl / 7)))), z, n) := by rw [tk_cell (by omega) (by omega), tcF, if_pos (by assumption)]
                          have e9 := mst_lt hhr9_30 (by omega) (congrArg Prod.fst e8)
                          omega), (by
                          try dsimp only
                          exact Or.inl ⟨rfl, mst_y hhr9_30 (by omega) hs (by rw [tk_cell (by omega) (by omega), tcF, if_pos (by assumption)])⟩)⟩ (by
                          try dsimp only
                          all_goals omega)
                  · exact absurd (by decide) c_41
                · exact absurd c_40 (by rw [c_37]; decide)
          · skip
            refine V_iload (pc := 82) X dX10_marsh_82 1 rfl ?_
            refine V_bipush (v := 109) (pc := 84) X dX10_marsh_84 (by decide) ?_
            refine V_icmp_ne (tgt := 96) (pc := 86) X dX10_marsh_86 (by decide) (fun c_42 => ?_) (fun c_42 => ?_)
            · skip
              refine V_iconst (v := 1) (pc := 96) X dX10_marsh_96 (by decide) ?_
              refine V_goto (tgt := 101) (pc := 97) X dX10_marsh_97 (by decide) ?_
              refine V_istore_n (lv' := [(1, .int 1), (7, .int (nI (pl - (pl / 7)))), (6, .int r_27), (0, .ref mq), (2, .long f), (4, .int (nI n)), (5, .int (nI pl))]) (pc := 101) X dX10_marsh_101 rfl (Nat.le_of_ble_eq_true rfl) rfl ?_
              refine V_lload_n (pc := 102) X dX10_marsh_102 rfl 4 rfl ?_
              refine V_iload (pc := 103) X dX10_marsh_103 2 rfl ?_
              refine V_bipush (v := 35) (pc := 105) X dX10_marsh_105 (by decide) ?_
              refine V_icmp_ne (tgt := 121) (pc := 107) X dX10_marsh_107 (by decide) (fun c_43 => ?_) (fun c_43 => ?_)
              · skip
                refine V_lconst (v := 0) (pc := 121) X dX10_marsh_121 (by decide) ?_
                refine V_lor (pc := 122) X dX10_marsh_122 ?_
                refine V_lstore_n (lv' := [(2, .long (f ||| 0)), (1, .int 1), (7, .int (nI (pl - (pl / 7)))), (6, .int r_27), (0, .ref mq), (4, .int (nI n)), (5, .int (nI pl))]) (pc := 123) X dX10_marsh_123 rfl (Nat.le_of_ble_eq_true rfl) rfl ?_
                refine V_iload (pc := 124) X dX10_marsh_124 3 rfl ?_
                refine V_bipush (v := 109) (pc := 126) X dX10_marsh_126 (by decide) ?_
                refine V_icmp_ne (tgt := 147) (pc := 128) X dX10_marsh_128 (by decide) (fun c_44 => ?_) (fun c_44 => ?_)
                · skip
                  refine V_aload_n (pc := 147) X dX10_marsh_147 rfl 4 rfl ?_
                  refine V_dup (pc := 148) X dX10_marsh_148 rfl ?_
                  refine V_get (C := RX10) (T := TX10) (N := 30) (ci := 10) (pc := 149) X dX10_marsh_149 in10 0 rfl rfl 14 (by decide) (by decide +kernel) rfl rfl ?_
                  refine V_iload_n (pc := 152) X dX10_marsh_152 rfl 1 rfl ?_
                  refine V_if_eq (tgt := 160) (pc := 153) X dX10_marsh_153 (by decide) (fun c_45 => ?_) (fun c_45 => ?_)
                  · exact absurd c_45 (by decide)
                  · skip
                    refine V_iconst (v := 0) (pc := 156) X dX10_marsh_156 (by decide) ?_
                    refine V_goto (tgt := 161) (pc := 157) X dX10_marsh_157 (by decide) ?_
                    refine V_iadd (pc := 161) X dX10_marsh_161 ?_
                    refine V_seti (y := nI (a2_28 + 0)) (nI_add a2_28 0) ?_
                    refine V_put (C := RX10) (T := TX10) (N := 30) (ci := 10) (ws' := [ob mq 10 [.long mf, .int (nI mt), .ref mmq, .int (nI mn), .ref mkq, .ref mcq, .ref mhq, .ref maq, .int mz, .int my, .long mS, .ref mzq, .ref mtq, .int (nI mT), .int (nI (a2_28 + 0)), .ref mrq, .ref muq, .long mF, .int mZ, .ref moq, .int mK, .int mH, .ref mgq, .ref miq, .long mI, .int (bI mB), .ref mlq, .ref msq, .ref meq, .ref mvq], ai g mtq 60 mta, ai g mrq 6 z, ai g mmq 6 mm, ai g mhq 6 mho]) (pc := 162) X dX10_marsh_162 in10 tyX10 tyX10_ok nmX10 0 rfl rfl 14 (by decide) (by decide +kernel) rfl rfl rfl rfl rfl (Nat.le_of_ble_eq_true rfl) rfl ?_
                    refine V_iinc (v := nI (pl + 1)) (lv' := [(5, .int (nI (pl + 1))), (2, .long (f ||| 0)), (1, .int 1), (7, .int (nI (pl - (pl / 7)))), (6, .int r_27), (0, .ref mq), (4, .int (nI n))]) (pc := 165) X dX10_marsh_165 6 rfl (nI_add pl 1) (Nat.le_of_ble_eq_true rfl) rfl ?_
                    refine V_goto (tgt := 15) (pc := 168) X dX10_marsh_168 (by decide) ?_
                    refine V_lv [5, 2, 1, 6, 0] rfl ?_
                    exact ih15 (pl + 1, true, f ||| 0, n, a2_28 + 0, z) ⟨(by
                          try dsimp only
                          all_goals omega), (by
                          try dsimp only
                          all_goals omega), (by
                          try dsimp only
                          have e9 := hhr9_30.2.1
                          omega), (by
                          try dsimp only
                          exact Or.inr ⟨rfl, mst_n hhr9_30 (by omega) hs (by rw [tk_cell (by omega) (by omega), tcF, if_neg (by assumption), if_neg (by assumption), if_neg (by assumption)])⟩)⟩ (by
                          try dsimp only
                          all_goals omega)
                · exact absurd c_44 c_42
              · exact absurd c_43 c_37
            · skip
              refine V_iload (pc := 89) X dX10_marsh_89 5 rfl ?_
              refine V_bipush (v := 6) (pc := 91) X dX10_marsh_91 (by decide) ?_
              refine V_icmp_ne (tgt := 100) (pc := 93) X dX10_marsh_93 (by decide) (fun c_46 => ?_) (fun c_46 => ?_)
              · skip
                have n_47 : n ≠ 6 := nJ_ne (a := n) (b := 6) (by omega) (by omega) c_46
                refine V_iconst (v := 0) (pc := 100) X dX10_marsh_100 (by decide) ?_
                refine V_istore_n (lv' := [(1, .int 0), (7, .int (nI (pl - (pl / 7)))), (6, .int r_27), (0, .ref mq), (2, .long f), (4, .int (nI n)), (5, .int (nI pl))]) (pc := 101) X dX10_marsh_101 rfl (Nat.le_of_ble_eq_true rfl) rfl ?_
                refine V_lload_n (pc := 102) X dX10_marsh_102 rfl 4 rfl ?_
                refine V_iload (pc := 103) X dX10_marsh_103 2 rfl ?_
                refine V_bipush (v := 35) (pc := 105) X dX10_marsh_105 (by decide) ?_
                refine V_icmp_ne (tgt := 121) (pc := 107) X dX10_marsh_107 (by decide) (fun c_48 => ?_) (fun c_48 => ?_)
                · skip
                  refine V_lconst (v := 0) (pc := 121) X dX10_marsh_121 (by decide) ?_
                  refine V_lor (pc := 122) X dX10_marsh_122 ?_
                  refine V_lstore_n (lv' := [(2, .long (f ||| 0)), (1, .int 0), (7, .int (nI (pl - (pl / 7)))), (6, .int r_27), (0, .ref mq), (4, .int (nI n)), (5, .int (nI pl))]) (pc := 123) X dX10_marsh_123 rfl (Nat.le_of_ble_eq_true rfl) rfl ?_
                  refine V_iload (pc := 124) X dX10_marsh_124 3 rfl ?_
                  refine V_bipush (v := 109) (pc := 126) X dX10_marsh_126 (by decide) ?_
                  refine V_icmp_ne (tgt := 147) (pc := 128) X dX10_marsh_128 (by decide) (fun c_49 => ?_) (fun c_49 => ?_)
                  · exact absurd c_42 c_49
                  · skip
                    refine V_iload_n (pc := 131) X dX10_marsh_131 rfl 1 rfl ?_
                    refine V_if_ne (tgt := 147) (pc := 132) X dX10_marsh_132 (by decide) (fun c_50 => ?_) (fun c_50 => ?_)
                    · exact absurd (by decide) c_50
                    · skip
                      refine V_aload_n (pc := 135) X dX10_marsh_135 rfl 4 rfl ?_
                      refine V_get (C := RX10) (T := TX10) (N := 30) (ci := 10) (pc := 136) X dX10_marsh_136 in10 0 rfl rfl 15 (by decide) (by decide +kernel) rfl rfl ?_
                      refine V_iload (pc := 139) X dX10_marsh_139 5 rfl ?_
                      refine V_iload (pc := 141) X dX10_marsh_141 2 rfl ?_
                      refine V_iast (f' := upd z n (nI (pl - (pl / 7)))) (ws' := [ob mq 10 [.long mf, .int (nI mt), .ref mmq, .int (nI mn), .ref mkq, .ref mcq, .ref mhq, .ref maq, .int mz, .int my, .long mS, .ref mzq, .ref mtq, .int (nI mT), .int (nI a2_28), .ref mrq, .ref muq, .long mF, .int mZ, .ref moq, .int mK, .int mH, .ref mgq, .ref miq, .long mI, .int (bI mB), .ref mlq, .ref msq, .ref meq, .ref mvq], ai g mtq 60 mta, ai g mrq 6 (upd z n (nI (pl - (pl / 7)))), ai g mmq 6 mm, ai g mhq 6 mho]) (pc := 143) X dX10_marsh_143 2 rfl (vp_in_nI (by omega) (by omega)) (by rw [nI_clamp (by omega)]) rfl ?_
                      refine V_iinc (v := nI (n + 1)) (lv' := [(4, .int (nI (n + 1))), (2, .long (f ||| 0)), (1, .int 0), (7, .int (nI (pl - (pl / 7)))), (6, .int r_27), (0, .ref mq), (5, .int (nI pl))]) (pc := 144) X dX10_marsh_144 5 rfl (nI_add n 1) (Nat.le_of_ble_eq_true rfl) rfl ?_
                      refine V_aload_n (pc := 147) X dX10_marsh_147 rfl 5 rfl ?_
                      refine V_dup (pc := 148) X dX10_marsh_148 rfl ?_
                      refine V_get (C := RX10) (T := TX10) (N := 30) (ci := 10) (pc := 149) X dX10_marsh_149 in10 0 rfl rfl 14 (by decide) (by decide +kernel) rfl rfl ?_
                      refine V_iload_n (pc := 152) X dX10_marsh_152 rfl 2 rfl ?_
                      refine V_if_eq (tgt := 160) (pc := 153) X dX10_marsh_153 (by decide) (fun c_51 => ?_) (fun c_51 => ?_)
                      · skip
                        refine V_iconst (v := 1) (pc := 160) X dX10_marsh_160 (by decide) ?_
                        refine V_iadd (pc := 161) X dX10_marsh_161 ?_
                        refine V_seti (y := nI (a2_28 + 1)) (nI_add a2_28 1) ?_
                        refine V_put (C := RX10) (T := TX10) (N := 30) (ci := 10) (ws' := [ob mq 10 [.long mf, .int (nI mt), .ref mmq, .int (nI mn), .ref mkq, .ref mcq, .ref mhq, .ref maq, .int mz, .int my, .long mS, .ref mzq, .ref mtq, .int (nI mT), .int (nI (a2_28 + 1)), .ref mrq, .ref muq, .long mF, .int mZ, .ref moq, .int mK, .int mH, .ref mgq, .ref miq, .long mI, .int (bI mB), .ref mlq, .ref msq, .ref meq, .ref mvq], ai g mtq 60 mta, ai g mrq 6 (upd z n (nI (pl - (pl / 7)))), ai g mmq 6 mm, ai g mhq 6 mho]) (pc := 162) X dX10_marsh_162 in10 tyX10 tyX10_ok nmX10 0 rfl rfl 14 (by decide) (by decide +kernel) rfl rfl rfl rfl rfl (Nat.le_of_ble_eq_true rfl) rfl ?_
                        refine V_iinc (v := nI (pl + 1)) (lv' := [(5, .int (nI (pl + 1))), (4, .int (nI (n + 1))), (2, .long (f ||| 0)), (1, .int 0), (7, .int (nI (pl - (pl / 7)))), (6, .int r_27), (0, .ref mq)]) (pc := 165) X dX10_marsh_165 6 rfl (nI_add pl 1) (Nat.le_of_ble_eq_true rfl) rfl ?_
                        refine V_goto (tgt := 15) (pc := 168) X dX10_marsh_168 (by decide) ?_
                        refine V_lv [6, 3, 2, 1, 0] rfl ?_
                        exact ih15 (pl + 1, false, f ||| 0, n + 1, a2_28 + 1, upd z n (nI (pl - (pl / 7)))) ⟨(by
                              try dsimp only
                              all_goals omega), (by
                              try dsimp only
                              all_goals omega), (by
                              try dsimp only
                              have e8 : tkF pl r_27 (f, z, n) = (true, f ||| 0, upd z n (nI (pl - (pl / 7))), n + 1) := by rw [tk_cell (by omega) (by omega), tcF, if_neg (by assumption), if_neg (by assumption), if_pos (by assumption), ttF, if_pos (show n < 6 by omega), or64_0]
                              have e9 := mst_lt hhr9_30 (by omega) (congrArg Prod.fst e8)
                              omega), (by
                              try dsimp only
                              exact Or.inl ⟨rfl, mst_y hhr9_30 (by omega) hs (by rw [tk_cell (by omega) (by omega), tcF, if_neg (by assumption), if_neg (by assumption), if_pos (by assumption), ttF, if_pos (show n < 6 by omega), or64_0])⟩)⟩ (by
                              try dsimp only
                              all_goals omega)
                      · exact absurd (by decide) c_51
                · exact absurd c_48 c_37
              · skip
                have n_52 : n = 6 := nJ_eq (a := n) (b := 6) (by omega) (by omega) c_46
                refine V_iconst (v := 1) (pc := 96) X dX10_marsh_96 (by decide) ?_
                refine V_goto (tgt := 101) (pc := 97) X dX10_marsh_97 (by decide) ?_
                refine V_istore_n (lv' := [(1, .int 1), (7, .int (nI (pl - (pl / 7)))), (6, .int r_27), (0, .ref mq), (2, .long f), (4, .int (nI n)), (5, .int (nI pl))]) (pc := 101) X dX10_marsh_101 rfl (Nat.le_of_ble_eq_true rfl) rfl ?_
                refine V_lload_n (pc := 102) X dX10_marsh_102 rfl 4 rfl ?_
                refine V_iload (pc := 103) X dX10_marsh_103 2 rfl ?_
                refine V_bipush (v := 35) (pc := 105) X dX10_marsh_105 (by decide) ?_
                refine V_icmp_ne (tgt := 121) (pc := 107) X dX10_marsh_107 (by decide) (fun c_53 => ?_) (fun c_53 => ?_)
                · skip
                  refine V_lconst (v := 0) (pc := 121) X dX10_marsh_121 (by decide) ?_
                  refine V_lor (pc := 122) X dX10_marsh_122 ?_
                  refine V_lstore_n (lv' := [(2, .long (f ||| 0)), (1, .int 1), (7, .int (nI (pl - (pl / 7)))), (6, .int r_27), (0, .ref mq), (4, .int (nI n)), (5, .int (nI pl))]) (pc := 123) X dX10_marsh_123 rfl (Nat.le_of_ble_eq_true rfl) rfl ?_
                  refine V_iload (pc := 124) X dX10_marsh_124 3 rfl ?_
                  refine V_bipush (v := 109) (pc := 126) X dX10_marsh_126 (by decide) ?_
                  refine V_icmp_ne (tgt := 147) (pc := 128) X dX10_marsh_128 (by decide) (fun c_54 => ?_) (fun c_54 => ?_)
                  · exact absurd c_42 c_54
                  · skip
                    refine V_iload_n (pc := 131) X dX10_marsh_131 rfl 1 rfl ?_
                    refine V_if_ne (tgt := 147) (pc := 132) X dX10_marsh_132 (by decide) (fun c_55 => ?_) (fun c_55 => ?_)
                    · skip
                      refine V_aload_n (pc := 147) X dX10_marsh_147 rfl 4 rfl ?_
                      refine V_dup (pc := 148) X dX10_marsh_148 rfl ?_
                      refine V_get (C := RX10) (T := TX10) (N := 30) (ci := 10) (pc := 149) X dX10_marsh_149 in10 0 rfl rfl 14 (by decide) (by decide +kernel) rfl rfl ?_
                      refine V_iload_n (pc := 152) X dX10_marsh_152 rfl 1 rfl ?_
                      refine V_if_eq (tgt := 160) (pc := 153) X dX10_marsh_153 (by decide) (fun c_56 => ?_) (fun c_56 => ?_)
                      · exact absurd c_56 (by decide)
                      · skip
                        refine V_iconst (v := 0) (pc := 156) X dX10_marsh_156 (by decide) ?_
                        refine V_goto (tgt := 161) (pc := 157) X dX10_marsh_157 (by decide) ?_
                        refine V_iadd (pc := 161) X dX10_marsh_161 ?_
                        refine V_seti (y := nI (a2_28 + 0)) (nI_add a2_28 0) ?_
                        refine V_put (C := RX10) (T := TX10) (N := 30) (ci := 10) (ws' := [ob mq 10 [.long mf, .int (nI mt), .ref mmq, .int (nI mn), .ref mkq, .ref mcq, .ref mhq, .ref maq, .int mz, .int my, .long mS, .ref mzq, .ref mtq, .int (nI mT), .int (nI (a2_28 + 0)), .ref mrq, .ref muq, .long mF, .int mZ, .ref moq, .int mK, .int mH, .ref mgq, .ref miq, .long mI, .int (bI mB), .ref mlq, .ref msq, .ref meq, .ref mvq], ai g mtq 60 mta, ai g mrq 6 z, ai g mmq 6 mm, ai g mhq 6 mho]) (pc := 162) X dX10_marsh_162 in10 tyX10 tyX10_ok nmX10 0 rfl rfl 14 (by decide) (by decide +kernel) rfl rfl rfl rfl rfl (Nat.le_of_ble_eq_true rfl) rfl ?_
                        refine V_iinc (v := nI (pl + 1)) (lv' := [(5, .int (nI (pl + 1))), (2, .long (f ||| 0)), (1, .int 1), (7, .int (nI (pl - (pl / 7)))), (6, .int r_27), (0, .ref mq), (4, .int (nI n))]) (pc := 165) X dX10_marsh_165 6 rfl (nI_add pl 1) (Nat.le_of_ble_eq_true rfl) rfl ?_
                        refine V_goto (tgt := 15) (pc := 168) X dX10_marsh_168 (by decide) ?_
                        refine V_lv [5, 2, 1, 6, 0] rfl ?_
                        exact ih15 (pl + 1, true, f ||| 0, n, a2_28 + 0, z) ⟨(by
                              try dsimp only
                              all_goals omega), (by
                              try dsimp only
                              all_goals omega), (by
                              try dsimp only
                              have e9 := hhr9_30.2.1
                              omega), (by
                              try dsimp only
                              exact Or.inr ⟨rfl, mst_n hhr9_30 (by omega) hs (by rw [tk_cell (by omega) (by omega), tcF, if_neg (by assumption), if_neg (by assumption), if_pos (by assumption), ttF, if_neg (show ¬ n < 6 by omega)])⟩)⟩ (by
                              try dsimp only
                              all_goals omega)
                    · exact absurd c_55 (by decide)
                · exact absurd c_53 c_37
      · skip
        have n_57 : (pl % 7) = 6 := nJ_eq (a := pl % 7) (b := 6) (by omega) (by omega) c_31
        refine V_iload (pc := 52) X dX10_marsh_52 1 rfl ?_
        refine V_bipush (v := 47) (pc := 54) X dX10_marsh_54 (by decide) ?_
        refine V_icmp_eq (tgt := 63) (pc := 56) X dX10_marsh_56 (by decide) (fun c_58 => ?_) (fun c_58 => ?_)
        · skip
          refine V_iconst (v := 0) (pc := 63) X dX10_marsh_63 (by decide) ?_
          refine V_istore_n (lv' := [(1, .int 0), (7, .int (nI (pl - (pl / 7)))), (6, .int r_27), (0, .ref mq), (2, .long f), (4, .int (nI n)), (5, .int (nI pl))]) (pc := 64) X dX10_marsh_64 rfl (Nat.le_of_ble_eq_true rfl) rfl ?_
          refine V_goto (tgt := 147) (pc := 65) X dX10_marsh_65 (by decide) ?_
          refine V_aload_n (pc := 147) X dX10_marsh_147 rfl 3 rfl ?_
          refine V_dup (pc := 148) X dX10_marsh_148 rfl ?_
          refine V_get (C := RX10) (T := TX10) (N := 30) (ci := 10) (pc := 149) X dX10_marsh_149 in10 0 rfl rfl 14 (by decide) (by decide +kernel) rfl rfl ?_
          refine V_iload_n (pc := 152) X dX10_marsh_152 rfl 0 rfl ?_
          refine V_if_eq (tgt := 160) (pc := 153) X dX10_marsh_153 (by decide) (fun c_59 => ?_) (fun c_59 => ?_)
          · skip
            refine V_iconst (v := 1) (pc := 160) X dX10_marsh_160 (by decide) ?_
            refine V_iadd (pc := 161) X dX10_marsh_161 ?_
            refine V_seti (y := nI (a2_28 + 1)) (nI_add a2_28 1) ?_
            refine V_put (C := RX10) (T := TX10) (N := 30) (ci := 10) (ws' := [ob mq 10 [.long mf, .int (nI mt), .ref mmq, .int (nI mn), .ref mkq, .ref mcq, .ref mhq, .ref maq, .int mz, .int my, .long mS, .ref mzq, .ref mtq, .int (nI mT), .int (nI (a2_28 + 1)), .ref mrq, .ref muq, .long mF, .int mZ, .ref moq, .int mK, .int mH, .ref mgq, .ref miq, .long mI, .int (bI mB), .ref mlq, .ref msq, .ref meq, .ref mvq], ai g mtq 60 mta, ai g mrq 6 z, ai g mmq 6 mm, ai g mhq 6 mho]) (pc := 162) X dX10_marsh_162 in10 tyX10 tyX10_ok nmX10 0 rfl rfl 14 (by decide) (by decide +kernel) rfl rfl rfl rfl rfl (Nat.le_of_ble_eq_true rfl) rfl ?_
            refine V_iinc (v := nI (pl + 1)) (lv' := [(5, .int (nI (pl + 1))), (1, .int 0), (7, .int (nI (pl - (pl / 7)))), (6, .int r_27), (0, .ref mq), (2, .long f), (4, .int (nI n))]) (pc := 165) X dX10_marsh_165 6 rfl (nI_add pl 1) (Nat.le_of_ble_eq_true rfl) rfl ?_
            refine V_goto (tgt := 15) (pc := 168) X dX10_marsh_168 (by decide) ?_
            refine V_lv [4, 1, 5, 6, 0] rfl ?_
            exact ih15 (pl + 1, false, f, n, a2_28 + 1, z) ⟨(by
                  try dsimp only
                  all_goals omega), (by
                  try dsimp only
                  all_goals omega), (by
                  try dsimp only
                  have e8 : tkF pl r_27 (f, z, n) = (true, f, z, n) := by rw [tk_slash (by omega) (by omega), if_pos (by assumption)]
                  have e9 := mst_lt hhr9_30 (by omega) (congrArg Prod.fst e8)
                  omega), (by
                  try dsimp only
                  exact Or.inl ⟨rfl, mst_y hhr9_30 (by omega) hs (by rw [tk_slash (by omega) (by omega), if_pos (by assumption)])⟩)⟩ (by
                  try dsimp only
                  all_goals omega)
          · exact absurd (by decide) c_59
        · skip
          refine V_iconst (v := 1) (pc := 59) X dX10_marsh_59 (by decide) ?_
          refine V_goto (tgt := 64) (pc := 60) X dX10_marsh_60 (by decide) ?_
          refine V_istore_n (lv' := [(1, .int 1), (7, .int (nI (pl - (pl / 7)))), (6, .int r_27), (0, .ref mq), (2, .long f), (4, .int (nI n)), (5, .int (nI pl))]) (pc := 64) X dX10_marsh_64 rfl (Nat.le_of_ble_eq_true rfl) rfl ?_
          refine V_goto (tgt := 147) (pc := 65) X dX10_marsh_65 (by decide) ?_
          refine V_aload_n (pc := 147) X dX10_marsh_147 rfl 3 rfl ?_
          refine V_dup (pc := 148) X dX10_marsh_148 rfl ?_
          refine V_get (C := RX10) (T := TX10) (N := 30) (ci := 10) (pc := 149) X dX10_marsh_149 in10 0 rfl rfl 14 (by decide) (by decide +kernel) rfl rfl ?_
          refine V_iload_n (pc := 152) X dX10_marsh_152 rfl 0 rfl ?_
          refine V_if_eq (tgt := 160) (pc := 153) X dX10_marsh_153 (by decide) (fun c_60 => ?_) (fun c_60 => ?_)
          · exact absurd c_60 (by decide)
          · skip
            refine V_iconst (v := 0) (pc := 156) X dX10_marsh_156 (by decide) ?_
            refine V_goto (tgt := 161) (pc := 157) X dX10_marsh_157 (by decide) ?_
            refine V_iadd (pc := 161) X dX10_marsh_161 ?_
            refine V_seti (y := nI (a2_28 + 0)) (nI_add a2_28 0) ?_
            refine V_put (C := RX10) (T := TX10) (N := 30) (ci := 10) (ws' := [ob mq 10 [.long mf, .int (nI mt), .ref mmq, .int (nI mn), .ref mkq, .ref mcq, .ref mhq, .ref maq, .int mz, .int my, .long mS, .ref mzq, .ref mtq, .int (nI mT), .int (nI (a2_28 + 0)), .ref mrq, .ref muq, .long mF, .int mZ, .ref moq, .int mK, .int mH, .ref mgq, .ref miq, .long mI, .int (bI mB), .ref mlq, .ref msq, .ref meq, .ref mvq], ai g mtq 60 mta, ai g mrq 6 z, ai g mmq 6 mm, ai g mhq 6 mho]) (pc := 162) X dX10_marsh_162 in10 tyX10 tyX10_ok nmX10 0 rfl rfl 14 (by decide) (by decide +kernel) rfl rfl rfl rfl rfl (Nat.le_of_ble_eq_true rfl) rfl ?_
            refine V_iinc (v := nI (pl + 1)) (lv' := [(5, .int (nI (pl + 1))), (1, .int 1), (7, .int (nI (pl - (pl / 7)))), (6, .int r_27), (0, .ref mq), (2, .long f), (4, .int (nI n))]) (pc := 165) X dX10_marsh_165 6 rfl (nI_add pl 1) (Nat.le_of_ble_eq_true rfl) rfl ?_
            refine V_goto (tgt := 15) (pc := 168) X dX10_marsh_168 (by decide) ?_
            refine V_lv [4, 1, 5, 6, 0] rfl ?_
            exact ih15 (pl + 1, true, f, n, a2_28 + 0, z) ⟨(by
                  try dsimp only
                  all_goals omega), (by
                  try dsimp only
                  all_goals omega), (by
                  try dsimp only
                  have e9 := hhr9_30.2.1
                  omega), (by
                  try dsimp only
                  exact Or.inr ⟨rfl, mst_n hhr9_30 (by omega) hs (by rw [tk_slash (by omega) (by omega), if_neg (by assumption)])⟩)⟩ (by
                  try dsimp only
                  all_goals omega)
