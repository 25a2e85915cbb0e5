set_option maxHeartbeats 4000000 in
set_option maxRecDepth 100000 in
theorem c_X10_route (l : Launch) (g : XG) (mq : Nat) (mf : Int64) (mt : Nat) (mmq : Nat) (mn : Nat) (mkq : Nat) (mcq : Nat) (mhq : Nat) (maq : Nat) (mz : Int32) (my : Int32) (mS : Int64) (mzq : Nat) (mtq : Nat) (mT : Nat) (mA : Nat) (mrq : Nat) (muq : Nat) (mF : Int64) (mZ : Int32) (moq : Nat) (mK : Int32) (mH : Int32) (mgq : Nat) (miq : Nat) (mI : Int64) (mB : Bool) (mlq : Nat) (msq : Nat) (meq : Nat) (mvq : Nat) (mm : Nat → Int32) (mco : Nat → Int32) (x : Int32) (y : Int32) (i : Int32) (ht : mt ≤ 6) : Ke l g yX10_route wsX10_route ({ frames := 3, cells := 0, slots := 0, locals := 76 } : Room) 0 0 [.ref mq, .int x, .int y, .int i] [ob mq 10 [.long mf, .int (nI mt), .ref mmq, .int (nI mn), .ref mkq, .ref mcq, .ref mhq, .ref maq, .int mz, .int my, .long mS, .ref mzq, .ref mtq, .int (nI mT), .int (nI mA), .ref mrq, .ref muq, .long mF, .int mZ, .ref moq, .int mK, .int mH, .ref mgq, .ref miq, .long mI, .int (bI mB), .ref mlq, .ref msq, .ref meq, .ref mvq], ai g mmq 6 mm, ai g moq 36 mco] (fun u : Int32 × (Nat → Int32) => some (.int u.1)) (fun u => [ob mq 10 [.long mf, .int (nI mt), .ref mmq, .int (nI mn), .ref mkq, .ref mcq, .ref mhq, .ref maq, .int mz, .int my, .long mS, .ref mzq, .ref mtq, .int (nI mT), .int (nI mA), .ref mrq, .ref muq, .long mF, .int mZ, .ref moq, .int mK, .int mH, .ref mgq, .ref miq, .long mI, .int (bI mB), .ref mlq, .ref msq, .ref meq, .ref mvq], ai g mmq 6 mm, ai g moq 36 u.2]) (fun u => (u.1 = rtN x y i (VN (wkX mz mf mm mt (-1)) (kcX mz mf) y.toNatClampNeg) (kcX mz mf))) := by
  refine Ke.of (cc := cX10_route) (maxL := 8) (ret := (some .int)) (lv := [(0, .ref mq), (1, .int x), (2, .int y), (3, .int i)]) RX10 rfl (by decide) rfl (Nat.le_of_ble_eq_true rfl) rfl ?_
  intro p e s m below meth c A sz hA9 X hr hin2
  have in10 : ∀ w ∈ u_ws RX10 TX10 30, w ∈ wsX10_route := by decide +kernel
  refine V_iload_n (pc := 0) X dX10_route_0 rfl 1 rfl ?_
  refine V_i2l (pc := 1) X dX10_route_1 ?_
  refine V_sg (pc := 2) (nA := 1) (As := [.long x.toInt64]) (rest := []) X (c_X10_isCell l g (v := x.toInt64) ) gX10_route_X10_isCell dX10_route_2 rfl (by decide +kernel) rfl ⟨rfl, rfl⟩ ⟨Nat.le_of_ble_eq_true rfl, Nat.le_of_ble_eq_true rfl⟩ ⟨Nat.le_of_ble_eq_true rfl, Nat.le_of_ble_eq_true rfl⟩ [] (by decide) rfl rfl (Nat.le_of_ble_eq_true rfl) (st' := [.int (bI (inJ x.toInt64 0 35))]) rfl ?_
  refine V_seti (y := bI (bel x 36)) (congrArg bI (inJ_bel 35 (by decide) (by decide))) ?_
  refine V_if_eq (tgt := 30) (pc := 5) X dX10_route_5 (by decide) (fun c_1 => ?_) (fun c_1 => ?_)
  · skip
    have b_2 : (bel x 36) = false := bI0 c_1
    refine V_iconst (v := (-1)) (pc := 30) X dX10_route_30 (by decide) ?_
    exact Ve_iret (pc := 31) X hA9 dX10_route_31 hr ((-1), mco) (by first | rfl | (simp [b_2]; done)) (by
          try dsimp only
          exact rtN_b (by simp [b_2])) (by rfl)
  · skip
    have b_3 : (bel x 36) = true := bI1 c_1
    refine V_iload_n (pc := 8) X dX10_route_8 rfl 2 rfl ?_
    refine V_i2l (pc := 9) X dX10_route_9 ?_
    refine V_sg (pc := 10) (nA := 1) (As := [.long y.toInt64]) (rest := []) X (c_X10_isCell l g (v := y.toInt64) ) gX10_route_X10_isCell dX10_route_10 rfl (by decide +kernel) rfl ⟨rfl, rfl⟩ ⟨Nat.le_of_ble_eq_true rfl, Nat.le_of_ble_eq_true rfl⟩ ⟨Nat.le_of_ble_eq_true rfl, Nat.le_of_ble_eq_true rfl⟩ [] (by decide) rfl rfl (Nat.le_of_ble_eq_true rfl) (st' := [.int (bI (inJ y.toInt64 0 35))]) rfl ?_
    refine V_seti (y := bI (bel y 36)) (congrArg bI (inJ_bel 35 (by decide) (by decide))) ?_
    refine V_if_eq (tgt := 30) (pc := 13) X dX10_route_13 (by decide) (fun c_4 => ?_) (fun c_4 => ?_)
    · skip
      have b_5 : (bel y 36) = false := bI0 c_4
      refine V_iconst (v := (-1)) (pc := 30) X dX10_route_30 (by decide) ?_
      exact Ve_iret (pc := 31) X hA9 dX10_route_31 hr ((-1), mco) (by first | rfl | (simp [b_3, b_5]; done)) (by
            try dsimp only
            exact rtN_b (by simp [b_3, b_5])) (by rfl)
    · skip
      have b_6 : (bel y 36) = true := bI1 c_4
      refine V_iload_n (pc := 16) X dX10_route_16 rfl 3 rfl ?_
      refine V_i2l (pc := 17) X dX10_route_17 ?_
      refine V_ldc2 (v := (-1)) (pc := 18) X dX10_route_18 (by decide +kernel) ?_
      refine V_ldc2 (v := 34) (pc := 21) X dX10_route_21 (by decide +kernel) ?_
      refine V_sg (pc := 24) (nA := 3) (As := [.long i.toInt64, .long (-1), .long 34]) (rest := []) X (c_X10_in l g (v := i.toInt64) (v1 := (-1)) (v2 := 34) ) gX10_route_X10_in dX10_route_24 rfl (by decide +kernel) rfl ⟨rfl, rfl⟩ ⟨Nat.le_of_ble_eq_true rfl, Nat.le_of_ble_eq_true rfl⟩ ⟨Nat.le_of_ble_eq_true rfl, Nat.le_of_ble_eq_true rfl⟩ [] (by decide) rfl rfl (Nat.le_of_ble_eq_true rfl) (st' := [.int (bI (inJ i.toInt64 (-1) 34))]) rfl ?_
      refine V_seti (y := bI (!decide (i < -1) && decide (i ≤ 34))) (congrArg bI inJ_34) ?_
      refine V_if_ne (tgt := 32) (pc := 27) X dX10_route_27 (by decide) (fun c_7 => ?_) (fun c_7 => ?_)
      · skip
        have b_8 : (!decide (i < -1) && decide (i ≤ 34)) = true := bI1 c_7
        obtain ⟨j_9, hj_10, rfl⟩ := bel_nat (n := 36) (by omega) b_3
        obtain ⟨j_11, hj_12, rfl⟩ := bel_nat (n := 36) (by omega) b_6
        have hx36 : j_9 < 36 := hj_10
        have hy36 : j_11 < 36 := hj_12
        refine V_aload_n (pc := 32) X dX10_route_32 rfl 0 rfl ?_
        refine V_iload_n (pc := 33) X dX10_route_33 rfl 2 rfl ?_
        refine V_aload_n (pc := 34) X dX10_route_34 rfl 0 rfl ?_
        refine V_vg (pc := 35) (nA := 0) (As := []) (rest := [.int (nI j_11), .ref mq]) X (c_X10_now l g (mq := mq) (mf := mf) (mt := mt) (mmq := mmq) (mn := mn) (mkq := mkq) (mcq := mcq) (mhq := mhq) (maq := maq) (mz := mz) (my := my) (mS := mS) (mzq := mzq) (mtq := mtq) (mT := mT) (mA := mA) (mrq := mrq) (muq := muq) (mF := mF) (mZ := mZ) (moq := moq) (mK := mK) (mH := mH) (mgq := mgq) (miq := miq) (mI := mI) (mB := mB) (mlq := mlq) (msq := msq) (meq := meq) (mvq := mvq) (mm := mm) (ht := by first | assumption | omega)) gX10_route_X10_now dX10_route_35 rfl (by decide +kernel) rfl (qb := 0) rfl rfl rfl ⟨rfl, rfl⟩ ⟨Nat.le_of_ble_eq_true rfl, Nat.le_of_ble_eq_true rfl⟩ ⟨Nat.le_of_ble_eq_true rfl, Nat.le_of_ble_eq_true rfl⟩ [0, 1] (by decide) rfl rfl (Nat.le_of_ble_eq_true rfl) (st' := [.long (wkX mz mf mm mt (-1)), .int (nI j_11), .ref mq]) rfl ?_
        refine V_ve (pc := 38) (nA := 2) (As := [.int (nI j_11), .long (wkX mz mf mm mt (-1))]) (rest := []) X (c_X10_finds l g (mq := mq) (mf := mf) (mt := mt) (mmq := mmq) (mn := mn) (mkq := mkq) (mcq := mcq) (mhq := mhq) (maq := maq) (mz := mz) (my := my) (mS := mS) (mzq := mzq) (mtq := mtq) (mT := mT) (mA := mA) (mrq := mrq) (muq := muq) (mF := mF) (mZ := mZ) (moq := moq) (mK := mK) (mH := mH) (mgq := mgq) (miq := miq) (mI := mI) (mB := mB) (mlq := mlq) (msq := msq) (meq := meq) (mvq := mvq) (mco := mco) (y9 := j_11) (W9 := wkX mz mf mm mt (-1)) (hy := by first | assumption | omega)) gX10_route_X10_finds dX10_route_38 rfl (by decide +kernel) rfl (qb := 0) rfl rfl rfl ⟨rfl, rfl⟩ ⟨Nat.le_of_ble_eq_true rfl, Nat.le_of_ble_eq_true rfl⟩ ⟨Nat.le_of_ble_eq_true rfl, Nat.le_of_ble_eq_true rfl⟩ [0, 2] (by decide) rfl [1] (by decide) (by decide) [ai g mmq 6 mm] rfl [1, 0, 2] (by decide) (fun u => [ob mq 10 [.long mf, .int (nI mt), .ref mmq, .int (nI mn), .ref mkq, .ref mcq, .ref mhq, .ref maq, .int mz, .int my, .long mS, .ref mzq, .ref mtq, .int (nI mT), .int (nI mA), .ref mrq, .ref muq, .long mF, .int mZ, .ref moq, .int mK, .int mH, .ref mgq, .ref miq, .long mI, .int (bI mB), .ref mlq, .ref msq, .ref meq, .ref mvq], ai g mmq 6 mm, ai g moq 36 u]) (fun _ => rfl) rfl (Nat.le_of_ble_eq_true rfl) (fun u => []) (fun _ => rfl) (fun u hu_14 => ?_)
        obtain ⟨co2_13, rfl⟩ : ∃ z, z = u := ⟨u, rfl⟩
        try dsimp only at hu_14
        have hhco_15 := hu_14
        refine V_eqw (ws2 := [ob mq 10 [.long mf, .int (nI mt), .ref mmq, .int (nI mn), .ref mkq, .ref mcq, .ref mhq, .ref maq, .int mz, .int my, .long mS, .ref mzq, .ref mtq, .int (nI mT), .int (nI mA), .ref mrq, .ref muq, .long mF, .int mZ, .ref moq, .int mK, .int mH, .ref mgq, .ref miq, .long mI, .int (bI mB), .ref mlq, .ref msq, .ref meq, .ref mvq], ai g mmq 6 mm, ai g moq 36 co2_13]) rfl (V_eqs (st2 := []) rfl ?_)
        refine V_aload_n (pc := 41) X dX10_route_41 rfl 0 rfl ?_
        refine V_get (C := RX10) (T := TX10) (N := 30) (ci := 10) (pc := 42) X dX10_route_42 in10 0 rfl rfl 19 (by decide) (by decide +kernel) rfl rfl ?_
        refine V_iload_n (pc := 45) X dX10_route_45 rfl 1 rfl ?_
        refine V_iald (v := co2_13 j_9) (pc := 46) X dX10_route_46 2 rfl (vp_in_nI (by omega) (by omega)) (by rw [nI_clamp (by omega)]) ?_
        refine V_bipush (v := (-4)) (pc := 47) X dX10_route_47 (by decide) ?_
        refine V_icmp_eq (tgt := 56) (pc := 49) X dX10_route_49 (by decide) (fun c_16 => ?_) (fun c_16 => ?_)
        · skip
          have hBd := (VN_facts (W := (wkX mz mf mm mt (-1))) (C := (kcX mz mf)) hy36).2.2.1
          have hvx : (VN (wkX mz mf mm mt (-1)) (kcX mz mf) j_11) j_9 = 1000 := (eN_4 (Bd_s hBd hx36)).mp ((hhco_15 _ hx36).symm.trans c_16)
          refine V_aload_n (pc := 56) X dX10_route_56 rfl 0 rfl ?_
          refine V_get (C := RX10) (T := TX10) (N := 30) (ci := 10) (pc := 57) X dX10_route_57 in10 0 rfl rfl 19 (by decide) (by decide +kernel) rfl rfl ?_
          refine V_iload_n (pc := 60) X dX10_route_60 rfl 1 rfl ?_
          refine V_iald (v := co2_13 j_9) (pc := 61) X dX10_route_61 2 rfl (vp_in_nI (by omega) (by omega)) (by rw [nI_clamp (by omega)]) ?_
          exact Ve_iret (pc := 62) X hA9 dX10_route_62 hr (co2_13 j_9, co2_13) (by first | rfl | (simp [b_3, b_6, b_8, hj_10, hj_12, hhco_15, c_16, hrt4]; done)) (by
                try dsimp only
                rw [rtN_c (by assumption) (by assumption) (by assumption), nI_clamp (n := j_9) (by omega), nI_clamp (n := j_11) (by omega), if_pos hvx]; assumption) (by rfl)
        · skip
          have hBd := (VN_facts (W := (wkX mz mf mm mt (-1))) (C := (kcX mz mf)) hy36).2.2.1
          have hvx : ¬ (VN (wkX mz mf mm mt (-1)) (kcX mz mf) j_11) j_9 = 1000 := fun q => c_16 ((hhco_15 _ hx36).trans ((eN_4 (Bd_s hBd hx36)).mpr q))
          refine V_iload_n (pc := 52) X dX10_route_52 rfl 3 rfl ?_
          refine V_if_ge (tgt := 63) (pc := 53) X dX10_route_53 (by decide) (fun c_17 => ?_) (fun c_17 => ?_)
          · skip
            obtain ⟨j_18, rfl, h_19⟩ := rt_nat c_17 (rt34 b_8)
            refine V_iload_n (pc := 63) X dX10_route_63 rfl 1 rfl ?_
            refine V_istore (lv' := [(4, .int (nI j_9)), (0, .ref mq), (1, .int (nI j_9)), (2, .int (nI j_11)), (3, .int (nI j_18))]) (pc := 64) X dX10_route_64 (Nat.le_of_ble_eq_true rfl) rfl ?_
            refine V_iconst (v := 0) (pc := 66) X dX10_route_66 (by decide) ?_
            refine V_istore (lv' := [(5, .int 0), (4, .int (nI j_9)), (0, .ref mq), (1, .int (nI j_9)), (2, .int (nI j_11)), (3, .int (nI j_18))]) (pc := 67) X dX10_route_67 (Nat.le_of_ble_eq_true rfl) rfl ?_
            refine V_loop (pc := 69) (σ := Nat × Nat) (fun v9 => [(0, .ref mq), (2, .int (nI j_11)), (3, .int (nI j_18)), (4, .int (nI v9.1)), (5, .int (nI v9.2))]) (fun v9 => [ob mq 10 [.long mf, .int (nI mt), .ref mmq, .int (nI mn), .ref mkq, .ref mcq, .ref mhq, .ref maq, .int mz, .int my, .long mS, .ref mzq, .ref mtq, .int (nI mT), .int (nI mA), .ref mrq, .ref muq, .long mF, .int mZ, .ref moq, .int mK, .int mH, .ref mgq, .ref miq, .long mI, .int (bI mB), .ref mlq, .ref msq, .ref meq, .ref mvq], ai g mmq 6 mm, ai g moq 36 co2_13]) (fun v9 => (v9.1 < 36) ∧ (¬ (VN (wkX mz mf mm mt (-1)) (kcX mz mf) j_11) v9.1 = 1000) ∧ (v9.2 ≤ j_18) ∧ (spN (VN (wkX mz mf mm mt (-1)) (kcX mz mf) j_11) (kcX mz mf) j_11 (j_18 + 1 - v9.2) v9.1 = spN (VN (wkX mz mf mm mt (-1)) (kcX mz mf) j_11) (kcX mz mf) j_11 (j_18 + 1) j_9)) (fun v9 => 100 - v9.2) (j_9, 0) ⟨(by
                  try dsimp only
                  exact hx36), (by
                  try dsimp only
                  exact hvx), (by
                  try dsimp only
                  all_goals omega), (by
                  try dsimp only
                  all_goals rfl)⟩ rfl [2, 4, 5, 1, 0] rfl ?_
            rintro ⟨a, k⟩ ⟨ha, hva, hk, hs⟩ ih69
            try dsimp only at ha
            try dsimp only at hva
            try dsimp only at hk
            try dsimp only at hs
            refine V_eqw (ws2 := [ob mq 10 [.long mf, .int (nI mt), .ref mmq, .int (nI mn), .ref mkq, .ref mcq, .ref mhq, .ref maq, .int mz, .int my, .long mS, .ref mzq, .ref mtq, .int (nI mT), .int (nI mA), .ref mrq, .ref muq, .long mF, .int mZ, .ref moq, .int mK, .int mH, .ref mgq, .ref miq, .long mI, .int (bI mB), .ref mlq, .ref msq, .ref meq, .ref mvq], ai g mmq 6 mm, ai g moq 36 co2_13]) rfl (V_eql (lv' := [(0, .ref mq), (2, .int (nI j_11)), (3, .int (nI j_18)), (4, .int (nI a)), (5, .int (nI k))]) rfl ?_)
            refine V_iload (pc := 69) X dX10_route_69 3 rfl ?_
            refine V_iload_n (pc := 71) X dX10_route_71 rfl 1 rfl ?_
            refine V_icmp_eq (tgt := 162) (pc := 72) X dX10_route_72 (by decide) (fun c_20 => ?_) (fun c_20 => ?_)
            · skip
              have n_21 : a = j_11 := nJ_eq (a := a) (b := j_11) (by omega) (by omega) c_20
              refine V_bipush (v := (-4)) (pc := 162) X dX10_route_162 (by decide) ?_
              exact Ve_iret (pc := 164) X hA9 dX10_route_164 hr ((-4), co2_13) (by first | rfl | (simp [b_3, b_6, b_8, hj_10, hj_12, hhco_15, c_16, c_17, h_19, n_21]; done)) (by
                    try dsimp only
                    rw [rtN_c (by assumption) (by assumption) (by assumption), nI_clamp (n := j_9) (by omega), nI_clamp (n := j_11) (by omega), if_neg hvx, if_pos (by assumption), nI_clamp (n := j_18) (by omega), ← hs, show j_18 + 1 - k = (j_18 - k) + 1 by omega, spN_y (by assumption)]) (by rfl)
            · skip
              have n_22 : a ≠ j_11 := nJ_ne (a := a) (b := j_11) (by omega) (by omega) c_20
              obtain ⟨n9, hn9, ho9⟩ := ok_ex (W := (wkX mz mf mm mt (-1))) (C := (kcX mz mf)) hy36 ha n_22 hva
              refine V_iconst (v := 0) (pc := 75) X dX10_route_75 (by decide) ?_
              refine V_istore (lv' := [(6, .int 0), (0, .ref mq), (2, .int (nI j_11)), (3, .int (nI j_18)), (4, .int (nI a)), (5, .int (nI k))]) (pc := 76) X dX10_route_76 (Nat.le_of_ble_eq_true rfl) rfl ?_
              refine V_iload (pc := 78) X dX10_route_78 4 rfl ?_
              refine V_iload (pc := 80) X dX10_route_80 0 rfl ?_
              refine V_sg (pc := 82) (nA := 2) (As := [.int (nI a), .int 0]) (rest := []) X (c_X10_beside l g (i := a) (n := 0) (hi := by exact ha) (hn := by omega)) gX10_route_X10_beside dX10_route_82 rfl (by decide +kernel) rfl ⟨rfl, rfl⟩ ⟨Nat.le_of_ble_eq_true rfl, Nat.le_of_ble_eq_true rfl⟩ ⟨Nat.le_of_ble_eq_true rfl, Nat.le_of_ble_eq_true rfl⟩ [] (by decide) rfl rfl (Nat.le_of_ble_eq_true rfl) (st' := [.int (nbr (nI a) (nI 0))]) rfl ?_
              refine V_istore (lv' := [(7, .int (nbr (nI a) (nI 0))), (6, .int 0), (0, .ref mq), (2, .int (nI j_11)), (3, .int (nI j_18)), (4, .int (nI a)), (5, .int (nI k))]) (pc := 85) X dX10_route_85 (Nat.le_of_ble_eq_true rfl) rfl ?_
              refine V_loop (pc := 87) (σ := Nat × Int32) (fun v9 => [(0, .ref mq), (2, .int (nI j_11)), (3, .int (nI j_18)), (4, .int (nI a)), (5, .int (nI k)), (6, .int (nI v9.1)), (7, .int v9.2)]) (fun v9 => [ob mq 10 [.long mf, .int (nI mt), .ref mmq, .int (nI mn), .ref mkq, .ref mcq, .ref mhq, .ref maq, .int mz, .int my, .long mS, .ref mzq, .ref mtq, .int (nI mT), .int (nI mA), .ref mrq, .ref muq, .long mF, .int mZ, .ref moq, .int mK, .int mH, .ref mgq, .ref miq, .long mI, .int (bI mB), .ref mlq, .ref msq, .ref meq, .ref mvq], ai g mmq 6 mm, ai g moq 36 co2_13]) (fun v9 => (v9.1 < 4) ∧ (v9.2 = nbr (nI a) (nI v9.1)) ∧ (∀ m, m < v9.1 → okN (VN (wkX mz mf mm mt (-1)) (kcX mz mf) j_11) (kcX mz mf) a m = false)) (fun v9 => 4 - v9.1) (0, nbr (nI a) (nI 0)) ⟨(by
                    try dsimp only
                    all_goals omega), (by
                    try dsimp only
                    all_goals rfl), (by
                    try dsimp only
                    exact fun _ h => absurd h (Nat.not_lt_zero _))⟩ rfl [2, 3, 4, 5, 6, 1, 0] rfl ?_
              rintro ⟨n, b⟩ ⟨hn4, hbn, hno⟩ ih87
              try dsimp only at hn4
              try dsimp only at hbn
              try dsimp only at hno
              refine V_eqw (ws2 := [ob mq 10 [.long mf, .int (nI mt), .ref mmq, .int (nI mn), .ref mkq, .ref mcq, .ref mhq, .ref maq, .int mz, .int my, .long mS, .ref mzq, .ref mtq, .int (nI mT), .int (nI mA), .ref mrq, .ref muq, .long mF, .int mZ, .ref moq, .int mK, .int mH, .ref mgq, .ref miq, .long mI, .int (bI mB), .ref mlq, .ref msq, .ref meq, .ref mvq], ai g mmq 6 mm, ai g moq 36 co2_13]) rfl (V_eql (lv' := [(0, .ref mq), (2, .int (nI j_11)), (3, .int (nI j_18)), (4, .int (nI a)), (5, .int (nI k)), (6, .int (nI n)), (7, .int b)]) rfl ?_)
              refine V_iload (pc := 87) X dX10_route_87 6 rfl ?_
              refine V_if_lt (tgt := 128) (pc := 89) X dX10_route_89 (by decide) (fun c_23 => ?_) (fun c_23 => ?_)
              · skip
                have hf9 : okN (VN (wkX mz mf mm mt (-1)) (kcX mz mf) j_11) (kcX mz mf) a n = false := okN_1 (by rw [← hbn]; exact c_23)
                refine V_iinc (v := nI (n + 1)) (lv' := [(6, .int (nI (n + 1))), (0, .ref mq), (2, .int (nI j_11)), (3, .int (nI j_18)), (4, .int (nI a)), (5, .int (nI k)), (7, .int b)]) (pc := 128) X dX10_route_128 5 rfl (nI_add n 1) (Nat.le_of_ble_eq_true rfl) rfl ?_
                refine V_iload (pc := 131) X dX10_route_131 4 rfl ?_
                refine V_iload (pc := 133) X dX10_route_133 0 rfl ?_
                refine V_sg (pc := 135) (nA := 2) (As := [.int (nI a), .int (nI (n + 1))]) (rest := []) X (c_X10_beside l g (i := a) (n := n + 1) (hi := by exact ha) (hn := by exact ok_more hn9 ho9 hno hf9)) gX10_route_X10_beside dX10_route_135 rfl (by decide +kernel) rfl ⟨rfl, rfl⟩ ⟨Nat.le_of_ble_eq_true rfl, Nat.le_of_ble_eq_true rfl⟩ ⟨Nat.le_of_ble_eq_true rfl, Nat.le_of_ble_eq_true rfl⟩ [] (by decide) rfl rfl (Nat.le_of_ble_eq_true rfl) (st' := [.int (nbr (nI a) (nI (n + 1)))]) rfl ?_
                refine V_istore (lv' := [(7, .int (nbr (nI a) (nI (n + 1)))), (6, .int (nI (n + 1))), (0, .ref mq), (2, .int (nI j_11)), (3, .int (nI j_18)), (4, .int (nI a)), (5, .int (nI k))]) (pc := 138) X dX10_route_138 (Nat.le_of_ble_eq_true rfl) rfl ?_
                refine V_goto (tgt := 87) (pc := 140) X dX10_route_140 (by decide) ?_
                refine V_lv [2, 3, 4, 5, 6, 1, 0] rfl ?_
                exact ih87 (n + 1, nbr (nI a) (nI (n + 1))) ⟨(by
                      try dsimp only
                      exact ok_more hn9 ho9 hno hf9), (by
                      try dsimp only
                      all_goals rfl), (by
                      try dsimp only
                      intro m hm
                      by_cases q : m = n
                      · rw [q]; exact hf9
                      · exact hno m (by omega))⟩ (by
                      try dsimp only
                      all_goals omega)
              · skip
                obtain ⟨hb1, hb2⟩ := nb_ok ha hn4 (fun q => c_23 (by rw [hbn]; exact q))
                refine V_eql (lv' := [(0, .ref mq), (2, .int (nI j_11)), (3, .int (nI j_18)), (4, .int (nI a)), (5, .int (nI k)), (6, .int (nI n)), (7, .int (nI (nb a n)))]) (by rw [hbn, hb2]) ?_
                have hB1 := Bd_s hBd hb1
                have hB2 := Bd_s hBd ha
                have hc9 := csN_12 (kcX mz mf) (nI (nb a n))
                refine V_aload_n (pc := 92) X dX10_route_92 rfl 0 rfl ?_
                refine V_get (C := RX10) (T := TX10) (N := 30) (ci := 10) (pc := 93) X dX10_route_93 in10 0 rfl rfl 19 (by decide) (by decide +kernel) rfl rfl ?_
                refine V_iload (pc := 96) X dX10_route_96 6 rfl ?_
                refine V_iald (v := co2_13 (nb a n)) (pc := 98) X dX10_route_98 2 rfl (vp_in_nI (by omega) (by omega)) (by rw [nI_clamp (by omega)]) ?_
                refine V_bipush (v := (-4)) (pc := 99) X dX10_route_99 (by decide) ?_
                refine V_icmp_eq (tgt := 128) (pc := 101) X dX10_route_101 (by decide) (fun c_24 => ?_) (fun c_24 => ?_)
                · skip
                  have hx9 : (VN (wkX mz mf mm mt (-1)) (kcX mz mf) j_11) (nb a n) = 1000 := (eN_4 hB1).mp ((hhco_15 _ hb1).symm.trans c_24)
                  have hf9 : okN (VN (wkX mz mf mm mt (-1)) (kcX mz mf) j_11) (kcX mz mf) a n = false := okN_2 hx9
                  refine V_iinc (v := nI (n + 1)) (lv' := [(6, .int (nI (n + 1))), (0, .ref mq), (2, .int (nI j_11)), (3, .int (nI j_18)), (4, .int (nI a)), (5, .int (nI k)), (7, .int (nI (nb a n)))]) (pc := 128) X dX10_route_128 5 rfl (nI_add n 1) (Nat.le_of_ble_eq_true rfl) rfl ?_
                  refine V_iload (pc := 131) X dX10_route_131 4 rfl ?_
                  refine V_iload (pc := 133) X dX10_route_133 0 rfl ?_
                  refine V_sg (pc := 135) (nA := 2) (As := [.int (nI a), .int (nI (n + 1))]) (rest := []) X (c_X10_beside l g (i := a) (n := n + 1) (hi := by exact ha) (hn := by exact ok_more hn9 ho9 hno hf9)) gX10_route_X10_beside dX10_route_135 rfl (by decide +kernel) rfl ⟨rfl, rfl⟩ ⟨Nat.le_of_ble_eq_true rfl, Nat.le_of_ble_eq_true rfl⟩ ⟨Nat.le_of_ble_eq_true rfl, Nat.le_of_ble_eq_true rfl⟩ [] (by decide) rfl rfl (Nat.le_of_ble_eq_true rfl) (st' := [.int (nbr (nI a) (nI (n + 1)))]) rfl ?_
                  refine V_istore (lv' := [(7, .int (nbr (nI a) (nI (n + 1)))), (6, .int (nI (n + 1))), (0, .ref mq), (2, .int (nI j_11)), (3, .int (nI j_18)), (4, .int (nI a)), (5, .int (nI k))]) (pc := 138) X dX10_route_138 (Nat.le_of_ble_eq_true rfl) rfl ?_
                  refine V_goto (tgt := 87) (pc := 140) X dX10_route_140 (by decide) ?_
                  refine V_lv [2, 3, 4, 5, 6, 1, 0] rfl ?_
                  exact ih87 (n + 1, nbr (nI a) (nI (n + 1))) ⟨(by
                        try dsimp only
                        exact ok_more hn9 ho9 hno hf9), (by
                        try dsimp only
                        all_goals rfl), (by
                        try dsimp only
                        intro m hm
                        by_cases q : m = n
                        · rw [q]; exact hf9
                        · exact hno m (by omega))⟩ (by
                        try dsimp only
                        all_goals omega)
                · skip
                  have hx9 : ¬ (VN (wkX mz mf mm mt (-1)) (kcX mz mf) j_11) (nb a n) = 1000 := fun q => c_24 ((hhco_15 _ hb1).trans ((eN_4 hB1).mpr q))
                  refine V_aload_n (pc := 104) X dX10_route_104 rfl 0 rfl ?_
                  refine V_get (C := RX10) (T := TX10) (N := 30) (ci := 10) (pc := 105) X dX10_route_105 in10 0 rfl rfl 19 (by decide) (by decide +kernel) rfl rfl ?_
                  refine V_iload (pc := 108) X dX10_route_108 6 rfl ?_
                  refine V_iald (v := co2_13 (nb a n)) (pc := 110) X dX10_route_110 2 rfl (vp_in_nI (by omega) (by omega)) (by rw [nI_clamp (by omega)]) ?_
                  refine V_seti (y := nI (VN (wkX mz mf mm mt (-1)) (kcX mz mf) j_11 (nb a n))) (by rw [hhco_15 _ hb1, eN_n hx9]) ?_
                  refine V_aload_n (pc := 111) X dX10_route_111 rfl 0 rfl ?_
                  refine V_iload (pc := 112) X dX10_route_112 6 rfl ?_
                  refine V_vg (pc := 114) (nA := 1) (As := [.int (nI (nb a n))]) (rest := [.int (nI (VN (wkX mz mf mm mt (-1)) (kcX mz mf) j_11 (nb a n)))]) X (c_X10_cost l g (mq := mq) (mf := mf) (mt := mt) (mmq := mmq) (mn := mn) (mkq := mkq) (mcq := mcq) (mhq := mhq) (maq := maq) (mz := mz) (my := my) (mS := mS) (mzq := mzq) (mtq := mtq) (mT := mT) (mA := mA) (mrq := mrq) (muq := muq) (mF := mF) (mZ := mZ) (moq := moq) (mK := mK) (mH := mH) (mgq := mgq) (miq := miq) (mI := mI) (mB := mB) (mlq := mlq) (msq := msq) (meq := meq) (mvq := mvq) (x := nI (nb a n)) (hx := by exact vp_in_nI (by omega) (by omega))) gX10_route_X10_cost dX10_route_114 rfl (by decide +kernel) rfl (qb := 0) rfl rfl rfl ⟨rfl, rfl⟩ ⟨Nat.le_of_ble_eq_true rfl, Nat.le_of_ble_eq_true rfl⟩ ⟨Nat.le_of_ble_eq_true rfl, Nat.le_of_ble_eq_true rfl⟩ [0] (by decide) rfl rfl (Nat.le_of_ble_eq_true rfl) (st' := [.int (nI (csN (kcX mz mf) (nI (nb a n)))), .int (nI (VN (wkX mz mf mm mt (-1)) (kcX mz mf) j_11 (nb a n)))]) rfl ?_
                  refine V_iadd (pc := 117) X dX10_route_117 ?_
                  refine V_seti (y := nI ((VN (wkX mz mf mm mt (-1)) (kcX mz mf) j_11 (nb a n)) + (csN (kcX mz mf) (nI (nb a n))))) (nI_add (VN (wkX mz mf mm mt (-1)) (kcX mz mf) j_11 (nb a n)) (csN (kcX mz mf) (nI (nb a n)))) ?_
                  refine V_aload_n (pc := 118) X dX10_route_118 rfl 0 rfl ?_
                  refine V_get (C := RX10) (T := TX10) (N := 30) (ci := 10) (pc := 119) X dX10_route_119 in10 0 rfl rfl 19 (by decide) (by decide +kernel) rfl rfl ?_
                  refine V_iload (pc := 122) X dX10_route_122 3 rfl ?_
                  refine V_iald (v := co2_13 a) (pc := 124) X dX10_route_124 2 rfl (vp_in_nI (by omega) (by omega)) (by rw [nI_clamp (by omega)]) ?_
                  refine V_seti (y := nI (VN (wkX mz mf mm mt (-1)) (kcX mz mf) j_11 a)) (by rw [hhco_15 _ ha, eN_n hva]) ?_
                  refine V_icmp_eq (tgt := 143) (pc := 125) X dX10_route_125 (by decide) (fun c_25 => ?_) (fun c_25 => ?_)
                  · skip
                    have n_26 : ((VN (wkX mz mf mm mt (-1)) (kcX mz mf) j_11 (nb a n)) + (csN (kcX mz mf) (nI (nb a n)))) = (VN (wkX mz mf mm mt (-1)) (kcX mz mf) j_11 a) := nJ_eq (a := (VN (wkX mz mf mm mt (-1)) (kcX mz mf) j_11 (nb a n)) + (csN (kcX mz mf) (nI (nb a n)))) (b := VN (wkX mz mf mm mt (-1)) (kcX mz mf) j_11 a) (by omega) (by omega) c_25
                    have ho9' := okN_of (fun q => absurd q (by rw [hb2]; exact nI_pos (by omega))) hx9 n_26
                    refine V_iload (pc := 143) X dX10_route_143 6 rfl ?_
                    refine V_istore (lv' := [(4, .int (nI (nb a n))), (0, .ref mq), (2, .int (nI j_11)), (3, .int (nI j_18)), (5, .int (nI k)), (6, .int (nI n)), (7, .int (nI (nb a n)))]) (pc := 145) X dX10_route_145 (Nat.le_of_ble_eq_true rfl) rfl ?_
                    refine V_iload (pc := 147) X dX10_route_147 4 rfl ?_
                    refine V_iload_n (pc := 149) X dX10_route_149 rfl 3 rfl ?_
                    refine V_icmp_ne (tgt := 156) (pc := 150) X dX10_route_150 (by decide) (fun c_27 => ?_) (fun c_27 => ?_)
                    · skip
                      have n_28 : k ≠ j_18 := nJ_ne (a := k) (b := j_18) (by omega) (by omega) c_27
                      refine V_iinc (v := nI (k + 1)) (lv' := [(5, .int (nI (k + 1))), (4, .int (nI (nb a n))), (0, .ref mq), (2, .int (nI j_11)), (3, .int (nI j_18)), (6, .int (nI n)), (7, .int (nI (nb a n)))]) (pc := 156) X dX10_route_156 4 rfl (nI_add k 1) (Nat.le_of_ble_eq_true rfl) rfl ?_
                      refine V_goto (tgt := 69) (pc := 159) X dX10_route_159 (by decide) ?_
                      refine V_lv [2, 3, 4, 1, 0] rfl ?_
                      exact ih69 (nb a n, k + 1) ⟨(by
                            try dsimp only
                            exact hb1), (by
                            try dsimp only
                            exact hx9), (by
                            try dsimp only
                            all_goals omega), (by
                            try dsimp only
                            rw [← hs, show j_18 + 1 - k = (j_18 + 1 - (k + 1)) + 1 by omega, spN_n (by assumption) hn4 ho9' hno])⟩ (by
                            try dsimp only
                            all_goals omega)
                    · skip
                      have n_29 : k = j_18 := nJ_eq (a := k) (b := j_18) (by omega) (by omega) c_27
                      refine V_iload (pc := 153) X dX10_route_153 0 rfl ?_
                      exact Ve_iret (pc := 155) X hA9 dX10_route_155 hr (nI (nb a n), co2_13) (by first | rfl | (simp [b_3, b_6, b_8, hj_10, hj_12, hhco_15, c_16, c_17, h_19, n_22, c_23, c_24, n_26, n_29]; done)) (by
                            try dsimp only
                            rw [rtN_c (by assumption) (by assumption) (by assumption), nI_clamp (n := j_9) (by omega), nI_clamp (n := j_11) (by omega), if_neg hvx, if_pos (by assumption), nI_clamp (n := j_18) (by omega), ← hs, show j_18 + 1 - k = 0 + 1 by omega, spN_n (by assumption) hn4 ho9' hno]; rfl) (by rfl)
                  · skip
                    have n_30 : ((VN (wkX mz mf mm mt (-1)) (kcX mz mf) j_11 (nb a n)) + (csN (kcX mz mf) (nI (nb a n)))) ≠ (VN (wkX mz mf mm mt (-1)) (kcX mz mf) j_11 a) := nJ_ne (a := (VN (wkX mz mf mm mt (-1)) (kcX mz mf) j_11 (nb a n)) + (csN (kcX mz mf) (nI (nb a n)))) (b := VN (wkX mz mf mm mt (-1)) (kcX mz mf) j_11 a) (by omega) (by omega) c_25
                    have hf9 : okN (VN (wkX mz mf mm mt (-1)) (kcX mz mf) j_11) (kcX mz mf) a n = false := okN_3 n_30
                    refine V_iinc (v := nI (n + 1)) (lv' := [(6, .int (nI (n + 1))), (0, .ref mq), (2, .int (nI j_11)), (3, .int (nI j_18)), (4, .int (nI a)), (5, .int (nI k)), (7, .int (nI (nb a n)))]) (pc := 128) X dX10_route_128 5 rfl (nI_add n 1) (Nat.le_of_ble_eq_true rfl) rfl ?_
                    refine V_iload (pc := 131) X dX10_route_131 4 rfl ?_
                    refine V_iload (pc := 133) X dX10_route_133 0 rfl ?_
                    refine V_sg (pc := 135) (nA := 2) (As := [.int (nI a), .int (nI (n + 1))]) (rest := []) X (c_X10_beside l g (i := a) (n := n + 1) (hi := by exact ha) (hn := by exact ok_more hn9 ho9 hno hf9)) gX10_route_X10_beside dX10_route_135 rfl (by decide +kernel) rfl ⟨rfl, rfl⟩ ⟨Nat.le_of_ble_eq_true rfl, Nat.le_of_ble_eq_true rfl⟩ ⟨Nat.le_of_ble_eq_true rfl, Nat.le_of_ble_eq_true rfl⟩ [] (by decide) rfl rfl (Nat.le_of_ble_eq_true rfl) (st' := [.int (nbr (nI a) (nI (n + 1)))]) rfl ?_
                    refine V_istore (lv' := [(7, .int (nbr (nI a) (nI (n + 1)))), (6, .int (nI (n + 1))), (0, .ref mq), (2, .int (nI j_11)), (3, .int (nI j_18)), (4, .int (nI a)), (5, .int (nI k))]) (pc := 138) X dX10_route_138 (Nat.le_of_ble_eq_true rfl) rfl ?_
                    refine V_goto (tgt := 87) (pc := 140) X dX10_route_140 (by decide) ?_
                    refine V_lv [2, 3, 4, 5, 6, 1, 0] rfl ?_
                    exact ih87 (n + 1, nbr (nI a) (nI (n + 1))) ⟨(by
                          try dsimp only
                          exact ok_more hn9 ho9 hno hf9), (by
                          try dsimp only
                          all_goals rfl), (by
                          try dsimp only
                          intro m hm
                          by_cases q : m = n
                          · rw [q]; exact hf9
                          · exact hno m (by omega))⟩ (by
                          try dsimp only
                          all_goals omega)
          · skip
            refine V_aload_n (pc := 56) X dX10_route_56 rfl 0 rfl ?_
            refine V_get (C := RX10) (T := TX10) (N := 30) (ci := 10) (pc := 57) X dX10_route_57 in10 0 rfl rfl 19 (by decide) (by decide +kernel) rfl rfl ?_
            refine V_iload_n (pc := 60) X dX10_route_60 rfl 1 rfl ?_
            refine V_iald (v := co2_13 j_9) (pc := 61) X dX10_route_61 2 rfl (vp_in_nI (by omega) (by omega)) (by rw [nI_clamp (by omega)]) ?_
            exact Ve_iret (pc := 62) X hA9 dX10_route_62 hr (co2_13 j_9, co2_13) (by first | rfl | (simp [b_3, b_6, b_8, hj_10, hj_12, hhco_15, c_16, c_17]; done)) (by
                  try dsimp only
                  rw [rtN_c (by assumption) (by assumption) (by assumption), nI_clamp (n := j_9) (by omega), nI_clamp (n := j_11) (by omega), if_neg hvx, if_neg (by assumption), hhco_15 _ hx36, eN_n hvx]) (by rfl)
      · skip
        have b_31 : (!decide (i < -1) && decide (i ≤ 34)) = false := bI0 c_7
        refine V_iconst (v := (-1)) (pc := 30) X dX10_route_30 (by decide) ?_
        exact Ve_iret (pc := 31) X hA9 dX10_route_31 hr ((-1), mco) (by first | rfl | (simp [b_3, b_6, b_31]; done)) (by
              try dsimp only
              exact rtN_b (by simp [b_3, b_6, b_31])) (by rfl)
