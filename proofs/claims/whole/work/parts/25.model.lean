set_option maxHeartbeats 4000000 in
set_option maxRecDepth 100000 in
theorem c_X10_least (l : Launch) (g : XG) (mq : Nat) (mf : Int64) (mt : Nat) (mmq : Nat) (mn : Nat) (mkq : Nat) (mcq : Nat) (mhq : Nat) (maq : Nat) (mz : Int32) (my : Int32) (mS : Int64) (mzq : Nat) (mtq : Nat) (mT : Nat) (mA : Nat) (mrq : Nat) (muq : Nat) (mF : Int64) (mZ : Int32) (moq : Nat) (mK : Int32) (mH : Int32) (mgq : Nat) (miq : Nat) (mI : Int64) (mB : Bool) (mlq : Nat) (msq : Nat) (meq : Nat) (mvq : Nat) (mm : Nat → Int32) (mkd : Nat → Int32) (mce : Nat → Int32) (mho : Nat → Int32) (msc : Nat → Int32) (mth : Nat → Int32) (o : Int32) (x : Int32) (y : Int32) (w : Int32) (ht : mt ≤ 6) (hn : mn ≤ 6) (hce : ∀ j, j < mn → vp_in (mce j) 36) (hkd : ∀ j, j < mn → mkd j = 0 ∨ mkd j = 1 ∨ mkd j = 2 ∨ mkd j = 3) (hz9 : ∃ q, q < 10 ∧ mz = nI q) : Ke l g yX10_least wsX10_least ({ frames := 4, cells := 0, slots := 0, locals := 94 } : Room) 0 0 [.ref mq, .int o, .int x, .int y, .int w] [ob mq 10 [.long mf, .int (nI mt), .ref mmq, .int (nI mn), .ref mkq, .ref mcq, .ref mhq, .ref maq, .int mz, .int my, .long mS, .ref mzq, .ref mtq, .int (nI mT), .int (nI mA), .ref mrq, .ref muq, .long mF, .int mZ, .ref moq, .int mK, .int mH, .ref mgq, .ref miq, .long mI, .int (bI mB), .ref mlq, .ref msq, .ref meq, .ref mvq], ai g mmq 6 mm, ai g mkq 6 mkd, ai g mcq 6 mce, ai g mhq 6 mho, ai g mzq 36 msc, ai g muq 6 mth] (fun u : Int32 × Int64 × (Nat → Int32) × (Nat → Int32) × Int64 × Int32 × Int32 × Int32 => some (.int u.1)) (fun u => [ob mq 10 [.long mf, .int (nI mt), .ref mmq, .int (nI mn), .ref mkq, .ref mcq, .ref mhq, .ref maq, .int mz, .int my, .long u.2.1, .ref mzq, .ref mtq, .int (nI mT), .int (nI mA), .ref mrq, .ref muq, .long u.2.2.2.2.1, .int u.2.2.2.2.2.1, .ref moq, .int u.2.2.2.2.2.2.1, .int u.2.2.2.2.2.2.2, .ref mgq, .ref miq, .long mI, .int (bI mB), .ref mlq, .ref msq, .ref meq, .ref mvq], ai g mmq 6 mm, ai g mkq 6 mkd, ai g mcq 6 mce, ai g mhq 6 mho, ai g mzq 36 u.2.2.1, ai g muq 6 u.2.2.2.1]) (fun u => (u.1 = leastF o x y w mkd mce mho mn mz mf mm mt)) := by
  refine Ke.of (cc := cX10_least) (maxL := 8) (ret := (some .int)) (lv := [(0, .ref mq), (1, .int o), (2, .int x), (3, .int y), (4, .int w)]) RX10 rfl (by decide) rfl (Nat.le_of_ble_eq_true rfl) rfl ?_
  intro p e s m below meth c A sz hA9 X hr hin2
  have in10 : ∀ w ∈ u_ws RX10 TX10 30, w ∈ wsX10_least := by decide +kernel
  refine V_aload_n (pc := 0) X dX10_least_0 rfl 0 rfl ?_
  refine V_iload_n (pc := 1) X dX10_least_1 rfl 1 rfl ?_
  refine V_vg (pc := 2) (nA := 1) (As := [.int o]) (rest := []) X (c_X10_isOne l g (mq := mq) (mf := mf) (mt := mt) (mmq := mmq) (mn := mn) (mkq := mkq) (mcq := mcq) (mhq := mhq) (maq := maq) (mz := mz) (my := my) (mS := mS) (mzq := mzq) (mtq := mtq) (mT := mT) (mA := mA) (mrq := mrq) (muq := muq) (mF := mF) (mZ := mZ) (moq := moq) (mK := mK) (mH := mH) (mgq := mgq) (miq := miq) (mI := mI) (mB := mB) (mlq := mlq) (msq := msq) (meq := meq) (mvq := mvq) (x := o) (hn := by first | assumption | omega)) gX10_least_X10_isOne dX10_least_2 rfl (by decide +kernel) rfl (qb := 0) rfl rfl rfl ⟨rfl, rfl⟩ ⟨Nat.le_of_ble_eq_true rfl, Nat.le_of_ble_eq_true rfl⟩ ⟨Nat.le_of_ble_eq_true rfl, Nat.le_of_ble_eq_true rfl⟩ [0] (by decide) rfl rfl (Nat.le_of_ble_eq_true rfl) (st' := [.int (bI (bel o (nI mn)))]) rfl ?_
  refine V_if_eq (tgt := 35) (pc := 5) X dX10_least_5 (by decide) (fun c_1 => ?_) (fun c_1 => ?_)
  · skip
    have b_2 : (bel o (nI mn)) = false := bI0 c_1
    refine V_iconst (v := (-1)) (pc := 35) X dX10_least_35 (by decide) ?_
    exact Ve_iret (pc := 36) X hA9 dX10_least_36 hr ((-1), mS, msc, mth, mF, mZ, mK, mH) (by first | rfl | (simp [b_2]; done)) (by
          try dsimp only
          exact leastF_b (by simp [b_2])) (by rfl)
  · skip
    have b_3 : (bel o (nI mn)) = true := bI1 c_1
    refine V_iload_n (pc := 8) X dX10_least_8 rfl 2 rfl ?_
    refine V_i2l (pc := 9) X dX10_least_9 ?_
    refine V_sg (pc := 10) (nA := 1) (As := [.long x.toInt64]) (rest := []) X (c_X10_isCell l g (v := x.toInt64) ) gX10_least_X10_isCell dX10_least_10 rfl (by decide +kernel) rfl ⟨rfl, rfl⟩ ⟨Nat.le_of_ble_eq_true rfl, Nat.le_of_ble_eq_true rfl⟩ ⟨Nat.le_of_ble_eq_true rfl, Nat.le_of_ble_eq_true rfl⟩ [] (by decide) rfl rfl (Nat.le_of_ble_eq_true rfl) (st' := [.int (bI (inJ x.toInt64 0 35))]) rfl ?_
    refine V_seti (y := bI (bel x 36)) (congrArg bI (inJ_bel 35 (by decide) (by decide))) ?_
    refine V_if_eq (tgt := 35) (pc := 13) X dX10_least_13 (by decide) (fun c_4 => ?_) (fun c_4 => ?_)
    · skip
      have b_5 : (bel x 36) = false := bI0 c_4
      refine V_iconst (v := (-1)) (pc := 35) X dX10_least_35 (by decide) ?_
      exact Ve_iret (pc := 36) X hA9 dX10_least_36 hr ((-1), mS, msc, mth, mF, mZ, mK, mH) (by first | rfl | (simp [b_3, b_5]; done)) (by
            try dsimp only
            exact leastF_b (by simp [b_3, b_5])) (by rfl)
    · skip
      have b_6 : (bel x 36) = true := bI1 c_4
      refine V_iload_n (pc := 16) X dX10_least_16 rfl 3 rfl ?_
      refine V_i2l (pc := 17) X dX10_least_17 ?_
      refine V_sg (pc := 18) (nA := 1) (As := [.long y.toInt64]) (rest := []) X (c_X10_isCell l g (v := y.toInt64) ) gX10_least_X10_isCell dX10_least_18 rfl (by decide +kernel) rfl ⟨rfl, rfl⟩ ⟨Nat.le_of_ble_eq_true rfl, Nat.le_of_ble_eq_true rfl⟩ ⟨Nat.le_of_ble_eq_true rfl, Nat.le_of_ble_eq_true rfl⟩ [] (by decide) rfl rfl (Nat.le_of_ble_eq_true rfl) (st' := [.int (bI (inJ y.toInt64 0 35))]) rfl ?_
      refine V_seti (y := bI (bel y 36)) (congrArg bI (inJ_bel 35 (by decide) (by decide))) ?_
      refine V_if_eq (tgt := 35) (pc := 21) X dX10_least_21 (by decide) (fun c_7 => ?_) (fun c_7 => ?_)
      · skip
        have b_8 : (bel y 36) = false := bI0 c_7
        refine V_iconst (v := (-1)) (pc := 35) X dX10_least_35 (by decide) ?_
        exact Ve_iret (pc := 36) X hA9 dX10_least_36 hr ((-1), mS, msc, mth, mF, mZ, mK, mH) (by first | rfl | (simp [b_3, b_6, b_8]; done)) (by
              try dsimp only
              exact leastF_b (by simp [b_3, b_6, b_8])) (by rfl)
      · skip
        have b_9 : (bel y 36) = true := bI1 c_7
        refine V_iload (pc := 24) X dX10_least_24 4 rfl ?_
        refine V_i2l (pc := 26) X dX10_least_26 ?_
        refine V_lconst (v := 0) (pc := 27) X dX10_least_27 (by decide) ?_
        refine V_lconst (v := 1) (pc := 28) X dX10_least_28 (by decide) ?_
        refine V_sg (pc := 29) (nA := 3) (As := [.long w.toInt64, .long 0, .long 1]) (rest := []) X (c_X10_in l g (v := w.toInt64) (v1 := 0) (v2 := 1) ) gX10_least_X10_in dX10_least_29 rfl (by decide +kernel) rfl ⟨rfl, rfl⟩ ⟨Nat.le_of_ble_eq_true rfl, Nat.le_of_ble_eq_true rfl⟩ ⟨Nat.le_of_ble_eq_true rfl, Nat.le_of_ble_eq_true rfl⟩ [] (by decide) rfl rfl (Nat.le_of_ble_eq_true rfl) (st' := [.int (bI (inJ w.toInt64 0 1))]) rfl ?_
        refine V_seti (y := bI (bel w 2)) (congrArg bI (inJ_bel 1 (by decide) (by decide))) ?_
        refine V_if_ne (tgt := 37) (pc := 32) X dX10_least_32 (by decide) (fun c_10 => ?_) (fun c_10 => ?_)
        · skip
          have b_11 : (bel w 2) = true := bI1 c_10
          obtain ⟨j_12, hj_13, rfl⟩ := bel_nat (n := mn) (by omega) b_3
          refine V_aload_n (pc := 37) X dX10_least_37 rfl 0 rfl ?_
          refine V_iload_n (pc := 38) X dX10_least_38 rfl 1 rfl ?_
          refine V_ve (pc := 39) (nA := 1) (As := [.int (nI j_12)]) (rest := []) X (c_X10_keeps l g (mq := mq) (mf := mf) (mt := mt) (mmq := mmq) (mn := mn) (mkq := mkq) (mcq := mcq) (mhq := mhq) (maq := maq) (mz := mz) (my := my) (mS := mS) (mzq := mzq) (mtq := mtq) (mT := mT) (mA := mA) (mrq := mrq) (muq := muq) (mF := mF) (mZ := mZ) (moq := moq) (mK := mK) (mH := mH) (mgq := mgq) (miq := miq) (mI := mI) (mB := mB) (mlq := mlq) (msq := msq) (meq := meq) (mvq := mvq) (mce := mce) (mho := mho) (j := j_12) (hj := by first | assumption | omega)) gX10_least_X10_keeps dX10_least_39 rfl (by decide +kernel) rfl (qb := 0) rfl rfl rfl ⟨rfl, rfl⟩ ⟨Nat.le_of_ble_eq_true rfl, Nat.le_of_ble_eq_true rfl⟩ ⟨Nat.le_of_ble_eq_true rfl, Nat.le_of_ble_eq_true rfl⟩ [0, 3, 4] (by decide) rfl [1, 2, 5, 6] (by decide) (by decide) [ai g mmq 6 mm, ai g mkq 6 mkd, ai g mzq 36 msc, ai g muq 6 mth] rfl [4, 0, 1, 5, 6, 2, 3] (by decide) (fun u => [ob mq 10 [.long mf, .int (nI mt), .ref mmq, .int (nI mn), .ref mkq, .ref mcq, .ref mhq, .ref maq, .int mz, .int my, .long mS, .ref mzq, .ref mtq, .int (nI mT), .int (nI mA), .ref mrq, .ref muq, .long mF, .int mZ, .ref moq, .int (mce j_12), .int (mho j_12), .ref mgq, .ref miq, .long mI, .int (bI mB), .ref mlq, .ref msq, .ref meq, .ref mvq], ai g mmq 6 mm, ai g mkq 6 mkd, ai g mcq 6 mce, ai g mhq 6 mho, ai g mzq 36 msc, ai g muq 6 mth]) (fun _ => rfl) rfl (Nat.le_of_ble_eq_true rfl) (fun u => []) (fun _ => rfl) (fun u hu_14 => ?_)
          refine V_eqw (ws2 := [ob mq 10 [.long mf, .int (nI mt), .ref mmq, .int (nI mn), .ref mkq, .ref mcq, .ref mhq, .ref maq, .int mz, .int my, .long mS, .ref mzq, .ref mtq, .int (nI mT), .int (nI mA), .ref mrq, .ref muq, .long mF, .int mZ, .ref moq, .int (mce j_12), .int (mho j_12), .ref mgq, .ref miq, .long mI, .int (bI mB), .ref mlq, .ref msq, .ref meq, .ref mvq], ai g mmq 6 mm, ai g mkq 6 mkd, ai g mcq 6 mce, ai g mhq 6 mho, ai g mzq 36 msc, ai g muq 6 mth]) rfl (V_eqs (st2 := []) rfl ?_)
          refine V_bipush (v := (-4)) (pc := 42) X dX10_least_42 (by decide) ?_
          refine V_istore (lv' := [(5, .int (-4)), (0, .ref mq), (1, .int (nI j_12)), (2, .int x), (3, .int y), (4, .int w)]) (pc := 44) X dX10_least_44 (Nat.le_of_ble_eq_true rfl) rfl ?_
          refine V_iconst (v := 0) (pc := 46) X dX10_least_46 (by decide) ?_
          refine V_istore (lv' := [(6, .int 0), (5, .int (-4)), (0, .ref mq), (1, .int (nI j_12)), (2, .int x), (3, .int y), (4, .int w)]) (pc := 47) X dX10_least_47 (Nat.le_of_ble_eq_true rfl) rfl ?_
          refine V_loop (pc := 49) (σ := Nat × Int32 × (Nat → Int32) × (Nat → Int32) × Int64 × (Nat → Int32) × (Nat → Int32) × Int64 × Int32) (fun v9 => [(0, .ref mq), (1, .int (nI j_12)), (2, .int x), (3, .int y), (4, .int w), (5, .int v9.2.1), (6, .int (nI v9.1))]) (fun v9 => [ob mq 10 [.long mf, .int (nI mt), .ref mmq, .int (nI mn), .ref mkq, .ref mcq, .ref mhq, .ref maq, .int mz, .int my, .long v9.2.2.2.2.1, .ref mzq, .ref mtq, .int (nI mT), .int (nI mA), .ref mrq, .ref muq, .long v9.2.2.2.2.2.2.2.1, .int v9.2.2.2.2.2.2.2.2, .ref moq, .int (mce j_12), .int (mho j_12), .ref mgq, .ref miq, .long mI, .int (bI mB), .ref mlq, .ref msq, .ref meq, .ref mvq], ai g mmq 6 mm, ai g mkq 6 mkd, ai g mcq 6 v9.2.2.1, ai g mhq 6 v9.2.2.2.1, ai g mzq 36 v9.2.2.2.2.2.1, ai g muq 6 v9.2.2.2.2.2.2.1]) (fun v9 => (v9.1 ≤ 3600) ∧ (∀ u8, upd v9.2.2.1 j_12 u8 = upd mce j_12 u8) ∧ (∀ u8, upd v9.2.2.2.1 j_12 u8 = upd mho j_12 u8) ∧ (∀ q, q < mn → vp_in (v9.2.2.1 q) 36) ∧ ((v9.2.1 = -4 ∧ mSr (TL j_12 mkd mce mho mn mz mf mm mt x y) (3600 - v9.1) v9.1 = lsF (TL j_12 mkd mce mho mn mz mf mm mt x y)) ∨ (¬ v9.2.1 = -4 ∧ v9.2.1 = lsF (TL j_12 mkd mce mho mn mz mf mm mt x y)))) (fun v9 => 3600 - v9.1) (0, (-4), mce, mho, mS, msc, mth, mF, mZ) ⟨(by
                try dsimp only
                all_goals omega), (by
                try dsimp only
                exact fun _ => rfl), (by
                try dsimp only
                exact fun _ => rfl), (by
                try dsimp only
                exact hce), (by
                try dsimp only
                exact Or.inl ⟨rfl, mS_0 TL_neg _ rfl⟩)⟩ rfl [2, 3, 4, 5, 6, 1, 0] rfl ?_
          rintro ⟨k, v, zc, zh, zS, zs, zt, zF, zZ⟩ ⟨hk, hc, hh, hcz, hs⟩ ih49
          try dsimp only at hk
          try dsimp only at hc
          try dsimp only at hh
          try dsimp only at hcz
          try dsimp only at hs
          refine V_eqw (ws2 := [ob mq 10 [.long mf, .int (nI mt), .ref mmq, .int (nI mn), .ref mkq, .ref mcq, .ref mhq, .ref maq, .int mz, .int my, .long zS, .ref mzq, .ref mtq, .int (nI mT), .int (nI mA), .ref mrq, .ref muq, .long zF, .int zZ, .ref moq, .int (mce j_12), .int (mho j_12), .ref mgq, .ref miq, .long mI, .int (bI mB), .ref mlq, .ref msq, .ref meq, .ref mvq], ai g mmq 6 mm, ai g mkq 6 mkd, ai g mcq 6 zc, ai g mhq 6 zh, ai g mzq 36 zs, ai g muq 6 zt]) rfl (V_eql (lv' := [(0, .ref mq), (1, .int (nI j_12)), (2, .int x), (3, .int y), (4, .int w), (5, .int v), (6, .int (nI k))]) rfl ?_)
          refine V_iload (pc := 49) X dX10_least_49 6 rfl ?_
          refine V_sipush (v := 3600) (pc := 51) X dX10_least_51 (by decide) ?_
          refine V_icmp_ge (tgt := 126) (pc := 54) X dX10_least_54 (by decide) (fun c_15 => ?_) (fun c_15 => ?_)
          · skip
            have n_16 : 3600 ≤ k := nJ_le (a := 3600) (b := k) (by omega) (by omega) c_15
            have hR : v = lsF (TL j_12 mkd mce mho mn mz mf mm mt x y) := by
                                                                                rcases hs with q | q
                                                                                · rw [q.1, ← q.2, show 3600 - k = 0 by omega]; rfl
                                                                                · exact q.2
            refine V_aload_n (pc := 126) X dX10_least_126 rfl 0 rfl ?_
            refine V_iload_n (pc := 127) X dX10_least_127 rfl 1 rfl ?_
            refine V_ve (pc := 128) (nA := 1) (As := [.int (nI j_12)]) (rest := []) X (c_X10_back l g (mq := mq) (mf := mf) (mt := mt) (mmq := mmq) (mn := mn) (mkq := mkq) (mcq := mcq) (mhq := mhq) (maq := maq) (mz := mz) (my := my) (mS := zS) (mzq := mzq) (mtq := mtq) (mT := mT) (mA := mA) (mrq := mrq) (muq := muq) (mF := zF) (mZ := zZ) (moq := moq) (mK := mce j_12) (mH := mho j_12) (mgq := mgq) (miq := miq) (mI := mI) (mB := mB) (mlq := mlq) (msq := msq) (meq := meq) (mvq := mvq) (mce := zc) (mho := zh) (j := j_12) (hj := by first | assumption | omega)) gX10_least_X10_back dX10_least_128 rfl (by decide +kernel) rfl (qb := 0) rfl rfl rfl ⟨rfl, rfl⟩ ⟨Nat.le_of_ble_eq_true rfl, Nat.le_of_ble_eq_true rfl⟩ ⟨Nat.le_of_ble_eq_true rfl, Nat.le_of_ble_eq_true rfl⟩ [0, 3, 4] (by decide) rfl [1, 2, 5, 6] (by decide) (by decide) [ai g mmq 6 mm, ai g mkq 6 mkd, ai g mzq 36 zs, ai g muq 6 zt] rfl [4, 0, 1, 5, 6, 2, 3] (by decide) (fun u => [ob mq 10 [.long mf, .int (nI mt), .ref mmq, .int (nI mn), .ref mkq, .ref mcq, .ref mhq, .ref maq, .int mz, .int my, .long zS, .ref mzq, .ref mtq, .int (nI mT), .int (nI mA), .ref mrq, .ref muq, .long zF, .int zZ, .ref moq, .int (mce j_12), .int (mho j_12), .ref mgq, .ref miq, .long mI, .int (bI mB), .ref mlq, .ref msq, .ref meq, .ref mvq], ai g mmq 6 mm, ai g mkq 6 mkd, ai g mcq 6 (upd zc j_12 (mce j_12)), ai g mhq 6 (upd zh j_12 (mho j_12)), ai g mzq 36 zs, ai g muq 6 zt]) (fun _ => rfl) rfl (Nat.le_of_ble_eq_true rfl) (fun u => []) (fun _ => rfl) (fun u hu_17 => ?_)
            refine V_eqw (ws2 := [ob mq 10 [.long mf, .int (nI mt), .ref mmq, .int (nI mn), .ref mkq, .ref mcq, .ref mhq, .ref maq, .int mz, .int my, .long zS, .ref mzq, .ref mtq, .int (nI mT), .int (nI mA), .ref mrq, .ref muq, .long zF, .int zZ, .ref moq, .int (mce j_12), .int (mho j_12), .ref mgq, .ref miq, .long mI, .int (bI mB), .ref mlq, .ref msq, .ref meq, .ref mvq], ai g mmq 6 mm, ai g mkq 6 mkd, ai g mcq 6 (upd zc j_12 (mce j_12)), ai g mhq 6 (upd zh j_12 (mho j_12)), ai g mzq 36 zs, ai g muq 6 zt]) rfl (V_eqs (st2 := []) rfl ?_)
            refine V_eqw (ws2 := [ob mq 10 [.long mf, .int (nI mt), .ref mmq, .int (nI mn), .ref mkq, .ref mcq, .ref mhq, .ref maq, .int mz, .int my, .long zS, .ref mzq, .ref mtq, .int (nI mT), .int (nI mA), .ref mrq, .ref muq, .long zF, .int zZ, .ref moq, .int (mce j_12), .int (mho j_12), .ref mgq, .ref miq, .long mI, .int (bI mB), .ref mlq, .ref msq, .ref meq, .ref mvq], ai g mmq 6 mm, ai g mkq 6 mkd, ai g mcq 6 mce, ai g mhq 6 mho, ai g mzq 36 zs, ai g muq 6 zt]) (by rw [upd_back hc, upd_back hh]) ?_
            refine V_iload (pc := 131) X dX10_least_131 5 rfl ?_
            refine V_bipush (v := (-4)) (pc := 133) X dX10_least_133 (by decide) ?_
            refine V_icmp_ne (tgt := 143) (pc := 135) X dX10_least_135 (by decide) (fun c_18 => ?_) (fun c_18 => ?_)
            · skip
              refine V_iload (pc := 143) X dX10_least_143 4 rfl ?_
              refine V_if_ne (tgt := 156) (pc := 145) X dX10_least_145 (by decide) (fun c_19 => ?_) (fun c_19 => ?_)
              · skip
                refine V_iload (pc := 156) X dX10_least_156 5 rfl ?_
                refine V_bipush (v := 36) (pc := 158) X dX10_least_158 (by decide) ?_
                refine V_irem (pc := 160) X dX10_least_160 (by decide) ?_
                exact Ve_iret (pc := 161) X hA9 dX10_least_161 hr (v - v / 36 * 36, zS, zs, zt, zF, zZ, (mce j_12), (mho j_12)) (by first | rfl | (simp [b_3, b_6, b_9, b_11, hj_13, n_16, c_18, c_19]; done)) (by
                      try dsimp only
                      rw [leastF_c (by assumption) (by assumption) (by assumption) (by assumption), nI_clamp (n := j_12) (by omega), ← hR, if_pos (by rw [hR]; exact lsF_rng.resolve_left (fun q => absurd (hR.trans q) (by assumption))), if_neg (by assumption)]) (by rfl)
              · skip
                refine V_iload (pc := 148) X dX10_least_148 5 rfl ?_
                refine V_bipush (v := 36) (pc := 150) X dX10_least_150 (by decide) ?_
                refine V_idiv (pc := 152) X dX10_least_152 (by decide) ?_
                refine V_goto (tgt := 161) (pc := 153) X dX10_least_153 (by decide) ?_
                exact Ve_iret (pc := 161) X hA9 dX10_least_161 hr (v / 36, zS, zs, zt, zF, zZ, (mce j_12), (mho j_12)) (by first | rfl | (simp [b_3, b_6, b_9, b_11, hj_13, n_16, c_18, c_19]; done)) (by
                      try dsimp only
                      rw [leastF_c (by assumption) (by assumption) (by assumption) (by assumption), nI_clamp (n := j_12) (by omega), ← hR, if_pos (by rw [hR]; exact lsF_rng.resolve_left (fun q => absurd (hR.trans q) (by assumption))), if_pos (by assumption)]) (by rfl)
            · skip
              refine V_bipush (v := (-4)) (pc := 138) X dX10_least_138 (by decide) ?_
              refine V_goto (tgt := 161) (pc := 140) X dX10_least_140 (by decide) ?_
              exact Ve_iret (pc := 161) X hA9 dX10_least_161 hr ((-4), zS, zs, zt, zF, zZ, (mce j_12), (mho j_12)) (by first | rfl | (simp [b_3, b_6, b_9, b_11, hj_13, n_16, c_18]; done)) (by
                    try dsimp only
                    rw [leastF_c (by assumption) (by assumption) (by assumption) (by assumption), nI_clamp (n := j_12) (by omega), ← hR, show v = -4 by assumption, if_neg (by decide)]) (by rfl)
          · skip
            have n_20 : k < 3600 := nJ_nle (a := 3600) (b := k) (by omega) (by omega) c_15
            refine V_iload (pc := 57) X dX10_least_57 5 rfl ?_
            refine V_bipush (v := (-4)) (pc := 59) X dX10_least_59 (by decide) ?_
            refine V_icmp_ne (tgt := 126) (pc := 61) X dX10_least_61 (by decide) (fun c_21 => ?_) (fun c_21 => ?_)
            · skip
              have hR := (hs.resolve_left (fun q => c_21 q.1)).2
              refine V_aload_n (pc := 126) X dX10_least_126 rfl 0 rfl ?_
              refine V_iload_n (pc := 127) X dX10_least_127 rfl 1 rfl ?_
              refine V_ve (pc := 128) (nA := 1) (As := [.int (nI j_12)]) (rest := []) X (c_X10_back l g (mq := mq) (mf := mf) (mt := mt) (mmq := mmq) (mn := mn) (mkq := mkq) (mcq := mcq) (mhq := mhq) (maq := maq) (mz := mz) (my := my) (mS := zS) (mzq := mzq) (mtq := mtq) (mT := mT) (mA := mA) (mrq := mrq) (muq := muq) (mF := zF) (mZ := zZ) (moq := moq) (mK := mce j_12) (mH := mho j_12) (mgq := mgq) (miq := miq) (mI := mI) (mB := mB) (mlq := mlq) (msq := msq) (meq := meq) (mvq := mvq) (mce := zc) (mho := zh) (j := j_12) (hj := by first | assumption | omega)) gX10_least_X10_back dX10_least_128 rfl (by decide +kernel) rfl (qb := 0) rfl rfl rfl ⟨rfl, rfl⟩ ⟨Nat.le_of_ble_eq_true rfl, Nat.le_of_ble_eq_true rfl⟩ ⟨Nat.le_of_ble_eq_true rfl, Nat.le_of_ble_eq_true rfl⟩ [0, 3, 4] (by decide) rfl [1, 2, 5, 6] (by decide) (by decide) [ai g mmq 6 mm, ai g mkq 6 mkd, ai g mzq 36 zs, ai g muq 6 zt] rfl [4, 0, 1, 5, 6, 2, 3] (by decide) (fun u => [ob mq 10 [.long mf, .int (nI mt), .ref mmq, .int (nI mn), .ref mkq, .ref mcq, .ref mhq, .ref maq, .int mz, .int my, .long zS, .ref mzq, .ref mtq, .int (nI mT), .int (nI mA), .ref mrq, .ref muq, .long zF, .int zZ, .ref moq, .int (mce j_12), .int (mho j_12), .ref mgq, .ref miq, .long mI, .int (bI mB), .ref mlq, .ref msq, .ref meq, .ref mvq], ai g mmq 6 mm, ai g mkq 6 mkd, ai g mcq 6 (upd zc j_12 (mce j_12)), ai g mhq 6 (upd zh j_12 (mho j_12)), ai g mzq 36 zs, ai g muq 6 zt]) (fun _ => rfl) rfl (Nat.le_of_ble_eq_true rfl) (fun u => []) (fun _ => rfl) (fun u hu_22 => ?_)
              refine V_eqw (ws2 := [ob mq 10 [.long mf, .int (nI mt), .ref mmq, .int (nI mn), .ref mkq, .ref mcq, .ref mhq, .ref maq, .int mz, .int my, .long zS, .ref mzq, .ref mtq, .int (nI mT), .int (nI mA), .ref mrq, .ref muq, .long zF, .int zZ, .ref moq, .int (mce j_12), .int (mho j_12), .ref mgq, .ref miq, .long mI, .int (bI mB), .ref mlq, .ref msq, .ref meq, .ref mvq], ai g mmq 6 mm, ai g mkq 6 mkd, ai g mcq 6 (upd zc j_12 (mce j_12)), ai g mhq 6 (upd zh j_12 (mho j_12)), ai g mzq 36 zs, ai g muq 6 zt]) rfl (V_eqs (st2 := []) rfl ?_)
              refine V_eqw (ws2 := [ob mq 10 [.long mf, .int (nI mt), .ref mmq, .int (nI mn), .ref mkq, .ref mcq, .ref mhq, .ref maq, .int mz, .int my, .long zS, .ref mzq, .ref mtq, .int (nI mT), .int (nI mA), .ref mrq, .ref muq, .long zF, .int zZ, .ref moq, .int (mce j_12), .int (mho j_12), .ref mgq, .ref miq, .long mI, .int (bI mB), .ref mlq, .ref msq, .ref meq, .ref mvq], ai g mmq 6 mm, ai g mkq 6 mkd, ai g mcq 6 mce, ai g mhq 6 mho, ai g mzq 36 zs, ai g muq 6 zt]) (by rw [upd_back hc, upd_back hh]) ?_
              refine V_iload (pc := 131) X dX10_least_131 5 rfl ?_
              refine V_bipush (v := (-4)) (pc := 133) X dX10_least_133 (by decide) ?_
              refine V_icmp_ne (tgt := 143) (pc := 135) X dX10_least_135 (by decide) (fun c_23 => ?_) (fun c_23 => ?_)
              · skip
                refine V_iload (pc := 143) X dX10_least_143 4 rfl ?_
                refine V_if_ne (tgt := 156) (pc := 145) X dX10_least_145 (by decide) (fun c_24 => ?_) (fun c_24 => ?_)
                · skip
                  refine V_iload (pc := 156) X dX10_least_156 5 rfl ?_
                  refine V_bipush (v := 36) (pc := 158) X dX10_least_158 (by decide) ?_
                  refine V_irem (pc := 160) X dX10_least_160 (by decide) ?_
                  exact Ve_iret (pc := 161) X hA9 dX10_least_161 hr (v - v / 36 * 36, zS, zs, zt, zF, zZ, (mce j_12), (mho j_12)) (by first | rfl | (simp [b_3, b_6, b_9, b_11, hj_13, n_20, c_21, c_23, c_24]; done)) (by
                        try dsimp only
                        rw [leastF_c (by assumption) (by assumption) (by assumption) (by assumption), nI_clamp (n := j_12) (by omega), ← hR, if_pos (by rw [hR]; exact lsF_rng.resolve_left (fun q => absurd (hR.trans q) (by assumption))), if_neg (by assumption)]) (by rfl)
                · skip
                  refine V_iload (pc := 148) X dX10_least_148 5 rfl ?_
                  refine V_bipush (v := 36) (pc := 150) X dX10_least_150 (by decide) ?_
                  refine V_idiv (pc := 152) X dX10_least_152 (by decide) ?_
                  refine V_goto (tgt := 161) (pc := 153) X dX10_least_153 (by decide) ?_
                  exact Ve_iret (pc := 161) X hA9 dX10_least_161 hr (v / 36, zS, zs, zt, zF, zZ, (mce j_12), (mho j_12)) (by first | rfl | (simp [b_3, b_6, b_9, b_11, hj_13, n_20, c_21, c_23, c_24]; done)) (by
                        try dsimp only
                        rw [leastF_c (by assumption) (by assumption) (by assumption) (by assumption), nI_clamp (n := j_12) (by omega), ← hR, if_pos (by rw [hR]; exact lsF_rng.resolve_left (fun q => absurd (hR.trans q) (by assumption))), if_pos (by assumption)]) (by rfl)
              · exact absurd c_23 c_21
            · skip
              have hm := (hs.resolve_right (fun q => q.1 c_21)).2
              refine V_iload (pc := 64) X dX10_least_64 6 rfl ?_
              refine V_bipush (v := 36) (pc := 66) X dX10_least_66 (by decide) ?_
              refine V_idiv (pc := 68) X dX10_least_68 (by decide) ?_
              refine V_seti (y := nI (k / 36)) (pk_div (a := k) (d := 36) (by omega) (by omega) (by omega)) ?_
              refine V_istore (lv' := [(7, .int (nI (k / 36))), (0, .ref mq), (1, .int (nI j_12)), (2, .int x), (3, .int y), (4, .int w), (5, .int v), (6, .int (nI k))]) (pc := 69) X dX10_least_69 (Nat.le_of_ble_eq_true rfl) rfl ?_
              refine V_iload (pc := 71) X dX10_least_71 0 rfl ?_
              refine V_if_gt (tgt := 81) (pc := 73) X dX10_least_73 (by decide) (fun c_25 => ?_) (fun c_25 => ?_)
              · skip
                have n_26 : 0 < (k / 36) := nJ_lt (a := 0) (b := k / 36) (by omega) (by omega) c_25
                refine V_aload_n (pc := 81) X dX10_least_81 rfl 1 rfl ?_
                refine V_get (C := RX10) (T := TX10) (N := 30) (ci := 10) (pc := 82) X dX10_least_82 in10 0 rfl rfl 5 (by decide) (by decide +kernel) rfl rfl ?_
                refine V_iload_n (pc := 85) X dX10_least_85 rfl 2 rfl ?_
                refine V_iload (pc := 86) X dX10_least_86 7 rfl ?_
                refine V_bipush (v := 36) (pc := 88) X dX10_least_88 (by decide) ?_
                refine V_irem (pc := 90) X dX10_least_90 (by decide) ?_
                refine V_seti (y := nI (k % 36)) (pk_rem (a := k) (d := 36) (by omega) (by omega) (by omega)) ?_
                refine V_iast (f' := upd zc j_12 (nI (k % 36))) (ws' := [ob mq 10 [.long mf, .int (nI mt), .ref mmq, .int (nI mn), .ref mkq, .ref mcq, .ref mhq, .ref maq, .int mz, .int my, .long zS, .ref mzq, .ref mtq, .int (nI mT), .int (nI mA), .ref mrq, .ref muq, .long zF, .int zZ, .ref moq, .int (mce j_12), .int (mho j_12), .ref mgq, .ref miq, .long mI, .int (bI mB), .ref mlq, .ref msq, .ref meq, .ref mvq], ai g mmq 6 mm, ai g mkq 6 mkd, ai g mcq 6 (upd zc j_12 (nI (k % 36))), ai g mhq 6 zh, ai g mzq 36 zs, ai g muq 6 zt]) (pc := 91) X dX10_least_91 3 rfl (vp_in_nI (by omega) (by omega)) (by rw [nI_clamp (by omega)]) rfl ?_
                refine V_aload_n (pc := 92) X dX10_least_92 rfl 1 rfl ?_
                refine V_get (C := RX10) (T := TX10) (N := 30) (ci := 10) (pc := 93) X dX10_least_93 in10 0 rfl rfl 6 (by decide) (by decide +kernel) rfl rfl ?_
                refine V_iload_n (pc := 96) X dX10_least_96 rfl 2 rfl ?_
                refine V_iload (pc := 97) X dX10_least_97 0 rfl ?_
                refine V_iast (f' := upd zh j_12 (nI (k / 36))) (ws' := [ob mq 10 [.long mf, .int (nI mt), .ref mmq, .int (nI mn), .ref mkq, .ref mcq, .ref mhq, .ref maq, .int mz, .int my, .long zS, .ref mzq, .ref mtq, .int (nI mT), .int (nI mA), .ref mrq, .ref muq, .long zF, .int zZ, .ref moq, .int (mce j_12), .int (mho j_12), .ref mgq, .ref miq, .long mI, .int (bI mB), .ref mlq, .ref msq, .ref meq, .ref mvq], ai g mmq 6 mm, ai g mkq 6 mkd, ai g mcq 6 (upd zc j_12 (nI (k % 36))), ai g mhq 6 (upd zh j_12 (nI (k / 36))), ai g mzq 36 zs, ai g muq 6 zt]) (pc := 99) X dX10_least_99 4 rfl (vp_in_nI (by omega) (by omega)) (by rw [nI_clamp (by omega)]) rfl ?_
                refine V_aload_n (pc := 100) X dX10_least_100 rfl 1 rfl ?_
                refine V_iload_n (pc := 101) X dX10_least_101 rfl 3 rfl ?_
                refine V_iload_n (pc := 102) X dX10_least_102 rfl 4 rfl ?_
                refine V_ve (pc := 103) (nA := 2) (As := [.int x, .int y]) (rest := []) X (c_X10_stepsThen l g (mq := mq) (mf := mf) (mt := mt) (mmq := mmq) (mn := mn) (mkq := mkq) (mcq := mcq) (mhq := mhq) (maq := maq) (mz := mz) (my := my) (mS := zS) (mzq := mzq) (mtq := mtq) (mT := mT) (mA := mA) (mrq := mrq) (muq := muq) (mF := zF) (mZ := zZ) (moq := moq) (mK := mce j_12) (mH := mho j_12) (mgq := mgq) (miq := miq) (mI := mI) (mB := mB) (mlq := mlq) (msq := msq) (meq := meq) (mvq := mvq) (mm := mm) (mkd := mkd) (mce := upd zc j_12 (nI (k % 36))) (mho := upd zh j_12 (nI (k / 36))) (msc := zs) (mth := zt) (x := x) (y := y) (ht := by first | assumption | omega) (hn := by first | assumption | omega) (hce := by exact upd_vin hcz (vp_in_nI (by omega) (by omega))) (hkd := by first | assumption | omega) (hz9 := by first | assumption | omega) (hx := by exact bel_vin (n := 36) (by omega) (by omega) (by omega) (by assumption)) (hy := by exact bel_vin (n := 36) (by omega) (by omega) (by omega) (by assumption))) gX10_least_X10_stepsThen dX10_least_103 rfl (by decide +kernel) rfl (qb := 0) rfl rfl rfl ⟨rfl, rfl⟩ ⟨Nat.le_of_ble_eq_true rfl, Nat.le_of_ble_eq_true rfl⟩ ⟨Nat.le_of_ble_eq_true rfl, Nat.le_of_ble_eq_true rfl⟩ [0, 1, 2, 3, 4, 5, 6] (by decide) rfl [] (by decide) (by decide) [] rfl [0, 1, 2, 3, 4, 5, 6] (by decide) (fun u => [ob mq 10 [.long mf, .int (nI mt), .ref mmq, .int (nI mn), .ref mkq, .ref mcq, .ref mhq, .ref maq, .int mz, .int my, .long u.1, .ref mzq, .ref mtq, .int (nI mT), .int (nI mA), .ref mrq, .ref muq, .long (mf ||| strF mkd (upd zc j_12 (nI (k % 36))) (upd zh j_12 (nI (k / 36))) mn), .int (frX mz), .ref moq, .int (mce j_12), .int (mho j_12), .ref mgq, .ref miq, .long mI, .int (bI mB), .ref mlq, .ref msq, .ref meq, .ref mvq], ai g mmq 6 mm, ai g mkq 6 mkd, ai g mcq 6 (upd zc j_12 (nI (k % 36))), ai g mhq 6 (upd zh j_12 (nI (k / 36))), ai g mzq 36 u.2.1, ai g muq 6 u.2.2]) (fun _ => rfl) rfl (Nat.le_of_ble_eq_true rfl) (fun u => [.int (stX (thW mkd (upd zc j_12 (nI (k % 36))) (upd zh j_12 (nI (k / 36))) mn mz mf mm mt) x y)]) (fun _ => rfl) (fun u hu_30 => ?_)
                obtain ⟨S2_27, sc2_28, th2_29⟩ := u
                try dsimp only at hu_30
                have hhth_31 := hu_30
                refine V_eqw (ws2 := [ob mq 10 [.long mf, .int (nI mt), .ref mmq, .int (nI mn), .ref mkq, .ref mcq, .ref mhq, .ref maq, .int mz, .int my, .long S2_27, .ref mzq, .ref mtq, .int (nI mT), .int (nI mA), .ref mrq, .ref muq, .long (mf ||| strF mkd (upd zc j_12 (nI (k % 36))) (upd zh j_12 (nI (k / 36))) mn), .int (frX mz), .ref moq, .int (mce j_12), .int (mho j_12), .ref mgq, .ref miq, .long mI, .int (bI mB), .ref mlq, .ref msq, .ref meq, .ref mvq], ai g mmq 6 mm, ai g mkq 6 mkd, ai g mcq 6 (upd zc j_12 (nI (k % 36))), ai g mhq 6 (upd zh j_12 (nI (k / 36))), ai g mzq 36 sc2_28, ai g muq 6 th2_29]) rfl (V_eqs (st2 := [.int (stX (thW mkd (upd zc j_12 (nI (k % 36))) (upd zh j_12 (nI (k / 36))) mn mz mf mm mt) x y)]) rfl ?_)
                refine V_seti (y := TL j_12 mkd mce mho mn mz mf mm mt x y (k % 36) (k / 36)) (by rw [hc, hh]; rfl) ?_
                refine V_bipush (v := (-4)) (pc := 106) X dX10_least_106 (by decide) ?_
                refine V_icmp_ne (tgt := 116) (pc := 108) X dX10_least_108 (by decide) (fun c_32 => ?_) (fun c_32 => ?_)
                · skip
                  refine V_iload (pc := 116) X dX10_least_116 7 rfl ?_
                  refine V_istore (lv' := [(5, .int (nI k)), (7, .int (nI (k / 36))), (0, .ref mq), (1, .int (nI j_12)), (2, .int x), (3, .int y), (4, .int w), (6, .int (nI k))]) (pc := 118) X dX10_least_118 (Nat.le_of_ble_eq_true rfl) rfl ?_
                  refine V_iinc (v := nI (k + 1)) (lv' := [(6, .int (nI (k + 1))), (5, .int (nI k)), (7, .int (nI (k / 36))), (0, .ref mq), (1, .int (nI j_12)), (2, .int x), (3, .int y), (4, .int w)]) (pc := 120) X dX10_least_120 7 rfl (nI_add k 1) (Nat.le_of_ble_eq_true rfl) rfl ?_
                  refine V_goto (tgt := 49) (pc := 123) X dX10_least_123 (by decide) ?_
                  refine V_lv [3, 4, 5, 6, 7, 1, 0] rfl ?_
                  exact ih49 (k + 1, nI k, (upd zc j_12 (nI (k % 36))), (upd zh j_12 (nI (k / 36))), S2_27, sc2_28, th2_29, mf ||| strF mkd (upd zc j_12 (nI (k % 36))) (upd zh j_12 (nI (k / 36))) mn, frX mz) ⟨(by
                        try dsimp only
                        all_goals omega), (by
                        try dsimp only
                        first | exact hc | exact fun v => (upd_upd _ _ _ _).trans (hc v)), (by
                        try dsimp only
                        first | exact hh | exact fun v => (upd_upd _ _ _ _).trans (hh v)), (by
                        try dsimp only
                        first | exact hcz | exact upd_vin hcz (vp_in_nI (by omega) (by omega))), (by
                        try dsimp only
                        exact Or.inr ⟨nI_ne4 (by omega), by rw [← hm, show 3600 - k = (3600 - (k + 1)) + 1 by omega, mS_y (by omega) (by assumption)]⟩)⟩ (by
                        try dsimp only
                        all_goals omega)
                · skip
                  refine V_bipush (v := (-4)) (pc := 111) X dX10_least_111 (by decide) ?_
                  refine V_goto (tgt := 118) (pc := 113) X dX10_least_113 (by decide) ?_
                  refine V_istore (lv' := [(5, .int (-4)), (7, .int (nI (k / 36))), (0, .ref mq), (1, .int (nI j_12)), (2, .int x), (3, .int y), (4, .int w), (6, .int (nI k))]) (pc := 118) X dX10_least_118 (Nat.le_of_ble_eq_true rfl) rfl ?_
                  refine V_iinc (v := nI (k + 1)) (lv' := [(6, .int (nI (k + 1))), (5, .int (-4)), (7, .int (nI (k / 36))), (0, .ref mq), (1, .int (nI j_12)), (2, .int x), (3, .int y), (4, .int w)]) (pc := 120) X dX10_least_120 7 rfl (nI_add k 1) (Nat.le_of_ble_eq_true rfl) rfl ?_
                  refine V_goto (tgt := 49) (pc := 123) X dX10_least_123 (by decide) ?_
                  refine V_lv [3, 4, 5, 6, 7, 1, 0] rfl ?_
                  exact ih49 (k + 1, (-4), (upd zc j_12 (nI (k % 36))), (upd zh j_12 (nI (k / 36))), S2_27, sc2_28, th2_29, mf ||| strF mkd (upd zc j_12 (nI (k % 36))) (upd zh j_12 (nI (k / 36))) mn, frX mz) ⟨(by
                        try dsimp only
                        all_goals omega), (by
                        try dsimp only
                        first | exact hc | exact fun v => (upd_upd _ _ _ _).trans (hc v)), (by
                        try dsimp only
                        first | exact hh | exact fun v => (upd_upd _ _ _ _).trans (hh v)), (by
                        try dsimp only
                        first | exact hcz | exact upd_vin hcz (vp_in_nI (by omega) (by omega))), (by
                        try dsimp only
                        exact Or.inl ⟨rfl, by rw [← hm, show 3600 - k = (3600 - (k + 1)) + 1 by omega, mS_n (by omega) (by assumption)]⟩)⟩ (by
                        try dsimp only
                        all_goals omega)
              · skip
                have n_33 : (k / 36) ≤ 0 := nJ_nlt (a := 0) (b := k / 36) (by omega) (by omega) c_25
                refine V_iload (pc := 76) X dX10_least_76 7 rfl ?_
                refine V_if_ne (tgt := 120) (pc := 78) X dX10_least_78 (by decide) (fun c_34 => ?_) (fun c_34 => ?_)
                · skip
                  have n_35 : k ≠ 0 := nJ_ne (a := k) (b := 0) (by omega) (by omega) c_34
                  refine V_iinc (v := nI (k + 1)) (lv' := [(6, .int (nI (k + 1))), (7, .int (nI (k / 36))), (0, .ref mq), (1, .int (nI j_12)), (2, .int x), (3, .int y), (4, .int w), (5, .int v)]) (pc := 120) X dX10_least_120 7 rfl (nI_add k 1) (Nat.le_of_ble_eq_true rfl) rfl ?_
                  refine V_goto (tgt := 49) (pc := 123) X dX10_least_123 (by decide) ?_
                  refine V_lv [2, 3, 4, 5, 6, 7, 0] rfl ?_
                  exact ih49 (k + 1, v, zc, zh, zS, zs, zt, zF, zZ) ⟨(by
                        try dsimp only
                        all_goals omega), (by
                        try dsimp only
                        first | exact hc | exact fun v => (upd_upd _ _ _ _).trans (hc v)), (by
                        try dsimp only
                        first | exact hh | exact fun v => (upd_upd _ _ _ _).trans (hh v)), (by
                        try dsimp only
                        first | exact hcz | exact upd_vin hcz (vp_in_nI (by omega) (by omega))), (by
                        try dsimp only
                        exact Or.inl ⟨by assumption, by rw [← hm, show 3600 - k = (3600 - (k + 1)) + 1 by omega, mS_k (by omega)]⟩)⟩ (by
                        try dsimp only
                        all_goals omega)
                · skip
                  have n_36 : k = 0 := nJ_eq (a := k) (b := 0) (by omega) (by omega) c_34
                  refine V_aload_n (pc := 81) X dX10_least_81 rfl 1 rfl ?_
                  refine V_get (C := RX10) (T := TX10) (N := 30) (ci := 10) (pc := 82) X dX10_least_82 in10 0 rfl rfl 5 (by decide) (by decide +kernel) rfl rfl ?_
                  refine V_iload_n (pc := 85) X dX10_least_85 rfl 2 rfl ?_
                  refine V_iload (pc := 86) X dX10_least_86 7 rfl ?_
                  refine V_bipush (v := 36) (pc := 88) X dX10_least_88 (by decide) ?_
                  refine V_irem (pc := 90) X dX10_least_90 (by decide) ?_
                  refine V_seti (y := nI (k % 36)) (pk_rem (a := k) (d := 36) (by omega) (by omega) (by omega)) ?_
                  refine V_iast (f' := upd zc j_12 (nI (k % 36))) (ws' := [ob mq 10 [.long mf, .int (nI mt), .ref mmq, .int (nI mn), .ref mkq, .ref mcq, .ref mhq, .ref maq, .int mz, .int my, .long zS, .ref mzq, .ref mtq, .int (nI mT), .int (nI mA), .ref mrq, .ref muq, .long zF, .int zZ, .ref moq, .int (mce j_12), .int (mho j_12), .ref mgq, .ref miq, .long mI, .int (bI mB), .ref mlq, .ref msq, .ref meq, .ref mvq], ai g mmq 6 mm, ai g mkq 6 mkd, ai g mcq 6 (upd zc j_12 (nI (k % 36))), ai g mhq 6 zh, ai g mzq 36 zs, ai g muq 6 zt]) (pc := 91) X dX10_least_91 3 rfl (vp_in_nI (by omega) (by omega)) (by rw [nI_clamp (by omega)]) rfl ?_
                  refine V_aload_n (pc := 92) X dX10_least_92 rfl 1 rfl ?_
                  refine V_get (C := RX10) (T := TX10) (N := 30) (ci := 10) (pc := 93) X dX10_least_93 in10 0 rfl rfl 6 (by decide) (by decide +kernel) rfl rfl ?_
                  refine V_iload_n (pc := 96) X dX10_least_96 rfl 2 rfl ?_
                  refine V_iload (pc := 97) X dX10_least_97 0 rfl ?_
                  refine V_iast (f' := upd zh j_12 (nI (k / 36))) (ws' := [ob mq 10 [.long mf, .int (nI mt), .ref mmq, .int (nI mn), .ref mkq, .ref mcq, .ref mhq, .ref maq, .int mz, .int my, .long zS, .ref mzq, .ref mtq, .int (nI mT), .int (nI mA), .ref mrq, .ref muq, .long zF, .int zZ, .ref moq, .int (mce j_12), .int (mho j_12), .ref mgq, .ref miq, .long mI, .int (bI mB), .ref mlq, .ref msq, .ref meq, .ref mvq], ai g mmq 6 mm, ai g mkq 6 mkd, ai g mcq 6 (upd zc j_12 (nI (k % 36))), ai g mhq 6 (upd zh j_12 (nI (k / 36))), ai g mzq 36 zs, ai g muq 6 zt]) (pc := 99) X dX10_least_99 4 rfl (vp_in_nI (by omega) (by omega)) (by rw [nI_clamp (by omega)]) rfl ?_
                  refine V_aload_n (pc := 100) X dX10_least_100 rfl 1 rfl ?_
                  refine V_iload_n (pc := 101) X dX10_least_101 rfl 3 rfl ?_
                  refine V_iload_n (pc := 102) X dX10_least_102 rfl 4 rfl ?_
                  refine V_ve (pc := 103) (nA := 2) (As := [.int x, .int y]) (rest := []) X (c_X10_stepsThen l g (mq := mq) (mf := mf) (mt := mt) (mmq := mmq) (mn := mn) (mkq := mkq) (mcq := mcq) (mhq := mhq) (maq := maq) (mz := mz) (my := my) (mS := zS) (mzq := mzq) (mtq := mtq) (mT := mT) (mA := mA) (mrq := mrq) (muq := muq) (mF := zF) (mZ := zZ) (moq := moq) (mK := mce j_12) (mH := mho j_12) (mgq := mgq) (miq := miq) (mI := mI) (mB := mB) (mlq := mlq) (msq := msq) (meq := meq) (mvq := mvq) (mm := mm) (mkd := mkd) (mce := upd zc j_12 (nI (k % 36))) (mho := upd zh j_12 (nI (k / 36))) (msc := zs) (mth := zt) (x := x) (y := y) (ht := by first | assumption | omega) (hn := by first | assumption | omega) (hce := by exact upd_vin hcz (vp_in_nI (by omega) (by omega))) (hkd := by first | assumption | omega) (hz9 := by first | assumption | omega) (hx := by exact bel_vin (n := 36) (by omega) (by omega) (by omega) (by assumption)) (hy := by exact bel_vin (n := 36) (by omega) (by omega) (by omega) (by assumption))) gX10_least_X10_stepsThen dX10_least_103 rfl (by decide +kernel) rfl (qb := 0) rfl rfl rfl ⟨rfl, rfl⟩ ⟨Nat.le_of_ble_eq_true rfl, Nat.le_of_ble_eq_true rfl⟩ ⟨Nat.le_of_ble_eq_true rfl, Nat.le_of_ble_eq_true rfl⟩ [0, 1, 2, 3, 4, 5, 6] (by decide) rfl [] (by decide) (by decide) [] rfl [0, 1, 2, 3, 4, 5, 6] (by decide) (fun u => [ob mq 10 [.long mf, .int (nI mt), .ref mmq, .int (nI mn), .ref mkq, .ref mcq, .ref mhq, .ref maq, .int mz, .int my, .long u.1, .ref mzq, .ref mtq, .int (nI mT), .int (nI mA), .ref mrq, .ref muq, .long (mf ||| strF mkd (upd zc j_12 (nI (k % 36))) (upd zh j_12 (nI (k / 36))) mn), .int (frX mz), .ref moq, .int (mce j_12), .int (mho j_12), .ref mgq, .ref miq, .long mI, .int (bI mB), .ref mlq, .ref msq, .ref meq, .ref mvq], ai g mmq 6 mm, ai g mkq 6 mkd, ai g mcq 6 (upd zc j_12 (nI (k % 36))), ai g mhq 6 (upd zh j_12 (nI (k / 36))), ai g mzq 36 u.2.1, ai g muq 6 u.2.2]) (fun _ => rfl) rfl (Nat.le_of_ble_eq_true rfl) (fun u => [.int (stX (thW mkd (upd zc j_12 (nI (k % 36))) (upd zh j_12 (nI (k / 36))) mn mz mf mm mt) x y)]) (fun _ => rfl) (fun u hu_40 => ?_)
                  obtain ⟨S2_37, sc2_38, th2_39⟩ := u
                  try dsimp only at hu_40
                  have hhth_41 := hu_40
                  refine V_eqw (ws2 := [ob mq 10 [.long mf, .int (nI mt), .ref mmq, .int (nI mn), .ref mkq, .ref mcq, .ref mhq, .ref maq, .int mz, .int my, .long S2_37, .ref mzq, .ref mtq, .int (nI mT), .int (nI mA), .ref mrq, .ref muq, .long (mf ||| strF mkd (upd zc j_12 (nI (k % 36))) (upd zh j_12 (nI (k / 36))) mn), .int (frX mz), .ref moq, .int (mce j_12), .int (mho j_12), .ref mgq, .ref miq, .long mI, .int (bI mB), .ref mlq, .ref msq, .ref meq, .ref mvq], ai g mmq 6 mm, ai g mkq 6 mkd, ai g mcq 6 (upd zc j_12 (nI (k % 36))), ai g mhq 6 (upd zh j_12 (nI (k / 36))), ai g mzq 36 sc2_38, ai g muq 6 th2_39]) rfl (V_eqs (st2 := [.int (stX (thW mkd (upd zc j_12 (nI (k % 36))) (upd zh j_12 (nI (k / 36))) mn mz mf mm mt) x y)]) rfl ?_)
                  refine V_seti (y := TL j_12 mkd mce mho mn mz mf mm mt x y (k % 36) (k / 36)) (by rw [hc, hh]; rfl) ?_
                  refine V_bipush (v := (-4)) (pc := 106) X dX10_least_106 (by decide) ?_
                  refine V_icmp_ne (tgt := 116) (pc := 108) X dX10_least_108 (by decide) (fun c_42 => ?_) (fun c_42 => ?_)
                  · skip
                    refine V_iload (pc := 116) X dX10_least_116 7 rfl ?_
                    refine V_istore (lv' := [(5, .int (nI k)), (7, .int (nI (k / 36))), (0, .ref mq), (1, .int (nI j_12)), (2, .int x), (3, .int y), (4, .int w), (6, .int (nI k))]) (pc := 118) X dX10_least_118 (Nat.le_of_ble_eq_true rfl) rfl ?_
                    refine V_iinc (v := nI (k + 1)) (lv' := [(6, .int (nI (k + 1))), (5, .int (nI k)), (7, .int (nI (k / 36))), (0, .ref mq), (1, .int (nI j_12)), (2, .int x), (3, .int y), (4, .int w)]) (pc := 120) X dX10_least_120 7 rfl (nI_add k 1) (Nat.le_of_ble_eq_true rfl) rfl ?_
                    refine V_goto (tgt := 49) (pc := 123) X dX10_least_123 (by decide) ?_
                    refine V_lv [3, 4, 5, 6, 7, 1, 0] rfl ?_
                    exact ih49 (k + 1, nI k, (upd zc j_12 (nI (k % 36))), (upd zh j_12 (nI (k / 36))), S2_37, sc2_38, th2_39, mf ||| strF mkd (upd zc j_12 (nI (k % 36))) (upd zh j_12 (nI (k / 36))) mn, frX mz) ⟨(by
                          try dsimp only
                          all_goals omega), (by
                          try dsimp only
                          first | exact hc | exact fun v => (upd_upd _ _ _ _).trans (hc v)), (by
                          try dsimp only
                          first | exact hh | exact fun v => (upd_upd _ _ _ _).trans (hh v)), (by
                          try dsimp only
                          first | exact hcz | exact upd_vin hcz (vp_in_nI (by omega) (by omega))), (by
                          try dsimp only
                          exact Or.inr ⟨nI_ne4 (by omega), by rw [← hm, show 3600 - k = (3600 - (k + 1)) + 1 by omega, mS_y (by omega) (by assumption)]⟩)⟩ (by
                          try dsimp only
                          all_goals omega)
                  · skip
                    refine V_bipush (v := (-4)) (pc := 111) X dX10_least_111 (by decide) ?_
                    refine V_goto (tgt := 118) (pc := 113) X dX10_least_113 (by decide) ?_
                    refine V_istore (lv' := [(5, .int (-4)), (7, .int (nI (k / 36))), (0, .ref mq), (1, .int (nI j_12)), (2, .int x), (3, .int y), (4, .int w), (6, .int (nI k))]) (pc := 118) X dX10_least_118 (Nat.le_of_ble_eq_true rfl) rfl ?_
                    refine V_iinc (v := nI (k + 1)) (lv' := [(6, .int (nI (k + 1))), (5, .int (-4)), (7, .int (nI (k / 36))), (0, .ref mq), (1, .int (nI j_12)), (2, .int x), (3, .int y), (4, .int w)]) (pc := 120) X dX10_least_120 7 rfl (nI_add k 1) (Nat.le_of_ble_eq_true rfl) rfl ?_
                    refine V_goto (tgt := 49) (pc := 123) X dX10_least_123 (by decide) ?_
                    refine V_lv [3, 4, 5, 6, 7, 1, 0] rfl ?_
                    exact ih49 (k + 1, (-4), (upd zc j_12 (nI (k % 36))), (upd zh j_12 (nI (k / 36))), S2_37, sc2_38, th2_39, mf ||| strF mkd (upd zc j_12 (nI (k % 36))) (upd zh j_12 (nI (k / 36))) mn, frX mz) ⟨(by
                          try dsimp only
                          all_goals omega), (by
                          try dsimp only
                          first | exact hc | exact fun v => (upd_upd _ _ _ _).trans (hc v)), (by
                          try dsimp only
                          first | exact hh | exact fun v => (upd_upd _ _ _ _).trans (hh v)), (by
                          try dsimp only
                          first | exact hcz | exact upd_vin hcz (vp_in_nI (by omega) (by omega))), (by
                          try dsimp only
                          exact Or.inl ⟨rfl, by rw [← hm, show 3600 - k = (3600 - (k + 1)) + 1 by omega, mS_n (by omega) (by assumption)]⟩)⟩ (by
                          try dsimp only
                          all_goals omega)
        · skip
          have b_43 : (bel w 2) = false := bI0 c_10
          refine V_iconst (v := (-1)) (pc := 35) X dX10_least_35 (by decide) ?_
          exact Ve_iret (pc := 36) X hA9 dX10_least_36 hr ((-1), mS, msc, mth, mF, mZ, mK, mH) (by first | rfl | (simp [b_3, b_6, b_9, b_43]; done)) (by
                try dsimp only
                exact leastF_b (by simp [b_3, b_6, b_9, b_43])) (by rfl)
set_option maxHeartbeats 4000000 in
set_option maxRecDepth 100000 in
theorem c_X10_game (l : Launch) (g : XG) (mq : Nat) (mf : Int64) (mt : Nat) (mmq : Nat) (mn : Nat) (mkq : Nat) (mcq : Nat) (mhq : Nat) (maq : Nat) (mz : Int32) (my : Int32) (mS : Int64) (mzq : Nat) (mtq : Nat) (mT : Nat) (mA : Nat) (mrq : Nat) (muq : Nat) (mF : Int64) (mZ : Int32) (moq : Nat) (mK : Int32) (mH : Int32) (mgq : Nat) (miq : Nat) (mI : Int64) (mB : Bool) (mlq : Nat) (msq : Nat) (meq : Nat) (mvq : Nat) (mm : Nat → Int32) (mkd : Nat → Int32) (mce : Nat → Int32) (mho : Nat → Int32) (msc : Nat → Int32) (mth : Nat → Int32) (mga : Nat → Int32) (o : Int32) (o2 : Int32) (h1 : Int32) (h2 : Int32) (x : Int32) (y : Int32) (w : Int32) (ht : mt ≤ 6) (hn : mn ≤ 6) (hce : ∀ j, j < mn → vp_in (mce j) 36) (hkd : ∀ j, j < mn → mkd j = 0 ∨ mkd j = 1 ∨ mkd j = 2 ∨ mkd j = 3) (hz9 : ∃ q, q < 10 ∧ mz = nI q) : Ke l g yX10_game wsX10_game ({ frames := 4, cells := 0, slots := 0, locals := 94 } : Room) 0 0 [.ref mq, .int o, .int o2, .int h1, .int h2, .int x, .int y, .int w] [ob mq 10 [.long mf, .int (nI mt), .ref mmq, .int (nI mn), .ref mkq, .ref mcq, .ref mhq, .ref maq, .int mz, .int my, .long mS, .ref mzq, .ref mtq, .int (nI mT), .int (nI mA), .ref mrq, .ref muq, .long mF, .int mZ, .ref moq, .int mK, .int mH, .ref mgq, .ref miq, .long mI, .int (bI mB), .ref mlq, .ref msq, .ref meq, .ref mvq], ai g mmq 6 mm, ai g mkq 6 mkd, ai g mcq 6 mce, ai g mhq 6 mho, ai g mzq 36 msc, ai g muq 6 mth, ai g mgq 1296 mga] (fun u : Int32 × Int64 × (Nat → Int32) × (Nat → Int32) × Int64 × Int32 × Int32 × Int32 × (Nat → Int32) => some (.int u.1)) (fun u => [ob mq 10 [.long mf, .int (nI mt), .ref mmq, .int (nI mn), .ref mkq, .ref mcq, .ref mhq, .ref maq, .int mz, .int my, .long u.2.1, .ref mzq, .ref mtq, .int (nI mT), .int (nI mA), .ref mrq, .ref muq, .long u.2.2.2.2.1, .int u.2.2.2.2.2.1, .ref moq, .int u.2.2.2.2.2.2.1, .int u.2.2.2.2.2.2.2.1, .ref mgq, .ref miq, .long mI, .int (bI mB), .ref mlq, .ref msq, .ref meq, .ref mvq], ai g mmq 6 mm, ai g mkq 6 mkd, ai g mcq 6 mce, ai g mhq 6 mho, ai g mzq 36 u.2.2.1, ai g muq 6 u.2.2.2.1, ai g mgq 1296 u.2.2.2.2.2.2.2.2]) (fun u => (R_gameM o o2 h1 h2 x y w mkd mce mho mn mz mf mm mt u.1)) := by
  refine Ke.of (cc := cX10_game) (maxL := 16) (ret := (some .int)) (lv := [(0, .ref mq), (1, .int o), (2, .int o2), (3, .int h1), (4, .int h2), (5, .int x), (6, .int y), (7, .int w)]) RX10 rfl (by decide) rfl (Nat.le_of_ble_eq_true rfl) rfl ?_
  intro p e s m below meth c A sz hA9 X hr hin2
  have in10 : ∀ w ∈ u_ws RX10 TX10 30, w ∈ wsX10_game := by decide +kernel
  refine V_aload_n (pc := 0) X dX10_game_0 rfl 0 rfl ?_
  refine V_iload_n (pc := 1) X dX10_game_1 rfl 1 rfl ?_
  refine V_vg (pc := 2) (nA := 1) (As := [.int o]) (rest := []) X (c_X10_isOne l g (mq := mq) (mf := mf) (mt := mt) (mmq := mmq) (mn := mn) (mkq := mkq) (mcq := mcq) (mhq := mhq) (maq := maq) (mz := mz) (my := my) (mS := mS) (mzq := mzq) (mtq := mtq) (mT := mT) (mA := mA) (mrq := mrq) (muq := muq) (mF := mF) (mZ := mZ) (moq := moq) (mK := mK) (mH := mH) (mgq := mgq) (miq := miq) (mI := mI) (mB := mB) (mlq := mlq) (msq := msq) (meq := meq) (mvq := mvq) (x := o) (hn := by first | assumption | omega)) gX10_game_X10_isOne dX10_game_2 rfl (by decide +kernel) rfl (qb := 0) rfl rfl rfl ⟨rfl, rfl⟩ ⟨Nat.le_of_ble_eq_true rfl, Nat.le_of_ble_eq_true rfl⟩ ⟨Nat.le_of_ble_eq_true rfl, Nat.le_of_ble_eq_true rfl⟩ [0] (by decide) rfl rfl (Nat.le_of_ble_eq_true rfl) (st' := [.int (bI (bel o (nI mn)))]) rfl ?_
  refine V_if_eq (tgt := 25) (pc := 5) X dX10_game_5 (by decide) (fun c_1 => ?_) (fun c_1 => ?_)
  · skip
    have b_2 : (bel o (nI mn)) = false := bI0 c_1
    refine V_iconst (v := 0) (pc := 25) X dX10_game_25 (by decide) ?_
    refine V_istore (lv' := [(8, .int 0), (0, .ref mq), (1, .int o), (2, .int o2), (3, .int h1), (4, .int h2), (5, .int x), (6, .int y), (7, .int w)]) (pc := 26) X dX10_game_26 (Nat.le_of_ble_eq_true rfl) rfl ?_
    refine V_iload (pc := 28) X dX10_game_28 0 rfl ?_
    refine V_if_eq (tgt := 87) (pc := 30) X dX10_game_30 (by decide) (fun c_3 => ?_) (fun c_3 => ?_)
    · skip
      refine V_iconst (v := (-1)) (pc := 87) X dX10_game_87 (by decide) ?_
      exact Ve_iret (pc := 88) X hA9 dX10_game_88 hr ((-1), mS, msc, mth, mF, mZ, mK, mH, mga) (by first | rfl | (simp [b_2]; done)) (by
            try dsimp only
            unfold R_gameM
            exact Or.inl ⟨by simp [gameG, b_2], rfl⟩) (by rfl)
    · exact absurd (by decide) c_3
  · skip
    have b_4 : (bel o (nI mn)) = true := bI1 c_1
    refine V_aload_n (pc := 8) X dX10_game_8 rfl 0 rfl ?_
    refine V_iload_n (pc := 9) X dX10_game_9 rfl 2 rfl ?_
    refine V_vg (pc := 10) (nA := 1) (As := [.int o2]) (rest := []) X (c_X10_isOne l g (mq := mq) (mf := mf) (mt := mt) (mmq := mmq) (mn := mn) (mkq := mkq) (mcq := mcq) (mhq := mhq) (maq := maq) (mz := mz) (my := my) (mS := mS) (mzq := mzq) (mtq := mtq) (mT := mT) (mA := mA) (mrq := mrq) (muq := muq) (mF := mF) (mZ := mZ) (moq := moq) (mK := mK) (mH := mH) (mgq := mgq) (miq := miq) (mI := mI) (mB := mB) (mlq := mlq) (msq := msq) (meq := meq) (mvq := mvq) (x := o2) (hn := by first | assumption | omega)) gX10_game_X10_isOne dX10_game_10 rfl (by decide +kernel) rfl (qb := 0) rfl rfl rfl ⟨rfl, rfl⟩ ⟨Nat.le_of_ble_eq_true rfl, Nat.le_of_ble_eq_true rfl⟩ ⟨Nat.le_of_ble_eq_true rfl, Nat.le_of_ble_eq_true rfl⟩ [0] (by decide) rfl rfl (Nat.le_of_ble_eq_true rfl) (st' := [.int (bI (bel o2 (nI mn)))]) rfl ?_
    refine V_if_eq (tgt := 25) (pc := 13) X dX10_game_13 (by decide) (fun c_5 => ?_) (fun c_5 => ?_)
    · skip
      have b_6 : (bel o2 (nI mn)) = false := bI0 c_5
      refine V_iconst (v := 0) (pc := 25) X dX10_game_25 (by decide) ?_
      refine V_istore (lv' := [(8, .int 0), (0, .ref mq), (1, .int o), (2, .int o2), (3, .int h1), (4, .int h2), (5, .int x), (6, .int y), (7, .int w)]) (pc := 26) X dX10_game_26 (Nat.le_of_ble_eq_true rfl) rfl ?_
      refine V_iload (pc := 28) X dX10_game_28 0 rfl ?_
      refine V_if_eq (tgt := 87) (pc := 30) X dX10_game_30 (by decide) (fun c_7 => ?_) (fun c_7 => ?_)
      · skip
        refine V_iconst (v := (-1)) (pc := 87) X dX10_game_87 (by decide) ?_
        exact Ve_iret (pc := 88) X hA9 dX10_game_88 hr ((-1), mS, msc, mth, mF, mZ, mK, mH, mga) (by first | rfl | (simp [b_4, b_6]; done)) (by
              try dsimp only
              unfold R_gameM
              exact Or.inl ⟨by simp [gameG, b_4, b_6], rfl⟩) (by rfl)
      · exact absurd (by decide) c_7
    · skip
      have b_8 : (bel o2 (nI mn)) = true := bI1 c_5
      refine V_iload_n (pc := 16) X dX10_game_16 rfl 1 rfl ?_
      refine V_iload_n (pc := 17) X dX10_game_17 rfl 2 rfl ?_
      refine V_icmp_eq (tgt := 25) (pc := 18) X dX10_game_18 (by decide) (fun c_9 => ?_) (fun c_9 => ?_)
      · skip
        refine V_iconst (v := 0) (pc := 25) X dX10_game_25 (by decide) ?_
        refine V_istore (lv' := [(8, .int 0), (0, .ref mq), (1, .int o), (2, .int o2), (3, .int h1), (4, .int h2), (5, .int x), (6, .int y), (7, .int w)]) (pc := 26) X dX10_game_26 (Nat.le_of_ble_eq_true rfl) rfl ?_
        refine V_iload (pc := 28) X dX10_game_28 0 rfl ?_
        refine V_if_eq (tgt := 87) (pc := 30) X dX10_game_30 (by decide) (fun c_10 => ?_) (fun c_10 => ?_)
        · skip
          refine V_iconst (v := (-1)) (pc := 87) X dX10_game_87 (by decide) ?_
          exact Ve_iret (pc := 88) X hA9 dX10_game_88 hr ((-1), mS, msc, mth, mF, mZ, mK, mH, mga) (by first | rfl | (simp [b_4, b_8, c_9]; done)) (by
                try dsimp only
                unfold R_gameM
                exact Or.inl ⟨by simp [gameG, b_4, b_8, c_9], rfl⟩) (by rfl)
        · exact absurd (by decide) c_10
      · skip
        refine V_iconst (v := 1) (pc := 21) X dX10_game_21 (by decide) ?_
        refine V_goto (tgt := 26) (pc := 22) X dX10_game_22 (by decide) ?_
        refine V_istore (lv' := [(8, .int 1), (0, .ref mq), (1, .int o), (2, .int o2), (3, .int h1), (4, .int h2), (5, .int x), (6, .int y), (7, .int w)]) (pc := 26) X dX10_game_26 (Nat.le_of_ble_eq_true rfl) rfl ?_
        refine V_iload (pc := 28) X dX10_game_28 0 rfl ?_
        refine V_if_eq (tgt := 87) (pc := 30) X dX10_game_30 (by decide) (fun c_11 => ?_) (fun c_11 => ?_)
        · exact absurd c_11 (by decide)
        · skip
          refine V_iload_n (pc := 33) X dX10_game_33 rfl 4 rfl ?_
          refine V_i2l (pc := 34) X dX10_game_34 ?_
          refine V_lconst (v := 1) (pc := 35) X dX10_game_35 (by decide) ?_
          refine V_ldc2 (v := 99) (pc := 36) X dX10_game_36 (by decide +kernel) ?_
          refine V_sg (pc := 39) (nA := 3) (As := [.long h1.toInt64, .long 1, .long 99]) (rest := []) X (c_X10_in l g (v := h1.toInt64) (v1 := 1) (v2 := 99) ) gX10_game_X10_in dX10_game_39 rfl (by decide +kernel) rfl ⟨rfl, rfl⟩ ⟨Nat.le_of_ble_eq_true rfl, Nat.le_of_ble_eq_true rfl⟩ ⟨Nat.le_of_ble_eq_true rfl, Nat.le_of_ble_eq_true rfl⟩ [] (by decide) rfl rfl (Nat.le_of_ble_eq_true rfl) (st' := [.int (bI (inJ h1.toInt64 1 99))]) rfl ?_
          refine V_seti (y := bI (stay h1)) (congrArg bI inJ_stay) ?_
          refine V_if_eq (tgt := 87) (pc := 42) X dX10_game_42 (by decide) (fun c_12 => ?_) (fun c_12 => ?_)
          · skip
            have b_13 : (stay h1) = false := bI0 c_12
            refine V_iconst (v := (-1)) (pc := 87) X dX10_game_87 (by decide) ?_
            exact Ve_iret (pc := 88) X hA9 dX10_game_88 hr ((-1), mS, msc, mth, mF, mZ, mK, mH, mga) (by first | rfl | (simp [b_4, b_8, c_9, b_13]; done)) (by
                  try dsimp only
                  unfold R_gameM
                  exact Or.inl ⟨by simp [gameG, b_4, b_8, c_9, b_13], rfl⟩) (by rfl)
          · skip
            have b_14 : (stay h1) = true := bI1 c_12
            refine V_iload (pc := 45) X dX10_game_45 5 rfl ?_
            refine V_i2l (pc := 47) X dX10_game_47 ?_
            refine V_lconst (v := 1) (pc := 48) X dX10_game_48 (by decide) ?_
            refine V_ldc2 (v := 99) (pc := 49) X dX10_game_49 (by decide +kernel) ?_
            refine V_sg (pc := 52) (nA := 3) (As := [.long h2.toInt64, .long 1, .long 99]) (rest := []) X (c_X10_in l g (v := h2.toInt64) (v1 := 1) (v2 := 99) ) gX10_game_X10_in dX10_game_52 rfl (by decide +kernel) rfl ⟨rfl, rfl⟩ ⟨Nat.le_of_ble_eq_true rfl, Nat.le_of_ble_eq_true rfl⟩ ⟨Nat.le_of_ble_eq_true rfl, Nat.le_of_ble_eq_true rfl⟩ [] (by decide) rfl rfl (Nat.le_of_ble_eq_true rfl) (st' := [.int (bI (inJ h2.toInt64 1 99))]) rfl ?_
            refine V_seti (y := bI (stay h2)) (congrArg bI inJ_stay) ?_
            refine V_if_eq (tgt := 87) (pc := 55) X dX10_game_55 (by decide) (fun c_15 => ?_) (fun c_15 => ?_)
            · skip
              have b_16 : (stay h2) = false := bI0 c_15
              refine V_iconst (v := (-1)) (pc := 87) X dX10_game_87 (by decide) ?_
              exact Ve_iret (pc := 88) X hA9 dX10_game_88 hr ((-1), mS, msc, mth, mF, mZ, mK, mH, mga) (by first | rfl | (simp [b_4, b_8, c_9, b_14, b_16]; done)) (by
                    try dsimp only
                    unfold R_gameM
                    exact Or.inl ⟨by simp [gameG, b_4, b_8, c_9, b_14, b_16], rfl⟩) (by rfl)
            · skip
              have b_17 : (stay h2) = true := bI1 c_15
              refine V_iload (pc := 58) X dX10_game_58 6 rfl ?_
              refine V_i2l (pc := 60) X dX10_game_60 ?_
              refine V_sg (pc := 61) (nA := 1) (As := [.long x.toInt64]) (rest := []) X (c_X10_isCell l g (v := x.toInt64) ) gX10_game_X10_isCell dX10_game_61 rfl (by decide +kernel) rfl ⟨rfl, rfl⟩ ⟨Nat.le_of_ble_eq_true rfl, Nat.le_of_ble_eq_true rfl⟩ ⟨Nat.le_of_ble_eq_true rfl, Nat.le_of_ble_eq_true rfl⟩ [] (by decide) rfl rfl (Nat.le_of_ble_eq_true rfl) (st' := [.int (bI (inJ x.toInt64 0 35))]) rfl ?_
              refine V_seti (y := bI (bel x 36)) (congrArg bI (inJ_bel 35 (by decide) (by decide))) ?_
              refine V_if_eq (tgt := 87) (pc := 64) X dX10_game_64 (by decide) (fun c_18 => ?_) (fun c_18 => ?_)
              · skip
                have b_19 : (bel x 36) = false := bI0 c_18
                refine V_iconst (v := (-1)) (pc := 87) X dX10_game_87 (by decide) ?_
                exact Ve_iret (pc := 88) X hA9 dX10_game_88 hr ((-1), mS, msc, mth, mF, mZ, mK, mH, mga) (by first | rfl | (simp [b_4, b_8, c_9, b_14, b_17, b_19]; done)) (by
                      try dsimp only
                      unfold R_gameM
                      exact Or.inl ⟨by simp [gameG, b_4, b_8, c_9, b_14, b_17, b_19], rfl⟩) (by rfl)
              · skip
                have b_20 : (bel x 36) = true := bI1 c_18
                refine V_iload (pc := 67) X dX10_game_67 7 rfl ?_
                refine V_i2l (pc := 69) X dX10_game_69 ?_
                refine V_sg (pc := 70) (nA := 1) (As := [.long y.toInt64]) (rest := []) X (c_X10_isCell l g (v := y.toInt64) ) gX10_game_X10_isCell dX10_game_70 rfl (by decide +kernel) rfl ⟨rfl, rfl⟩ ⟨Nat.le_of_ble_eq_true rfl, Nat.le_of_ble_eq_true rfl⟩ ⟨Nat.le_of_ble_eq_true rfl, Nat.le_of_ble_eq_true rfl⟩ [] (by decide) rfl rfl (Nat.le_of_ble_eq_true rfl) (st' := [.int (bI (inJ y.toInt64 0 35))]) rfl ?_
                refine V_seti (y := bI (bel y 36)) (congrArg bI (inJ_bel 35 (by decide) (by decide))) ?_
                refine V_if_eq (tgt := 87) (pc := 73) X dX10_game_73 (by decide) (fun c_21 => ?_) (fun c_21 => ?_)
                · skip
                  have b_22 : (bel y 36) = false := bI0 c_21
                  refine V_iconst (v := (-1)) (pc := 87) X dX10_game_87 (by decide) ?_
                  exact Ve_iret (pc := 88) X hA9 dX10_game_88 hr ((-1), mS, msc, mth, mF, mZ, mK, mH, mga) (by first | rfl | (simp [b_4, b_8, c_9, b_14, b_17, b_20, b_22]; done)) (by
                        try dsimp only
                        unfold R_gameM
                        exact Or.inl ⟨by simp [gameG, b_4, b_8, c_9, b_14, b_17, b_20, b_22], rfl⟩) (by rfl)
                · skip
                  have b_23 : (bel y 36) = true := bI1 c_21
                  refine V_iload (pc := 76) X dX10_game_76 8 rfl ?_
                  refine V_i2l (pc := 78) X dX10_game_78 ?_
                  refine V_lconst (v := 0) (pc := 79) X dX10_game_79 (by decide) ?_
                  refine V_lconst (v := 1) (pc := 80) X dX10_game_80 (by decide) ?_
                  refine V_sg (pc := 81) (nA := 3) (As := [.long w.toInt64, .long 0, .long 1]) (rest := []) X (c_X10_in l g (v := w.toInt64) (v1 := 0) (v2 := 1) ) gX10_game_X10_in dX10_game_81 rfl (by decide +kernel) rfl ⟨rfl, rfl⟩ ⟨Nat.le_of_ble_eq_true rfl, Nat.le_of_ble_eq_true rfl⟩ ⟨Nat.le_of_ble_eq_true rfl, Nat.le_of_ble_eq_true rfl⟩ [] (by decide) rfl rfl (Nat.le_of_ble_eq_true rfl) (st' := [.int (bI (inJ w.toInt64 0 1))]) rfl ?_
                  refine V_seti (y := bI (bel w 2)) (congrArg bI (inJ_bel 1 (by decide) (by decide))) ?_
                  refine V_if_ne (tgt := 89) (pc := 84) X dX10_game_84 (by decide) (fun c_24 => ?_) (fun c_24 => ?_)
                  · skip
                    have b_25 : (bel w 2) = true := bI1 c_24
                    obtain ⟨j_26, hj_27, rfl⟩ := bel_nat (n := mn) (by omega) b_4
                    obtain ⟨j_28, hj_29, rfl⟩ := bel_nat (n := mn) (by omega) b_8
                    have hne : ¬ j_26 = j_28 := fun q => c_9 (by rw [q])
                    refine V_aload_n (pc := 89) X dX10_game_89 rfl 1 rfl ?_
                    refine V_get (C := RX10) (T := TX10) (N := 30) (ci := 10) (pc := 90) X dX10_game_90 in10 0 rfl rfl 5 (by decide) (by decide +kernel) rfl rfl ?_
                    refine V_iload_n (pc := 93) X dX10_game_93 rfl 2 rfl ?_
                    refine V_iald (v := mce j_26) (pc := 94) X dX10_game_94 3 rfl (vp_in_nI (by omega) (by omega)) (by rw [nI_clamp (by omega)]) ?_
                    refine V_istore (lv' := [(9, .int (mce j_26)), (8, .int 1), (0, .ref mq), (1, .int (nI j_26)), (2, .int (nI j_28)), (3, .int h1), (4, .int h2), (5, .int x), (6, .int y), (7, .int w)]) (pc := 95) X dX10_game_95 (Nat.le_of_ble_eq_true rfl) rfl ?_
                    refine V_aload_n (pc := 97) X dX10_game_97 rfl 2 rfl ?_
                    refine V_get (C := RX10) (T := TX10) (N := 30) (ci := 10) (pc := 98) X dX10_game_98 in10 0 rfl rfl 6 (by decide) (by decide +kernel) rfl rfl ?_
                    refine V_iload_n (pc := 101) X dX10_game_101 rfl 3 rfl ?_
                    refine V_iald (v := mho j_26) (pc := 102) X dX10_game_102 4 rfl (vp_in_nI (by omega) (by omega)) (by rw [nI_clamp (by omega)]) ?_
                    refine V_istore (lv' := [(10, .int (mho j_26)), (9, .int (mce j_26)), (8, .int 1), (0, .ref mq), (1, .int (nI j_26)), (2, .int (nI j_28)), (3, .int h1), (4, .int h2), (5, .int x), (6, .int y), (7, .int w)]) (pc := 103) X dX10_game_103 (Nat.le_of_ble_eq_true rfl) rfl ?_
                    refine V_aload_n (pc := 105) X dX10_game_105 rfl 3 rfl ?_
                    refine V_iload_n (pc := 106) X dX10_game_106 rfl 5 rfl ?_
                    refine V_ve (pc := 107) (nA := 1) (As := [.int (nI j_28)]) (rest := []) X (c_X10_keeps l g (mq := mq) (mf := mf) (mt := mt) (mmq := mmq) (mn := mn) (mkq := mkq) (mcq := mcq) (mhq := mhq) (maq := maq) (mz := mz) (my := my) (mS := mS) (mzq := mzq) (mtq := mtq) (mT := mT) (mA := mA) (mrq := mrq) (muq := muq) (mF := mF) (mZ := mZ) (moq := moq) (mK := mK) (mH := mH) (mgq := mgq) (miq := miq) (mI := mI) (mB := mB) (mlq := mlq) (msq := msq) (meq := meq) (mvq := mvq) (mce := mce) (mho := mho) (j := j_28) (hj := by first | assumption | omega)) gX10_game_X10_keeps dX10_game_107 rfl (by decide +kernel) rfl (qb := 0) rfl rfl rfl ⟨rfl, rfl⟩ ⟨Nat.le_of_ble_eq_true rfl, Nat.le_of_ble_eq_true rfl⟩ ⟨Nat.le_of_ble_eq_true rfl, Nat.le_of_ble_eq_true rfl⟩ [0, 3, 4] (by decide) rfl [1, 2, 5, 6, 7] (by decide) (by decide) [ai g mmq 6 mm, ai g mkq 6 mkd, ai g mzq 36 msc, ai g muq 6 mth, ai g mgq 1296 mga] rfl [5, 0, 1, 6, 7, 2, 3, 4] (by decide) (fun u => [ob mq 10 [.long mf, .int (nI mt), .ref mmq, .int (nI mn), .ref mkq, .ref mcq, .ref mhq, .ref maq, .int mz, .int my, .long mS, .ref mzq, .ref mtq, .int (nI mT), .int (nI mA), .ref mrq, .ref muq, .long mF, .int mZ, .ref moq, .int (mce j_28), .int (mho j_28), .ref mgq, .ref miq, .long mI, .int (bI mB), .ref mlq, .ref msq, .ref meq, .ref mvq], ai g mmq 6 mm, ai g mkq 6 mkd, ai g mcq 6 mce, ai g mhq 6 mho, ai g mzq 36 msc, ai g muq 6 mth, ai g mgq 1296 mga]) (fun _ => rfl) rfl (Nat.le_of_ble_eq_true rfl) (fun u => []) (fun _ => rfl) (fun u hu_30 => ?_)
                    refine V_eqw (ws2 := [ob mq 10 [.long mf, .int (nI mt), .ref mmq, .int (nI mn), .ref mkq, .ref mcq, .ref mhq, .ref maq, .int mz, .int my, .long mS, .ref mzq, .ref mtq, .int (nI mT), .int (nI mA), .ref mrq, .ref muq, .long mF, .int mZ, .ref moq, .int (mce j_28), .int (mho j_28), .ref mgq, .ref miq, .long mI, .int (bI mB), .ref mlq, .ref msq, .ref meq, .ref mvq], ai g mmq 6 mm, ai g mkq 6 mkd, ai g mcq 6 mce, ai g mhq 6 mho, ai g mzq 36 msc, ai g muq 6 mth, ai g mgq 1296 mga]) rfl (V_eqs (st2 := []) rfl ?_)
                    refine V_iconst (v := 0) (pc := 110) X dX10_game_110 (by decide) ?_
                    refine V_istore (lv' := [(11, .int 0), (10, .int (mho j_26)), (9, .int (mce j_26)), (8, .int 1), (0, .ref mq), (1, .int (nI j_26)), (2, .int (nI j_28)), (3, .int h1), (4, .int h2), (5, .int x), (6, .int y), (7, .int w)]) (pc := 111) X dX10_game_111 (Nat.le_of_ble_eq_true rfl) rfl ?_
                    refine V_loop (pc := 113) (σ := Nat × (Nat → Int32) × (Nat → Int32) × (Nat → Int32) × Int64 × (Nat → Int32) × (Nat → Int32) × Int64 × Int32) (fun v9 => [(0, .ref mq), (1, .int (nI j_26)), (2, .int (nI j_28)), (3, .int h1), (4, .int h2), (5, .int x), (6, .int y), (7, .int w), (9, .int (mce j_26)), (10, .int (mho j_26)), (11, .int (nI v9.1))]) (fun v9 => [ob mq 10 [.long mf, .int (nI mt), .ref mmq, .int (nI mn), .ref mkq, .ref mcq, .ref mhq, .ref maq, .int mz, .int my, .long v9.2.2.2.2.1, .ref mzq, .ref mtq, .int (nI mT), .int (nI mA), .ref mrq, .ref muq, .long v9.2.2.2.2.2.2.2.1, .int v9.2.2.2.2.2.2.2.2, .ref moq, .int (mce j_28), .int (mho j_28), .ref mgq, .ref miq, .long mI, .int (bI mB), .ref mlq, .ref msq, .ref meq, .ref mvq], ai g mmq 6 mm, ai g mkq 6 mkd, ai g mcq 6 v9.2.1, ai g mhq 6 v9.2.2.1, ai g mzq 36 v9.2.2.2.2.2.1, ai g muq 6 v9.2.2.2.2.2.2.1, ai g mgq 1296 v9.2.2.2.1]) (fun v9 => (v9.1 ≤ 1296) ∧ (∀ a b, upd (upd v9.2.1 j_26 a) j_28 b = upd (upd mce j_26 a) j_28 b) ∧ (∀ a b, upd (upd v9.2.2.1 j_26 a) j_28 b = upd (upd mho j_26 a) j_28 b) ∧ (∀ q, q < mn → vp_in (v9.2.1 q) 36) ∧ (∀ q, q < v9.1 → v9.2.2.2.1 q = n99 (TG j_26 j_28 h1 h2 mkd mce mho mn mz mf mm mt x y (q / 36) (q % 36)))) (fun v9 => 1296 - v9.1) (0, mce, mho, mga, mS, msc, mth, mF, mZ) ⟨(by
                          try dsimp only
                          all_goals omega), (by
                          try dsimp only
                          exact fun _ _ => rfl), (by
                          try dsimp only
                          exact fun _ _ => rfl), (by
                          try dsimp only
                          exact hce), (by
                          try dsimp only
                          exact fun _ h => absurd h (Nat.not_lt_zero _))⟩ rfl [4, 5, 6, 7, 8, 9, 10, 11, 2, 1, 0] rfl ?_
                    rintro ⟨k, zc, zh, zg, zS, zs, zt, zF, zZ⟩ ⟨hk, hc, hh, hcz, hga⟩ ih113
                    try dsimp only at hk
                    try dsimp only at hc
                    try dsimp only at hh
                    try dsimp only at hcz
                    try dsimp only at hga
                    refine V_eqw (ws2 := [ob mq 10 [.long mf, .int (nI mt), .ref mmq, .int (nI mn), .ref mkq, .ref mcq, .ref mhq, .ref maq, .int mz, .int my, .long zS, .ref mzq, .ref mtq, .int (nI mT), .int (nI mA), .ref mrq, .ref muq, .long zF, .int zZ, .ref moq, .int (mce j_28), .int (mho j_28), .ref mgq, .ref miq, .long mI, .int (bI mB), .ref mlq, .ref msq, .ref meq, .ref mvq], ai g mmq 6 mm, ai g mkq 6 mkd, ai g mcq 6 zc, ai g mhq 6 zh, ai g mzq 36 zs, ai g muq 6 zt, ai g mgq 1296 zg]) rfl (V_eql (lv' := [(0, .ref mq), (1, .int (nI j_26)), (2, .int (nI j_28)), (3, .int h1), (4, .int h2), (5, .int x), (6, .int y), (7, .int w), (9, .int (mce j_26)), (10, .int (mho j_26)), (11, .int (nI k))]) rfl ?_)
                    refine V_iload (pc := 113) X dX10_game_113 10 rfl ?_
                    refine V_sipush (v := 1296) (pc := 115) X dX10_game_115 (by decide) ?_
                    refine V_icmp_ge (tgt := 195) (pc := 118) X dX10_game_118 (by decide) (fun c_31 => ?_) (fun c_31 => ?_)
                    · skip
                      have n_32 : 1296 ≤ k := nJ_le (a := 1296) (b := k) (by omega) (by omega) c_31
                      refine V_aload_n (pc := 195) X dX10_game_195 rfl 0 rfl ?_
                      refine V_get (C := RX10) (T := TX10) (N := 30) (ci := 10) (pc := 196) X dX10_game_196 in10 0 rfl rfl 5 (by decide) (by decide +kernel) rfl rfl ?_
                      refine V_iload_n (pc := 199) X dX10_game_199 rfl 1 rfl ?_
                      refine V_iload (pc := 200) X dX10_game_200 8 rfl ?_
                      refine V_iast (f' := upd zc j_26 (mce j_26)) (ws' := [ob mq 10 [.long mf, .int (nI mt), .ref mmq, .int (nI mn), .ref mkq, .ref mcq, .ref mhq, .ref maq, .int mz, .int my, .long zS, .ref mzq, .ref mtq, .int (nI mT), .int (nI mA), .ref mrq, .ref muq, .long zF, .int zZ, .ref moq, .int (mce j_28), .int (mho j_28), .ref mgq, .ref miq, .long mI, .int (bI mB), .ref mlq, .ref msq, .ref meq, .ref mvq], ai g mmq 6 mm, ai g mkq 6 mkd, ai g mcq 6 (upd zc j_26 (mce j_26)), ai g mhq 6 zh, ai g mzq 36 zs, ai g muq 6 zt, ai g mgq 1296 zg]) (pc := 202) X dX10_game_202 3 rfl (vp_in_nI (by omega) (by omega)) (by rw [nI_clamp (by omega)]) rfl ?_
                      refine V_aload_n (pc := 203) X dX10_game_203 rfl 0 rfl ?_
                      refine V_get (C := RX10) (T := TX10) (N := 30) (ci := 10) (pc := 204) X dX10_game_204 in10 0 rfl rfl 6 (by decide) (by decide +kernel) rfl rfl ?_
                      refine V_iload_n (pc := 207) X dX10_game_207 rfl 1 rfl ?_
                      refine V_iload (pc := 208) X dX10_game_208 9 rfl ?_
                      refine V_iast (f' := upd zh j_26 (mho j_26)) (ws' := [ob mq 10 [.long mf, .int (nI mt), .ref mmq, .int (nI mn), .ref mkq, .ref mcq, .ref mhq, .ref maq, .int mz, .int my, .long zS, .ref mzq, .ref mtq, .int (nI mT), .int (nI mA), .ref mrq, .ref muq, .long zF, .int zZ, .ref moq, .int (mce j_28), .int (mho j_28), .ref mgq, .ref miq, .long mI, .int (bI mB), .ref mlq, .ref msq, .ref meq, .ref mvq], ai g mmq 6 mm, ai g mkq 6 mkd, ai g mcq 6 (upd zc j_26 (mce j_26)), ai g mhq 6 (upd zh j_26 (mho j_26)), ai g mzq 36 zs, ai g muq 6 zt, ai g mgq 1296 zg]) (pc := 210) X dX10_game_210 4 rfl (vp_in_nI (by omega) (by omega)) (by rw [nI_clamp (by omega)]) rfl ?_
                      refine V_aload_n (pc := 211) X dX10_game_211 rfl 0 rfl ?_
                      refine V_iload_n (pc := 212) X dX10_game_212 rfl 2 rfl ?_
                      refine V_ve (pc := 213) (nA := 1) (As := [.int (nI j_28)]) (rest := []) X (c_X10_back l g (mq := mq) (mf := mf) (mt := mt) (mmq := mmq) (mn := mn) (mkq := mkq) (mcq := mcq) (mhq := mhq) (maq := maq) (mz := mz) (my := my) (mS := zS) (mzq := mzq) (mtq := mtq) (mT := mT) (mA := mA) (mrq := mrq) (muq := muq) (mF := zF) (mZ := zZ) (moq := moq) (mK := mce j_28) (mH := mho j_28) (mgq := mgq) (miq := miq) (mI := mI) (mB := mB) (mlq := mlq) (msq := msq) (meq := meq) (mvq := mvq) (mce := upd zc j_26 (mce j_26)) (mho := upd zh j_26 (mho j_26)) (j := j_28) (hj := by first | assumption | omega)) gX10_game_X10_back dX10_game_213 rfl (by decide +kernel) rfl (qb := 0) rfl rfl rfl ⟨rfl, rfl⟩ ⟨Nat.le_of_ble_eq_true rfl, Nat.le_of_ble_eq_true rfl⟩ ⟨Nat.le_of_ble_eq_true rfl, Nat.le_of_ble_eq_true rfl⟩ [0, 3, 4] (by decide) rfl [1, 2, 5, 6, 7] (by decide) (by decide) [ai g mmq 6 mm, ai g mkq 6 mkd, ai g mzq 36 zs, ai g muq 6 zt, ai g mgq 1296 zg] rfl [5, 0, 1, 6, 7, 2, 3, 4] (by decide) (fun u => [ob mq 10 [.long mf, .int (nI mt), .ref mmq, .int (nI mn), .ref mkq, .ref mcq, .ref mhq, .ref maq, .int mz, .int my, .long zS, .ref mzq, .ref mtq, .int (nI mT), .int (nI mA), .ref mrq, .ref muq, .long zF, .int zZ, .ref moq, .int (mce j_28), .int (mho j_28), .ref mgq, .ref miq, .long mI, .int (bI mB), .ref mlq, .ref msq, .ref meq, .ref mvq], ai g mmq 6 mm, ai g mkq 6 mkd, ai g mcq 6 (upd (upd zc j_26 (mce j_26)) j_28 (mce j_28)), ai g mhq 6 (upd (upd zh j_26 (mho j_26)) j_28 (mho j_28)), ai g mzq 36 zs, ai g muq 6 zt, ai g mgq 1296 zg]) (fun _ => rfl) rfl (Nat.le_of_ble_eq_true rfl) (fun u => []) (fun _ => rfl) (fun u hu_33 => ?_)
                      refine V_eqw (ws2 := [ob mq 10 [.long mf, .int (nI mt), .ref mmq, .int (nI mn), .ref mkq, .ref mcq, .ref mhq, .ref maq, .int mz, .int my, .long zS, .ref mzq, .ref mtq, .int (nI mT), .int (nI mA), .ref mrq, .ref muq, .long zF, .int zZ, .ref moq, .int (mce j_28), .int (mho j_28), .ref mgq, .ref miq, .long mI, .int (bI mB), .ref mlq, .ref msq, .ref meq, .ref mvq], ai g mmq 6 mm, ai g mkq 6 mkd, ai g mcq 6 (upd (upd zc j_26 (mce j_26)) j_28 (mce j_28)), ai g mhq 6 (upd (upd zh j_26 (mho j_26)) j_28 (mho j_28)), ai g mzq 36 zs, ai g muq 6 zt, ai g mgq 1296 zg]) rfl (V_eqs (st2 := []) rfl ?_)
                      refine V_eqw (ws2 := [ob mq 10 [.long mf, .int (nI mt), .ref mmq, .int (nI mn), .ref mkq, .ref mcq, .ref mhq, .ref maq, .int mz, .int my, .long zS, .ref mzq, .ref mtq, .int (nI mT), .int (nI mA), .ref mrq, .ref muq, .long zF, .int zZ, .ref moq, .int (mce j_28), .int (mho j_28), .ref mgq, .ref miq, .long mI, .int (bI mB), .ref mlq, .ref msq, .ref meq, .ref mvq], ai g mmq 6 mm, ai g mkq 6 mkd, ai g mcq 6 mce, ai g mhq 6 mho, ai g mzq 36 zs, ai g muq 6 zt, ai g mgq 1296 zg]) (by rw [upd_back2 hc, upd_back2 hh]) ?_
                      refine V_iconst (v := 0) (pc := 216) X dX10_game_216 (by decide) ?_
                      refine V_istore (lv' := [(11, .int 0), (0, .ref mq), (1, .int (nI j_26)), (2, .int (nI j_28)), (3, .int h1), (4, .int h2), (5, .int x), (6, .int y), (7, .int w), (9, .int (mce j_26)), (10, .int (mho j_26))]) (pc := 217) X dX10_game_217 (Nat.le_of_ble_eq_true rfl) rfl ?_
                      refine V_bipush (v := (-4)) (pc := 219) X dX10_game_219 (by decide) ?_
                      refine V_istore (lv' := [(12, .int (-4)), (11, .int 0), (0, .ref mq), (1, .int (nI j_26)), (2, .int (nI j_28)), (3, .int h1), (4, .int h2), (5, .int x), (6, .int y), (7, .int w), (9, .int (mce j_26)), (10, .int (mho j_26))]) (pc := 221) X dX10_game_221 (Nat.le_of_ble_eq_true rfl) rfl ?_
                      refine V_sipush (v := 1295) (pc := 223) X dX10_game_223 (by decide) ?_
                      refine V_seti (y := (nI 1296) - 1) (by decide) ?_
                      refine V_istore (lv' := [(13, .int ((nI 1296) - 1)), (12, .int (-4)), (11, .int 0), (0, .ref mq), (1, .int (nI j_26)), (2, .int (nI j_28)), (3, .int h1), (4, .int h2), (5, .int x), (6, .int y), (7, .int w), (9, .int (mce j_26)), (10, .int (mho j_26))]) (pc := 226) X dX10_game_226 (Nat.le_of_ble_eq_true rfl) rfl ?_
                      refine V_loop (pc := 228) (σ := Nat × Nat × Int32) (fun v9 => [(0, .ref mq), (7, .int w), (11, .int (nI v9.2.1)), (12, .int v9.2.2), (13, .int ((nI v9.1) - 1))]) (fun v9 => [ob mq 10 [.long mf, .int (nI mt), .ref mmq, .int (nI mn), .ref mkq, .ref mcq, .ref mhq, .ref maq, .int mz, .int my, .long zS, .ref mzq, .ref mtq, .int (nI mT), .int (nI mA), .ref mrq, .ref muq, .long zF, .int zZ, .ref moq, .int (mce j_28), .int (mho j_28), .ref mgq, .ref miq, .long mI, .int (bI mB), .ref mlq, .ref msq, .ref meq, .ref mvq], ai g mmq 6 mm, ai g mkq 6 mkd, ai g mcq 6 mce, ai g mhq 6 mho, ai g mzq 36 zs, ai g muq 6 zt, ai g mgq 1296 zg]) (fun v9 => (v9.1 ≤ 1296) ∧ (v9.2.1 = dC zg (1296 - v9.1)) ∧ (v9.2.2 = dF zg (1296 - v9.1))) (fun v9 => v9.1) (1296, 0, (-4)) ⟨(by
                            try dsimp only
                            all_goals omega), (by
                            try dsimp only
                            all_goals rfl), (by
                            try dsimp only
                            all_goals rfl)⟩ rfl [3, 10, 2, 1, 0] rfl ?_
                      rintro ⟨q, cnt, fs⟩ ⟨hq, hcn, hfs⟩ ih228
                      try dsimp only at hq
                      try dsimp only at hcn
                      try dsimp only at hfs
                      refine V_eqw (ws2 := [ob mq 10 [.long mf, .int (nI mt), .ref mmq, .int (nI mn), .ref mkq, .ref mcq, .ref mhq, .ref maq, .int mz, .int my, .long zS, .ref mzq, .ref mtq, .int (nI mT), .int (nI mA), .ref mrq, .ref muq, .long zF, .int zZ, .ref moq, .int (mce j_28), .int (mho j_28), .ref mgq, .ref miq, .long mI, .int (bI mB), .ref mlq, .ref msq, .ref meq, .ref mvq], ai g mmq 6 mm, ai g mkq 6 mkd, ai g mcq 6 mce, ai g mhq 6 mho, ai g mzq 36 zs, ai g muq 6 zt, ai g mgq 1296 zg]) rfl (V_eql (lv' := [(0, .ref mq), (7, .int w), (11, .int (nI cnt)), (12, .int fs), (13, .int ((nI q) - 1))]) rfl ?_)
                      refine V_iload (pc := 228) X dX10_game_228 4 rfl ?_
                      refine V_if_lt (tgt := 363) (pc := 230) X dX10_game_230 (by decide) (fun c_34 => ?_) (fun c_34 => ?_)
                      · skip
                        have hq0 := jr0 c_34 (by omega)
                        rw [hq0] at hcn hfs
                        refine V_iload (pc := 363) X dX10_game_363 1 rfl ?_
                        refine V_if_ne (tgt := 373) (pc := 365) X dX10_game_365 (by decide) (fun c_35 => ?_) (fun c_35 => ?_)
                        · skip
                          refine V_iload (pc := 373) X dX10_game_373 3 rfl ?_
                          exact Ve_iret (pc := 375) X hA9 dX10_game_375 hr (fs, zS, zs, zt, zF, zZ, (mce j_28), (mho j_28), zg) (by first | rfl | (simp [b_4, b_8, c_9, b_14, b_17, b_20, b_23, b_25, hj_27, hj_29, hne, n_32, c_34, c_35]; done)) (by
                                try dsimp only
                                unfold R_gameM
                                refine Or.inr ⟨by simp [gameG, b_4, b_8, c_9, b_14, b_17, b_20, b_23, b_25, hj_27, hj_29, hne, n_32, c_34, c_35, show bel (0 : Int32) 2 = true from by decide], zg, ?_, (by rw [if_neg (by assumption), hfs])⟩
                                intro k9 hk9
                                rw [nI_clamp (n := j_26) (by omega), nI_clamp (n := j_28) (by omega)]
                                exact hga k9 (by omega)) (by rfl)
                        · skip
                          refine V_iload (pc := 368) X dX10_game_368 2 rfl ?_
                          refine V_goto (tgt := 375) (pc := 370) X dX10_game_370 (by decide) ?_
                          exact Ve_iret (pc := 375) X hA9 dX10_game_375 hr (nI cnt, zS, zs, zt, zF, zZ, (mce j_28), (mho j_28), zg) (by first | rfl | (simp [b_4, b_8, c_9, b_14, b_17, b_20, b_23, b_25, hj_27, hj_29, hne, n_32, c_34, c_35]; done)) (by
                                try dsimp only
                                unfold R_gameM
                                refine Or.inr ⟨by simp [gameG, b_4, b_8, c_9, b_14, b_17, b_20, b_23, b_25, hj_27, hj_29, hne, n_32, c_34, c_35, show bel (0 : Int32) 2 = true from by decide], zg, ?_, (by rw [if_pos (by assumption), hcn])⟩
                                intro k9 hk9
                                rw [nI_clamp (n := j_26) (by omega), nI_clamp (n := j_28) (by omega)]
                                exact hga k9 (by omega)) (by rfl)
                      · skip
                        obtain ⟨i_36, rfl⟩ := jr1 c_34
                        refine V_eql (lv' := [(0, .ref mq), (7, .int w), (11, .int (nI cnt)), (12, .int fs), (13, .int (nI i_36))]) (by rw [nI_pred]) ?_
                        refine V_iconst (v := 1) (pc := 233) X dX10_game_233 (by decide) ?_
                        refine V_istore (lv' := [(14, .int 1), (0, .ref mq), (7, .int w), (11, .int (nI cnt)), (12, .int fs), (13, .int (nI i_36))]) (pc := 234) X dX10_game_234 (Nat.le_of_ble_eq_true rfl) rfl ?_
                        refine V_iconst (v := 0) (pc := 236) X dX10_game_236 (by decide) ?_
                        refine V_istore (lv' := [(15, .int 0), (14, .int 1), (0, .ref mq), (7, .int w), (11, .int (nI cnt)), (12, .int fs), (13, .int (nI i_36))]) (pc := 237) X dX10_game_237 (Nat.le_of_ble_eq_true rfl) rfl ?_
                        refine V_loop (pc := 239) (σ := Nat × Bool) (fun v9 => [(0, .ref mq), (7, .int w), (11, .int (nI cnt)), (12, .int fs), (13, .int (nI i_36)), (14, .int (bI v9.2)), (15, .int (nI v9.1))]) (fun v9 => [ob mq 10 [.long mf, .int (nI mt), .ref mmq, .int (nI mn), .ref mkq, .ref mcq, .ref mhq, .ref maq, .int mz, .int my, .long zS, .ref mzq, .ref mtq, .int (nI mT), .int (nI mA), .ref mrq, .ref muq, .long zF, .int zZ, .ref moq, .int (mce j_28), .int (mho j_28), .ref mgq, .ref miq, .long mI, .int (bI mB), .ref mlq, .ref msq, .ref meq, .ref mvq], ai g mmq 6 mm, ai g mkq 6 mkd, ai g mcq 6 mce, ai g mhq 6 mho, ai g mzq 36 zs, ai g muq 6 zt, ai g mgq 1296 zg]) (fun v9 => (v9.1 ≤ 36) ∧ (v9.2 = tsL zg i_36 v9.1)) (fun v9 => 36 - v9.1) (0, true) ⟨(by
                              try dsimp only
                              all_goals omega), (by
                              try dsimp only
                              all_goals rfl)⟩ rfl [2, 3, 4, 5, 6, 1, 0] rfl ?_
                        rintro ⟨l, ok⟩ ⟨hl, hok⟩ ih239
                        try dsimp only at hl
                        try dsimp only at hok
                        refine V_eqw (ws2 := [ob mq 10 [.long mf, .int (nI mt), .ref mmq, .int (nI mn), .ref mkq, .ref mcq, .ref mhq, .ref maq, .int mz, .int my, .long zS, .ref mzq, .ref mtq, .int (nI mT), .int (nI mA), .ref mrq, .ref muq, .long zF, .int zZ, .ref moq, .int (mce j_28), .int (mho j_28), .ref mgq, .ref miq, .long mI, .int (bI mB), .ref mlq, .ref msq, .ref meq, .ref mvq], ai g mmq 6 mm, ai g mkq 6 mkd, ai g mcq 6 mce, ai g mhq 6 mho, ai g mzq 36 zs, ai g muq 6 zt, ai g mgq 1296 zg]) rfl (V_eql (lv' := [(0, .ref mq), (7, .int w), (11, .int (nI cnt)), (12, .int fs), (13, .int (nI i_36)), (14, .int (bI ok)), (15, .int (nI l))]) rfl ?_)
                        refine V_iload (pc := 239) X dX10_game_239 6 rfl ?_
                        refine V_bipush (v := 36) (pc := 241) X dX10_game_241 (by decide) ?_
                        refine V_icmp_ge (tgt := 316) (pc := 243) X dX10_game_243 (by decide) (fun c_37 => ?_) (fun c_37 => ?_)
                        · skip
                          have n_38 : 36 ≤ l := nJ_le (a := 36) (b := l) (by omega) (by omega) c_37
                          refine V_iload (pc := 316) X dX10_game_316 2 rfl ?_
                          refine V_iload (pc := 318) X dX10_game_318 5 rfl ?_
                          refine V_if_eq (tgt := 327) (pc := 320) X dX10_game_320 (by decide) (fun c_39 => ?_) (fun c_39 => ?_)
                          · skip
                            have b_40 : ok = false := bI0 c_39
                            have ht9 : tsL zg i_36 36 = false := (by rw [show (36 : Nat) = l by omega]; exact hok.symm.trans b_40)
                            refine V_iconst (v := 0) (pc := 327) X dX10_game_327 (by decide) ?_
                            refine V_iadd (pc := 328) X dX10_game_328 ?_
                            refine V_seti (y := nI (cnt + 0)) (nI_add cnt 0) ?_
                            refine V_istore (lv' := [(11, .int (nI (cnt + 0))), (0, .ref mq), (7, .int w), (12, .int fs), (13, .int (nI i_36)), (14, .int (bI ok)), (15, .int (nI l))]) (pc := 329) X dX10_game_329 (Nat.le_of_ble_eq_true rfl) rfl ?_
                            refine V_iload (pc := 331) X dX10_game_331 5 rfl ?_
                            refine V_if_eq (tgt := 353) (pc := 333) X dX10_game_333 (by decide) (fun c_41 => ?_) (fun c_41 => ?_)
                            · skip
                              have b_42 : ok = false := bI0 c_41
                              refine V_iload (pc := 353) X dX10_game_353 3 rfl ?_
                              refine V_istore (lv' := [(12, .int fs), (11, .int (nI (cnt + 0))), (0, .ref mq), (7, .int w), (13, .int (nI i_36)), (14, .int (bI ok)), (15, .int (nI l))]) (pc := 355) X dX10_game_355 (Nat.le_of_ble_eq_true rfl) rfl ?_
                              refine V_iinc (v := (nI i_36) - 1) (lv' := [(13, .int ((nI i_36) - 1)), (12, .int fs), (11, .int (nI (cnt + 0))), (0, .ref mq), (7, .int w), (14, .int (bI ok)), (15, .int (nI l))]) (pc := 357) X dX10_game_357 4 rfl (by rw [Int32.sub_eq_add_neg]; rfl) (Nat.le_of_ble_eq_true rfl) rfl ?_
                              refine V_goto (tgt := 228) (pc := 360) X dX10_game_360 (by decide) ?_
                              refine V_lv [3, 4, 2, 1, 0] rfl ?_
                              exact ih228 (i_36, cnt + 0, fs) ⟨(by
                                    try dsimp only
                                    all_goals omega), (by
                                    try dsimp only
                                    rw [hcn]; exact dC_n (by omega) ht9), (by
                                    try dsimp only
                                    rw [hfs]; exact dF_n (by omega) ht9)⟩ (by
                                    try dsimp only
                                    all_goals omega)
                            · exact absurd ((bI1 c_41).symm.trans b_40) (by decide)
                          · skip
                            have b_43 : ok = true := bI1 c_39
                            have ht9 : tsL zg i_36 36 = true := (by rw [show (36 : Nat) = l by omega]; exact hok.symm.trans b_43)
                            refine V_iconst (v := 1) (pc := 323) X dX10_game_323 (by decide) ?_
                            refine V_goto (tgt := 328) (pc := 324) X dX10_game_324 (by decide) ?_
                            refine V_iadd (pc := 328) X dX10_game_328 ?_
                            refine V_seti (y := nI (cnt + 1)) (nI_add cnt 1) ?_
                            refine V_istore (lv' := [(11, .int (nI (cnt + 1))), (0, .ref mq), (7, .int w), (12, .int fs), (13, .int (nI i_36)), (14, .int (bI ok)), (15, .int (nI l))]) (pc := 329) X dX10_game_329 (Nat.le_of_ble_eq_true rfl) rfl ?_
                            refine V_iload (pc := 331) X dX10_game_331 5 rfl ?_
                            refine V_if_eq (tgt := 353) (pc := 333) X dX10_game_333 (by decide) (fun c_44 => ?_) (fun c_44 => ?_)
                            · exact absurd ((bI0 c_44).symm.trans b_43) (by decide)
                            · skip
                              have b_45 : ok = true := bI1 c_44
                              refine V_bipush (v := 100) (pc := 336) X dX10_game_336 (by decide) ?_
                              refine V_iload (pc := 338) X dX10_game_338 4 rfl ?_
                              refine V_bipush (v := 36) (pc := 340) X dX10_game_340 (by decide) ?_
                              refine V_idiv (pc := 342) X dX10_game_342 (by decide) ?_
                              refine V_seti (y := nI (i_36 / 36)) (pk_div (a := i_36) (d := 36) (by omega) (by omega) (by omega)) ?_
                              refine V_imul (pc := 343) X dX10_game_343 ?_
                              refine V_seti (y := nI (100 * (i_36 / 36))) (pk_mul 100 (i_36 / 36)) ?_
                              refine V_iload (pc := 344) X dX10_game_344 4 rfl ?_
                              refine V_bipush (v := 36) (pc := 346) X dX10_game_346 (by decide) ?_
                              refine V_irem (pc := 348) X dX10_game_348 (by decide) ?_
                              refine V_seti (y := nI (i_36 % 36)) (pk_rem (a := i_36) (d := 36) (by omega) (by omega) (by omega)) ?_
                              refine V_iadd (pc := 349) X dX10_game_349 ?_
                              refine V_seti (y := nI ((100 * (i_36 / 36)) + (i_36 % 36))) (nI_add (100 * (i_36 / 36)) (i_36 % 36)) ?_
                              refine V_goto (tgt := 355) (pc := 350) X dX10_game_350 (by decide) ?_
                              refine V_istore (lv' := [(12, .int (nI ((100 * (i_36 / 36)) + (i_36 % 36)))), (11, .int (nI (cnt + 1))), (0, .ref mq), (7, .int w), (13, .int (nI i_36)), (14, .int (bI ok)), (15, .int (nI l))]) (pc := 355) X dX10_game_355 (Nat.le_of_ble_eq_true rfl) rfl ?_
                              refine V_iinc (v := (nI i_36) - 1) (lv' := [(13, .int ((nI i_36) - 1)), (12, .int (nI ((100 * (i_36 / 36)) + (i_36 % 36)))), (11, .int (nI (cnt + 1))), (0, .ref mq), (7, .int w), (14, .int (bI ok)), (15, .int (nI l))]) (pc := 357) X dX10_game_357 4 rfl (by rw [Int32.sub_eq_add_neg]; rfl) (Nat.le_of_ble_eq_true rfl) rfl ?_
                              refine V_goto (tgt := 228) (pc := 360) X dX10_game_360 (by decide) ?_
                              refine V_lv [3, 4, 2, 1, 0] rfl ?_
                              exact ih228 (i_36, cnt + 1, nI ((100 * (i_36 / 36)) + (i_36 % 36))) ⟨(by
                                    try dsimp only
                                    all_goals omega), (by
                                    try dsimp only
                                    rw [hcn]; exact dC_y (by omega) ht9), (by
                                    try dsimp only
                                    exact dF_y (by omega) ht9)⟩ (by
                                    try dsimp only
                                    all_goals omega)
                        · skip
                          have n_46 : l < 36 := nJ_nle (a := 36) (b := l) (by omega) (by omega) c_37
                          refine V_iload (pc := 246) X dX10_game_246 5 rfl ?_
                          refine V_if_eq (tgt := 316) (pc := 248) X dX10_game_248 (by decide) (fun c_47 => ?_) (fun c_47 => ?_)
                          · skip
                            have b_48 : ok = false := bI0 c_47
                            have ht9 := tsL_no (hok.symm.trans b_48) 36 (by omega)
                            refine V_iload (pc := 316) X dX10_game_316 2 rfl ?_
                            refine V_iload (pc := 318) X dX10_game_318 5 rfl ?_
                            refine V_if_eq (tgt := 327) (pc := 320) X dX10_game_320 (by decide) (fun c_49 => ?_) (fun c_49 => ?_)
                            · skip
                              have b_50 : ok = false := bI0 c_49
                              refine V_iconst (v := 0) (pc := 327) X dX10_game_327 (by decide) ?_
                              refine V_iadd (pc := 328) X dX10_game_328 ?_
                              refine V_seti (y := nI (cnt + 0)) (nI_add cnt 0) ?_
                              refine V_istore (lv' := [(11, .int (nI (cnt + 0))), (0, .ref mq), (7, .int w), (12, .int fs), (13, .int (nI i_36)), (14, .int (bI ok)), (15, .int (nI l))]) (pc := 329) X dX10_game_329 (Nat.le_of_ble_eq_true rfl) rfl ?_
                              refine V_iload (pc := 331) X dX10_game_331 5 rfl ?_
                              refine V_if_eq (tgt := 353) (pc := 333) X dX10_game_333 (by decide) (fun c_51 => ?_) (fun c_51 => ?_)
                              · skip
                                have b_52 : ok = false := bI0 c_51
                                refine V_iload (pc := 353) X dX10_game_353 3 rfl ?_
                                refine V_istore (lv' := [(12, .int fs), (11, .int (nI (cnt + 0))), (0, .ref mq), (7, .int w), (13, .int (nI i_36)), (14, .int (bI ok)), (15, .int (nI l))]) (pc := 355) X dX10_game_355 (Nat.le_of_ble_eq_true rfl) rfl ?_
                                refine V_iinc (v := (nI i_36) - 1) (lv' := [(13, .int ((nI i_36) - 1)), (12, .int fs), (11, .int (nI (cnt + 0))), (0, .ref mq), (7, .int w), (14, .int (bI ok)), (15, .int (nI l))]) (pc := 357) X dX10_game_357 4 rfl (by rw [Int32.sub_eq_add_neg]; rfl) (Nat.le_of_ble_eq_true rfl) rfl ?_
                                refine V_goto (tgt := 228) (pc := 360) X dX10_game_360 (by decide) ?_
                                refine V_lv [3, 4, 2, 1, 0] rfl ?_
                                exact ih228 (i_36, cnt + 0, fs) ⟨(by
                                      try dsimp only
                                      all_goals omega), (by
                                      try dsimp only
                                      rw [hcn]; exact dC_n (by omega) ht9), (by
                                      try dsimp only
                                      rw [hfs]; exact dF_n (by omega) ht9)⟩ (by
                                      try dsimp only
                                      all_goals omega)
                              · exact absurd ((bI1 c_51).symm.trans b_50) (by decide)
                            · exact absurd ((bI1 c_49).symm.trans b_48) (by decide)
                          · skip
                            have b_53 : ok = true := bI1 c_47
                            refine V_aload_n (pc := 251) X dX10_game_251 rfl 0 rfl ?_
                            refine V_get (C := RX10) (T := TX10) (N := 30) (ci := 10) (pc := 252) X dX10_game_252 in10 0 rfl rfl 22 (by decide) (by decide +kernel) rfl rfl ?_
                            refine V_bipush (v := 36) (pc := 255) X dX10_game_255 (by decide) ?_
                            refine V_iload (pc := 257) X dX10_game_257 6 rfl ?_
                            refine V_imul (pc := 259) X dX10_game_259 ?_
                            refine V_seti (y := nI (36 * l)) (pk_mul 36 l) ?_
                            refine V_iload (pc := 260) X dX10_game_260 4 rfl ?_
                            refine V_bipush (v := 36) (pc := 262) X dX10_game_262 (by decide) ?_
                            refine V_irem (pc := 264) X dX10_game_264 (by decide) ?_
                            refine V_seti (y := nI (i_36 % 36)) (pk_rem (a := i_36) (d := 36) (by omega) (by omega) (by omega)) ?_
                            refine V_iadd (pc := 265) X dX10_game_265 ?_
                            refine V_seti (y := nI ((36 * l) + (i_36 % 36))) (nI_add (36 * l) (i_36 % 36)) ?_
                            refine V_iald (v := zg ((36 * l) + (i_36 % 36))) (pc := 266) X dX10_game_266 7 rfl (vp_in_nI (by omega) (by omega)) (by rw [nI_clamp (by omega)]) ?_
                            refine V_aload_n (pc := 267) X dX10_game_267 rfl 0 rfl ?_
                            refine V_get (C := RX10) (T := TX10) (N := 30) (ci := 10) (pc := 268) X dX10_game_268 in10 0 rfl rfl 22 (by decide) (by decide +kernel) rfl rfl ?_
                            refine V_iload (pc := 271) X dX10_game_271 4 rfl ?_
                            refine V_iald (v := zg i_36) (pc := 273) X dX10_game_273 7 rfl (vp_in_nI (by omega) (by omega)) (by rw [nI_clamp (by omega)]) ?_
                            refine V_icmp_lt (tgt := 307) (pc := 274) X dX10_game_274 (by decide) (fun c_54 => ?_) (fun c_54 => ?_)
                            · skip
                              refine V_iconst (v := 0) (pc := 307) X dX10_game_307 (by decide) ?_
                              refine V_istore (lv' := [(14, .int 0), (0, .ref mq), (7, .int w), (11, .int (nI cnt)), (12, .int fs), (13, .int (nI i_36)), (15, .int (nI l))]) (pc := 308) X dX10_game_308 (Nat.le_of_ble_eq_true rfl) rfl ?_
                              refine V_iinc (v := nI (l + 1)) (lv' := [(15, .int (nI (l + 1))), (14, .int 0), (0, .ref mq), (7, .int w), (11, .int (nI cnt)), (12, .int fs), (13, .int (nI i_36))]) (pc := 310) X dX10_game_310 6 rfl (nI_add l 1) (Nat.le_of_ble_eq_true rfl) rfl ?_
                              refine V_goto (tgt := 239) (pc := 313) X dX10_game_313 (by decide) ?_
                              refine V_lv [2, 3, 4, 5, 6, 1, 0] rfl ?_
                              exact ih239 (l + 1, false) ⟨(by
                                    try dsimp only
                                    all_goals omega), (by
                                    try dsimp only
                                    rw [tsL, ← hok, b_53, decide_eq_false (Int32.not_le.mpr c_54)]; rfl)⟩ (by
                                    try dsimp only
                                    all_goals omega)
                            · skip
                              refine V_aload_n (pc := 277) X dX10_game_277 rfl 0 rfl ?_
                              refine V_get (C := RX10) (T := TX10) (N := 30) (ci := 10) (pc := 278) X dX10_game_278 in10 0 rfl rfl 22 (by decide) (by decide +kernel) rfl rfl ?_
                              refine V_iload (pc := 281) X dX10_game_281 4 rfl ?_
                              refine V_bipush (v := 36) (pc := 283) X dX10_game_283 (by decide) ?_
                              refine V_idiv (pc := 285) X dX10_game_285 (by decide) ?_
                              refine V_seti (y := nI (i_36 / 36)) (pk_div (a := i_36) (d := 36) (by omega) (by omega) (by omega)) ?_
                              refine V_bipush (v := 36) (pc := 286) X dX10_game_286 (by decide) ?_
                              refine V_imul (pc := 288) X dX10_game_288 ?_
                              refine V_seti (y := nI ((i_36 / 36) * 36)) (pk_mul (i_36 / 36) 36) ?_
                              refine V_iload (pc := 289) X dX10_game_289 6 rfl ?_
                              refine V_iadd (pc := 291) X dX10_game_291 ?_
                              refine V_seti (y := nI (((i_36 / 36) * 36) + l)) (nI_add ((i_36 / 36) * 36) l) ?_
                              refine V_iald (v := zg (((i_36 / 36) * 36) + l)) (pc := 292) X dX10_game_292 7 rfl (vp_in_nI (by omega) (by omega)) (by rw [nI_clamp (by omega)]) ?_
                              refine V_aload_n (pc := 293) X dX10_game_293 rfl 0 rfl ?_
                              refine V_get (C := RX10) (T := TX10) (N := 30) (ci := 10) (pc := 294) X dX10_game_294 in10 0 rfl rfl 22 (by decide) (by decide +kernel) rfl rfl ?_
                              refine V_iload (pc := 297) X dX10_game_297 4 rfl ?_
                              refine V_iald (v := zg i_36) (pc := 299) X dX10_game_299 7 rfl (vp_in_nI (by omega) (by omega)) (by rw [nI_clamp (by omega)]) ?_
                              refine V_icmp_gt (tgt := 307) (pc := 300) X dX10_game_300 (by decide) (fun c_55 => ?_) (fun c_55 => ?_)
                              · skip
                                refine V_iconst (v := 0) (pc := 307) X dX10_game_307 (by decide) ?_
                                refine V_istore (lv' := [(14, .int 0), (0, .ref mq), (7, .int w), (11, .int (nI cnt)), (12, .int fs), (13, .int (nI i_36)), (15, .int (nI l))]) (pc := 308) X dX10_game_308 (Nat.le_of_ble_eq_true rfl) rfl ?_
                                refine V_iinc (v := nI (l + 1)) (lv' := [(15, .int (nI (l + 1))), (14, .int 0), (0, .ref mq), (7, .int w), (11, .int (nI cnt)), (12, .int fs), (13, .int (nI i_36))]) (pc := 310) X dX10_game_310 6 rfl (nI_add l 1) (Nat.le_of_ble_eq_true rfl) rfl ?_
                                refine V_goto (tgt := 239) (pc := 313) X dX10_game_313 (by decide) ?_
                                refine V_lv [2, 3, 4, 5, 6, 1, 0] rfl ?_
                                exact ih239 (l + 1, false) ⟨(by
                                      try dsimp only
                                      all_goals omega), (by
                                      try dsimp only
                                      rw [tsL, ← hok, b_53, decide_eq_true (Int32.not_lt.mp c_54), decide_eq_false (Int32.not_le.mpr c_55)]; rfl)⟩ (by
                                      try dsimp only
                                      all_goals omega)
                              · skip
                                refine V_iconst (v := 1) (pc := 303) X dX10_game_303 (by decide) ?_
                                refine V_goto (tgt := 308) (pc := 304) X dX10_game_304 (by decide) ?_
                                refine V_istore (lv' := [(14, .int 1), (0, .ref mq), (7, .int w), (11, .int (nI cnt)), (12, .int fs), (13, .int (nI i_36)), (15, .int (nI l))]) (pc := 308) X dX10_game_308 (Nat.le_of_ble_eq_true rfl) rfl ?_
                                refine V_iinc (v := nI (l + 1)) (lv' := [(15, .int (nI (l + 1))), (14, .int 1), (0, .ref mq), (7, .int w), (11, .int (nI cnt)), (12, .int fs), (13, .int (nI i_36))]) (pc := 310) X dX10_game_310 6 rfl (nI_add l 1) (Nat.le_of_ble_eq_true rfl) rfl ?_
                                refine V_goto (tgt := 239) (pc := 313) X dX10_game_313 (by decide) ?_
                                refine V_lv [2, 3, 4, 5, 6, 1, 0] rfl ?_
                                exact ih239 (l + 1, true) ⟨(by
                                      try dsimp only
                                      all_goals omega), (by
                                      try dsimp only
                                      rw [tsL, ← hok, b_53, decide_eq_true (Int32.not_lt.mp c_54), decide_eq_true (Int32.not_lt.mp c_55)]; rfl)⟩ (by
                                      try dsimp only
                                      all_goals omega)
                    · skip
                      have n_56 : k < 1296 := nJ_nle (a := 1296) (b := k) (by omega) (by omega) c_31
                      refine V_aload_n (pc := 121) X dX10_game_121 rfl 0 rfl ?_
                      refine V_get (C := RX10) (T := TX10) (N := 30) (ci := 10) (pc := 122) X dX10_game_122 in10 0 rfl rfl 5 (by decide) (by decide +kernel) rfl rfl ?_
                      refine V_iload_n (pc := 125) X dX10_game_125 rfl 1 rfl ?_
                      refine V_iload (pc := 126) X dX10_game_126 10 rfl ?_
                      refine V_bipush (v := 36) (pc := 128) X dX10_game_128 (by decide) ?_
                      refine V_idiv (pc := 130) X dX10_game_130 (by decide) ?_
                      refine V_seti (y := nI (k / 36)) (pk_div (a := k) (d := 36) (by omega) (by omega) (by omega)) ?_
                      refine V_iast (f' := upd zc j_26 (nI (k / 36))) (ws' := [ob mq 10 [.long mf, .int (nI mt), .ref mmq, .int (nI mn), .ref mkq, .ref mcq, .ref mhq, .ref maq, .int mz, .int my, .long zS, .ref mzq, .ref mtq, .int (nI mT), .int (nI mA), .ref mrq, .ref muq, .long zF, .int zZ, .ref moq, .int (mce j_28), .int (mho j_28), .ref mgq, .ref miq, .long mI, .int (bI mB), .ref mlq, .ref msq, .ref meq, .ref mvq], ai g mmq 6 mm, ai g mkq 6 mkd, ai g mcq 6 (upd zc j_26 (nI (k / 36))), ai g mhq 6 zh, ai g mzq 36 zs, ai g muq 6 zt, ai g mgq 1296 zg]) (pc := 131) X dX10_game_131 3 rfl (vp_in_nI (by omega) (by omega)) (by rw [nI_clamp (by omega)]) rfl ?_
                      refine V_aload_n (pc := 132) X dX10_game_132 rfl 0 rfl ?_
                      refine V_get (C := RX10) (T := TX10) (N := 30) (ci := 10) (pc := 133) X dX10_game_133 in10 0 rfl rfl 6 (by decide) (by decide +kernel) rfl rfl ?_
                      refine V_iload_n (pc := 136) X dX10_game_136 rfl 1 rfl ?_
                      refine V_iload_n (pc := 137) X dX10_game_137 rfl 3 rfl ?_
                      refine V_iast (f' := upd zh j_26 h1) (ws' := [ob mq 10 [.long mf, .int (nI mt), .ref mmq, .int (nI mn), .ref mkq, .ref mcq, .ref mhq, .ref maq, .int mz, .int my, .long zS, .ref mzq, .ref mtq, .int (nI mT), .int (nI mA), .ref mrq, .ref muq, .long zF, .int zZ, .ref moq, .int (mce j_28), .int (mho j_28), .ref mgq, .ref miq, .long mI, .int (bI mB), .ref mlq, .ref msq, .ref meq, .ref mvq], ai g mmq 6 mm, ai g mkq 6 mkd, ai g mcq 6 (upd zc j_26 (nI (k / 36))), ai g mhq 6 (upd zh j_26 h1), ai g mzq 36 zs, ai g muq 6 zt, ai g mgq 1296 zg]) (pc := 138) X dX10_game_138 4 rfl (vp_in_nI (by omega) (by omega)) (by rw [nI_clamp (by omega)]) rfl ?_
                      refine V_aload_n (pc := 139) X dX10_game_139 rfl 0 rfl ?_
                      refine V_get (C := RX10) (T := TX10) (N := 30) (ci := 10) (pc := 140) X dX10_game_140 in10 0 rfl rfl 5 (by decide) (by decide +kernel) rfl rfl ?_
                      refine V_iload_n (pc := 143) X dX10_game_143 rfl 2 rfl ?_
                      refine V_iload (pc := 144) X dX10_game_144 10 rfl ?_
                      refine V_bipush (v := 36) (pc := 146) X dX10_game_146 (by decide) ?_
                      refine V_irem (pc := 148) X dX10_game_148 (by decide) ?_
                      refine V_seti (y := nI (k % 36)) (pk_rem (a := k) (d := 36) (by omega) (by omega) (by omega)) ?_
                      refine V_iast (f' := upd (upd zc j_26 (nI (k / 36))) j_28 (nI (k % 36))) (ws' := [ob mq 10 [.long mf, .int (nI mt), .ref mmq, .int (nI mn), .ref mkq, .ref mcq, .ref mhq, .ref maq, .int mz, .int my, .long zS, .ref mzq, .ref mtq, .int (nI mT), .int (nI mA), .ref mrq, .ref muq, .long zF, .int zZ, .ref moq, .int (mce j_28), .int (mho j_28), .ref mgq, .ref miq, .long mI, .int (bI mB), .ref mlq, .ref msq, .ref meq, .ref mvq], ai g mmq 6 mm, ai g mkq 6 mkd, ai g mcq 6 (upd (upd zc j_26 (nI (k / 36))) j_28 (nI (k % 36))), ai g mhq 6 (upd zh j_26 h1), ai g mzq 36 zs, ai g muq 6 zt, ai g mgq 1296 zg]) (pc := 149) X dX10_game_149 3 rfl (vp_in_nI (by omega) (by omega)) (by rw [nI_clamp (by omega)]) rfl ?_
                      refine V_aload_n (pc := 150) X dX10_game_150 rfl 0 rfl ?_
                      refine V_get (C := RX10) (T := TX10) (N := 30) (ci := 10) (pc := 151) X dX10_game_151 in10 0 rfl rfl 6 (by decide) (by decide +kernel) rfl rfl ?_
                      refine V_iload_n (pc := 154) X dX10_game_154 rfl 2 rfl ?_
                      refine V_iload (pc := 155) X dX10_game_155 4 rfl ?_
                      refine V_iast (f' := upd (upd zh j_26 h1) j_28 h2) (ws' := [ob mq 10 [.long mf, .int (nI mt), .ref mmq, .int (nI mn), .ref mkq, .ref mcq, .ref mhq, .ref maq, .int mz, .int my, .long zS, .ref mzq, .ref mtq, .int (nI mT), .int (nI mA), .ref mrq, .ref muq, .long zF, .int zZ, .ref moq, .int (mce j_28), .int (mho j_28), .ref mgq, .ref miq, .long mI, .int (bI mB), .ref mlq, .ref msq, .ref meq, .ref mvq], ai g mmq 6 mm, ai g mkq 6 mkd, ai g mcq 6 (upd (upd zc j_26 (nI (k / 36))) j_28 (nI (k % 36))), ai g mhq 6 (upd (upd zh j_26 h1) j_28 h2), ai g mzq 36 zs, ai g muq 6 zt, ai g mgq 1296 zg]) (pc := 157) X dX10_game_157 4 rfl (vp_in_nI (by omega) (by omega)) (by rw [nI_clamp (by omega)]) rfl ?_
                      refine V_aload_n (pc := 158) X dX10_game_158 rfl 0 rfl ?_
                      refine V_iload (pc := 159) X dX10_game_159 5 rfl ?_
                      refine V_iload (pc := 161) X dX10_game_161 6 rfl ?_
                      refine V_ve (pc := 163) (nA := 2) (As := [.int x, .int y]) (rest := []) X (c_X10_stepsThen l g (mq := mq) (mf := mf) (mt := mt) (mmq := mmq) (mn := mn) (mkq := mkq) (mcq := mcq) (mhq := mhq) (maq := maq) (mz := mz) (my := my) (mS := zS) (mzq := mzq) (mtq := mtq) (mT := mT) (mA := mA) (mrq := mrq) (muq := muq) (mF := zF) (mZ := zZ) (moq := moq) (mK := mce j_28) (mH := mho j_28) (mgq := mgq) (miq := miq) (mI := mI) (mB := mB) (mlq := mlq) (msq := msq) (meq := meq) (mvq := mvq) (mm := mm) (mkd := mkd) (mce := upd (upd zc j_26 (nI (k / 36))) j_28 (nI (k % 36))) (mho := upd (upd zh j_26 h1) j_28 h2) (msc := zs) (mth := zt) (x := x) (y := y) (ht := by first | assumption | omega) (hn := by first | assumption | omega) (hce := by exact upd_vin (upd_vin hcz (vp_in_nI (by omega) (by omega))) (vp_in_nI (by omega) (by omega))) (hkd := by first | assumption | omega) (hz9 := by first | assumption | omega) (hx := by exact bel_vin (n := 36) (by omega) (by omega) (by omega) (by assumption)) (hy := by exact bel_vin (n := 36) (by omega) (by omega) (by omega) (by assumption))) gX10_game_X10_stepsThen dX10_game_163 rfl (by decide +kernel) rfl (qb := 0) rfl rfl rfl ⟨rfl, rfl⟩ ⟨Nat.le_of_ble_eq_true rfl, Nat.le_of_ble_eq_true rfl⟩ ⟨Nat.le_of_ble_eq_true rfl, Nat.le_of_ble_eq_true rfl⟩ [0, 1, 2, 3, 4, 5, 6] (by decide) rfl [7] (by decide) (by decide) [ai g mgq 1296 zg] rfl [1, 2, 3, 4, 5, 6, 7, 0] (by decide) (fun u => [ob mq 10 [.long mf, .int (nI mt), .ref mmq, .int (nI mn), .ref mkq, .ref mcq, .ref mhq, .ref maq, .int mz, .int my, .long u.1, .ref mzq, .ref mtq, .int (nI mT), .int (nI mA), .ref mrq, .ref muq, .long (mf ||| strF mkd (upd (upd zc j_26 (nI (k / 36))) j_28 (nI (k % 36))) (upd (upd zh j_26 h1) j_28 h2) mn), .int (frX mz), .ref moq, .int (mce j_28), .int (mho j_28), .ref mgq, .ref miq, .long mI, .int (bI mB), .ref mlq, .ref msq, .ref meq, .ref mvq], ai g mmq 6 mm, ai g mkq 6 mkd, ai g mcq 6 (upd (upd zc j_26 (nI (k / 36))) j_28 (nI (k % 36))), ai g mhq 6 (upd (upd zh j_26 h1) j_28 h2), ai g mzq 36 u.2.1, ai g muq 6 u.2.2, ai g mgq 1296 zg]) (fun _ => rfl) rfl (Nat.le_of_ble_eq_true rfl) (fun u => [.int (stX (thW mkd (upd (upd zc j_26 (nI (k / 36))) j_28 (nI (k % 36))) (upd (upd zh j_26 h1) j_28 h2) mn mz mf mm mt) x y)]) (fun _ => rfl) (fun u hu_60 => ?_)
                      obtain ⟨S2_57, sc2_58, th2_59⟩ := u
                      try dsimp only at hu_60
                      have hhth_61 := hu_60
                      refine V_eqw (ws2 := [ob mq 10 [.long mf, .int (nI mt), .ref mmq, .int (nI mn), .ref mkq, .ref mcq, .ref mhq, .ref maq, .int mz, .int my, .long S2_57, .ref mzq, .ref mtq, .int (nI mT), .int (nI mA), .ref mrq, .ref muq, .long (mf ||| strF mkd (upd (upd zc j_26 (nI (k / 36))) j_28 (nI (k % 36))) (upd (upd zh j_26 h1) j_28 h2) mn), .int (frX mz), .ref moq, .int (mce j_28), .int (mho j_28), .ref mgq, .ref miq, .long mI, .int (bI mB), .ref mlq, .ref msq, .ref meq, .ref mvq], ai g mmq 6 mm, ai g mkq 6 mkd, ai g mcq 6 (upd (upd zc j_26 (nI (k / 36))) j_28 (nI (k % 36))), ai g mhq 6 (upd (upd zh j_26 h1) j_28 h2), ai g mzq 36 sc2_58, ai g muq 6 th2_59, ai g mgq 1296 zg]) rfl (V_eqs (st2 := [.int (stX (thW mkd (upd (upd zc j_26 (nI (k / 36))) j_28 (nI (k % 36))) (upd (upd zh j_26 h1) j_28 h2) mn mz mf mm mt) x y)]) rfl ?_)
                      refine V_seti (y := TG j_26 j_28 h1 h2 mkd mce mho mn mz mf mm mt x y (k / 36) (k % 36)) (by rw [hc, hh]; rfl) ?_
                      refine V_istore (lv' := [(12, .int (TG j_26 j_28 h1 h2 mkd mce mho mn mz mf mm mt x y (k / 36) (k % 36))), (0, .ref mq), (1, .int (nI j_26)), (2, .int (nI j_28)), (3, .int h1), (4, .int h2), (5, .int x), (6, .int y), (7, .int w), (9, .int (mce j_26)), (10, .int (mho j_26)), (11, .int (nI k))]) (pc := 166) X dX10_game_166 (Nat.le_of_ble_eq_true rfl) rfl ?_
                      refine V_aload_n (pc := 168) X dX10_game_168 rfl 1 rfl ?_
                      refine V_get (C := RX10) (T := TX10) (N := 30) (ci := 10) (pc := 169) X dX10_game_169 in10 0 rfl rfl 22 (by decide) (by decide +kernel) rfl rfl ?_
                      refine V_iload (pc := 172) X dX10_game_172 11 rfl ?_
                      refine V_iload (pc := 174) X dX10_game_174 0 rfl ?_
                      refine V_bipush (v := (-4)) (pc := 176) X dX10_game_176 (by decide) ?_
                      refine V_icmp_ne (tgt := 186) (pc := 178) X dX10_game_178 (by decide) (fun c_62 => ?_) (fun c_62 => ?_)
                      · skip
                        refine V_iload (pc := 186) X dX10_game_186 0 rfl ?_
                        refine V_iast (f' := upd zg k (TG j_26 j_28 h1 h2 mkd mce mho mn mz mf mm mt x y (k / 36) (k % 36))) (ws' := [ob mq 10 [.long mf, .int (nI mt), .ref mmq, .int (nI mn), .ref mkq, .ref mcq, .ref mhq, .ref maq, .int mz, .int my, .long S2_57, .ref mzq, .ref mtq, .int (nI mT), .int (nI mA), .ref mrq, .ref muq, .long (mf ||| strF mkd (upd (upd zc j_26 (nI (k / 36))) j_28 (nI (k % 36))) (upd (upd zh j_26 h1) j_28 h2) mn), .int (frX mz), .ref moq, .int (mce j_28), .int (mho j_28), .ref mgq, .ref miq, .long mI, .int (bI mB), .ref mlq, .ref msq, .ref meq, .ref mvq], ai g mmq 6 mm, ai g mkq 6 mkd, ai g mcq 6 (upd (upd zc j_26 (nI (k / 36))) j_28 (nI (k % 36))), ai g mhq 6 (upd (upd zh j_26 h1) j_28 h2), ai g mzq 36 sc2_58, ai g muq 6 th2_59, ai g mgq 1296 (upd zg k (TG j_26 j_28 h1 h2 mkd mce mho mn mz mf mm mt x y (k / 36) (k % 36)))]) (pc := 188) X dX10_game_188 7 rfl (vp_in_nI (by omega) (by omega)) (by rw [nI_clamp (by omega)]) rfl ?_
                        refine V_iinc (v := nI (k + 1)) (lv' := [(11, .int (nI (k + 1))), (12, .int (TG j_26 j_28 h1 h2 mkd mce mho mn mz mf mm mt x y (k / 36) (k % 36))), (0, .ref mq), (1, .int (nI j_26)), (2, .int (nI j_28)), (3, .int h1), (4, .int h2), (5, .int x), (6, .int y), (7, .int w), (9, .int (mce j_26)), (10, .int (mho j_26))]) (pc := 189) X dX10_game_189 11 rfl (nI_add k 1) (Nat.le_of_ble_eq_true rfl) rfl ?_
                        refine V_goto (tgt := 113) (pc := 192) X dX10_game_192 (by decide) ?_
                        refine V_lv [2, 3, 4, 5, 6, 7, 8, 9, 10, 11, 0] rfl ?_
                        exact ih113 (k + 1, (upd (upd zc j_26 (nI (k / 36))) j_28 (nI (k % 36))), (upd (upd zh j_26 h1) j_28 h2), upd zg k (TG j_26 j_28 h1 h2 mkd mce mho mn mz mf mm mt x y (k / 36) (k % 36)), S2_57, sc2_58, th2_59, mf ||| strF mkd (upd (upd zc j_26 (nI (k / 36))) j_28 (nI (k % 36))) (upd (upd zh j_26 h1) j_28 h2) mn, frX mz) ⟨(by
                              try dsimp only
                              all_goals omega), (by
                              try dsimp only
                              exact fun a b => (upd4 hne _ _ _ _).trans (hc a b)), (by
                              try dsimp only
                              exact fun a b => (upd4 hne _ _ _ _).trans (hh a b)), (by
                              try dsimp only
                              exact upd_vin (upd_vin hcz (vp_in_nI (by omega) (by omega))) (vp_in_nI (by omega) (by omega))), (by
                              try dsimp only
                              first | exact ga_step hga (TG_n99y (by assumption)) | exact ga_step hga (TG_n99n (by assumption)))⟩ (by
                              try dsimp only
                              all_goals omega)
                      · skip
                        refine V_bipush (v := 99) (pc := 181) X dX10_game_181 (by decide) ?_
                        refine V_goto (tgt := 188) (pc := 183) X dX10_game_183 (by decide) ?_
                        refine V_iast (f' := upd zg k 99) (ws' := [ob mq 10 [.long mf, .int (nI mt), .ref mmq, .int (nI mn), .ref mkq, .ref mcq, .ref mhq, .ref maq, .int mz, .int my, .long S2_57, .ref mzq, .ref mtq, .int (nI mT), .int (nI mA), .ref mrq, .ref muq, .long (mf ||| strF mkd (upd (upd zc j_26 (nI (k / 36))) j_28 (nI (k % 36))) (upd (upd zh j_26 h1) j_28 h2) mn), .int (frX mz), .ref moq, .int (mce j_28), .int (mho j_28), .ref mgq, .ref miq, .long mI, .int (bI mB), .ref mlq, .ref msq, .ref meq, .ref mvq], ai g mmq 6 mm, ai g mkq 6 mkd, ai g mcq 6 (upd (upd zc j_26 (nI (k / 36))) j_28 (nI (k % 36))), ai g mhq 6 (upd (upd zh j_26 h1) j_28 h2), ai g mzq 36 sc2_58, ai g muq 6 th2_59, ai g mgq 1296 (upd zg k 99)]) (pc := 188) X dX10_game_188 7 rfl (vp_in_nI (by omega) (by omega)) (by rw [nI_clamp (by omega)]) rfl ?_
                        refine V_iinc (v := nI (k + 1)) (lv' := [(11, .int (nI (k + 1))), (12, .int (TG j_26 j_28 h1 h2 mkd mce mho mn mz mf mm mt x y (k / 36) (k % 36))), (0, .ref mq), (1, .int (nI j_26)), (2, .int (nI j_28)), (3, .int h1), (4, .int h2), (5, .int x), (6, .int y), (7, .int w), (9, .int (mce j_26)), (10, .int (mho j_26))]) (pc := 189) X dX10_game_189 11 rfl (nI_add k 1) (Nat.le_of_ble_eq_true rfl) rfl ?_
                        refine V_goto (tgt := 113) (pc := 192) X dX10_game_192 (by decide) ?_
                        refine V_lv [2, 3, 4, 5, 6, 7, 8, 9, 10, 11, 0] rfl ?_
                        exact ih113 (k + 1, (upd (upd zc j_26 (nI (k / 36))) j_28 (nI (k % 36))), (upd (upd zh j_26 h1) j_28 h2), upd zg k 99, S2_57, sc2_58, th2_59, mf ||| strF mkd (upd (upd zc j_26 (nI (k / 36))) j_28 (nI (k % 36))) (upd (upd zh j_26 h1) j_28 h2) mn, frX mz) ⟨(by
                              try dsimp only
                              all_goals omega), (by
                              try dsimp only
                              exact fun a b => (upd4 hne _ _ _ _).trans (hc a b)), (by
                              try dsimp only
                              exact fun a b => (upd4 hne _ _ _ _).trans (hh a b)), (by
                              try dsimp only
                              exact upd_vin (upd_vin hcz (vp_in_nI (by omega) (by omega))) (vp_in_nI (by omega) (by omega))), (by
                              try dsimp only
                              first | exact ga_step hga (TG_n99y (by assumption)) | exact ga_step hga (TG_n99n (by assumption)))⟩ (by
                              try dsimp only
                              all_goals omega)
                  · skip
                    have b_63 : (bel w 2) = false := bI0 c_24
                    refine V_iconst (v := (-1)) (pc := 87) X dX10_game_87 (by decide) ?_
                    exact Ve_iret (pc := 88) X hA9 dX10_game_88 hr ((-1), mS, msc, mth, mF, mZ, mK, mH, mga) (by first | rfl | (simp [b_4, b_8, c_9, b_14, b_17, b_20, b_23, b_63]; done)) (by
                          try dsimp only
                          unfold R_gameM
                          exact Or.inl ⟨by simp [gameG, b_4, b_8, c_9, b_14, b_17, b_20, b_23, b_63], rfl⟩) (by rfl)
