set_option maxHeartbeats 4000000 in
set_option maxRecDepth 100000 in
theorem c_X10_of (l : Launch) (g : XG) (mq : Nat) (mf : Int64) (mt : Nat) (mmq : Nat) (mn : Nat) (mkq : Nat) (mcq : Nat) (mhq : Nat) (maq : Nat) (mz : Int32) (my : Int32) (mS : Int64) (mzq : Nat) (mtq : Nat) (mT : Nat) (mA : Nat) (mrq : Nat) (muq : Nat) (mF : Int64) (mZ : Int32) (moq : Nat) (mK : Int32) (mH : Int32) (mgq : Nat) (miq : Nat) (mI : Int64) (mB : Bool) (mlq : Nat) (msq : Nat) (meq : Nat) (mvq : Nat) (mm : Nat → Int32) (mkd : Nat → Int32) (mce : Nat → Int32) (mho : Nat → Int32) (msc : Nat → Int32) (x : Int32) (w : Int32) (ht : mt ≤ 6) (hn : mn ≤ 6) (hce : ∀ j, j < mn → vp_in (mce j) 36) (hkd : ∀ j, j < mn → mkd j = 0 ∨ mkd j = 1 ∨ mkd j = 2 ∨ mkd j = 3) : Ke l g yX10_of wsX10_of ({ frames := 2, cells := 0, slots := 0, locals := 46 } : Room) 0 0 [.ref mq, .int x, .int w] [ob mq 10 [.long mf, .int (nI mt), .ref mmq, .int (nI mn), .ref mkq, .ref mcq, .ref mhq, .ref maq, .int mz, .int my, .long mS, .ref mzq, .ref mtq, .int (nI mT), .int (nI mA), .ref mrq, .ref muq, .long mF, .int mZ, .ref moq, .int mK, .int mH, .ref mgq, .ref miq, .long mI, .int (bI mB), .ref mlq, .ref msq, .ref meq, .ref mvq], ai g mmq 6 mm, ai g mkq 6 mkd, ai g mcq 6 mce, ai g mhq 6 mho, ai g mzq 36 msc] (fun u : Int32 × Int64 × (Nat → Int32) => some (.int u.1)) (fun u => [ob mq 10 [.long mf, .int (nI mt), .ref mmq, .int (nI mn), .ref mkq, .ref mcq, .ref mhq, .ref maq, .int mz, .int my, .long u.2.1, .ref mzq, .ref mtq, .int (nI mT), .int (nI mA), .ref mrq, .ref muq, .long mF, .int mZ, .ref moq, .int mK, .int mH, .ref mgq, .ref miq, .long mI, .int (bI mB), .ref mlq, .ref msq, .ref meq, .ref mvq], ai g mmq 6 mm, ai g mkq 6 mkd, ai g mcq 6 mce, ai g mhq 6 mho, ai g mzq 36 u.2.2]) (fun u => (u.1 = ofF x w mf mt mm mz mn mkd mce mho)) := by
  refine Ke.of (cc := cX10_of) (maxL := 5) (ret := (some .int)) (lv := [(0, .ref mq), (1, .int x), (2, .int w)]) RX10 rfl (by decide) rfl (Nat.le_of_ble_eq_true rfl) rfl ?_
  intro p e s m below meth c A sz hA9 X hr hin2
  have in10 : ∀ w ∈ u_ws RX10 TX10 30, w ∈ wsX10_of := by decide +kernel
  refine V_iload_n (pc := 0) X dX10_of_0 rfl 1 rfl ?_
  refine V_i2l (pc := 1) X dX10_of_1 ?_
  refine V_sg (pc := 2) (nA := 1) (As := [.long x.toInt64]) (rest := []) X (c_X10_isCell l g (v := x.toInt64) ) gX10_of_X10_isCell dX10_of_2 rfl (by decide +kernel) rfl ⟨rfl, rfl⟩ ⟨Nat.le_of_ble_eq_true rfl, Nat.le_of_ble_eq_true rfl⟩ ⟨Nat.le_of_ble_eq_true rfl, Nat.le_of_ble_eq_true rfl⟩ [] (by decide) rfl rfl (Nat.le_of_ble_eq_true rfl) (st' := [.int (bI (inJ x.toInt64 0 35))]) rfl ?_
  refine V_seti (y := bI (bel x 36)) (congrArg bI (inJ_bel 35 (by decide) (by decide))) ?_
  refine V_if_eq (tgt := 20) (pc := 5) X dX10_of_5 (by decide) (fun c_1 => ?_) (fun c_1 => ?_)
  · skip
    have b_2 : (bel x 36) = false := bI0 c_1
    refine V_iconst (v := (-1)) (pc := 20) X dX10_of_20 (by decide) ?_
    exact Ve_iret (pc := 21) X hA9 dX10_of_21 hr ((-1), mS, msc) (by first | rfl | (simp [b_2]; done)) (by
          try dsimp only
          exact ofF_out (Or.inl (by assumption))) (by rfl)
  · skip
    have b_3 : (bel x 36) = true := bI1 c_1
    refine V_iload_n (pc := 8) X dX10_of_8 rfl 2 rfl ?_
    refine V_i2l (pc := 9) X dX10_of_9 ?_
    refine V_lconst (v := 0) (pc := 10) X dX10_of_10 (by decide) ?_
    refine V_ldc2 (v := 3) (pc := 11) X dX10_of_11 (by decide +kernel) ?_
    refine V_sg (pc := 14) (nA := 3) (As := [.long w.toInt64, .long 0, .long 3]) (rest := []) X (c_X10_in l g (v := w.toInt64) (v1 := 0) (v2 := 3) ) gX10_of_X10_in dX10_of_14 rfl (by decide +kernel) rfl ⟨rfl, rfl⟩ ⟨Nat.le_of_ble_eq_true rfl, Nat.le_of_ble_eq_true rfl⟩ ⟨Nat.le_of_ble_eq_true rfl, Nat.le_of_ble_eq_true rfl⟩ [] (by decide) rfl rfl (Nat.le_of_ble_eq_true rfl) (st' := [.int (bI (inJ w.toInt64 0 3))]) rfl ?_
    refine V_seti (y := bI (bel w 4)) (congrArg bI (inJ_bel 3 (by decide) (by decide))) ?_
    refine V_if_ne (tgt := 22) (pc := 17) X dX10_of_17 (by decide) (fun c_4 => ?_) (fun c_4 => ?_)
    · skip
      have b_5 : (bel w 4) = true := bI1 c_4
      refine V_iconst (v := 0) (pc := 22) X dX10_of_22 (by decide) ?_
      refine V_istore_n (lv' := [(3, .int 0), (0, .ref mq), (1, .int x), (2, .int w)]) (pc := 23) X dX10_of_23 rfl (Nat.le_of_ble_eq_true rfl) rfl ?_
      refine V_iconst (v := 0) (pc := 24) X dX10_of_24 (by decide) ?_
      refine V_istore (lv' := [(4, .int 0), (3, .int 0), (0, .ref mq), (1, .int x), (2, .int w)]) (pc := 25) X dX10_of_25 (Nat.le_of_ble_eq_true rfl) rfl ?_
      refine V_loop (pc := 27) (σ := Nat × Nat) (fun v9 => [(0, .ref mq), (1, .int x), (2, .int w), (3, .int (nI v9.2)), (4, .int (nI v9.1))]) (fun v9 => [ob mq 10 [.long mf, .int (nI mt), .ref mmq, .int (nI mn), .ref mkq, .ref mcq, .ref mhq, .ref maq, .int mz, .int my, .long mS, .ref mzq, .ref mtq, .int (nI mT), .int (nI mA), .ref mrq, .ref muq, .long mF, .int mZ, .ref moq, .int mK, .int mH, .ref mgq, .ref miq, .long mI, .int (bI mB), .ref mlq, .ref msq, .ref meq, .ref mvq], ai g mmq 6 mm, ai g mkq 6 mkd, ai g mcq 6 mce, ai g mhq 6 mho, ai g mzq 36 msc]) (fun v9 => (v9.1 ≤ mt) ∧ (v9.2 = tiF mm x v9.1)) (fun v9 => mt - v9.1) (0, 0) ⟨(by
            try dsimp only
            all_goals omega), (by
            try dsimp only
            all_goals rfl)⟩ rfl [2, 3, 4, 1, 0] rfl ?_
      rintro ⟨k, z⟩ ⟨hk, hz⟩ ih27
      try dsimp only at hk
      try dsimp only at hz
      refine V_eqw (ws2 := [ob mq 10 [.long mf, .int (nI mt), .ref mmq, .int (nI mn), .ref mkq, .ref mcq, .ref mhq, .ref maq, .int mz, .int my, .long mS, .ref mzq, .ref mtq, .int (nI mT), .int (nI mA), .ref mrq, .ref muq, .long mF, .int mZ, .ref moq, .int mK, .int mH, .ref mgq, .ref miq, .long mI, .int (bI mB), .ref mlq, .ref msq, .ref meq, .ref mvq], ai g mmq 6 mm, ai g mkq 6 mkd, ai g mcq 6 mce, ai g mhq 6 mho, ai g mzq 36 msc]) rfl (V_eql (lv' := [(0, .ref mq), (1, .int x), (2, .int w), (3, .int (nI z)), (4, .int (nI k))]) rfl ?_)
      refine V_iload (pc := 27) X dX10_of_27 4 rfl ?_
      refine V_aload_n (pc := 29) X dX10_of_29 rfl 0 rfl ?_
      refine V_get (C := RX10) (T := TX10) (N := 30) (ci := 10) (pc := 30) X dX10_of_30 in10 0 rfl rfl 1 (by decide) (by decide +kernel) rfl rfl ?_
      refine V_icmp_ge (tgt := 61) (pc := 33) X dX10_of_33 (by decide) (fun c_6 => ?_) (fun c_6 => ?_)
      · skip
        have n_7 : mt ≤ k := nJ_le (a := mt) (b := k) (by omega) (by omega) c_6
        refine V_aload_n (pc := 61) X dX10_of_61 rfl 0 rfl ?_
        refine V_ve (pc := 62) (nA := 0) (As := []) (rest := []) X (c_X10_sitsAll l g (mq := mq) (mf := mf) (mt := mt) (mmq := mmq) (mn := mn) (mkq := mkq) (mcq := mcq) (mhq := mhq) (maq := maq) (mz := mz) (my := my) (mS := mS) (mzq := mzq) (mtq := mtq) (mT := mT) (mA := mA) (mrq := mrq) (muq := muq) (mF := mF) (mZ := mZ) (moq := moq) (mK := mK) (mH := mH) (mgq := mgq) (miq := miq) (mI := mI) (mB := mB) (mlq := mlq) (msq := msq) (meq := meq) (mvq := mvq) (mkd := mkd) (mce := mce) (mho := mho) (msc := msc) (hn := by first | assumption | omega) (hce := by first | assumption | omega) (hkd := by first | assumption | omega)) gX10_of_X10_sitsAll dX10_of_62 rfl (by decide +kernel) rfl (qb := 0) rfl rfl rfl ⟨rfl, rfl⟩ ⟨Nat.le_of_ble_eq_true rfl, Nat.le_of_ble_eq_true rfl⟩ ⟨Nat.le_of_ble_eq_true rfl, Nat.le_of_ble_eq_true rfl⟩ [0, 2, 3, 4, 5] (by decide) rfl [1] (by decide) (by decide) [ai g mmq 6 mm] rfl [1, 0, 2, 3, 4, 5] (by decide) (fun u => [ob mq 10 [.long mf, .int (nI mt), .ref mmq, .int (nI mn), .ref mkq, .ref mcq, .ref mhq, .ref maq, .int mz, .int my, .long u.1, .ref mzq, .ref mtq, .int (nI mT), .int (nI mA), .ref mrq, .ref muq, .long mF, .int mZ, .ref moq, .int mK, .int mH, .ref mgq, .ref miq, .long mI, .int (bI mB), .ref mlq, .ref msq, .ref meq, .ref mvq], ai g mmq 6 mm, ai g mkq 6 mkd, ai g mcq 6 mce, ai g mhq 6 mho, ai g mzq 36 u.2]) (fun _ => rfl) rfl (Nat.le_of_ble_eq_true rfl) (fun u => []) (fun _ => rfl) (fun u hu_10 => ?_)
        obtain ⟨S2_8, sc2_9⟩ := u
        try dsimp only at hu_10
        have hsa_11 := hu_10
        refine V_eqw (ws2 := [ob mq 10 [.long mf, .int (nI mt), .ref mmq, .int (nI mn), .ref mkq, .ref mcq, .ref mhq, .ref maq, .int mz, .int my, .long S2_8, .ref mzq, .ref mtq, .int (nI mT), .int (nI mA), .ref mrq, .ref muq, .long mF, .int mZ, .ref moq, .int mK, .int mH, .ref mgq, .ref miq, .long mI, .int (bI mB), .ref mlq, .ref msq, .ref meq, .ref mvq], ai g mmq 6 mm, ai g mkq 6 mkd, ai g mcq 6 mce, ai g mhq 6 mho, ai g mzq 36 sc2_9]) rfl (V_eqs (st2 := []) rfl ?_)
        refine V_iload_n (pc := 65) X dX10_of_65 rfl 2 rfl ?_
        refine V_if_ne (tgt := 88) (pc := 66) X dX10_of_66 (by decide) (fun c_12 => ?_) (fun c_12 => ?_)
        · skip
          refine V_iload_n (pc := 88) X dX10_of_88 rfl 2 rfl ?_
          refine V_iconst (v := 1) (pc := 89) X dX10_of_89 (by decide) ?_
          refine V_icmp_ne (tgt := 97) (pc := 90) X dX10_of_90 (by decide) (fun c_13 => ?_) (fun c_13 => ?_)
          · skip
            refine V_iload_n (pc := 97) X dX10_of_97 rfl 2 rfl ?_
            refine V_iconst (v := 2) (pc := 98) X dX10_of_98 (by decide) ?_
            refine V_icmp_ne (tgt := 134) (pc := 99) X dX10_of_99 (by decide) (fun c_14 => ?_) (fun c_14 => ?_)
            · skip
              refine V_aload_n (pc := 134) X dX10_of_134 rfl 0 rfl ?_
              refine V_get (C := RX10) (T := TX10) (N := 30) (ci := 10) (pc := 135) X dX10_of_135 in10 0 rfl rfl 10 (by decide) (by decide +kernel) rfl rfl ?_
              refine V_iload_n (pc := 138) X dX10_of_138 rfl 1 rfl ?_
              refine V_sg (pc := 139) (nA := 2) (As := [.long S2_8, .int x]) (rest := []) X (c_X10_has l g (f := S2_8) (x := x) (hx := by exact bel_vin (n := 36) (by omega) (by omega) (by omega) (by assumption))) gX10_of_X10_has dX10_of_139 rfl (by decide +kernel) rfl ⟨rfl, rfl⟩ ⟨Nat.le_of_ble_eq_true rfl, Nat.le_of_ble_eq_true rfl⟩ ⟨Nat.le_of_ble_eq_true rfl, Nat.le_of_ble_eq_true rfl⟩ [] (by decide) rfl rfl (Nat.le_of_ble_eq_true rfl) (st' := [.int (bI (firmB S2_8 x))]) rfl ?_
              refine V_if_eq (tgt := 154) (pc := 142) X dX10_of_142 (by decide) (fun c_15 => ?_) (fun c_15 => ?_)
              · skip
                have b_16 : (firmB S2_8 x) = false := bI0 c_15
                refine V_iconst (v := 0) (pc := 154) X dX10_of_154 (by decide) ?_
                exact Ve_iret (pc := 155) X hA9 dX10_of_155 hr (0, S2_8, sc2_9) (by first | rfl | (simp [b_3, b_5, n_7, hsa_11, c_12, c_13, c_14, b_16]; done)) (by
                      try dsimp only
                      exact (ofF_3 hsa_11 b_3 b_5 (by assumption) (by assumption) (by assumption)).2 (by assumption)) (by rfl)
              · skip
                have b_17 : (firmB S2_8 x) = true := bI1 c_15
                refine V_aload_n (pc := 145) X dX10_of_145 rfl 0 rfl ?_
                refine V_get (C := RX10) (T := TX10) (N := 30) (ci := 10) (pc := 146) X dX10_of_146 in10 0 rfl rfl 11 (by decide) (by decide +kernel) rfl rfl ?_
                refine V_iload_n (pc := 149) X dX10_of_149 rfl 1 rfl ?_
                refine V_iald (v := sc2_9 x.toNatClampNeg) (pc := 150) X dX10_of_150 5 rfl (by first | assumption | exact bel_vin (n := mt) (by omega) (by omega) (by omega) (by assumption) | exact bel_vin (n := mn) (by omega) (by omega) (by omega) (by assumption) | exact bel_vin (n := 36) (by omega) (by omega) (by omega) (by assumption)) rfl ?_
                refine V_goto (tgt := 155) (pc := 151) X dX10_of_151 (by decide) ?_
                exact Ve_iret (pc := 155) X hA9 dX10_of_155 hr (sc2_9 x.toNatClampNeg, S2_8, sc2_9) (by first | rfl | (simp [b_3, b_5, n_7, hsa_11, c_12, c_13, c_14, b_17]; done)) (by
                      try dsimp only
                      exact (ofF_3 hsa_11 b_3 b_5 (by assumption) (by assumption) (by assumption)).1 (by assumption)) (by rfl)
            · skip
              refine V_aload_n (pc := 102) X dX10_of_102 rfl 0 rfl ?_
              refine V_aload_n (pc := 103) X dX10_of_103 rfl 0 rfl ?_
              refine V_get (C := RX10) (T := TX10) (N := 30) (ci := 10) (pc := 104) X dX10_of_104 in10 0 rfl rfl 0 (by decide) (by decide +kernel) rfl rfl ?_
              refine V_aload_n (pc := 107) X dX10_of_107 rfl 0 rfl ?_
              refine V_get (C := RX10) (T := TX10) (N := 30) (ci := 10) (pc := 108) X dX10_of_108 in10 0 rfl rfl 8 (by decide) (by decide +kernel) rfl rfl ?_
              refine V_aload_n (pc := 111) X dX10_of_111 rfl 0 rfl ?_
              refine V_get (C := RX10) (T := TX10) (N := 30) (ci := 10) (pc := 112) X dX10_of_112 in10 0 rfl rfl 2 (by decide) (by decide +kernel) rfl rfl ?_
              refine V_iconst (v := (-1)) (pc := 115) X dX10_of_115 (by decide) ?_
              refine V_vg (pc := 116) (nA := 4) (As := [.long mf, .int mz, .ref mmq, .int (-1)]) (rest := []) X (c_X10_walks l g (mq := mq) (mf := mf) (mt := mt) (mmq := mmq) (mn := mn) (mkq := mkq) (mcq := mcq) (mhq := mhq) (maq := maq) (mz := mz) (my := my) (mS := S2_8) (mzq := mzq) (mtq := mtq) (mT := mT) (mA := mA) (mrq := mrq) (muq := muq) (mF := mF) (mZ := mZ) (moq := moq) (mK := mK) (mH := mH) (mgq := mgq) (miq := miq) (mI := mI) (mB := mB) (mlq := mlq) (msq := msq) (meq := meq) (mvq := mvq) (aq9 := mmq) (a9 := mm) (f := mf) (z := mz) (x := (-1)) (ht := by first | assumption | omega)) gX10_of_X10_walks dX10_of_116 rfl (by decide +kernel) rfl (qb := 0) rfl rfl rfl ⟨rfl, rfl⟩ ⟨Nat.le_of_ble_eq_true rfl, Nat.le_of_ble_eq_true rfl⟩ ⟨Nat.le_of_ble_eq_true rfl, Nat.le_of_ble_eq_true rfl⟩ [0, 1] (by decide) rfl rfl (Nat.le_of_ble_eq_true rfl) (st' := [.long (wkX mz mf mm mt (-1))]) rfl ?_
              refine V_iload_n (pc := 119) X dX10_of_119 rfl 1 rfl ?_
              refine V_sg (pc := 120) (nA := 2) (As := [.long (wkX mz mf mm mt (-1)), .int x]) (rest := []) X (c_X10_has l g (f := wkX mz mf mm mt (-1)) (x := x) (hx := by exact bel_vin (n := 36) (by omega) (by omega) (by omega) (by assumption))) gX10_of_X10_has dX10_of_120 rfl (by decide +kernel) rfl ⟨rfl, rfl⟩ ⟨Nat.le_of_ble_eq_true rfl, Nat.le_of_ble_eq_true rfl⟩ ⟨Nat.le_of_ble_eq_true rfl, Nat.le_of_ble_eq_true rfl⟩ [] (by decide) rfl rfl (Nat.le_of_ble_eq_true rfl) (st' := [.int (bI (firmB (wkX mz mf mm mt (-1)) x))]) rfl ?_
              refine V_if_eq (tgt := 130) (pc := 123) X dX10_of_123 (by decide) (fun c_18 => ?_) (fun c_18 => ?_)
              · skip
                have b_19 : (firmB (wkX mz mf mm mt (-1)) x) = false := bI0 c_18
                refine V_iconst (v := 0) (pc := 130) X dX10_of_130 (by decide) ?_
                refine V_goto (tgt := 155) (pc := 131) X dX10_of_131 (by decide) ?_
                exact Ve_iret (pc := 155) X hA9 dX10_of_155 hr (0, S2_8, sc2_9) (by first | rfl | (simp [b_3, b_5, n_7, hsa_11, c_12, c_13, c_14, b_19]; done)) (by
                      try dsimp only
                      rw [ofF_c b_3, if_neg (by assumption), if_neg (by assumption), if_pos (by assumption), b_19]
                      rfl) (by rfl)
              · skip
                have b_20 : (firmB (wkX mz mf mm mt (-1)) x) = true := bI1 c_18
                refine V_iconst (v := 1) (pc := 126) X dX10_of_126 (by decide) ?_
                refine V_goto (tgt := 155) (pc := 127) X dX10_of_127 (by decide) ?_
                exact Ve_iret (pc := 155) X hA9 dX10_of_155 hr (1, S2_8, sc2_9) (by first | rfl | (simp [b_3, b_5, n_7, hsa_11, c_12, c_13, c_14, b_20]; done)) (by
                      try dsimp only
                      rw [ofF_c b_3, if_neg (by assumption), if_neg (by assumption), if_pos (by assumption), b_20]
                      rfl) (by rfl)
          · skip
            refine V_iload_n (pc := 93) X dX10_of_93 rfl 3 rfl ?_
            refine V_goto (tgt := 155) (pc := 94) X dX10_of_94 (by decide) ?_
            exact Ve_iret (pc := 155) X hA9 dX10_of_155 hr (nI z, S2_8, sc2_9) (by first | rfl | (simp [b_3, b_5, n_7, hsa_11, c_12, c_13]; done)) (by
                  try dsimp only
                  rw [ofF_c b_3, if_neg (by assumption), if_pos (by assumption), hz, show k = mt by omega]) (by rfl)
        · skip
          refine V_aload_n (pc := 69) X dX10_of_69 rfl 0 rfl ?_
          refine V_get (C := RX10) (T := TX10) (N := 30) (ci := 10) (pc := 70) X dX10_of_70 in10 0 rfl rfl 0 (by decide) (by decide +kernel) rfl rfl ?_
          refine V_iload_n (pc := 73) X dX10_of_73 rfl 1 rfl ?_
          refine V_sg (pc := 74) (nA := 2) (As := [.long mf, .int x]) (rest := []) X (c_X10_has l g (f := mf) (x := x) (hx := by exact bel_vin (n := 36) (by omega) (by omega) (by omega) (by assumption))) gX10_of_X10_has dX10_of_74 rfl (by decide +kernel) rfl ⟨rfl, rfl⟩ ⟨Nat.le_of_ble_eq_true rfl, Nat.le_of_ble_eq_true rfl⟩ ⟨Nat.le_of_ble_eq_true rfl, Nat.le_of_ble_eq_true rfl⟩ [] (by decide) rfl rfl (Nat.le_of_ble_eq_true rfl) (st' := [.int (bI (firmB mf x))]) rfl ?_
          refine V_if_eq (tgt := 84) (pc := 77) X dX10_of_77 (by decide) (fun c_21 => ?_) (fun c_21 => ?_)
          · skip
            have b_22 : (firmB mf x) = false := bI0 c_21
            refine V_iconst (v := 0) (pc := 84) X dX10_of_84 (by decide) ?_
            refine V_goto (tgt := 155) (pc := 85) X dX10_of_85 (by decide) ?_
            exact Ve_iret (pc := 155) X hA9 dX10_of_155 hr (0, S2_8, sc2_9) (by first | rfl | (simp [b_3, b_5, n_7, hsa_11, c_12, b_22]; done)) (by
                  try dsimp only
                  rw [ofF_c b_3, if_pos (by assumption), b_22]
                  rfl) (by rfl)
          · skip
            have b_23 : (firmB mf x) = true := bI1 c_21
            refine V_iconst (v := 1) (pc := 80) X dX10_of_80 (by decide) ?_
            refine V_goto (tgt := 155) (pc := 81) X dX10_of_81 (by decide) ?_
            exact Ve_iret (pc := 155) X hA9 dX10_of_155 hr (1, S2_8, sc2_9) (by first | rfl | (simp [b_3, b_5, n_7, hsa_11, c_12, b_23]; done)) (by
                  try dsimp only
                  rw [ofF_c b_3, if_pos (by assumption), b_23]
                  rfl) (by rfl)
      · skip
        have n_24 : k < mt := nJ_nle (a := mt) (b := k) (by omega) (by omega) c_6
        refine V_iload_n (pc := 36) X dX10_of_36 rfl 3 rfl ?_
        refine V_aload_n (pc := 37) X dX10_of_37 rfl 0 rfl ?_
        refine V_get (C := RX10) (T := TX10) (N := 30) (ci := 10) (pc := 38) X dX10_of_38 in10 0 rfl rfl 2 (by decide) (by decide +kernel) rfl rfl ?_
        refine V_iload (pc := 41) X dX10_of_41 4 rfl ?_
        refine V_iald (v := mm k) (pc := 43) X dX10_of_43 1 rfl (vp_in_nI (by omega) (by omega)) (by rw [nI_clamp (by omega)]) ?_
        refine V_iload_n (pc := 44) X dX10_of_44 rfl 1 rfl ?_
        refine V_icmp_ne (tgt := 52) (pc := 45) X dX10_of_45 (by decide) (fun c_25 => ?_) (fun c_25 => ?_)
        · skip
          refine V_iconst (v := 0) (pc := 52) X dX10_of_52 (by decide) ?_
          refine V_iadd (pc := 53) X dX10_of_53 ?_
          refine V_seti (y := nI (z + 0)) (nI_add z 0) ?_
          refine V_istore_n (lv' := [(3, .int (nI (z + 0))), (0, .ref mq), (1, .int x), (2, .int w), (4, .int (nI k))]) (pc := 54) X dX10_of_54 rfl (Nat.le_of_ble_eq_true rfl) rfl ?_
          refine V_iinc (v := nI (k + 1)) (lv' := [(4, .int (nI (k + 1))), (3, .int (nI (z + 0))), (0, .ref mq), (1, .int x), (2, .int w)]) (pc := 55) X dX10_of_55 4 rfl (nI_add k 1) (Nat.le_of_ble_eq_true rfl) rfl ?_
          refine V_goto (tgt := 27) (pc := 58) X dX10_of_58 (by decide) ?_
          refine V_lv [2, 3, 4, 1, 0] rfl ?_
          exact ih27 (k + 1, z + 0) ⟨(by
                try dsimp only
                all_goals omega), (by
                try dsimp only
                first | exact hz.trans (tiF_a (by assumption)) | (rw [hz]; exact tiF_c (by assumption)))⟩ (by
                try dsimp only
                all_goals omega)
        · skip
          refine V_iconst (v := 1) (pc := 48) X dX10_of_48 (by decide) ?_
          refine V_goto (tgt := 53) (pc := 49) X dX10_of_49 (by decide) ?_
          refine V_iadd (pc := 53) X dX10_of_53 ?_
          refine V_seti (y := nI (z + 1)) (nI_add z 1) ?_
          refine V_istore_n (lv' := [(3, .int (nI (z + 1))), (0, .ref mq), (1, .int x), (2, .int w), (4, .int (nI k))]) (pc := 54) X dX10_of_54 rfl (Nat.le_of_ble_eq_true rfl) rfl ?_
          refine V_iinc (v := nI (k + 1)) (lv' := [(4, .int (nI (k + 1))), (3, .int (nI (z + 1))), (0, .ref mq), (1, .int x), (2, .int w)]) (pc := 55) X dX10_of_55 4 rfl (nI_add k 1) (Nat.le_of_ble_eq_true rfl) rfl ?_
          refine V_goto (tgt := 27) (pc := 58) X dX10_of_58 (by decide) ?_
          refine V_lv [2, 3, 4, 1, 0] rfl ?_
          exact ih27 (k + 1, z + 1) ⟨(by
                try dsimp only
                all_goals omega), (by
                try dsimp only
                first | exact hz.trans (tiF_a (by assumption)) | (rw [hz]; exact tiF_c (by assumption)))⟩ (by
                try dsimp only
                all_goals omega)
    · skip
      have b_26 : (bel w 4) = false := bI0 c_4
      refine V_iconst (v := (-1)) (pc := 20) X dX10_of_20 (by decide) ?_
      exact Ve_iret (pc := 21) X hA9 dX10_of_21 hr ((-1), mS, msc) (by first | rfl | (simp [b_3, b_26]; done)) (by
            try dsimp only
            exact ofF_out (Or.inr (by assumption))) (by rfl)
set_option maxHeartbeats 4000000 in
set_option maxRecDepth 100000 in
theorem c_X10_pull (l : Launch) (g : XG) (mq : Nat) (mf : Int64) (mt : Nat) (mmq : Nat) (mn : Nat) (mkq : Nat) (mcq : Nat) (mhq : Nat) (maq : Nat) (mz : Int32) (my : Int32) (mS : Int64) (mzq : Nat) (mtq : Nat) (mT : Nat) (mA : Nat) (mrq : Nat) (muq : Nat) (mF : Int64) (mZ : Int32) (moq : Nat) (mK : Int32) (mH : Int32) (mgq : Nat) (miq : Nat) (mI : Int64) (mB : Bool) (mlq : Nat) (msq : Nat) (meq : Nat) (mvq : Nat) (mm : Nat → Int32) (mkd : Nat → Int32) (mce : Nat → Int32) (mho : Nat → Int32) (msc : Nat → Int32) (x : Int32) (w : Int32) (ht : mt ≤ 6) (hn : mn ≤ 6) (hce : ∀ j, j < mn → vp_in (mce j) 36) (hkd : ∀ j, j < mn → mkd j = 0 ∨ mkd j = 1 ∨ mkd j = 2 ∨ mkd j = 3) : Ke l g yX10_pull wsX10_pull ({ frames := 2, cells := 0, slots := 0, locals := 46 } : Room) 0 0 [.ref mq, .int x, .int w] [ob mq 10 [.long mf, .int (nI mt), .ref mmq, .int (nI mn), .ref mkq, .ref mcq, .ref mhq, .ref maq, .int mz, .int my, .long mS, .ref mzq, .ref mtq, .int (nI mT), .int (nI mA), .ref mrq, .ref muq, .long mF, .int mZ, .ref moq, .int mK, .int mH, .ref mgq, .ref miq, .long mI, .int (bI mB), .ref mlq, .ref msq, .ref meq, .ref mvq], ai g mmq 6 mm, ai g mkq 6 mkd, ai g mcq 6 mce, ai g mhq 6 mho, ai g mzq 36 msc] (fun u : Int32 × Int64 × (Nat → Int32) => some (.int u.1)) (fun u => [ob mq 10 [.long mf, .int (nI mt), .ref mmq, .int (nI mn), .ref mkq, .ref mcq, .ref mhq, .ref maq, .int mz, .int my, .long u.2.1, .ref mzq, .ref mtq, .int (nI mT), .int (nI mA), .ref mrq, .ref muq, .long mF, .int mZ, .ref moq, .int mK, .int mH, .ref mgq, .ref miq, .long mI, .int (bI mB), .ref mlq, .ref msq, .ref meq, .ref mvq], ai g mmq 6 mm, ai g mkq 6 mkd, ai g mcq 6 mce, ai g mhq 6 mho, ai g mzq 36 u.2.2]) (fun u => (u.1 = pullF x w mt mm mn mkd mce mho)) := by
  refine Ke.of (cc := cX10_pull) (maxL := 3) (ret := (some .int)) (lv := [(0, .ref mq), (1, .int x), (2, .int w)]) RX10 rfl (by decide) rfl (Nat.le_of_ble_eq_true rfl) rfl ?_
  intro p e s m below meth c A sz hA9 X hr hin2
  have in10 : ∀ w ∈ u_ws RX10 TX10 30, w ∈ wsX10_pull := by decide +kernel
  refine V_iload_n (pc := 0) X dX10_pull_0 rfl 1 rfl ?_
  refine V_i2l (pc := 1) X dX10_pull_1 ?_
  refine V_sg (pc := 2) (nA := 1) (As := [.long x.toInt64]) (rest := []) X (c_X10_isCell l g (v := x.toInt64) ) gX10_pull_X10_isCell dX10_pull_2 rfl (by decide +kernel) rfl ⟨rfl, rfl⟩ ⟨Nat.le_of_ble_eq_true rfl, Nat.le_of_ble_eq_true rfl⟩ ⟨Nat.le_of_ble_eq_true rfl, Nat.le_of_ble_eq_true rfl⟩ [] (by decide) rfl rfl (Nat.le_of_ble_eq_true rfl) (st' := [.int (bI (inJ x.toInt64 0 35))]) rfl ?_
  refine V_seti (y := bI (bel x 36)) (congrArg bI (inJ_bel 35 (by decide) (by decide))) ?_
  refine V_if_eq (tgt := 16) (pc := 5) X dX10_pull_5 (by decide) (fun c_1 => ?_) (fun c_1 => ?_)
  · skip
    have b_2 : (bel x 36) = false := bI0 c_1
    refine V_sipush (v := (-1001)) (pc := 16) X dX10_pull_16 (by decide) ?_
    exact Ve_iret (pc := 19) X hA9 dX10_pull_19 hr ((-1001), mS, msc) (by first | rfl | (simp [b_2]; done)) (by
          try dsimp only
          simp [pullF, b_2]) (by rfl)
  · skip
    have b_3 : (bel x 36) = true := bI1 c_1
    refine V_aload_n (pc := 8) X dX10_pull_8 rfl 0 rfl ?_
    refine V_iload_n (pc := 9) X dX10_pull_9 rfl 2 rfl ?_
    refine V_vg (pc := 10) (nA := 1) (As := [.int w]) (rest := []) X (c_X10_isTuft l g (mq := mq) (mf := mf) (mt := mt) (mmq := mmq) (mn := mn) (mkq := mkq) (mcq := mcq) (mhq := mhq) (maq := maq) (mz := mz) (my := my) (mS := mS) (mzq := mzq) (mtq := mtq) (mT := mT) (mA := mA) (mrq := mrq) (muq := muq) (mF := mF) (mZ := mZ) (moq := moq) (mK := mK) (mH := mH) (mgq := mgq) (miq := miq) (mI := mI) (mB := mB) (mlq := mlq) (msq := msq) (meq := meq) (mvq := mvq) (x := w) (ht := by first | assumption | omega)) gX10_pull_X10_isTuft dX10_pull_10 rfl (by decide +kernel) rfl (qb := 0) rfl rfl rfl ⟨rfl, rfl⟩ ⟨Nat.le_of_ble_eq_true rfl, Nat.le_of_ble_eq_true rfl⟩ ⟨Nat.le_of_ble_eq_true rfl, Nat.le_of_ble_eq_true rfl⟩ [0] (by decide) rfl rfl (Nat.le_of_ble_eq_true rfl) (st' := [.int (bI (bel w (nI mt)))]) rfl ?_
    refine V_if_ne (tgt := 20) (pc := 13) X dX10_pull_13 (by decide) (fun c_4 => ?_) (fun c_4 => ?_)
    · skip
      have b_5 : (bel w (nI mt)) = true := bI1 c_4
      refine V_aload_n (pc := 20) X dX10_pull_20 rfl 0 rfl ?_
      refine V_ve (pc := 21) (nA := 0) (As := []) (rest := []) X (c_X10_sitsAll l g (mq := mq) (mf := mf) (mt := mt) (mmq := mmq) (mn := mn) (mkq := mkq) (mcq := mcq) (mhq := mhq) (maq := maq) (mz := mz) (my := my) (mS := mS) (mzq := mzq) (mtq := mtq) (mT := mT) (mA := mA) (mrq := mrq) (muq := muq) (mF := mF) (mZ := mZ) (moq := moq) (mK := mK) (mH := mH) (mgq := mgq) (miq := miq) (mI := mI) (mB := mB) (mlq := mlq) (msq := msq) (meq := meq) (mvq := mvq) (mkd := mkd) (mce := mce) (mho := mho) (msc := msc) (hn := by first | assumption | omega) (hce := by first | assumption | omega) (hkd := by first | assumption | omega)) gX10_pull_X10_sitsAll dX10_pull_21 rfl (by decide +kernel) rfl (qb := 0) rfl rfl rfl ⟨rfl, rfl⟩ ⟨Nat.le_of_ble_eq_true rfl, Nat.le_of_ble_eq_true rfl⟩ ⟨Nat.le_of_ble_eq_true rfl, Nat.le_of_ble_eq_true rfl⟩ [0, 2, 3, 4, 5] (by decide) rfl [1] (by decide) (by decide) [ai g mmq 6 mm] rfl [1, 0, 2, 3, 4, 5] (by decide) (fun u => [ob mq 10 [.long mf, .int (nI mt), .ref mmq, .int (nI mn), .ref mkq, .ref mcq, .ref mhq, .ref maq, .int mz, .int my, .long u.1, .ref mzq, .ref mtq, .int (nI mT), .int (nI mA), .ref mrq, .ref muq, .long mF, .int mZ, .ref moq, .int mK, .int mH, .ref mgq, .ref miq, .long mI, .int (bI mB), .ref mlq, .ref msq, .ref meq, .ref mvq], ai g mmq 6 mm, ai g mkq 6 mkd, ai g mcq 6 mce, ai g mhq 6 mho, ai g mzq 36 u.2]) (fun _ => rfl) rfl (Nat.le_of_ble_eq_true rfl) (fun u => []) (fun _ => rfl) (fun u hu_8 => ?_)
      obtain ⟨S2_6, sc2_7⟩ := u
      try dsimp only at hu_8
      have hsa_9 := hu_8
      refine V_eqw (ws2 := [ob mq 10 [.long mf, .int (nI mt), .ref mmq, .int (nI mn), .ref mkq, .ref mcq, .ref mhq, .ref maq, .int mz, .int my, .long S2_6, .ref mzq, .ref mtq, .int (nI mT), .int (nI mA), .ref mrq, .ref muq, .long mF, .int mZ, .ref moq, .int mK, .int mH, .ref mgq, .ref miq, .long mI, .int (bI mB), .ref mlq, .ref msq, .ref meq, .ref mvq], ai g mmq 6 mm, ai g mkq 6 mkd, ai g mcq 6 mce, ai g mhq 6 mho, ai g mzq 36 sc2_7]) rfl (V_eqs (st2 := []) rfl ?_)
      refine V_aload_n (pc := 24) X dX10_pull_24 rfl 0 rfl ?_
      refine V_get (C := RX10) (T := TX10) (N := 30) (ci := 10) (pc := 25) X dX10_pull_25 in10 0 rfl rfl 10 (by decide) (by decide +kernel) rfl rfl ?_
      refine V_iload_n (pc := 28) X dX10_pull_28 rfl 1 rfl ?_
      refine V_sg (pc := 29) (nA := 2) (As := [.long S2_6, .int x]) (rest := []) X (c_X10_has l g (f := S2_6) (x := x) (hx := by exact bel_vin (n := 36) (by omega) (by omega) (by omega) (by assumption))) gX10_pull_X10_has dX10_pull_29 rfl (by decide +kernel) rfl ⟨rfl, rfl⟩ ⟨Nat.le_of_ble_eq_true rfl, Nat.le_of_ble_eq_true rfl⟩ ⟨Nat.le_of_ble_eq_true rfl, Nat.le_of_ble_eq_true rfl⟩ [] (by decide) rfl rfl (Nat.le_of_ble_eq_true rfl) (st' := [.int (bI (firmB S2_6 x))]) rfl ?_
      refine V_if_eq (tgt := 44) (pc := 32) X dX10_pull_32 (by decide) (fun c_10 => ?_) (fun c_10 => ?_)
      · skip
        have b_11 : (firmB S2_6 x) = false := bI0 c_10
        refine V_sipush (v := (-1002)) (pc := 44) X dX10_pull_44 (by decide) ?_
        exact Ve_iret (pc := 47) X hA9 dX10_pull_47 hr ((-1002), S2_6, sc2_7) (by first | rfl | (simp [b_3, b_5, hsa_9, b_11]; done)) (by
              try dsimp only
              exact (pullF_c hsa_9 b_3 b_5).2 (by assumption)) (by rfl)
      · skip
        have b_12 : (firmB S2_6 x) = true := bI1 c_10
        refine V_aload_n (pc := 35) X dX10_pull_35 rfl 0 rfl ?_
        refine V_iload_n (pc := 36) X dX10_pull_36 rfl 1 rfl ?_
        refine V_iload_n (pc := 37) X dX10_pull_37 rfl 2 rfl ?_
        refine V_vg (pc := 38) (nA := 2) (As := [.int x, .int w]) (rest := []) X (c_X10_pulls l g (mq := mq) (mf := mf) (mt := mt) (mmq := mmq) (mn := mn) (mkq := mkq) (mcq := mcq) (mhq := mhq) (maq := maq) (mz := mz) (my := my) (mS := S2_6) (mzq := mzq) (mtq := mtq) (mT := mT) (mA := mA) (mrq := mrq) (muq := muq) (mF := mF) (mZ := mZ) (moq := moq) (mK := mK) (mH := mH) (mgq := mgq) (miq := miq) (mI := mI) (mB := mB) (mlq := mlq) (msq := msq) (meq := meq) (mvq := mvq) (mm := mm) (msc := sc2_7) (x := x) (y := w) (hx := by exact bel_vin (n := 36) (by omega) (by omega) (by omega) (by assumption)) (hy := by exact bel_vin (n := mt) (by omega) (k := 6) (by omega) (by omega) (by assumption))) gX10_pull_X10_pulls dX10_pull_38 rfl (by decide +kernel) rfl (qb := 0) rfl rfl rfl ⟨rfl, rfl⟩ ⟨Nat.le_of_ble_eq_true rfl, Nat.le_of_ble_eq_true rfl⟩ ⟨Nat.le_of_ble_eq_true rfl, Nat.le_of_ble_eq_true rfl⟩ [0, 1, 5] (by decide) rfl rfl (Nat.le_of_ble_eq_true rfl) (st' := [.int (sc2_7 x.toNatClampNeg - 3 * aprt x (mm w.toNatClampNeg))]) rfl ?_
        refine V_goto (tgt := 47) (pc := 41) X dX10_pull_41 (by decide) ?_
        exact Ve_iret (pc := 47) X hA9 dX10_pull_47 hr (sc2_7 x.toNatClampNeg - 3 * aprt x (mm w.toNatClampNeg), S2_6, sc2_7) (by first | rfl | (simp [b_3, b_5, hsa_9, b_12]; done)) (by
              try dsimp only
              exact (pullF_c hsa_9 b_3 b_5).1 (by assumption)) (by rfl)
    · skip
      have b_13 : (bel w (nI mt)) = false := bI0 c_4
      refine V_sipush (v := (-1001)) (pc := 16) X dX10_pull_16 (by decide) ?_
      exact Ve_iret (pc := 19) X hA9 dX10_pull_19 hr ((-1001), mS, msc) (by first | rfl | (simp [b_3, b_13]; done)) (by
            try dsimp only
            simp [pullF, b_3, b_13]) (by rfl)
set_option maxHeartbeats 4000000 in
set_option maxRecDepth 100000 in
theorem c_X10_lays (l : Launch) (g : XG) (mq : Nat) (mf : Int64) (mt : Nat) (mmq : Nat) (mn : Nat) (mkq : Nat) (mcq : Nat) (mhq : Nat) (maq : Nat) (mz : Int32) (my : Int32) (mS : Int64) (mzq : Nat) (mtq : Nat) (mT : Nat) (mA : Nat) (mrq : Nat) (muq : Nat) (mF : Int64) (mZ : Int32) (moq : Nat) (mK : Int32) (mH : Int32) (mgq : Nat) (miq : Nat) (mI : Int64) (mB : Bool) (mlq : Nat) (msq : Nat) (meq : Nat) (mvq : Nat) (mm : Nat → Int32) (mkd : Nat → Int32) (mce : Nat → Int32) (mho : Nat → Int32) (msc : Nat → Int32) (mth : Nat → Int32) (ht : mt ≤ 6) (hn : mn ≤ 6) (hce : ∀ j, j < mn → vp_in (mce j) 36) (hkd : ∀ j, j < mn → mkd j = 0 ∨ mkd j = 1 ∨ mkd j = 2 ∨ mkd j = 3) (hz9 : ∃ q, q < 10 ∧ mz = nI q) : Ke l g yX10_lays wsX10_lays ({ frames := 2, cells := 0, slots := 0, locals := 45 } : Room) 0 0 [.ref mq] [ob mq 10 [.long mf, .int (nI mt), .ref mmq, .int (nI mn), .ref mkq, .ref mcq, .ref mhq, .ref maq, .int mz, .int my, .long mS, .ref mzq, .ref mtq, .int (nI mT), .int (nI mA), .ref mrq, .ref muq, .long mF, .int mZ, .ref moq, .int mK, .int mH, .ref mgq, .ref miq, .long mI, .int (bI mB), .ref mlq, .ref msq, .ref meq, .ref mvq], ai g mmq 6 mm, ai g mkq 6 mkd, ai g mcq 6 mce, ai g mhq 6 mho, ai g mzq 36 msc, ai g muq 6 mth] (fun u : Int64 × (Nat → Int32) × (Nat → Int32) => some (.int (nI (mvC mkd mce mho mn mz mm mt)))) (fun u => [ob mq 10 [.long mf, .int (nI mt), .ref mmq, .int (nI mn), .ref mkq, .ref mcq, .ref mhq, .ref maq, .int mz, .int my, .long u.1, .ref mzq, .ref mtq, .int (nI mT), .int (nI mA), .ref mrq, .ref muq, .long (mf ||| strF mkd mce mho mn), .int (frX mz), .ref moq, .int mK, .int mH, .ref mgq, .ref miq, .long mI, .int (bI mB), .ref mlq, .ref msq, .ref meq, .ref mvq], ai g mmq 6 mm, ai g mkq 6 mkd, ai g mcq 6 mce, ai g mhq 6 mho, ai g mzq 36 u.2.1, ai g muq 6 u.2.2]) (fun u => (∀ j, j < mt → u.2.2 j = mvd mkd mce mho mn mz (mm j))) := by
  refine Ke.of (cc := cX10_lays) (maxL := 8) (ret := (some .int)) (lv := [(0, .ref mq)]) RX10 rfl (by decide) rfl (Nat.le_of_ble_eq_true rfl) rfl ?_
  intro p e s m below meth c A sz hA9 X hr hin2
  have in10 : ∀ w ∈ u_ws RX10 TX10 30, w ∈ wsX10_lays := by decide +kernel
  refine V_aload_n (pc := 0) X dX10_lays_0 rfl 0 rfl ?_
  refine V_ve (pc := 1) (nA := 0) (As := []) (rest := []) X (c_X10_sitsAll l g (mq := mq) (mf := mf) (mt := mt) (mmq := mmq) (mn := mn) (mkq := mkq) (mcq := mcq) (mhq := mhq) (maq := maq) (mz := mz) (my := my) (mS := mS) (mzq := mzq) (mtq := mtq) (mT := mT) (mA := mA) (mrq := mrq) (muq := muq) (mF := mF) (mZ := mZ) (moq := moq) (mK := mK) (mH := mH) (mgq := mgq) (miq := miq) (mI := mI) (mB := mB) (mlq := mlq) (msq := msq) (meq := meq) (mvq := mvq) (mkd := mkd) (mce := mce) (mho := mho) (msc := msc) (hn := by first | assumption | omega) (hce := by first | assumption | omega) (hkd := by first | assumption | omega)) gX10_lays_X10_sitsAll dX10_lays_1 rfl (by decide +kernel) rfl (qb := 0) rfl rfl rfl ⟨rfl, rfl⟩ ⟨Nat.le_of_ble_eq_true rfl, Nat.le_of_ble_eq_true rfl⟩ ⟨Nat.le_of_ble_eq_true rfl, Nat.le_of_ble_eq_true rfl⟩ [0, 2, 3, 4, 5] (by decide) rfl [1, 6] (by decide) (by decide) [ai g mmq 6 mm, ai g muq 6 mth] rfl [2, 0, 3, 4, 5, 6, 1] (by decide) (fun u => [ob mq 10 [.long mf, .int (nI mt), .ref mmq, .int (nI mn), .ref mkq, .ref mcq, .ref mhq, .ref maq, .int mz, .int my, .long u.1, .ref mzq, .ref mtq, .int (nI mT), .int (nI mA), .ref mrq, .ref muq, .long mF, .int mZ, .ref moq, .int mK, .int mH, .ref mgq, .ref miq, .long mI, .int (bI mB), .ref mlq, .ref msq, .ref meq, .ref mvq], ai g mmq 6 mm, ai g mkq 6 mkd, ai g mcq 6 mce, ai g mhq 6 mho, ai g mzq 36 u.2, ai g muq 6 mth]) (fun _ => rfl) rfl (Nat.le_of_ble_eq_true rfl) (fun u => []) (fun _ => rfl) (fun u hu_3 => ?_)
  obtain ⟨S2_1, sc2_2⟩ := u
  try dsimp only at hu_3
  have hsa_4 := hu_3
  refine V_eqw (ws2 := [ob mq 10 [.long mf, .int (nI mt), .ref mmq, .int (nI mn), .ref mkq, .ref mcq, .ref mhq, .ref maq, .int mz, .int my, .long S2_1, .ref mzq, .ref mtq, .int (nI mT), .int (nI mA), .ref mrq, .ref muq, .long mF, .int mZ, .ref moq, .int mK, .int mH, .ref mgq, .ref miq, .long mI, .int (bI mB), .ref mlq, .ref msq, .ref meq, .ref mvq], ai g mmq 6 mm, ai g mkq 6 mkd, ai g mcq 6 mce, ai g mhq 6 mho, ai g mzq 36 sc2_2, ai g muq 6 mth]) rfl (V_eqs (st2 := []) rfl ?_)
  refine V_iconst (v := 0) (pc := 4) X dX10_lays_4 (by decide) ?_
  refine V_istore_n (lv' := [(1, .int 0), (0, .ref mq)]) (pc := 5) X dX10_lays_5 rfl (Nat.le_of_ble_eq_true rfl) rfl ?_
  refine V_iconst (v := 0) (pc := 6) X dX10_lays_6 (by decide) ?_
  refine V_istore_n (lv' := [(2, .int 0), (1, .int 0), (0, .ref mq)]) (pc := 7) X dX10_lays_7 rfl (Nat.le_of_ble_eq_true rfl) rfl ?_
  refine V_loop (pc := 8) (σ := Nat × Nat × (Nat → Int32)) (fun v9 => [(0, .ref mq), (1, .int (nI v9.2.1)), (2, .int (nI v9.1))]) (fun v9 => [ob mq 10 [.long mf, .int (nI mt), .ref mmq, .int (nI mn), .ref mkq, .ref mcq, .ref mhq, .ref maq, .int mz, .int my, .long S2_1, .ref mzq, .ref mtq, .int (nI mT), .int (nI mA), .ref mrq, .ref muq, .long mF, .int mZ, .ref moq, .int mK, .int mH, .ref mgq, .ref miq, .long mI, .int (bI mB), .ref mlq, .ref msq, .ref meq, .ref mvq], ai g mmq 6 mm, ai g mkq 6 mkd, ai g mcq 6 mce, ai g mhq 6 mho, ai g mzq 36 sc2_2, ai g muq 6 v9.2.2]) (fun v9 => (v9.1 ≤ mt) ∧ (v9.2.1 = mvC mkd mce mho mn mz mm v9.1) ∧ (∀ j, j < v9.1 → v9.2.2 j = mvd mkd mce mho mn mz (mm j))) (fun v9 => mt - v9.1) (0, 0, mth) ⟨(by
        try dsimp only
        all_goals omega), (by
        try dsimp only
        all_goals rfl), (by
        try dsimp only
        exact fun _ h => absurd h (Nat.not_lt_zero _))⟩ rfl [2, 1, 0] rfl ?_
  rintro ⟨i, cnt, zth⟩ ⟨hi, hcnt, hth⟩ ih8
  try dsimp only at hi
  try dsimp only at hcnt
  try dsimp only at hth
  refine V_eqw (ws2 := [ob mq 10 [.long mf, .int (nI mt), .ref mmq, .int (nI mn), .ref mkq, .ref mcq, .ref mhq, .ref maq, .int mz, .int my, .long S2_1, .ref mzq, .ref mtq, .int (nI mT), .int (nI mA), .ref mrq, .ref muq, .long mF, .int mZ, .ref moq, .int mK, .int mH, .ref mgq, .ref miq, .long mI, .int (bI mB), .ref mlq, .ref msq, .ref meq, .ref mvq], ai g mmq 6 mm, ai g mkq 6 mkd, ai g mcq 6 mce, ai g mhq 6 mho, ai g mzq 36 sc2_2, ai g muq 6 zth]) rfl (V_eql (lv' := [(0, .ref mq), (1, .int (nI cnt)), (2, .int (nI i))]) rfl ?_)
  refine V_iload_n (pc := 8) X dX10_lays_8 rfl 2 rfl ?_
  refine V_aload_n (pc := 9) X dX10_lays_9 rfl 0 rfl ?_
  refine V_get (C := RX10) (T := TX10) (N := 30) (ci := 10) (pc := 10) X dX10_lays_10 in10 0 rfl rfl 1 (by decide) (by decide +kernel) rfl rfl ?_
  refine V_icmp_ge (tgt := 202) (pc := 13) X dX10_lays_13 (by decide) (fun c_5 => ?_) (fun c_5 => ?_)
  · skip
    have n_6 : mt ≤ i := nJ_le (a := mt) (b := i) (by omega) (by omega) c_5
    refine V_aload_n (pc := 202) X dX10_lays_202 rfl 0 rfl ?_
    refine V_aload_n (pc := 203) X dX10_lays_203 rfl 0 rfl ?_
    refine V_get (C := RX10) (T := TX10) (N := 30) (ci := 10) (pc := 204) X dX10_lays_204 in10 0 rfl rfl 0 (by decide) (by decide +kernel) rfl rfl ?_
    refine V_put (C := RX10) (T := TX10) (N := 30) (ci := 10) (ws' := [ob mq 10 [.long mf, .int (nI mt), .ref mmq, .int (nI mn), .ref mkq, .ref mcq, .ref mhq, .ref maq, .int mz, .int my, .long S2_1, .ref mzq, .ref mtq, .int (nI mT), .int (nI mA), .ref mrq, .ref muq, .long mf, .int mZ, .ref moq, .int mK, .int mH, .ref mgq, .ref miq, .long mI, .int (bI mB), .ref mlq, .ref msq, .ref meq, .ref mvq], ai g mmq 6 mm, ai g mkq 6 mkd, ai g mcq 6 mce, ai g mhq 6 mho, ai g mzq 36 sc2_2, ai g muq 6 zth]) (pc := 207) X dX10_lays_207 in10 tyX10 tyX10_ok nmX10 0 rfl rfl 17 (by decide) (by decide +kernel) rfl rfl rfl rfl rfl (Nat.le_of_ble_eq_true rfl) rfl ?_
    refine V_iconst (v := 0) (pc := 210) X dX10_lays_210 (by decide) ?_
    refine V_istore_n (lv' := [(2, .int 0), (0, .ref mq), (1, .int (nI cnt))]) (pc := 211) X dX10_lays_211 rfl (Nat.le_of_ble_eq_true rfl) rfl ?_
    refine V_loop (pc := 212) (σ := Nat × Int64) (fun v9 => [(0, .ref mq), (1, .int (nI cnt)), (2, .int (nI v9.1))]) (fun v9 => [ob mq 10 [.long mf, .int (nI mt), .ref mmq, .int (nI mn), .ref mkq, .ref mcq, .ref mhq, .ref maq, .int mz, .int my, .long S2_1, .ref mzq, .ref mtq, .int (nI mT), .int (nI mA), .ref mrq, .ref muq, .long v9.2, .int mZ, .ref moq, .int mK, .int mH, .ref mgq, .ref miq, .long mI, .int (bI mB), .ref mlq, .ref msq, .ref meq, .ref mvq], ai g mmq 6 mm, ai g mkq 6 mkd, ai g mcq 6 mce, ai g mhq 6 mho, ai g mzq 36 sc2_2, ai g muq 6 zth]) (fun v9 => (v9.1 ≤ mn) ∧ (v9.2 = mf ||| strF mkd mce mho v9.1)) (fun v9 => mn - v9.1) (0, mf) ⟨(by
          try dsimp only
          all_goals omega), (by
          try dsimp only
          exact (or64_0 _).symm)⟩ rfl [1, 2, 0] rfl ?_
    rintro ⟨k, zF⟩ ⟨hk, hzF⟩ ih212
    try dsimp only at hk
    try dsimp only at hzF
    refine V_eqw (ws2 := [ob mq 10 [.long mf, .int (nI mt), .ref mmq, .int (nI mn), .ref mkq, .ref mcq, .ref mhq, .ref maq, .int mz, .int my, .long S2_1, .ref mzq, .ref mtq, .int (nI mT), .int (nI mA), .ref mrq, .ref muq, .long zF, .int mZ, .ref moq, .int mK, .int mH, .ref mgq, .ref miq, .long mI, .int (bI mB), .ref mlq, .ref msq, .ref meq, .ref mvq], ai g mmq 6 mm, ai g mkq 6 mkd, ai g mcq 6 mce, ai g mhq 6 mho, ai g mzq 36 sc2_2, ai g muq 6 zth]) rfl (V_eql (lv' := [(0, .ref mq), (1, .int (nI cnt)), (2, .int (nI k))]) rfl ?_)
    refine V_iload_n (pc := 212) X dX10_lays_212 rfl 2 rfl ?_
    refine V_aload_n (pc := 213) X dX10_lays_213 rfl 0 rfl ?_
    refine V_get (C := RX10) (T := TX10) (N := 30) (ci := 10) (pc := 214) X dX10_lays_214 in10 0 rfl rfl 3 (by decide) (by decide +kernel) rfl rfl ?_
    refine V_icmp_ge (tgt := 266) (pc := 217) X dX10_lays_217 (by decide) (fun c_7 => ?_) (fun c_7 => ?_)
    · skip
      have n_8 : mn ≤ k := nJ_le (a := mn) (b := k) (by omega) (by omega) c_7
      refine V_aload_n (pc := 266) X dX10_lays_266 rfl 0 rfl ?_
      refine V_aload_n (pc := 267) X dX10_lays_267 rfl 0 rfl ?_
      refine V_get (C := RX10) (T := TX10) (N := 30) (ci := 10) (pc := 268) X dX10_lays_268 in10 0 rfl rfl 8 (by decide) (by decide +kernel) rfl rfl ?_
      refine V_if_le (tgt := 283) (pc := 271) X dX10_lays_271 (by decide) (fun c_9 => ?_) (fun c_9 => ?_)
      · skip
        refine V_iconst (v := 0) (pc := 283) X dX10_lays_283 (by decide) ?_
        refine V_seti (y := frX mz) (by first | exact frM_p hz9 (by assumption) | exact frM_z hz9 (by assumption)) ?_
        refine V_put (C := RX10) (T := TX10) (N := 30) (ci := 10) (ws' := [ob mq 10 [.long mf, .int (nI mt), .ref mmq, .int (nI mn), .ref mkq, .ref mcq, .ref mhq, .ref maq, .int mz, .int my, .long S2_1, .ref mzq, .ref mtq, .int (nI mT), .int (nI mA), .ref mrq, .ref muq, .long zF, .int (frX mz), .ref moq, .int mK, .int mH, .ref mgq, .ref miq, .long mI, .int (bI mB), .ref mlq, .ref msq, .ref meq, .ref mvq], ai g mmq 6 mm, ai g mkq 6 mkd, ai g mcq 6 mce, ai g mhq 6 mho, ai g mzq 36 sc2_2, ai g muq 6 zth]) (pc := 284) X dX10_lays_284 in10 tyX10 tyX10_ok nmX10 0 rfl rfl 18 (by decide) (by decide +kernel) rfl rfl rfl rfl rfl (Nat.le_of_ble_eq_true rfl) rfl ?_
        refine V_iload_n (pc := 287) X dX10_lays_287 rfl 1 rfl ?_
        exact Ve_iret (pc := 288) X hA9 dX10_lays_288 hr (S2_1, sc2_2, zth) (by rw [hcnt, show i = mt by omega]) (by
              try dsimp only
              intro j hj; exact hth j (by omega)) (by rw [hzF, show k = mn by omega])
      · skip
        refine V_aload_n (pc := 274) X dX10_lays_274 rfl 0 rfl ?_
        refine V_get (C := RX10) (T := TX10) (N := 30) (ci := 10) (pc := 275) X dX10_lays_275 in10 0 rfl rfl 8 (by decide) (by decide +kernel) rfl rfl ?_
        refine V_iconst (v := 1) (pc := 278) X dX10_lays_278 (by decide) ?_
        refine V_isub (pc := 279) X dX10_lays_279 ?_
        refine V_goto (tgt := 284) (pc := 280) X dX10_lays_280 (by decide) ?_
        refine V_seti (y := frX mz) (by first | exact frM_p hz9 (by assumption) | exact frM_z hz9 (by assumption)) ?_
        refine V_put (C := RX10) (T := TX10) (N := 30) (ci := 10) (ws' := [ob mq 10 [.long mf, .int (nI mt), .ref mmq, .int (nI mn), .ref mkq, .ref mcq, .ref mhq, .ref maq, .int mz, .int my, .long S2_1, .ref mzq, .ref mtq, .int (nI mT), .int (nI mA), .ref mrq, .ref muq, .long zF, .int (frX mz), .ref moq, .int mK, .int mH, .ref mgq, .ref miq, .long mI, .int (bI mB), .ref mlq, .ref msq, .ref meq, .ref mvq], ai g mmq 6 mm, ai g mkq 6 mkd, ai g mcq 6 mce, ai g mhq 6 mho, ai g mzq 36 sc2_2, ai g muq 6 zth]) (pc := 284) X dX10_lays_284 in10 tyX10 tyX10_ok nmX10 0 rfl rfl 18 (by decide) (by decide +kernel) rfl rfl rfl rfl rfl (Nat.le_of_ble_eq_true rfl) rfl ?_
        refine V_iload_n (pc := 287) X dX10_lays_287 rfl 1 rfl ?_
        exact Ve_iret (pc := 288) X hA9 dX10_lays_288 hr (S2_1, sc2_2, zth) (by rw [hcnt, show i = mt by omega]) (by
              try dsimp only
              intro j hj; exact hth j (by omega)) (by rw [hzF, show k = mn by omega])
    · skip
      have n_10 : k < mn := nJ_nle (a := mn) (b := k) (by omega) (by omega) c_7
      refine V_aload_n (pc := 220) X dX10_lays_220 rfl 0 rfl ?_
      refine V_dup (pc := 221) X dX10_lays_221 rfl ?_
      refine V_get (C := RX10) (T := TX10) (N := 30) (ci := 10) (pc := 222) X dX10_lays_222 in10 0 rfl rfl 17 (by decide) (by decide +kernel) rfl rfl ?_
      refine V_aload_n (pc := 225) X dX10_lays_225 rfl 0 rfl ?_
      refine V_get (C := RX10) (T := TX10) (N := 30) (ci := 10) (pc := 226) X dX10_lays_226 in10 0 rfl rfl 4 (by decide) (by decide +kernel) rfl rfl ?_
      refine V_iload_n (pc := 229) X dX10_lays_229 rfl 2 rfl ?_
      refine V_iald (v := mkd k) (pc := 230) X dX10_lays_230 2 rfl (vp_in_nI (by omega) (by omega)) (by rw [nI_clamp (by omega)]) ?_
      refine V_iconst (v := 3) (pc := 231) X dX10_lays_231 (by decide) ?_
      refine V_icmp_ne (tgt := 255) (pc := 232) X dX10_lays_232 (by decide) (fun c_11 => ?_) (fun c_11 => ?_)
      · skip
        refine V_lconst (v := 0) (pc := 255) X dX10_lays_255 (by decide) ?_
        refine V_lor (pc := 256) X dX10_lays_256 ?_
        refine V_put (C := RX10) (T := TX10) (N := 30) (ci := 10) (ws' := [ob mq 10 [.long mf, .int (nI mt), .ref mmq, .int (nI mn), .ref mkq, .ref mcq, .ref mhq, .ref maq, .int mz, .int my, .long S2_1, .ref mzq, .ref mtq, .int (nI mT), .int (nI mA), .ref mrq, .ref muq, .long (zF ||| 0), .int mZ, .ref moq, .int mK, .int mH, .ref mgq, .ref miq, .long mI, .int (bI mB), .ref mlq, .ref msq, .ref meq, .ref mvq], ai g mmq 6 mm, ai g mkq 6 mkd, ai g mcq 6 mce, ai g mhq 6 mho, ai g mzq 36 sc2_2, ai g muq 6 zth]) (pc := 257) X dX10_lays_257 in10 tyX10 tyX10_ok nmX10 0 rfl rfl 17 (by decide) (by decide +kernel) rfl rfl rfl rfl rfl (Nat.le_of_ble_eq_true rfl) rfl ?_
        refine V_iinc (v := nI (k + 1)) (lv' := [(2, .int (nI (k + 1))), (0, .ref mq), (1, .int (nI cnt))]) (pc := 260) X dX10_lays_260 2 rfl (nI_add k 1) (Nat.le_of_ble_eq_true rfl) rfl ?_
        refine V_goto (tgt := 212) (pc := 263) X dX10_lays_263 (by decide) ?_
        refine V_lv [1, 2, 0] rfl ?_
        exact ih212 (k + 1, zF ||| 0) ⟨(by
              try dsimp only
              all_goals omega), (by
              try dsimp only
              first | (rw [hzF, or64_assoc]; exact congrArg (mf ||| ·) (strF_c (decide_eq_true (i_pos (by assumption))) (by assumption))) | exact (or64_0 _).trans (hzF.trans (congrArg (mf ||| ·) (strF_a (decide_eq_false (i_npos (by assumption)))))) | exact (or64_0 _).trans (hzF.trans (congrArg (mf ||| ·) (strF_b (by assumption)))))⟩ (by
              try dsimp only
              all_goals omega)
      · skip
        refine V_aload_n (pc := 235) X dX10_lays_235 rfl 0 rfl ?_
        refine V_get (C := RX10) (T := TX10) (N := 30) (ci := 10) (pc := 236) X dX10_lays_236 in10 0 rfl rfl 6 (by decide) (by decide +kernel) rfl rfl ?_
        refine V_iload_n (pc := 239) X dX10_lays_239 rfl 2 rfl ?_
        refine V_iald (v := mho k) (pc := 240) X dX10_lays_240 4 rfl (vp_in_nI (by omega) (by omega)) (by rw [nI_clamp (by omega)]) ?_
        refine V_if_le (tgt := 255) (pc := 241) X dX10_lays_241 (by decide) (fun c_12 => ?_) (fun c_12 => ?_)
        · skip
          refine V_lconst (v := 0) (pc := 255) X dX10_lays_255 (by decide) ?_
          refine V_lor (pc := 256) X dX10_lays_256 ?_
          refine V_put (C := RX10) (T := TX10) (N := 30) (ci := 10) (ws' := [ob mq 10 [.long mf, .int (nI mt), .ref mmq, .int (nI mn), .ref mkq, .ref mcq, .ref mhq, .ref maq, .int mz, .int my, .long S2_1, .ref mzq, .ref mtq, .int (nI mT), .int (nI mA), .ref mrq, .ref muq, .long (zF ||| 0), .int mZ, .ref moq, .int mK, .int mH, .ref mgq, .ref miq, .long mI, .int (bI mB), .ref mlq, .ref msq, .ref meq, .ref mvq], ai g mmq 6 mm, ai g mkq 6 mkd, ai g mcq 6 mce, ai g mhq 6 mho, ai g mzq 36 sc2_2, ai g muq 6 zth]) (pc := 257) X dX10_lays_257 in10 tyX10 tyX10_ok nmX10 0 rfl rfl 17 (by decide) (by decide +kernel) rfl rfl rfl rfl rfl (Nat.le_of_ble_eq_true rfl) rfl ?_
          refine V_iinc (v := nI (k + 1)) (lv' := [(2, .int (nI (k + 1))), (0, .ref mq), (1, .int (nI cnt))]) (pc := 260) X dX10_lays_260 2 rfl (nI_add k 1) (Nat.le_of_ble_eq_true rfl) rfl ?_
          refine V_goto (tgt := 212) (pc := 263) X dX10_lays_263 (by decide) ?_
          refine V_lv [1, 2, 0] rfl ?_
          exact ih212 (k + 1, zF ||| 0) ⟨(by
                try dsimp only
                all_goals omega), (by
                try dsimp only
                first | (rw [hzF, or64_assoc]; exact congrArg (mf ||| ·) (strF_c (decide_eq_true (i_pos (by assumption))) (by assumption))) | exact (or64_0 _).trans (hzF.trans (congrArg (mf ||| ·) (strF_a (decide_eq_false (i_npos (by assumption)))))) | exact (or64_0 _).trans (hzF.trans (congrArg (mf ||| ·) (strF_b (by assumption)))))⟩ (by
                try dsimp only
                all_goals omega)
        · skip
          refine V_lconst (v := 1) (pc := 244) X dX10_lays_244 (by decide) ?_
          refine V_aload_n (pc := 245) X dX10_lays_245 rfl 0 rfl ?_
          refine V_get (C := RX10) (T := TX10) (N := 30) (ci := 10) (pc := 246) X dX10_lays_246 in10 0 rfl rfl 5 (by decide) (by decide +kernel) rfl rfl ?_
          refine V_iload_n (pc := 249) X dX10_lays_249 rfl 2 rfl ?_
          refine V_iald (v := mce k) (pc := 250) X dX10_lays_250 3 rfl (vp_in_nI (by omega) (by omega)) (by rw [nI_clamp (by omega)]) ?_
          refine V_lshl (pc := 251) X dX10_lays_251 ?_
          refine V_setl (y := bitI (mce k)) rfl ?_
          refine V_goto (tgt := 256) (pc := 252) X dX10_lays_252 (by decide) ?_
          refine V_lor (pc := 256) X dX10_lays_256 ?_
          refine V_put (C := RX10) (T := TX10) (N := 30) (ci := 10) (ws' := [ob mq 10 [.long mf, .int (nI mt), .ref mmq, .int (nI mn), .ref mkq, .ref mcq, .ref mhq, .ref maq, .int mz, .int my, .long S2_1, .ref mzq, .ref mtq, .int (nI mT), .int (nI mA), .ref mrq, .ref muq, .long (zF ||| (bitI (mce k))), .int mZ, .ref moq, .int mK, .int mH, .ref mgq, .ref miq, .long mI, .int (bI mB), .ref mlq, .ref msq, .ref meq, .ref mvq], ai g mmq 6 mm, ai g mkq 6 mkd, ai g mcq 6 mce, ai g mhq 6 mho, ai g mzq 36 sc2_2, ai g muq 6 zth]) (pc := 257) X dX10_lays_257 in10 tyX10 tyX10_ok nmX10 0 rfl rfl 17 (by decide) (by decide +kernel) rfl rfl rfl rfl rfl (Nat.le_of_ble_eq_true rfl) rfl ?_
          refine V_iinc (v := nI (k + 1)) (lv' := [(2, .int (nI (k + 1))), (0, .ref mq), (1, .int (nI cnt))]) (pc := 260) X dX10_lays_260 2 rfl (nI_add k 1) (Nat.le_of_ble_eq_true rfl) rfl ?_
          refine V_goto (tgt := 212) (pc := 263) X dX10_lays_263 (by decide) ?_
          refine V_lv [1, 2, 0] rfl ?_
          exact ih212 (k + 1, zF ||| (bitI (mce k))) ⟨(by
                try dsimp only
                all_goals omega), (by
                try dsimp only
                first | (rw [hzF, or64_assoc]; exact congrArg (mf ||| ·) (strF_c (decide_eq_true (i_pos (by assumption))) (by assumption))) | exact (or64_0 _).trans (hzF.trans (congrArg (mf ||| ·) (strF_a (decide_eq_false (i_npos (by assumption)))))) | exact (or64_0 _).trans (hzF.trans (congrArg (mf ||| ·) (strF_b (by assumption)))))⟩ (by
                try dsimp only
                all_goals omega)
  · skip
    have n_13 : i < mt := nJ_nle (a := mt) (b := i) (by omega) (by omega) c_5
    refine V_iconst (v := 0) (pc := 16) X dX10_lays_16 (by decide) ?_
    refine V_istore_n (lv' := [(3, .int 0), (0, .ref mq), (1, .int (nI cnt)), (2, .int (nI i))]) (pc := 17) X dX10_lays_17 rfl (Nat.le_of_ble_eq_true rfl) rfl ?_
    refine V_iconst (v := (-1)) (pc := 18) X dX10_lays_18 (by decide) ?_
    refine V_istore (lv' := [(4, .int (-1)), (3, .int 0), (0, .ref mq), (1, .int (nI cnt)), (2, .int (nI i))]) (pc := 19) X dX10_lays_19 (Nat.le_of_ble_eq_true rfl) rfl ?_
    refine V_iconst (v := 0) (pc := 21) X dX10_lays_21 (by decide) ?_
    refine V_istore (lv' := [(5, .int 0), (4, .int (-1)), (3, .int 0), (0, .ref mq), (1, .int (nI cnt)), (2, .int (nI i))]) (pc := 22) X dX10_lays_22 (Nat.le_of_ble_eq_true rfl) rfl ?_
    refine V_iconst (v := 0) (pc := 24) X dX10_lays_24 (by decide) ?_
    refine V_istore (lv' := [(6, .int 0), (5, .int 0), (4, .int (-1)), (3, .int 0), (0, .ref mq), (1, .int (nI cnt)), (2, .int (nI i))]) (pc := 25) X dX10_lays_25 (Nat.le_of_ble_eq_true rfl) rfl ?_
    refine V_loop (pc := 27) (σ := Nat × Int32 × Int32 × Bool) (fun v9 => [(0, .ref mq), (1, .int (nI cnt)), (2, .int (nI i)), (3, .int v9.2.1), (4, .int v9.2.2.1), (5, .int (bI v9.2.2.2)), (6, .int (nI v9.1))]) (fun v9 => [ob mq 10 [.long mf, .int (nI mt), .ref mmq, .int (nI mn), .ref mkq, .ref mcq, .ref mhq, .ref maq, .int mz, .int my, .long S2_1, .ref mzq, .ref mtq, .int (nI mT), .int (nI mA), .ref mrq, .ref muq, .long mF, .int mZ, .ref moq, .int mK, .int mH, .ref mgq, .ref miq, .long mI, .int (bI mB), .ref mlq, .ref msq, .ref meq, .ref mvq], ai g mmq 6 mm, ai g mkq 6 mkd, ai g mcq 6 mce, ai g mhq 6 mho, ai g mzq 36 sc2_2, ai g muq 6 zth]) (fun v9 => (v9.1 ≤ 36) ∧ ((v9.2.1, v9.2.2.1, v9.2.2.2) = gmF mkd mce mho mn (mm i) v9.1)) (fun v9 => 36 - v9.1) (0, 0, (-1), false) ⟨(by
          try dsimp only
          all_goals omega), (by
          try dsimp only
          all_goals rfl)⟩ rfl [4, 5, 6, 3, 2, 1, 0] rfl ?_
    rintro ⟨c, mo, to, two⟩ ⟨hc36, hr⟩ ih27
    try dsimp only at hc36
    try dsimp only at hr
    refine V_eqw (ws2 := [ob mq 10 [.long mf, .int (nI mt), .ref mmq, .int (nI mn), .ref mkq, .ref mcq, .ref mhq, .ref maq, .int mz, .int my, .long S2_1, .ref mzq, .ref mtq, .int (nI mT), .int (nI mA), .ref mrq, .ref muq, .long mF, .int mZ, .ref moq, .int mK, .int mH, .ref mgq, .ref miq, .long mI, .int (bI mB), .ref mlq, .ref msq, .ref meq, .ref mvq], ai g mmq 6 mm, ai g mkq 6 mkd, ai g mcq 6 mce, ai g mhq 6 mho, ai g mzq 36 sc2_2, ai g muq 6 zth]) rfl (V_eql (lv' := [(0, .ref mq), (1, .int (nI cnt)), (2, .int (nI i)), (3, .int mo), (4, .int to), (5, .int (bI two)), (6, .int (nI c))]) rfl ?_)
    refine V_iload (pc := 27) X dX10_lays_27 6 rfl ?_
    refine V_bipush (v := 36) (pc := 29) X dX10_lays_29 (by decide) ?_
    refine V_icmp_ge (tgt := 117) (pc := 31) X dX10_lays_31 (by decide) (fun c_14 => ?_) (fun c_14 => ?_)
    · skip
      have n_15 : 36 ≤ c := nJ_le (a := 36) (b := c) (by omega) (by omega) c_14
      refine V_iload (pc := 117) X dX10_lays_117 4 rfl ?_
      refine V_if_lt (tgt := 149) (pc := 119) X dX10_lays_119 (by decide) (fun c_16 => ?_) (fun c_16 => ?_)
      · skip
        refine V_iconst (v := 0) (pc := 149) X dX10_lays_149 (by decide) ?_
        refine V_istore (lv' := [(6, .int 0), (0, .ref mq), (1, .int (nI cnt)), (2, .int (nI i)), (3, .int mo), (4, .int to), (5, .int (bI two))]) (pc := 150) X dX10_lays_150 (Nat.le_of_ble_eq_true rfl) rfl ?_
        refine V_aload_n (pc := 152) X dX10_lays_152 rfl 1 rfl ?_
        refine V_get (C := RX10) (T := TX10) (N := 30) (ci := 10) (pc := 153) X dX10_lays_153 in10 0 rfl rfl 16 (by decide) (by decide +kernel) rfl rfl ?_
        refine V_iload_n (pc := 156) X dX10_lays_156 rfl 3 rfl ?_
        refine V_iload (pc := 157) X dX10_lays_157 0 rfl ?_
        refine V_if_eq (tgt := 176) (pc := 159) X dX10_lays_159 (by decide) (fun c_17 => ?_) (fun c_17 => ?_)
        · skip
          refine V_aload_n (pc := 176) X dX10_lays_176 rfl 1 rfl ?_
          refine V_get (C := RX10) (T := TX10) (N := 30) (ci := 10) (pc := 177) X dX10_lays_177 in10 0 rfl rfl 2 (by decide) (by decide +kernel) rfl rfl ?_
          refine V_iload_n (pc := 180) X dX10_lays_180 rfl 3 rfl ?_
          refine V_iald (v := mm i) (pc := 181) X dX10_lays_181 1 rfl (vp_in_nI (by omega) (by omega)) (by rw [nI_clamp (by omega)]) ?_
          refine V_iast (f' := upd zth i (mm i)) (ws' := [ob mq 10 [.long mf, .int (nI mt), .ref mmq, .int (nI mn), .ref mkq, .ref mcq, .ref mhq, .ref maq, .int mz, .int my, .long S2_1, .ref mzq, .ref mtq, .int (nI mT), .int (nI mA), .ref mrq, .ref muq, .long mF, .int mZ, .ref moq, .int mK, .int mH, .ref mgq, .ref miq, .long mI, .int (bI mB), .ref mlq, .ref msq, .ref meq, .ref mvq], ai g mmq 6 mm, ai g mkq 6 mkd, ai g mcq 6 mce, ai g mhq 6 mho, ai g mzq 36 sc2_2, ai g muq 6 (upd zth i (mm i))]) (pc := 182) X dX10_lays_182 6 rfl (vp_in_nI (by omega) (by omega)) (by rw [nI_clamp (by omega)]) rfl ?_
          refine V_iload_n (pc := 183) X dX10_lays_183 rfl 2 rfl ?_
          refine V_iload (pc := 184) X dX10_lays_184 0 rfl ?_
          refine V_if_eq (tgt := 193) (pc := 186) X dX10_lays_186 (by decide) (fun c_18 => ?_) (fun c_18 => ?_)
          · skip
            refine V_iconst (v := 0) (pc := 193) X dX10_lays_193 (by decide) ?_
            refine V_iadd (pc := 194) X dX10_lays_194 ?_
            refine V_seti (y := nI (cnt + 0)) (nI_add cnt 0) ?_
            refine V_istore_n (lv' := [(1, .int (nI (cnt + 0))), (6, .int 0), (0, .ref mq), (2, .int (nI i)), (3, .int mo), (4, .int to), (5, .int (bI two))]) (pc := 195) X dX10_lays_195 rfl (Nat.le_of_ble_eq_true rfl) rfl ?_
            refine V_iinc (v := nI (i + 1)) (lv' := [(2, .int (nI (i + 1))), (1, .int (nI (cnt + 0))), (6, .int 0), (0, .ref mq), (3, .int mo), (4, .int to), (5, .int (bI two))]) (pc := 196) X dX10_lays_196 3 rfl (nI_add i 1) (Nat.le_of_ble_eq_true rfl) rfl ?_
            refine V_goto (tgt := 8) (pc := 199) X dX10_lays_199 (by decide) ?_
            refine V_lv [3, 1, 0] rfl ?_
            exact ih8 (i + 1, cnt + 0, upd zth i (mm i)) ⟨(by
                  try dsimp only
                  all_goals omega), (by
                  try dsimp only
                  exact hcnt.trans (mvC_k (lay_st hce (show (mo, to, two) = gmF mkd mce mho mn (mm i) 36 from by rw [hr, show c = 36 by omega]) (Or.inl (by assumption))))), (by
                  try dsimp only
                  intro j hj
                  simp only [upd]
                  by_cases q : j = i
                  · rw [if_pos q, q]
                    exact (mvd_id (lay_st hce (show (mo, to, two) = gmF mkd mce mho mn (mm i) 36 from by rw [hr, show c = 36 by omega]) (Or.inl (by assumption)))).symm
                  · rw [if_neg q]
                    exact hth j (by omega))⟩ (by
                  try dsimp only
                  all_goals omega)
          · exact absurd (by decide) c_18
        · exact absurd (by decide) c_17
      · skip
        refine V_iload (pc := 122) X dX10_lays_122 5 rfl ?_
        refine V_if_ne (tgt := 149) (pc := 124) X dX10_lays_124 (by decide) (fun c_19 => ?_) (fun c_19 => ?_)
        · skip
          have b_20 : two = true := bI1 c_19
          refine V_iconst (v := 0) (pc := 149) X dX10_lays_149 (by decide) ?_
          refine V_istore (lv' := [(6, .int 0), (0, .ref mq), (1, .int (nI cnt)), (2, .int (nI i)), (3, .int mo), (4, .int to), (5, .int (bI two))]) (pc := 150) X dX10_lays_150 (Nat.le_of_ble_eq_true rfl) rfl ?_
          refine V_aload_n (pc := 152) X dX10_lays_152 rfl 1 rfl ?_
          refine V_get (C := RX10) (T := TX10) (N := 30) (ci := 10) (pc := 153) X dX10_lays_153 in10 0 rfl rfl 16 (by decide) (by decide +kernel) rfl rfl ?_
          refine V_iload_n (pc := 156) X dX10_lays_156 rfl 3 rfl ?_
          refine V_iload (pc := 157) X dX10_lays_157 0 rfl ?_
          refine V_if_eq (tgt := 176) (pc := 159) X dX10_lays_159 (by decide) (fun c_21 => ?_) (fun c_21 => ?_)
          · skip
            refine V_aload_n (pc := 176) X dX10_lays_176 rfl 1 rfl ?_
            refine V_get (C := RX10) (T := TX10) (N := 30) (ci := 10) (pc := 177) X dX10_lays_177 in10 0 rfl rfl 2 (by decide) (by decide +kernel) rfl rfl ?_
            refine V_iload_n (pc := 180) X dX10_lays_180 rfl 3 rfl ?_
            refine V_iald (v := mm i) (pc := 181) X dX10_lays_181 1 rfl (vp_in_nI (by omega) (by omega)) (by rw [nI_clamp (by omega)]) ?_
            refine V_iast (f' := upd zth i (mm i)) (ws' := [ob mq 10 [.long mf, .int (nI mt), .ref mmq, .int (nI mn), .ref mkq, .ref mcq, .ref mhq, .ref maq, .int mz, .int my, .long S2_1, .ref mzq, .ref mtq, .int (nI mT), .int (nI mA), .ref mrq, .ref muq, .long mF, .int mZ, .ref moq, .int mK, .int mH, .ref mgq, .ref miq, .long mI, .int (bI mB), .ref mlq, .ref msq, .ref meq, .ref mvq], ai g mmq 6 mm, ai g mkq 6 mkd, ai g mcq 6 mce, ai g mhq 6 mho, ai g mzq 36 sc2_2, ai g muq 6 (upd zth i (mm i))]) (pc := 182) X dX10_lays_182 6 rfl (vp_in_nI (by omega) (by omega)) (by rw [nI_clamp (by omega)]) rfl ?_
            refine V_iload_n (pc := 183) X dX10_lays_183 rfl 2 rfl ?_
            refine V_iload (pc := 184) X dX10_lays_184 0 rfl ?_
            refine V_if_eq (tgt := 193) (pc := 186) X dX10_lays_186 (by decide) (fun c_22 => ?_) (fun c_22 => ?_)
            · skip
              refine V_iconst (v := 0) (pc := 193) X dX10_lays_193 (by decide) ?_
              refine V_iadd (pc := 194) X dX10_lays_194 ?_
              refine V_seti (y := nI (cnt + 0)) (nI_add cnt 0) ?_
              refine V_istore_n (lv' := [(1, .int (nI (cnt + 0))), (6, .int 0), (0, .ref mq), (2, .int (nI i)), (3, .int mo), (4, .int to), (5, .int (bI two))]) (pc := 195) X dX10_lays_195 rfl (Nat.le_of_ble_eq_true rfl) rfl ?_
              refine V_iinc (v := nI (i + 1)) (lv' := [(2, .int (nI (i + 1))), (1, .int (nI (cnt + 0))), (6, .int 0), (0, .ref mq), (3, .int mo), (4, .int to), (5, .int (bI two))]) (pc := 196) X dX10_lays_196 3 rfl (nI_add i 1) (Nat.le_of_ble_eq_true rfl) rfl ?_
              refine V_goto (tgt := 8) (pc := 199) X dX10_lays_199 (by decide) ?_
              refine V_lv [3, 1, 0] rfl ?_
              exact ih8 (i + 1, cnt + 0, upd zth i (mm i)) ⟨(by
                    try dsimp only
                    all_goals omega), (by
                    try dsimp only
                    exact hcnt.trans (mvC_k (lay_st hce (show (mo, to, two) = gmF mkd mce mho mn (mm i) 36 from by rw [hr, show c = 36 by omega]) (Or.inr (Or.inl (by assumption)))))), (by
                    try dsimp only
                    intro j hj
                    simp only [upd]
                    by_cases q : j = i
                    · rw [if_pos q, q]
                      exact (mvd_id (lay_st hce (show (mo, to, two) = gmF mkd mce mho mn (mm i) 36 from by rw [hr, show c = 36 by omega]) (Or.inr (Or.inl (by assumption))))).symm
                    · rw [if_neg q]
                      exact hth j (by omega))⟩ (by
                    try dsimp only
                    all_goals omega)
            · exact absurd (by decide) c_22
          · exact absurd (by decide) c_21
        · skip
          have b_23 : two = false := bI0 c_19
          refine V_iload (pc := 127) X dX10_lays_127 4 rfl ?_
          refine V_aload_n (pc := 129) X dX10_lays_129 rfl 0 rfl ?_
          refine V_get (C := RX10) (T := TX10) (N := 30) (ci := 10) (pc := 130) X dX10_lays_130 in10 0 rfl rfl 2 (by decide) (by decide +kernel) rfl rfl ?_
          refine V_iload_n (pc := 133) X dX10_lays_133 rfl 2 rfl ?_
          refine V_iald (v := mm i) (pc := 134) X dX10_lays_134 1 rfl (vp_in_nI (by omega) (by omega)) (by rw [nI_clamp (by omega)]) ?_
          refine V_icmp_eq (tgt := 149) (pc := 135) X dX10_lays_135 (by decide) (fun c_24 => ?_) (fun c_24 => ?_)
          · skip
            refine V_iconst (v := 0) (pc := 149) X dX10_lays_149 (by decide) ?_
            refine V_istore (lv' := [(6, .int 0), (0, .ref mq), (1, .int (nI cnt)), (2, .int (nI i)), (3, .int mo), (4, .int to), (5, .int (bI two))]) (pc := 150) X dX10_lays_150 (Nat.le_of_ble_eq_true rfl) rfl ?_
            refine V_aload_n (pc := 152) X dX10_lays_152 rfl 1 rfl ?_
            refine V_get (C := RX10) (T := TX10) (N := 30) (ci := 10) (pc := 153) X dX10_lays_153 in10 0 rfl rfl 16 (by decide) (by decide +kernel) rfl rfl ?_
            refine V_iload_n (pc := 156) X dX10_lays_156 rfl 3 rfl ?_
            refine V_iload (pc := 157) X dX10_lays_157 0 rfl ?_
            refine V_if_eq (tgt := 176) (pc := 159) X dX10_lays_159 (by decide) (fun c_25 => ?_) (fun c_25 => ?_)
            · skip
              refine V_aload_n (pc := 176) X dX10_lays_176 rfl 1 rfl ?_
              refine V_get (C := RX10) (T := TX10) (N := 30) (ci := 10) (pc := 177) X dX10_lays_177 in10 0 rfl rfl 2 (by decide) (by decide +kernel) rfl rfl ?_
              refine V_iload_n (pc := 180) X dX10_lays_180 rfl 3 rfl ?_
              refine V_iald (v := mm i) (pc := 181) X dX10_lays_181 1 rfl (vp_in_nI (by omega) (by omega)) (by rw [nI_clamp (by omega)]) ?_
              refine V_iast (f' := upd zth i (mm i)) (ws' := [ob mq 10 [.long mf, .int (nI mt), .ref mmq, .int (nI mn), .ref mkq, .ref mcq, .ref mhq, .ref maq, .int mz, .int my, .long S2_1, .ref mzq, .ref mtq, .int (nI mT), .int (nI mA), .ref mrq, .ref muq, .long mF, .int mZ, .ref moq, .int mK, .int mH, .ref mgq, .ref miq, .long mI, .int (bI mB), .ref mlq, .ref msq, .ref meq, .ref mvq], ai g mmq 6 mm, ai g mkq 6 mkd, ai g mcq 6 mce, ai g mhq 6 mho, ai g mzq 36 sc2_2, ai g muq 6 (upd zth i (mm i))]) (pc := 182) X dX10_lays_182 6 rfl (vp_in_nI (by omega) (by omega)) (by rw [nI_clamp (by omega)]) rfl ?_
              refine V_iload_n (pc := 183) X dX10_lays_183 rfl 2 rfl ?_
              refine V_iload (pc := 184) X dX10_lays_184 0 rfl ?_
              refine V_if_eq (tgt := 193) (pc := 186) X dX10_lays_186 (by decide) (fun c_26 => ?_) (fun c_26 => ?_)
              · skip
                refine V_iconst (v := 0) (pc := 193) X dX10_lays_193 (by decide) ?_
                refine V_iadd (pc := 194) X dX10_lays_194 ?_
                refine V_seti (y := nI (cnt + 0)) (nI_add cnt 0) ?_
                refine V_istore_n (lv' := [(1, .int (nI (cnt + 0))), (6, .int 0), (0, .ref mq), (2, .int (nI i)), (3, .int mo), (4, .int to), (5, .int (bI two))]) (pc := 195) X dX10_lays_195 rfl (Nat.le_of_ble_eq_true rfl) rfl ?_
                refine V_iinc (v := nI (i + 1)) (lv' := [(2, .int (nI (i + 1))), (1, .int (nI (cnt + 0))), (6, .int 0), (0, .ref mq), (3, .int mo), (4, .int to), (5, .int (bI two))]) (pc := 196) X dX10_lays_196 3 rfl (nI_add i 1) (Nat.le_of_ble_eq_true rfl) rfl ?_
                refine V_goto (tgt := 8) (pc := 199) X dX10_lays_199 (by decide) ?_
                refine V_lv [3, 1, 0] rfl ?_
                exact ih8 (i + 1, cnt + 0, upd zth i (mm i)) ⟨(by
                      try dsimp only
                      all_goals omega), (by
                      try dsimp only
                      exact hcnt.trans (mvC_k (lay_st hce (show (mo, to, two) = gmF mkd mce mho mn (mm i) 36 from by rw [hr, show c = 36 by omega]) (Or.inr (Or.inr (by assumption)))))), (by
                      try dsimp only
                      intro j hj
                      simp only [upd]
                      by_cases q : j = i
                      · rw [if_pos q, q]
                        exact (mvd_id (lay_st hce (show (mo, to, two) = gmF mkd mce mho mn (mm i) 36 from by rw [hr, show c = 36 by omega]) (Or.inr (Or.inr (by assumption))))).symm
                      · rw [if_neg q]
                        exact hth j (by omega))⟩ (by
                      try dsimp only
                      all_goals omega)
              · exact absurd (by decide) c_26
            · exact absurd (by decide) c_25
          · skip
            refine V_aload_n (pc := 138) X dX10_lays_138 rfl 0 rfl ?_
            refine V_get (C := RX10) (T := TX10) (N := 30) (ci := 10) (pc := 139) X dX10_lays_139 in10 0 rfl rfl 8 (by decide) (by decide +kernel) rfl rfl ?_
            refine V_if_ne (tgt := 149) (pc := 142) X dX10_lays_142 (by decide) (fun c_27 => ?_) (fun c_27 => ?_)
            · skip
              refine V_iconst (v := 0) (pc := 149) X dX10_lays_149 (by decide) ?_
              refine V_istore (lv' := [(6, .int 0), (0, .ref mq), (1, .int (nI cnt)), (2, .int (nI i)), (3, .int mo), (4, .int to), (5, .int (bI two))]) (pc := 150) X dX10_lays_150 (Nat.le_of_ble_eq_true rfl) rfl ?_
              refine V_aload_n (pc := 152) X dX10_lays_152 rfl 1 rfl ?_
              refine V_get (C := RX10) (T := TX10) (N := 30) (ci := 10) (pc := 153) X dX10_lays_153 in10 0 rfl rfl 16 (by decide) (by decide +kernel) rfl rfl ?_
              refine V_iload_n (pc := 156) X dX10_lays_156 rfl 3 rfl ?_
              refine V_iload (pc := 157) X dX10_lays_157 0 rfl ?_
              refine V_if_eq (tgt := 176) (pc := 159) X dX10_lays_159 (by decide) (fun c_28 => ?_) (fun c_28 => ?_)
              · skip
                refine V_aload_n (pc := 176) X dX10_lays_176 rfl 1 rfl ?_
                refine V_get (C := RX10) (T := TX10) (N := 30) (ci := 10) (pc := 177) X dX10_lays_177 in10 0 rfl rfl 2 (by decide) (by decide +kernel) rfl rfl ?_
                refine V_iload_n (pc := 180) X dX10_lays_180 rfl 3 rfl ?_
                refine V_iald (v := mm i) (pc := 181) X dX10_lays_181 1 rfl (vp_in_nI (by omega) (by omega)) (by rw [nI_clamp (by omega)]) ?_
                refine V_iast (f' := upd zth i (mm i)) (ws' := [ob mq 10 [.long mf, .int (nI mt), .ref mmq, .int (nI mn), .ref mkq, .ref mcq, .ref mhq, .ref maq, .int mz, .int my, .long S2_1, .ref mzq, .ref mtq, .int (nI mT), .int (nI mA), .ref mrq, .ref muq, .long mF, .int mZ, .ref moq, .int mK, .int mH, .ref mgq, .ref miq, .long mI, .int (bI mB), .ref mlq, .ref msq, .ref meq, .ref mvq], ai g mmq 6 mm, ai g mkq 6 mkd, ai g mcq 6 mce, ai g mhq 6 mho, ai g mzq 36 sc2_2, ai g muq 6 (upd zth i (mm i))]) (pc := 182) X dX10_lays_182 6 rfl (vp_in_nI (by omega) (by omega)) (by rw [nI_clamp (by omega)]) rfl ?_
                refine V_iload_n (pc := 183) X dX10_lays_183 rfl 2 rfl ?_
                refine V_iload (pc := 184) X dX10_lays_184 0 rfl ?_
                refine V_if_eq (tgt := 193) (pc := 186) X dX10_lays_186 (by decide) (fun c_29 => ?_) (fun c_29 => ?_)
                · skip
                  refine V_iconst (v := 0) (pc := 193) X dX10_lays_193 (by decide) ?_
                  refine V_iadd (pc := 194) X dX10_lays_194 ?_
                  refine V_seti (y := nI (cnt + 0)) (nI_add cnt 0) ?_
                  refine V_istore_n (lv' := [(1, .int (nI (cnt + 0))), (6, .int 0), (0, .ref mq), (2, .int (nI i)), (3, .int mo), (4, .int to), (5, .int (bI two))]) (pc := 195) X dX10_lays_195 rfl (Nat.le_of_ble_eq_true rfl) rfl ?_
                  refine V_iinc (v := nI (i + 1)) (lv' := [(2, .int (nI (i + 1))), (1, .int (nI (cnt + 0))), (6, .int 0), (0, .ref mq), (3, .int mo), (4, .int to), (5, .int (bI two))]) (pc := 196) X dX10_lays_196 3 rfl (nI_add i 1) (Nat.le_of_ble_eq_true rfl) rfl ?_
                  refine V_goto (tgt := 8) (pc := 199) X dX10_lays_199 (by decide) ?_
                  refine V_lv [3, 1, 0] rfl ?_
                  exact ih8 (i + 1, cnt + 0, upd zth i (mm i)) ⟨(by
                        try dsimp only
                        all_goals omega), (by
                        try dsimp only
                        exact hcnt.trans (mvC_z (by assumption))), (by
                        try dsimp only
                        intro j hj
                        simp only [upd]
                        by_cases q : j = i
                        · rw [if_pos q, q]
                          exact (mvd_fr (by assumption)).symm
                        · rw [if_neg q]
                          exact hth j (by omega))⟩ (by
                        try dsimp only
                        all_goals omega)
                · exact absurd (by decide) c_29
              · exact absurd (by decide) c_28
            · skip
              refine V_iconst (v := 1) (pc := 145) X dX10_lays_145 (by decide) ?_
              refine V_goto (tgt := 150) (pc := 146) X dX10_lays_146 (by decide) ?_
              refine V_istore (lv' := [(6, .int 1), (0, .ref mq), (1, .int (nI cnt)), (2, .int (nI i)), (3, .int mo), (4, .int to), (5, .int (bI two))]) (pc := 150) X dX10_lays_150 (Nat.le_of_ble_eq_true rfl) rfl ?_
              refine V_aload_n (pc := 152) X dX10_lays_152 rfl 1 rfl ?_
              refine V_get (C := RX10) (T := TX10) (N := 30) (ci := 10) (pc := 153) X dX10_lays_153 in10 0 rfl rfl 16 (by decide) (by decide +kernel) rfl rfl ?_
              refine V_iload_n (pc := 156) X dX10_lays_156 rfl 3 rfl ?_
              refine V_iload (pc := 157) X dX10_lays_157 0 rfl ?_
              refine V_if_eq (tgt := 176) (pc := 159) X dX10_lays_159 (by decide) (fun c_30 => ?_) (fun c_30 => ?_)
              · exact absurd c_30 (by decide)
              · skip
                refine V_aload_n (pc := 162) X dX10_lays_162 rfl 1 rfl ?_
                refine V_get (C := RX10) (T := TX10) (N := 30) (ci := 10) (pc := 163) X dX10_lays_163 in10 0 rfl rfl 2 (by decide) (by decide +kernel) rfl rfl ?_
                refine V_iload_n (pc := 166) X dX10_lays_166 rfl 3 rfl ?_
                refine V_iald (v := mm i) (pc := 167) X dX10_lays_167 1 rfl (vp_in_nI (by omega) (by omega)) (by rw [nI_clamp (by omega)]) ?_
                refine V_iload (pc := 168) X dX10_lays_168 5 rfl ?_
                refine V_sg (pc := 170) (nA := 2) (As := [.int (mm i), .int to]) (rest := [.int (nI i), .ref muq]) X (c_X10_nearer l g (x := mm i) (y := to) (hne := by exact fun q => absurd q.symm (by assumption))) gX10_lays_X10_nearer dX10_lays_170 rfl (by decide +kernel) rfl ⟨rfl, rfl⟩ ⟨Nat.le_of_ble_eq_true rfl, Nat.le_of_ble_eq_true rfl⟩ ⟨Nat.le_of_ble_eq_true rfl, Nat.le_of_ble_eq_true rfl⟩ [] (by decide) rfl rfl (Nat.le_of_ble_eq_true rfl) (st' := [.int (ocl (mm i) to), .int (nI i), .ref muq]) rfl ?_
                refine V_goto (tgt := 182) (pc := 173) X dX10_lays_173 (by decide) ?_
                refine V_iast (f' := upd zth i (ocl (mm i) to)) (ws' := [ob mq 10 [.long mf, .int (nI mt), .ref mmq, .int (nI mn), .ref mkq, .ref mcq, .ref mhq, .ref maq, .int mz, .int my, .long S2_1, .ref mzq, .ref mtq, .int (nI mT), .int (nI mA), .ref mrq, .ref muq, .long mF, .int mZ, .ref moq, .int mK, .int mH, .ref mgq, .ref miq, .long mI, .int (bI mB), .ref mlq, .ref msq, .ref meq, .ref mvq], ai g mmq 6 mm, ai g mkq 6 mkd, ai g mcq 6 mce, ai g mhq 6 mho, ai g mzq 36 sc2_2, ai g muq 6 (upd zth i (ocl (mm i) to))]) (pc := 182) X dX10_lays_182 6 rfl (vp_in_nI (by omega) (by omega)) (by rw [nI_clamp (by omega)]) rfl ?_
                refine V_iload_n (pc := 183) X dX10_lays_183 rfl 2 rfl ?_
                refine V_iload (pc := 184) X dX10_lays_184 0 rfl ?_
                refine V_if_eq (tgt := 193) (pc := 186) X dX10_lays_186 (by decide) (fun c_31 => ?_) (fun c_31 => ?_)
                · exact absurd c_31 (by decide)
                · skip
                  refine V_iconst (v := 1) (pc := 189) X dX10_lays_189 (by decide) ?_
                  refine V_goto (tgt := 194) (pc := 190) X dX10_lays_190 (by decide) ?_
                  refine V_iadd (pc := 194) X dX10_lays_194 ?_
                  refine V_seti (y := nI (cnt + 1)) (nI_add cnt 1) ?_
                  refine V_istore_n (lv' := [(1, .int (nI (cnt + 1))), (6, .int 1), (0, .ref mq), (2, .int (nI i)), (3, .int mo), (4, .int to), (5, .int (bI two))]) (pc := 195) X dX10_lays_195 rfl (Nat.le_of_ble_eq_true rfl) rfl ?_
                  refine V_iinc (v := nI (i + 1)) (lv' := [(2, .int (nI (i + 1))), (1, .int (nI (cnt + 1))), (6, .int 1), (0, .ref mq), (3, .int mo), (4, .int to), (5, .int (bI two))]) (pc := 196) X dX10_lays_196 3 rfl (nI_add i 1) (Nat.le_of_ble_eq_true rfl) rfl ?_
                  refine V_goto (tgt := 8) (pc := 199) X dX10_lays_199 (by decide) ?_
                  refine V_lv [3, 1, 0] rfl ?_
                  exact ih8 (i + 1, cnt + 1, upd zth i (ocl (mm i) to)) ⟨(by
                        try dsimp only
                        all_goals omega), (by
                        try dsimp only
                        exact (congrArg (· + 1) hcnt).trans (mvC_s (by assumption) (lay_go hce (show (mo, to, two) = gmF mkd mce mho mn (mm i) 36 from by rw [hr, show c = 36 by omega]) (by assumption) (by assumption) (by assumption) (by assumption)).2)), (by
                        try dsimp only
                        intro j hj
                        simp only [upd]
                        by_cases q : j = i
                        · rw [if_pos q, q]
                          exact (lay_go hce (show (mo, to, two) = gmF mkd mce mho mn (mm i) 36 from by rw [hr, show c = 36 by omega]) (by assumption) (by assumption) (by assumption) (by assumption)).1
                        · rw [if_neg q]
                          exact hth j (by omega))⟩ (by
                        try dsimp only
                        all_goals omega)
    · skip
      have n_32 : c < 36 := nJ_nle (a := 36) (b := c) (by omega) (by omega) c_14
      refine V_aload_n (pc := 34) X dX10_lays_34 rfl 0 rfl ?_
      refine V_get (C := RX10) (T := TX10) (N := 30) (ci := 10) (pc := 35) X dX10_lays_35 in10 0 rfl rfl 10 (by decide) (by decide +kernel) rfl rfl ?_
      refine V_iload (pc := 38) X dX10_lays_38 6 rfl ?_
      refine V_sg (pc := 40) (nA := 2) (As := [.long S2_1, .int (nI c)]) (rest := []) X (c_X10_has l g (f := S2_1) (x := nI c) (hx := by exact vp_in_nI (by omega) (by omega))) gX10_lays_X10_has dX10_lays_40 rfl (by decide +kernel) rfl ⟨rfl, rfl⟩ ⟨Nat.le_of_ble_eq_true rfl, Nat.le_of_ble_eq_true rfl⟩ ⟨Nat.le_of_ble_eq_true rfl, Nat.le_of_ble_eq_true rfl⟩ [] (by decide) rfl rfl (Nat.le_of_ble_eq_true rfl) (st' := [.int (bI (firmB S2_1 (nI c)))]) rfl ?_
      refine V_if_eq (tgt := 111) (pc := 43) X dX10_lays_43 (by decide) (fun c_33 => ?_) (fun c_33 => ?_)
      · skip
        have b_34 : (firmB S2_1 (nI c)) = false := bI0 c_33
        refine V_iinc (v := nI (c + 1)) (lv' := [(6, .int (nI (c + 1))), (0, .ref mq), (1, .int (nI cnt)), (2, .int (nI i)), (3, .int mo), (4, .int to), (5, .int (bI two))]) (pc := 111) X dX10_lays_111 6 rfl (nI_add c 1) (Nat.le_of_ble_eq_true rfl) rfl ?_
        refine V_goto (tgt := 27) (pc := 114) X dX10_lays_114 (by decide) ?_
        refine V_lv [1, 2, 3, 4, 5, 6, 0] rfl ?_
        exact ih27 (c + 1, mo, to, two) ⟨(by
              try dsimp only
              all_goals omega), (by
              try dsimp only
              exact hr.trans (gmF_k ((SA_at hsa_4 (vp_in_nI (by omega) (by omega))).1.symm.trans b_34)))⟩ (by
              try dsimp only
              all_goals omega)
      · skip
        have b_35 : (firmB S2_1 (nI c)) = true := bI1 c_33
        refine V_aload_n (pc := 46) X dX10_lays_46 rfl 0 rfl ?_
        refine V_iload (pc := 47) X dX10_lays_47 6 rfl ?_
        refine V_iload_n (pc := 49) X dX10_lays_49 rfl 2 rfl ?_
        refine V_vg (pc := 50) (nA := 2) (As := [.int (nI c), .int (nI i)]) (rest := []) X (c_X10_pulls l g (mq := mq) (mf := mf) (mt := mt) (mmq := mmq) (mn := mn) (mkq := mkq) (mcq := mcq) (mhq := mhq) (maq := maq) (mz := mz) (my := my) (mS := S2_1) (mzq := mzq) (mtq := mtq) (mT := mT) (mA := mA) (mrq := mrq) (muq := muq) (mF := mF) (mZ := mZ) (moq := moq) (mK := mK) (mH := mH) (mgq := mgq) (miq := miq) (mI := mI) (mB := mB) (mlq := mlq) (msq := msq) (meq := meq) (mvq := mvq) (mm := mm) (msc := sc2_2) (x := nI c) (y := nI i) (hx := by exact vp_in_nI (by omega) (by omega)) (hy := by exact vp_in_nI (by omega) (by omega))) gX10_lays_X10_pulls dX10_lays_50 rfl (by decide +kernel) rfl (qb := 0) rfl rfl rfl ⟨rfl, rfl⟩ ⟨Nat.le_of_ble_eq_true rfl, Nat.le_of_ble_eq_true rfl⟩ ⟨Nat.le_of_ble_eq_true rfl, Nat.le_of_ble_eq_true rfl⟩ [0, 1, 5] (by decide) rfl rfl (Nat.le_of_ble_eq_true rfl) (st' := [.int (sc2_2 (nI c).toNatClampNeg - 3 * aprt (nI c) (mm (nI i).toNatClampNeg))]) rfl ?_
        refine V_seti (y := plF mkd mce mho mn (nI c) (mm i)) (by rw [nI_clamp (n := i) (by omega), (SA_at hsa_4 (vp_in_nI (by omega) (by omega))).2 b_35]; rfl) ?_
        refine V_istore (lv' := [(7, .int (plF mkd mce mho mn (nI c) (mm i))), (0, .ref mq), (1, .int (nI cnt)), (2, .int (nI i)), (3, .int mo), (4, .int to), (5, .int (bI two)), (6, .int (nI c))]) (pc := 53) X dX10_lays_53 (Nat.le_of_ble_eq_true rfl) rfl ?_
        refine V_iload (pc := 55) X dX10_lays_55 0 rfl ?_
        refine V_iload_n (pc := 57) X dX10_lays_57 rfl 4 rfl ?_
        refine V_icmp_le (tgt := 65) (pc := 58) X dX10_lays_58 (by decide) (fun c_36 => ?_) (fun c_36 => ?_)
        · skip
          refine V_iload (pc := 65) X dX10_lays_65 0 rfl ?_
          refine V_iload_n (pc := 67) X dX10_lays_67 rfl 4 rfl ?_
          refine V_icmp_eq (tgt := 76) (pc := 68) X dX10_lays_68 (by decide) (fun c_37 => ?_) (fun c_37 => ?_)
          · skip
            refine V_iconst (v := 1) (pc := 76) X dX10_lays_76 (by decide) ?_
            refine V_goto (tgt := 81) (pc := 77) X dX10_lays_77 (by decide) ?_
            refine V_istore (lv' := [(5, .int 1), (7, .int (plF mkd mce mho mn (nI c) (mm i))), (0, .ref mq), (1, .int (nI cnt)), (2, .int (nI i)), (3, .int mo), (4, .int to), (6, .int (nI c))]) (pc := 81) X dX10_lays_81 (Nat.le_of_ble_eq_true rfl) rfl ?_
            refine V_iload (pc := 83) X dX10_lays_83 1 rfl ?_
            refine V_iload_n (pc := 85) X dX10_lays_85 rfl 5 rfl ?_
            refine V_icmp_le (tgt := 94) (pc := 86) X dX10_lays_86 (by decide) (fun c_38 => ?_) (fun c_38 => ?_)
            · skip
              refine V_iload (pc := 94) X dX10_lays_94 6 rfl ?_
              refine V_istore (lv' := [(4, .int to), (5, .int 1), (7, .int (plF mkd mce mho mn (nI c) (mm i))), (0, .ref mq), (1, .int (nI cnt)), (2, .int (nI i)), (3, .int mo), (6, .int (nI c))]) (pc := 96) X dX10_lays_96 (Nat.le_of_ble_eq_true rfl) rfl ?_
              refine V_iload (pc := 98) X dX10_lays_98 2 rfl ?_
              refine V_iload_n (pc := 100) X dX10_lays_100 rfl 6 rfl ?_
              refine V_icmp_le (tgt := 109) (pc := 101) X dX10_lays_101 (by decide) (fun c_39 => ?_) (fun c_39 => ?_)
              · skip
                refine V_iload_n (pc := 109) X dX10_lays_109 rfl 6 rfl ?_
                refine V_istore_n (lv' := [(3, .int mo), (4, .int to), (5, .int 1), (7, .int (plF mkd mce mho mn (nI c) (mm i))), (0, .ref mq), (1, .int (nI cnt)), (2, .int (nI i)), (6, .int (nI c))]) (pc := 110) X dX10_lays_110 rfl (Nat.le_of_ble_eq_true rfl) rfl ?_
                refine V_iinc (v := nI (c + 1)) (lv' := [(6, .int (nI (c + 1))), (3, .int mo), (4, .int to), (5, .int 1), (7, .int (plF mkd mce mho mn (nI c) (mm i))), (0, .ref mq), (1, .int (nI cnt)), (2, .int (nI i))]) (pc := 111) X dX10_lays_111 7 rfl (nI_add c 1) (Nat.le_of_ble_eq_true rfl) rfl ?_
                refine V_goto (tgt := 27) (pc := 114) X dX10_lays_114 (by decide) ?_
                refine V_lv [5, 6, 7, 1, 2, 3, 0] rfl ?_
                exact ih27 (c + 1, mo, to, true) ⟨(by
                      try dsimp only
                      all_goals omega), (by
                      try dsimp only
                      have e9 := gmF_l hr ((SA_at hsa_4 (vp_in_nI (by omega) (by omega))).1.symm.trans b_35) (by assumption)
                      rw [decide_eq_true c_37, Bool.true_or] at e9
                      exact e9)⟩ (by
                      try dsimp only
                      all_goals omega)
              · exact absurd c_38 c_39
            · exact absurd c_36 c_38
          · skip
            refine V_iload (pc := 71) X dX10_lays_71 6 rfl ?_
            refine V_if_eq (tgt := 80) (pc := 73) X dX10_lays_73 (by decide) (fun c_40 => ?_) (fun c_40 => ?_)
            · skip
              have b_41 : two = false := bI0 c_40
              refine V_iconst (v := 0) (pc := 80) X dX10_lays_80 (by decide) ?_
              refine V_istore (lv' := [(5, .int 0), (7, .int (plF mkd mce mho mn (nI c) (mm i))), (0, .ref mq), (1, .int (nI cnt)), (2, .int (nI i)), (3, .int mo), (4, .int to), (6, .int (nI c))]) (pc := 81) X dX10_lays_81 (Nat.le_of_ble_eq_true rfl) rfl ?_
              refine V_iload (pc := 83) X dX10_lays_83 1 rfl ?_
              refine V_iload_n (pc := 85) X dX10_lays_85 rfl 5 rfl ?_
              refine V_icmp_le (tgt := 94) (pc := 86) X dX10_lays_86 (by decide) (fun c_42 => ?_) (fun c_42 => ?_)
              · skip
                refine V_iload (pc := 94) X dX10_lays_94 6 rfl ?_
                refine V_istore (lv' := [(4, .int to), (5, .int 0), (7, .int (plF mkd mce mho mn (nI c) (mm i))), (0, .ref mq), (1, .int (nI cnt)), (2, .int (nI i)), (3, .int mo), (6, .int (nI c))]) (pc := 96) X dX10_lays_96 (Nat.le_of_ble_eq_true rfl) rfl ?_
                refine V_iload (pc := 98) X dX10_lays_98 2 rfl ?_
                refine V_iload_n (pc := 100) X dX10_lays_100 rfl 6 rfl ?_
                refine V_icmp_le (tgt := 109) (pc := 101) X dX10_lays_101 (by decide) (fun c_43 => ?_) (fun c_43 => ?_)
                · skip
                  refine V_iload_n (pc := 109) X dX10_lays_109 rfl 6 rfl ?_
                  refine V_istore_n (lv' := [(3, .int mo), (4, .int to), (5, .int 0), (7, .int (plF mkd mce mho mn (nI c) (mm i))), (0, .ref mq), (1, .int (nI cnt)), (2, .int (nI i)), (6, .int (nI c))]) (pc := 110) X dX10_lays_110 rfl (Nat.le_of_ble_eq_true rfl) rfl ?_
                  refine V_iinc (v := nI (c + 1)) (lv' := [(6, .int (nI (c + 1))), (3, .int mo), (4, .int to), (5, .int 0), (7, .int (plF mkd mce mho mn (nI c) (mm i))), (0, .ref mq), (1, .int (nI cnt)), (2, .int (nI i))]) (pc := 111) X dX10_lays_111 7 rfl (nI_add c 1) (Nat.le_of_ble_eq_true rfl) rfl ?_
                  refine V_goto (tgt := 27) (pc := 114) X dX10_lays_114 (by decide) ?_
                  refine V_lv [5, 6, 7, 1, 2, 3, 0] rfl ?_
                  exact ih27 (c + 1, mo, to, false) ⟨(by
                        try dsimp only
                        all_goals omega), (by
                        try dsimp only
                        have e9 := gmF_l hr ((SA_at hsa_4 (vp_in_nI (by omega) (by omega))).1.symm.trans b_35) (by assumption)
                        rw [decide_eq_false c_37, Bool.false_or] at e9
                        rw [← e9, b_41])⟩ (by
                        try dsimp only
                        all_goals omega)
                · exact absurd c_42 c_43
              · exact absurd c_36 c_42
            · skip
              have b_44 : two = true := bI1 c_40
              refine V_iconst (v := 1) (pc := 76) X dX10_lays_76 (by decide) ?_
              refine V_goto (tgt := 81) (pc := 77) X dX10_lays_77 (by decide) ?_
              refine V_istore (lv' := [(5, .int 1), (7, .int (plF mkd mce mho mn (nI c) (mm i))), (0, .ref mq), (1, .int (nI cnt)), (2, .int (nI i)), (3, .int mo), (4, .int to), (6, .int (nI c))]) (pc := 81) X dX10_lays_81 (Nat.le_of_ble_eq_true rfl) rfl ?_
              refine V_iload (pc := 83) X dX10_lays_83 1 rfl ?_
              refine V_iload_n (pc := 85) X dX10_lays_85 rfl 5 rfl ?_
              refine V_icmp_le (tgt := 94) (pc := 86) X dX10_lays_86 (by decide) (fun c_45 => ?_) (fun c_45 => ?_)
              · skip
                refine V_iload (pc := 94) X dX10_lays_94 6 rfl ?_
                refine V_istore (lv' := [(4, .int to), (5, .int 1), (7, .int (plF mkd mce mho mn (nI c) (mm i))), (0, .ref mq), (1, .int (nI cnt)), (2, .int (nI i)), (3, .int mo), (6, .int (nI c))]) (pc := 96) X dX10_lays_96 (Nat.le_of_ble_eq_true rfl) rfl ?_
                refine V_iload (pc := 98) X dX10_lays_98 2 rfl ?_
                refine V_iload_n (pc := 100) X dX10_lays_100 rfl 6 rfl ?_
                refine V_icmp_le (tgt := 109) (pc := 101) X dX10_lays_101 (by decide) (fun c_46 => ?_) (fun c_46 => ?_)
                · skip
                  refine V_iload_n (pc := 109) X dX10_lays_109 rfl 6 rfl ?_
                  refine V_istore_n (lv' := [(3, .int mo), (4, .int to), (5, .int 1), (7, .int (plF mkd mce mho mn (nI c) (mm i))), (0, .ref mq), (1, .int (nI cnt)), (2, .int (nI i)), (6, .int (nI c))]) (pc := 110) X dX10_lays_110 rfl (Nat.le_of_ble_eq_true rfl) rfl ?_
                  refine V_iinc (v := nI (c + 1)) (lv' := [(6, .int (nI (c + 1))), (3, .int mo), (4, .int to), (5, .int 1), (7, .int (plF mkd mce mho mn (nI c) (mm i))), (0, .ref mq), (1, .int (nI cnt)), (2, .int (nI i))]) (pc := 111) X dX10_lays_111 7 rfl (nI_add c 1) (Nat.le_of_ble_eq_true rfl) rfl ?_
                  refine V_goto (tgt := 27) (pc := 114) X dX10_lays_114 (by decide) ?_
                  refine V_lv [5, 6, 7, 1, 2, 3, 0] rfl ?_
                  exact ih27 (c + 1, mo, to, true) ⟨(by
                        try dsimp only
                        all_goals omega), (by
                        try dsimp only
                        have e9 := gmF_l hr ((SA_at hsa_4 (vp_in_nI (by omega) (by omega))).1.symm.trans b_35) (by assumption)
                        rw [decide_eq_false c_37, Bool.false_or] at e9
                        rw [← e9, b_44])⟩ (by
                        try dsimp only
                        all_goals omega)
                · exact absurd c_45 c_46
              · exact absurd c_36 c_45
        · skip
          refine V_iconst (v := 0) (pc := 61) X dX10_lays_61 (by decide) ?_
          refine V_goto (tgt := 81) (pc := 62) X dX10_lays_62 (by decide) ?_
          refine V_istore (lv' := [(5, .int 0), (7, .int (plF mkd mce mho mn (nI c) (mm i))), (0, .ref mq), (1, .int (nI cnt)), (2, .int (nI i)), (3, .int mo), (4, .int to), (6, .int (nI c))]) (pc := 81) X dX10_lays_81 (Nat.le_of_ble_eq_true rfl) rfl ?_
          refine V_iload (pc := 83) X dX10_lays_83 1 rfl ?_
          refine V_iload_n (pc := 85) X dX10_lays_85 rfl 5 rfl ?_
          refine V_icmp_le (tgt := 94) (pc := 86) X dX10_lays_86 (by decide) (fun c_47 => ?_) (fun c_47 => ?_)
          · exact absurd c_47 c_36
          · skip
            refine V_iload (pc := 89) X dX10_lays_89 7 rfl ?_
            refine V_goto (tgt := 96) (pc := 91) X dX10_lays_91 (by decide) ?_
            refine V_istore (lv' := [(4, .int (nI c)), (5, .int 0), (7, .int (plF mkd mce mho mn (nI c) (mm i))), (0, .ref mq), (1, .int (nI cnt)), (2, .int (nI i)), (3, .int mo), (6, .int (nI c))]) (pc := 96) X dX10_lays_96 (Nat.le_of_ble_eq_true rfl) rfl ?_
            refine V_iload (pc := 98) X dX10_lays_98 2 rfl ?_
            refine V_iload_n (pc := 100) X dX10_lays_100 rfl 6 rfl ?_
            refine V_icmp_le (tgt := 109) (pc := 101) X dX10_lays_101 (by decide) (fun c_48 => ?_) (fun c_48 => ?_)
            · exact absurd c_48 c_47
            · skip
              refine V_iload (pc := 104) X dX10_lays_104 2 rfl ?_
              refine V_goto (tgt := 110) (pc := 106) X dX10_lays_106 (by decide) ?_
              refine V_istore_n (lv' := [(3, .int (plF mkd mce mho mn (nI c) (mm i))), (4, .int (nI c)), (5, .int 0), (7, .int (plF mkd mce mho mn (nI c) (mm i))), (0, .ref mq), (1, .int (nI cnt)), (2, .int (nI i)), (6, .int (nI c))]) (pc := 110) X dX10_lays_110 rfl (Nat.le_of_ble_eq_true rfl) rfl ?_
              refine V_iinc (v := nI (c + 1)) (lv' := [(6, .int (nI (c + 1))), (3, .int (plF mkd mce mho mn (nI c) (mm i))), (4, .int (nI c)), (5, .int 0), (7, .int (plF mkd mce mho mn (nI c) (mm i))), (0, .ref mq), (1, .int (nI cnt)), (2, .int (nI i))]) (pc := 111) X dX10_lays_111 7 rfl (nI_add c 1) (Nat.le_of_ble_eq_true rfl) rfl ?_
              refine V_goto (tgt := 27) (pc := 114) X dX10_lays_114 (by decide) ?_
              refine V_lv [5, 6, 7, 1, 2, 3, 0] rfl ?_
              exact ih27 (c + 1, plF mkd mce mho mn (nI c) (mm i), nI c, false) ⟨(by
                    try dsimp only
                    all_goals omega), (by
                    try dsimp only
                    exact gmF_g hr ((SA_at hsa_4 (vp_in_nI (by omega) (by omega))).1.symm.trans b_35) (by assumption))⟩ (by
                    try dsimp only
                    all_goals omega)
set_option maxHeartbeats 4000000 in
set_option maxRecDepth 100000 in
theorem c_X10_keeps (l : Launch) (g : XG) (mq : Nat) (mf : Int64) (mt : Nat) (mmq : Nat) (mn : Nat) (mkq : Nat) (mcq : Nat) (mhq : Nat) (maq : Nat) (mz : Int32) (my : Int32) (mS : Int64) (mzq : Nat) (mtq : Nat) (mT : Nat) (mA : Nat) (mrq : Nat) (muq : Nat) (mF : Int64) (mZ : Int32) (moq : Nat) (mK : Int32) (mH : Int32) (mgq : Nat) (miq : Nat) (mI : Int64) (mB : Bool) (mlq : Nat) (msq : Nat) (meq : Nat) (mvq : Nat) (mce : Nat → Int32) (mho : Nat → Int32) (j : Nat) (hj : j < 6) : Ke l g yX10_keeps wsX10_keeps ({ frames := 0, cells := 0, slots := 0, locals := 0 } : Room) 0 0 [.ref mq, .int (nI j)] [ob mq 10 [.long mf, .int (nI mt), .ref mmq, .int (nI mn), .ref mkq, .ref mcq, .ref mhq, .ref maq, .int mz, .int my, .long mS, .ref mzq, .ref mtq, .int (nI mT), .int (nI mA), .ref mrq, .ref muq, .long mF, .int mZ, .ref moq, .int mK, .int mH, .ref mgq, .ref miq, .long mI, .int (bI mB), .ref mlq, .ref msq, .ref meq, .ref mvq], ai g mcq 6 mce, ai g mhq 6 mho] (fun u : Unit => none) (fun u => [ob mq 10 [.long mf, .int (nI mt), .ref mmq, .int (nI mn), .ref mkq, .ref mcq, .ref mhq, .ref maq, .int mz, .int my, .long mS, .ref mzq, .ref mtq, .int (nI mT), .int (nI mA), .ref mrq, .ref muq, .long mF, .int mZ, .ref moq, .int (mce j), .int (mho j), .ref mgq, .ref miq, .long mI, .int (bI mB), .ref mlq, .ref msq, .ref meq, .ref mvq], ai g mcq 6 mce, ai g mhq 6 mho]) (fun u => True) := by
  refine Ke.of (cc := cX10_keeps) (maxL := 2) (ret := none) (lv := [(0, .ref mq), (1, .int (nI j))]) RX10 rfl (by decide) rfl (Nat.le_of_ble_eq_true rfl) rfl ?_
  intro p e s m below meth c A sz hA9 X hr hin2
  have in10 : ∀ w ∈ u_ws RX10 TX10 30, w ∈ wsX10_keeps := by decide +kernel
  refine V_aload_n (pc := 0) X dX10_keeps_0 rfl 0 rfl ?_
  refine V_aload_n (pc := 1) X dX10_keeps_1 rfl 0 rfl ?_
  refine V_get (C := RX10) (T := TX10) (N := 30) (ci := 10) (pc := 2) X dX10_keeps_2 in10 0 rfl rfl 5 (by decide) (by decide +kernel) rfl rfl ?_
  refine V_iload_n (pc := 5) X dX10_keeps_5 rfl 1 rfl ?_
  refine V_iald (v := mce j) (pc := 6) X dX10_keeps_6 1 rfl (vp_in_nI (by omega) (by omega)) (by rw [nI_clamp (by omega)]) ?_
  refine V_put (C := RX10) (T := TX10) (N := 30) (ci := 10) (ws' := [ob mq 10 [.long mf, .int (nI mt), .ref mmq, .int (nI mn), .ref mkq, .ref mcq, .ref mhq, .ref maq, .int mz, .int my, .long mS, .ref mzq, .ref mtq, .int (nI mT), .int (nI mA), .ref mrq, .ref muq, .long mF, .int mZ, .ref moq, .int (mce j), .int mH, .ref mgq, .ref miq, .long mI, .int (bI mB), .ref mlq, .ref msq, .ref meq, .ref mvq], ai g mcq 6 mce, ai g mhq 6 mho]) (pc := 7) X dX10_keeps_7 in10 tyX10 tyX10_ok nmX10 0 rfl rfl 20 (by decide) (by decide +kernel) rfl rfl rfl rfl rfl (Nat.le_of_ble_eq_true rfl) rfl ?_
  refine V_aload_n (pc := 10) X dX10_keeps_10 rfl 0 rfl ?_
  refine V_aload_n (pc := 11) X dX10_keeps_11 rfl 0 rfl ?_
  refine V_get (C := RX10) (T := TX10) (N := 30) (ci := 10) (pc := 12) X dX10_keeps_12 in10 0 rfl rfl 6 (by decide) (by decide +kernel) rfl rfl ?_
  refine V_iload_n (pc := 15) X dX10_keeps_15 rfl 1 rfl ?_
  refine V_iald (v := mho j) (pc := 16) X dX10_keeps_16 2 rfl (vp_in_nI (by omega) (by omega)) (by rw [nI_clamp (by omega)]) ?_
  refine V_put (C := RX10) (T := TX10) (N := 30) (ci := 10) (ws' := [ob mq 10 [.long mf, .int (nI mt), .ref mmq, .int (nI mn), .ref mkq, .ref mcq, .ref mhq, .ref maq, .int mz, .int my, .long mS, .ref mzq, .ref mtq, .int (nI mT), .int (nI mA), .ref mrq, .ref muq, .long mF, .int mZ, .ref moq, .int (mce j), .int (mho j), .ref mgq, .ref miq, .long mI, .int (bI mB), .ref mlq, .ref msq, .ref meq, .ref mvq], ai g mcq 6 mce, ai g mhq 6 mho]) (pc := 17) X dX10_keeps_17 in10 tyX10 tyX10_ok nmX10 0 rfl rfl 21 (by decide) (by decide +kernel) rfl rfl rfl rfl rfl (Nat.le_of_ble_eq_true rfl) rfl ?_
  exact Ve_vret (pc := 20) X hA9 dX10_keeps_20 hr () rfl trivial (by rfl)
set_option maxHeartbeats 4000000 in
set_option maxRecDepth 100000 in
theorem c_X10_back (l : Launch) (g : XG) (mq : Nat) (mf : Int64) (mt : Nat) (mmq : Nat) (mn : Nat) (mkq : Nat) (mcq : Nat) (mhq : Nat) (maq : Nat) (mz : Int32) (my : Int32) (mS : Int64) (mzq : Nat) (mtq : Nat) (mT : Nat) (mA : Nat) (mrq : Nat) (muq : Nat) (mF : Int64) (mZ : Int32) (moq : Nat) (mK : Int32) (mH : Int32) (mgq : Nat) (miq : Nat) (mI : Int64) (mB : Bool) (mlq : Nat) (msq : Nat) (meq : Nat) (mvq : Nat) (mce : Nat → Int32) (mho : Nat → Int32) (j : Nat) (hj : j < 6) : Ke l g yX10_back wsX10_back ({ frames := 0, cells := 0, slots := 0, locals := 0 } : Room) 0 0 [.ref mq, .int (nI j)] [ob mq 10 [.long mf, .int (nI mt), .ref mmq, .int (nI mn), .ref mkq, .ref mcq, .ref mhq, .ref maq, .int mz, .int my, .long mS, .ref mzq, .ref mtq, .int (nI mT), .int (nI mA), .ref mrq, .ref muq, .long mF, .int mZ, .ref moq, .int mK, .int mH, .ref mgq, .ref miq, .long mI, .int (bI mB), .ref mlq, .ref msq, .ref meq, .ref mvq], ai g mcq 6 mce, ai g mhq 6 mho] (fun u : Unit => none) (fun u => [ob mq 10 [.long mf, .int (nI mt), .ref mmq, .int (nI mn), .ref mkq, .ref mcq, .ref mhq, .ref maq, .int mz, .int my, .long mS, .ref mzq, .ref mtq, .int (nI mT), .int (nI mA), .ref mrq, .ref muq, .long mF, .int mZ, .ref moq, .int mK, .int mH, .ref mgq, .ref miq, .long mI, .int (bI mB), .ref mlq, .ref msq, .ref meq, .ref mvq], ai g mcq 6 (upd mce j mK), ai g mhq 6 (upd mho j mH)]) (fun u => True) := by
  refine Ke.of (cc := cX10_back) (maxL := 2) (ret := none) (lv := [(0, .ref mq), (1, .int (nI j))]) RX10 rfl (by decide) rfl (Nat.le_of_ble_eq_true rfl) rfl ?_
  intro p e s m below meth c A sz hA9 X hr hin2
  have in10 : ∀ w ∈ u_ws RX10 TX10 30, w ∈ wsX10_back := by decide +kernel
  refine V_aload_n (pc := 0) X dX10_back_0 rfl 0 rfl ?_
  refine V_get (C := RX10) (T := TX10) (N := 30) (ci := 10) (pc := 1) X dX10_back_1 in10 0 rfl rfl 5 (by decide) (by decide +kernel) rfl rfl ?_
  refine V_iload_n (pc := 4) X dX10_back_4 rfl 1 rfl ?_
  refine V_aload_n (pc := 5) X dX10_back_5 rfl 0 rfl ?_
  refine V_get (C := RX10) (T := TX10) (N := 30) (ci := 10) (pc := 6) X dX10_back_6 in10 0 rfl rfl 20 (by decide) (by decide +kernel) rfl rfl ?_
  refine V_iast (f' := upd mce j mK) (ws' := [ob mq 10 [.long mf, .int (nI mt), .ref mmq, .int (nI mn), .ref mkq, .ref mcq, .ref mhq, .ref maq, .int mz, .int my, .long mS, .ref mzq, .ref mtq, .int (nI mT), .int (nI mA), .ref mrq, .ref muq, .long mF, .int mZ, .ref moq, .int mK, .int mH, .ref mgq, .ref miq, .long mI, .int (bI mB), .ref mlq, .ref msq, .ref meq, .ref mvq], ai g mcq 6 (upd mce j mK), ai g mhq 6 mho]) (pc := 9) X dX10_back_9 1 rfl (vp_in_nI (by omega) (by omega)) (by rw [nI_clamp (by omega)]) rfl ?_
  refine V_aload_n (pc := 10) X dX10_back_10 rfl 0 rfl ?_
  refine V_get (C := RX10) (T := TX10) (N := 30) (ci := 10) (pc := 11) X dX10_back_11 in10 0 rfl rfl 6 (by decide) (by decide +kernel) rfl rfl ?_
  refine V_iload_n (pc := 14) X dX10_back_14 rfl 1 rfl ?_
  refine V_aload_n (pc := 15) X dX10_back_15 rfl 0 rfl ?_
  refine V_get (C := RX10) (T := TX10) (N := 30) (ci := 10) (pc := 16) X dX10_back_16 in10 0 rfl rfl 21 (by decide) (by decide +kernel) rfl rfl ?_
  refine V_iast (f' := upd mho j mH) (ws' := [ob mq 10 [.long mf, .int (nI mt), .ref mmq, .int (nI mn), .ref mkq, .ref mcq, .ref mhq, .ref maq, .int mz, .int my, .long mS, .ref mzq, .ref mtq, .int (nI mT), .int (nI mA), .ref mrq, .ref muq, .long mF, .int mZ, .ref moq, .int mK, .int mH, .ref mgq, .ref miq, .long mI, .int (bI mB), .ref mlq, .ref msq, .ref meq, .ref mvq], ai g mcq 6 (upd mce j mK), ai g mhq 6 (upd mho j mH)]) (pc := 19) X dX10_back_19 2 rfl (vp_in_nI (by omega) (by omega)) (by rw [nI_clamp (by omega)]) rfl ?_
  exact Ve_vret (pc := 20) X hA9 dX10_back_20 hr () rfl trivial (by rfl)
set_option maxHeartbeats 4000000 in
set_option maxRecDepth 100000 in
theorem c_X10_stepsThen (l : Launch) (g : XG) (mq : Nat) (mf : Int64) (mt : Nat) (mmq : Nat) (mn : Nat) (mkq : Nat) (mcq : Nat) (mhq : Nat) (maq : Nat) (mz : Int32) (my : Int32) (mS : Int64) (mzq : Nat) (mtq : Nat) (mT : Nat) (mA : Nat) (mrq : Nat) (muq : Nat) (mF : Int64) (mZ : Int32) (moq : Nat) (mK : Int32) (mH : Int32) (mgq : Nat) (miq : Nat) (mI : Int64) (mB : Bool) (mlq : Nat) (msq : Nat) (meq : Nat) (mvq : Nat) (mm : Nat → Int32) (mkd : Nat → Int32) (mce : Nat → Int32) (mho : Nat → Int32) (msc : Nat → Int32) (mth : Nat → Int32) (x : Int32) (y : Int32) (ht : mt ≤ 6) (hn : mn ≤ 6) (hce : ∀ j, j < mn → vp_in (mce j) 36) (hkd : ∀ j, j < mn → mkd j = 0 ∨ mkd j = 1 ∨ mkd j = 2 ∨ mkd j = 3) (hz9 : ∃ q, q < 10 ∧ mz = nI q) (hx : vp_in x 36) (hy : vp_in y 36) : Ke l g yX10_stepsThen wsX10_stepsThen ({ frames := 3, cells := 0, slots := 0, locals := 72 } : Room) 0 0 [.ref mq, .int x, .int y] [ob mq 10 [.long mf, .int (nI mt), .ref mmq, .int (nI mn), .ref mkq, .ref mcq, .ref mhq, .ref maq, .int mz, .int my, .long mS, .ref mzq, .ref mtq, .int (nI mT), .int (nI mA), .ref mrq, .ref muq, .long mF, .int mZ, .ref moq, .int mK, .int mH, .ref mgq, .ref miq, .long mI, .int (bI mB), .ref mlq, .ref msq, .ref meq, .ref mvq], ai g mmq 6 mm, ai g mkq 6 mkd, ai g mcq 6 mce, ai g mhq 6 mho, ai g mzq 36 msc, ai g muq 6 mth] (fun u : Int64 × (Nat → Int32) × (Nat → Int32) => some (.int (stX (thW mkd mce mho mn mz mf mm mt) x y))) (fun u => [ob mq 10 [.long mf, .int (nI mt), .ref mmq, .int (nI mn), .ref mkq, .ref mcq, .ref mhq, .ref maq, .int mz, .int my, .long u.1, .ref mzq, .ref mtq, .int (nI mT), .int (nI mA), .ref mrq, .ref muq, .long (mf ||| strF mkd mce mho mn), .int (frX mz), .ref moq, .int mK, .int mH, .ref mgq, .ref miq, .long mI, .int (bI mB), .ref mlq, .ref msq, .ref meq, .ref mvq], ai g mmq 6 mm, ai g mkq 6 mkd, ai g mcq 6 mce, ai g mhq 6 mho, ai g mzq 36 u.2.1, ai g muq 6 u.2.2]) (fun u => (∀ j, j < mt → u.2.2 j = mvd mkd mce mho mn mz (mm j))) := by
  refine Ke.of (cc := cX10_stepsThen) (maxL := 3) (ret := (some .int)) (lv := [(0, .ref mq), (1, .int x), (2, .int y)]) RX10 rfl (by decide) rfl (Nat.le_of_ble_eq_true rfl) rfl ?_
  intro p e s m below meth c A sz hA9 X hr hin2
  have in10 : ∀ w ∈ u_ws RX10 TX10 30, w ∈ wsX10_stepsThen := by decide +kernel
  refine V_aload_n (pc := 0) X dX10_stepsThen_0 rfl 0 rfl ?_
  refine V_ve (pc := 1) (nA := 0) (As := []) (rest := []) X (c_X10_lays l g (mq := mq) (mf := mf) (mt := mt) (mmq := mmq) (mn := mn) (mkq := mkq) (mcq := mcq) (mhq := mhq) (maq := maq) (mz := mz) (my := my) (mS := mS) (mzq := mzq) (mtq := mtq) (mT := mT) (mA := mA) (mrq := mrq) (muq := muq) (mF := mF) (mZ := mZ) (moq := moq) (mK := mK) (mH := mH) (mgq := mgq) (miq := miq) (mI := mI) (mB := mB) (mlq := mlq) (msq := msq) (meq := meq) (mvq := mvq) (mm := mm) (mkd := mkd) (mce := mce) (mho := mho) (msc := msc) (mth := mth) (ht := by first | assumption | omega) (hn := by first | assumption | omega) (hce := by first | assumption | omega) (hkd := by first | assumption | omega) (hz9 := by first | assumption | omega)) gX10_stepsThen_X10_lays dX10_stepsThen_1 rfl (by decide +kernel) rfl (qb := 0) rfl rfl rfl ⟨rfl, rfl⟩ ⟨Nat.le_of_ble_eq_true rfl, Nat.le_of_ble_eq_true rfl⟩ ⟨Nat.le_of_ble_eq_true rfl, Nat.le_of_ble_eq_true rfl⟩ [0, 1, 2, 3, 4, 5, 6] (by decide) rfl [] (by decide) (by decide) [] rfl [0, 1, 2, 3, 4, 5, 6] (by decide) (fun u => [ob mq 10 [.long mf, .int (nI mt), .ref mmq, .int (nI mn), .ref mkq, .ref mcq, .ref mhq, .ref maq, .int mz, .int my, .long u.1, .ref mzq, .ref mtq, .int (nI mT), .int (nI mA), .ref mrq, .ref muq, .long (mf ||| strF mkd mce mho mn), .int (frX mz), .ref moq, .int mK, .int mH, .ref mgq, .ref miq, .long mI, .int (bI mB), .ref mlq, .ref msq, .ref meq, .ref mvq], ai g mmq 6 mm, ai g mkq 6 mkd, ai g mcq 6 mce, ai g mhq 6 mho, ai g mzq 36 u.2.1, ai g muq 6 u.2.2]) (fun _ => rfl) rfl (Nat.le_of_ble_eq_true rfl) (fun u => [.int (nI (mvC mkd mce mho mn mz mm mt))]) (fun _ => rfl) (fun u hu_4 => ?_)
  obtain ⟨S2_1, sc2_2, th2_3⟩ := u
  try dsimp only at hu_4
  have hhth_5 := hu_4
  refine V_eqw (ws2 := [ob mq 10 [.long mf, .int (nI mt), .ref mmq, .int (nI mn), .ref mkq, .ref mcq, .ref mhq, .ref maq, .int mz, .int my, .long S2_1, .ref mzq, .ref mtq, .int (nI mT), .int (nI mA), .ref mrq, .ref muq, .long (mf ||| strF mkd mce mho mn), .int (frX mz), .ref moq, .int mK, .int mH, .ref mgq, .ref miq, .long mI, .int (bI mB), .ref mlq, .ref msq, .ref meq, .ref mvq], ai g mmq 6 mm, ai g mkq 6 mkd, ai g mcq 6 mce, ai g mhq 6 mho, ai g mzq 36 sc2_2, ai g muq 6 th2_3]) rfl (V_eqs (st2 := [.int (nI (mvC mkd mce mho mn mz mm mt))]) rfl ?_)
  refine V_pop (pc := 4) X dX10_stepsThen_4 rfl ?_
  refine V_aload_n (pc := 5) X dX10_stepsThen_5 rfl 0 rfl ?_
  refine V_aload_n (pc := 6) X dX10_stepsThen_6 rfl 0 rfl ?_
  refine V_get (C := RX10) (T := TX10) (N := 30) (ci := 10) (pc := 7) X dX10_stepsThen_7 in10 0 rfl rfl 17 (by decide) (by decide +kernel) rfl rfl ?_
  refine V_aload_n (pc := 10) X dX10_stepsThen_10 rfl 0 rfl ?_
  refine V_get (C := RX10) (T := TX10) (N := 30) (ci := 10) (pc := 11) X dX10_stepsThen_11 in10 0 rfl rfl 18 (by decide) (by decide +kernel) rfl rfl ?_
  refine V_aload_n (pc := 14) X dX10_stepsThen_14 rfl 0 rfl ?_
  refine V_get (C := RX10) (T := TX10) (N := 30) (ci := 10) (pc := 15) X dX10_stepsThen_15 in10 0 rfl rfl 16 (by decide) (by decide +kernel) rfl rfl ?_
  refine V_iconst (v := (-1)) (pc := 18) X dX10_stepsThen_18 (by decide) ?_
  refine V_vg (pc := 19) (nA := 4) (As := [.long (mf ||| strF mkd mce mho mn), .int (frX mz), .ref muq, .int (-1)]) (rest := []) X (c_X10_walks l g (mq := mq) (mf := mf) (mt := mt) (mmq := mmq) (mn := mn) (mkq := mkq) (mcq := mcq) (mhq := mhq) (maq := maq) (mz := mz) (my := my) (mS := S2_1) (mzq := mzq) (mtq := mtq) (mT := mT) (mA := mA) (mrq := mrq) (muq := muq) (mF := mf ||| strF mkd mce mho mn) (mZ := frX mz) (moq := moq) (mK := mK) (mH := mH) (mgq := mgq) (miq := miq) (mI := mI) (mB := mB) (mlq := mlq) (msq := msq) (meq := meq) (mvq := mvq) (aq9 := muq) (a9 := th2_3) (f := mf ||| strF mkd mce mho mn) (z := frX mz) (x := (-1)) (ht := by first | assumption | omega)) gX10_stepsThen_X10_walks dX10_stepsThen_19 rfl (by decide +kernel) rfl (qb := 0) rfl rfl rfl ⟨rfl, rfl⟩ ⟨Nat.le_of_ble_eq_true rfl, Nat.le_of_ble_eq_true rfl⟩ ⟨Nat.le_of_ble_eq_true rfl, Nat.le_of_ble_eq_true rfl⟩ [0, 6] (by decide) rfl rfl (Nat.le_of_ble_eq_true rfl) (st' := [.long (wkX (frX mz) (mf ||| strF mkd mce mho mn) th2_3 mt (-1))]) rfl ?_
  refine V_setl (y := thW mkd mce mho mn mz mf mm mt) (thW_of hhth_5) ?_
  refine V_iload_n (pc := 22) X dX10_stepsThen_22 rfl 1 rfl ?_
  refine V_iload_n (pc := 23) X dX10_stepsThen_23 rfl 2 rfl ?_
  refine V_sg (pc := 24) (nA := 3) (As := [.long (thW mkd mce mho mn mz mf mm mt), .int x, .int y]) (rest := []) X (c_X10_steps l g (w := thW mkd mce mho mn mz mf mm mt) (x := x) (y := y) (hx := by first | assumption | omega) (hy := by first | assumption | omega)) gX10_stepsThen_X10_steps dX10_stepsThen_24 rfl (by decide +kernel) rfl ⟨rfl, rfl⟩ ⟨Nat.le_of_ble_eq_true rfl, Nat.le_of_ble_eq_true rfl⟩ ⟨Nat.le_of_ble_eq_true rfl, Nat.le_of_ble_eq_true rfl⟩ [] (by decide) rfl rfl (Nat.le_of_ble_eq_true rfl) (st' := [.int (stX (thW mkd mce mho mn mz mf mm mt) x y)]) rfl ?_
  exact Ve_iret (pc := 27) X hA9 dX10_stepsThen_27 hr (S2_1, sc2_2, th2_3) (by first | rfl | (simp [hhth_5]; done)) (by
        try dsimp only
        assumption) (by rfl)
set_option maxHeartbeats 4000000 in
set_option maxRecDepth 100000 in
theorem c_X10_year (l : Launch) (g : XG) (mq : Nat) (mf : Int64) (mt : Nat) (mmq : Nat) (mn : Nat) (mkq : Nat) (mcq : Nat) (mhq : Nat) (maq : Nat) (mz : Int32) (my : Int32) (mS : Int64) (mzq : Nat) (mtq : Nat) (mT : Nat) (mA : Nat) (mrq : Nat) (muq : Nat) (mF : Int64) (mZ : Int32) (moq : Nat) (mK : Int32) (mH : Int32) (mgq : Nat) (miq : Nat) (mI : Int64) (mB : Bool) (mlq : Nat) (msq : Nat) (meq : Nat) (mvq : Nat) (mm : Nat → Int32) (mkd : Nat → Int32) (mce : Nat → Int32) (mho : Nat → Int32) (mac : Nat → Int32) (msc : Nat → Int32) (mth : Nat → Int32) (ht : mt ≤ 6) (hn : mn ≤ 6) (hce : ∀ j, j < mn → vp_in (mce j) 36) (hkd : ∀ j, j < mn → mkd j = 0 ∨ mkd j = 1 ∨ mkd j = 2 ∨ mkd j = 3) (hz9 : ∃ q, q < 10 ∧ mz = nI q) (hy : my ≤ 9999) : Ke l g yX10_year wsX10_year ({ frames := 3, cells := 0, slots := 0, locals := 72 } : Room) 0 0 [.ref mq] [ob mq 10 [.long mf, .int (nI mt), .ref mmq, .int (nI mn), .ref mkq, .ref mcq, .ref mhq, .ref maq, .int mz, .int my, .long mS, .ref mzq, .ref mtq, .int (nI mT), .int (nI mA), .ref mrq, .ref muq, .long mF, .int mZ, .ref moq, .int mK, .int mH, .ref mgq, .ref miq, .long mI, .int (bI mB), .ref mlq, .ref msq, .ref meq, .ref mvq], ai g mmq 6 mm, ai g mkq 6 mkd, ai g mcq 6 mce, ai g mhq 6 mho, ai g maq 6 mac, ai g mzq 36 msc, ai g muq 6 mth] (fun u : Int32 × Int64 × (Nat → Int32) × Int32 × (Nat → Int32) × (Nat → Int32) × Int32 × Int64 × (Nat → Int32) × (Nat → Int32) × Int64 × Int32 => some (.int u.1)) (fun u => [ob mq 10 [.long u.2.1, .int (nI mt), .ref mmq, .int (nI mn), .ref mkq, .ref mcq, .ref mhq, .ref maq, .int u.2.2.2.1, .int u.2.2.2.2.2.2.1, .long u.2.2.2.2.2.2.2.1, .ref mzq, .ref mtq, .int (nI mT), .int (nI mA), .ref mrq, .ref muq, .long u.2.2.2.2.2.2.2.2.2.2.1, .int u.2.2.2.2.2.2.2.2.2.2.2, .ref moq, .int mK, .int mH, .ref mgq, .ref miq, .long mI, .int (bI mB), .ref mlq, .ref msq, .ref meq, .ref mvq], ai g mmq 6 u.2.2.1, ai g mkq 6 mkd, ai g mcq 6 mce, ai g mhq 6 u.2.2.2.2.1, ai g maq 6 u.2.2.2.2.2.1, ai g mzq 36 u.2.2.2.2.2.2.2.2.1, ai g muq 6 u.2.2.2.2.2.2.2.2.2.1]) (fun u => (R_year mf mt mm mz mn mkd mce mho mac my u.1 u.2.1 u.2.2.1 u.2.2.2.1 u.2.2.2.2.1 u.2.2.2.2.2.1 u.2.2.2.2.2.2.1)) := by
  refine Ke.of (cc := cX10_year) (maxL := 3) (ret := (some .int)) (lv := [(0, .ref mq)]) RX10 rfl (by decide) rfl (Nat.le_of_ble_eq_true rfl) rfl ?_
  intro p e s m below meth c A sz hA9 X hr hin2
  have in10 : ∀ w ∈ u_ws RX10 TX10 30, w ∈ wsX10_year := by decide +kernel
  refine V_aload_n (pc := 0) X dX10_year_0 rfl 0 rfl ?_
  refine V_get (C := RX10) (T := TX10) (N := 30) (ci := 10) (pc := 1) X dX10_year_1 in10 0 rfl rfl 9 (by decide) (by decide +kernel) rfl rfl ?_
  refine V_sipush (v := 9999) (pc := 4) X dX10_year_4 (by decide) ?_
  refine V_icmp_ne (tgt := 13) (pc := 7) X dX10_year_7 (by decide) (fun c_1 => ?_) (fun c_1 => ?_)
  · skip
    refine V_aload_n (pc := 13) X dX10_year_13 rfl 0 rfl ?_
    refine V_ve (pc := 14) (nA := 0) (As := []) (rest := []) X (c_X10_lays l g (mq := mq) (mf := mf) (mt := mt) (mmq := mmq) (mn := mn) (mkq := mkq) (mcq := mcq) (mhq := mhq) (maq := maq) (mz := mz) (my := my) (mS := mS) (mzq := mzq) (mtq := mtq) (mT := mT) (mA := mA) (mrq := mrq) (muq := muq) (mF := mF) (mZ := mZ) (moq := moq) (mK := mK) (mH := mH) (mgq := mgq) (miq := miq) (mI := mI) (mB := mB) (mlq := mlq) (msq := msq) (meq := meq) (mvq := mvq) (mm := mm) (mkd := mkd) (mce := mce) (mho := mho) (msc := msc) (mth := mth) (ht := by first | assumption | omega) (hn := by first | assumption | omega) (hce := by first | assumption | omega) (hkd := by first | assumption | omega) (hz9 := by first | assumption | omega)) gX10_year_X10_lays dX10_year_14 rfl (by decide +kernel) rfl (qb := 0) rfl rfl rfl ⟨rfl, rfl⟩ ⟨Nat.le_of_ble_eq_true rfl, Nat.le_of_ble_eq_true rfl⟩ ⟨Nat.le_of_ble_eq_true rfl, Nat.le_of_ble_eq_true rfl⟩ [0, 1, 2, 3, 4, 6, 7] (by decide) rfl [5] (by decide) (by decide) [ai g maq 6 mac] rfl [1, 2, 3, 4, 5, 0, 6, 7] (by decide) (fun u => [ob mq 10 [.long mf, .int (nI mt), .ref mmq, .int (nI mn), .ref mkq, .ref mcq, .ref mhq, .ref maq, .int mz, .int my, .long u.1, .ref mzq, .ref mtq, .int (nI mT), .int (nI mA), .ref mrq, .ref muq, .long (mf ||| strF mkd mce mho mn), .int (frX mz), .ref moq, .int mK, .int mH, .ref mgq, .ref miq, .long mI, .int (bI mB), .ref mlq, .ref msq, .ref meq, .ref mvq], ai g mmq 6 mm, ai g mkq 6 mkd, ai g mcq 6 mce, ai g mhq 6 mho, ai g maq 6 mac, ai g mzq 36 u.2.1, ai g muq 6 u.2.2]) (fun _ => rfl) rfl (Nat.le_of_ble_eq_true rfl) (fun u => [.int (nI (mvC mkd mce mho mn mz mm mt))]) (fun _ => rfl) (fun u hu_5 => ?_)
    obtain ⟨S2_2, sc2_3, th2_4⟩ := u
    try dsimp only at hu_5
    have hhth_6 := hu_5
    refine V_eqw (ws2 := [ob mq 10 [.long mf, .int (nI mt), .ref mmq, .int (nI mn), .ref mkq, .ref mcq, .ref mhq, .ref maq, .int mz, .int my, .long S2_2, .ref mzq, .ref mtq, .int (nI mT), .int (nI mA), .ref mrq, .ref muq, .long (mf ||| strF mkd mce mho mn), .int (frX mz), .ref moq, .int mK, .int mH, .ref mgq, .ref miq, .long mI, .int (bI mB), .ref mlq, .ref msq, .ref meq, .ref mvq], ai g mmq 6 mm, ai g mkq 6 mkd, ai g mcq 6 mce, ai g mhq 6 mho, ai g maq 6 mac, ai g mzq 36 sc2_3, ai g muq 6 th2_4]) rfl (V_eqs (st2 := [.int (nI (mvC mkd mce mho mn mz mm mt))]) rfl ?_)
    refine V_istore_n (lv' := [(1, .int (nI (mvC mkd mce mho mn mz mm mt))), (0, .ref mq)]) (pc := 17) X dX10_year_17 rfl (Nat.le_of_ble_eq_true rfl) rfl ?_
    refine V_iconst (v := 0) (pc := 18) X dX10_year_18 (by decide) ?_
    refine V_istore_n (lv' := [(2, .int 0), (1, .int (nI (mvC mkd mce mho mn mz mm mt))), (0, .ref mq)]) (pc := 19) X dX10_year_19 rfl (Nat.le_of_ble_eq_true rfl) rfl ?_
    refine V_loop (pc := 20) (σ := Nat × (Nat → Int32) × (Nat → Int32)) (fun v9 => [(0, .ref mq), (1, .int (nI (mvC mkd mce mho mn mz mm mt))), (2, .int (nI v9.1))]) (fun v9 => [ob mq 10 [.long mf, .int (nI mt), .ref mmq, .int (nI mn), .ref mkq, .ref mcq, .ref mhq, .ref maq, .int mz, .int my, .long S2_2, .ref mzq, .ref mtq, .int (nI mT), .int (nI mA), .ref mrq, .ref muq, .long (mf ||| strF mkd mce mho mn), .int (frX mz), .ref moq, .int mK, .int mH, .ref mgq, .ref miq, .long mI, .int (bI mB), .ref mlq, .ref msq, .ref meq, .ref mvq], ai g mmq 6 mm, ai g mkq 6 mkd, ai g mcq 6 mce, ai g mhq 6 v9.2.2, ai g maq 6 v9.2.1, ai g mzq 36 sc2_3, ai g muq 6 th2_4]) (fun v9 => (v9.1 ≤ mn) ∧ (v9.2.1 = cpF mac (acP mf mce mho mac) v9.1) ∧ (v9.2.2 = cpF mho (fun _ => 0) v9.1)) (fun v9 => mn - v9.1) (0, mac, mho) ⟨(by
          try dsimp only
          all_goals omega), (by
          try dsimp only
          exact cpF_0 _ _), (by
          try dsimp only
          exact cpF_0 _ _)⟩ rfl [2, 1, 0] rfl ?_
    rintro ⟨k, za, zh⟩ ⟨hk, hza, hzh⟩ ih20
    try dsimp only at hk
    try dsimp only at hza
    try dsimp only at hzh
    refine V_eqw (ws2 := [ob mq 10 [.long mf, .int (nI mt), .ref mmq, .int (nI mn), .ref mkq, .ref mcq, .ref mhq, .ref maq, .int mz, .int my, .long S2_2, .ref mzq, .ref mtq, .int (nI mT), .int (nI mA), .ref mrq, .ref muq, .long (mf ||| strF mkd mce mho mn), .int (frX mz), .ref moq, .int mK, .int mH, .ref mgq, .ref miq, .long mI, .int (bI mB), .ref mlq, .ref msq, .ref meq, .ref mvq], ai g mmq 6 mm, ai g mkq 6 mkd, ai g mcq 6 mce, ai g mhq 6 zh, ai g maq 6 za, ai g mzq 36 sc2_3, ai g muq 6 th2_4]) rfl (V_eql (lv' := [(0, .ref mq), (1, .int (nI (mvC mkd mce mho mn mz mm mt))), (2, .int (nI k))]) rfl ?_)
    refine V_iload_n (pc := 20) X dX10_year_20 rfl 2 rfl ?_
    refine V_aload_n (pc := 21) X dX10_year_21 rfl 0 rfl ?_
    refine V_get (C := RX10) (T := TX10) (N := 30) (ci := 10) (pc := 22) X dX10_year_22 in10 0 rfl rfl 3 (by decide) (by decide +kernel) rfl rfl ?_
    refine V_icmp_ge (tgt := 80) (pc := 25) X dX10_year_25 (by decide) (fun c_7 => ?_) (fun c_7 => ?_)
    · skip
      have n_8 : mn ≤ k := nJ_le (a := mn) (b := k) (by omega) (by omega) c_7
      refine V_iconst (v := 0) (pc := 80) X dX10_year_80 (by decide) ?_
      refine V_istore_n (lv' := [(2, .int 0), (0, .ref mq), (1, .int (nI (mvC mkd mce mho mn mz mm mt)))]) (pc := 81) X dX10_year_81 rfl (Nat.le_of_ble_eq_true rfl) rfl ?_
      refine V_loop (pc := 82) (σ := Nat × (Nat → Int32)) (fun v9 => [(0, .ref mq), (1, .int (nI (mvC mkd mce mho mn mz mm mt))), (2, .int (nI v9.1))]) (fun v9 => [ob mq 10 [.long mf, .int (nI mt), .ref mmq, .int (nI mn), .ref mkq, .ref mcq, .ref mhq, .ref maq, .int mz, .int my, .long S2_2, .ref mzq, .ref mtq, .int (nI mT), .int (nI mA), .ref mrq, .ref muq, .long (mf ||| strF mkd mce mho mn), .int (frX mz), .ref moq, .int mK, .int mH, .ref mgq, .ref miq, .long mI, .int (bI mB), .ref mlq, .ref msq, .ref meq, .ref mvq], ai g mmq 6 v9.2, ai g mkq 6 mkd, ai g mcq 6 mce, ai g mhq 6 zh, ai g maq 6 za, ai g mzq 36 sc2_3, ai g muq 6 th2_4]) (fun v9 => (v9.1 ≤ mt) ∧ (v9.2 = cpF mm th2_4 v9.1)) (fun v9 => mt - v9.1) (0, mm) ⟨(by
            try dsimp only
            all_goals omega), (by
            try dsimp only
            exact cpF_0 _ _)⟩ rfl [1, 2, 0] rfl ?_
      rintro ⟨k2, zm⟩ ⟨hk2, hzm⟩ ih82
      try dsimp only at hk2
      try dsimp only at hzm
      refine V_eqw (ws2 := [ob mq 10 [.long mf, .int (nI mt), .ref mmq, .int (nI mn), .ref mkq, .ref mcq, .ref mhq, .ref maq, .int mz, .int my, .long S2_2, .ref mzq, .ref mtq, .int (nI mT), .int (nI mA), .ref mrq, .ref muq, .long (mf ||| strF mkd mce mho mn), .int (frX mz), .ref moq, .int mK, .int mH, .ref mgq, .ref miq, .long mI, .int (bI mB), .ref mlq, .ref msq, .ref meq, .ref mvq], ai g mmq 6 zm, ai g mkq 6 mkd, ai g mcq 6 mce, ai g mhq 6 zh, ai g maq 6 za, ai g mzq 36 sc2_3, ai g muq 6 th2_4]) rfl (V_eql (lv' := [(0, .ref mq), (1, .int (nI (mvC mkd mce mho mn mz mm mt))), (2, .int (nI k2))]) rfl ?_)
      refine V_iload_n (pc := 82) X dX10_year_82 rfl 2 rfl ?_
      refine V_aload_n (pc := 83) X dX10_year_83 rfl 0 rfl ?_
      refine V_get (C := RX10) (T := TX10) (N := 30) (ci := 10) (pc := 84) X dX10_year_84 in10 0 rfl rfl 1 (by decide) (by decide +kernel) rfl rfl ?_
      refine V_icmp_ge (tgt := 108) (pc := 87) X dX10_year_87 (by decide) (fun c_9 => ?_) (fun c_9 => ?_)
      · skip
        have n_10 : mt ≤ k2 := nJ_le (a := mt) (b := k2) (by omega) (by omega) c_9
        refine V_aload_n (pc := 108) X dX10_year_108 rfl 0 rfl ?_
        refine V_aload_n (pc := 109) X dX10_year_109 rfl 0 rfl ?_
        refine V_get (C := RX10) (T := TX10) (N := 30) (ci := 10) (pc := 110) X dX10_year_110 in10 0 rfl rfl 17 (by decide) (by decide +kernel) rfl rfl ?_
        refine V_put (C := RX10) (T := TX10) (N := 30) (ci := 10) (ws' := [ob mq 10 [.long (mf ||| strF mkd mce mho mn), .int (nI mt), .ref mmq, .int (nI mn), .ref mkq, .ref mcq, .ref mhq, .ref maq, .int mz, .int my, .long S2_2, .ref mzq, .ref mtq, .int (nI mT), .int (nI mA), .ref mrq, .ref muq, .long (mf ||| strF mkd mce mho mn), .int (frX mz), .ref moq, .int mK, .int mH, .ref mgq, .ref miq, .long mI, .int (bI mB), .ref mlq, .ref msq, .ref meq, .ref mvq], ai g mmq 6 zm, ai g mkq 6 mkd, ai g mcq 6 mce, ai g mhq 6 zh, ai g maq 6 za, ai g mzq 36 sc2_3, ai g muq 6 th2_4]) (pc := 113) X dX10_year_113 in10 tyX10 tyX10_ok nmX10 0 rfl rfl 0 (by decide) (by decide +kernel) rfl rfl rfl rfl rfl (Nat.le_of_ble_eq_true rfl) rfl ?_
        refine V_aload_n (pc := 116) X dX10_year_116 rfl 0 rfl ?_
        refine V_aload_n (pc := 117) X dX10_year_117 rfl 0 rfl ?_
        refine V_get (C := RX10) (T := TX10) (N := 30) (ci := 10) (pc := 118) X dX10_year_118 in10 0 rfl rfl 18 (by decide) (by decide +kernel) rfl rfl ?_
        refine V_put (C := RX10) (T := TX10) (N := 30) (ci := 10) (ws' := [ob mq 10 [.long (mf ||| strF mkd mce mho mn), .int (nI mt), .ref mmq, .int (nI mn), .ref mkq, .ref mcq, .ref mhq, .ref maq, .int (frX mz), .int my, .long S2_2, .ref mzq, .ref mtq, .int (nI mT), .int (nI mA), .ref mrq, .ref muq, .long (mf ||| strF mkd mce mho mn), .int (frX mz), .ref moq, .int mK, .int mH, .ref mgq, .ref miq, .long mI, .int (bI mB), .ref mlq, .ref msq, .ref meq, .ref mvq], ai g mmq 6 zm, ai g mkq 6 mkd, ai g mcq 6 mce, ai g mhq 6 zh, ai g maq 6 za, ai g mzq 36 sc2_3, ai g muq 6 th2_4]) (pc := 121) X dX10_year_121 in10 tyX10 tyX10_ok nmX10 0 rfl rfl 8 (by decide) (by decide +kernel) rfl rfl rfl rfl rfl (Nat.le_of_ble_eq_true rfl) rfl ?_
        refine V_aload_n (pc := 124) X dX10_year_124 rfl 0 rfl ?_
        refine V_dup (pc := 125) X dX10_year_125 rfl ?_
        refine V_get (C := RX10) (T := TX10) (N := 30) (ci := 10) (pc := 126) X dX10_year_126 in10 0 rfl rfl 9 (by decide) (by decide +kernel) rfl rfl ?_
        refine V_iconst (v := 1) (pc := 129) X dX10_year_129 (by decide) ?_
        refine V_iadd (pc := 130) X dX10_year_130 ?_
        refine V_put (C := RX10) (T := TX10) (N := 30) (ci := 10) (ws' := [ob mq 10 [.long (mf ||| strF mkd mce mho mn), .int (nI mt), .ref mmq, .int (nI mn), .ref mkq, .ref mcq, .ref mhq, .ref maq, .int (frX mz), .int (my + 1), .long S2_2, .ref mzq, .ref mtq, .int (nI mT), .int (nI mA), .ref mrq, .ref muq, .long (mf ||| strF mkd mce mho mn), .int (frX mz), .ref moq, .int mK, .int mH, .ref mgq, .ref miq, .long mI, .int (bI mB), .ref mlq, .ref msq, .ref meq, .ref mvq], ai g mmq 6 zm, ai g mkq 6 mkd, ai g mcq 6 mce, ai g mhq 6 zh, ai g maq 6 za, ai g mzq 36 sc2_3, ai g muq 6 th2_4]) (pc := 131) X dX10_year_131 in10 tyX10 tyX10_ok nmX10 0 rfl rfl 9 (by decide) (by decide +kernel) rfl rfl rfl rfl rfl (Nat.le_of_ble_eq_true rfl) rfl ?_
        refine V_iload_n (pc := 134) X dX10_year_134 rfl 1 rfl ?_
        exact Ve_iret (pc := 135) X hA9 dX10_year_135 hr (nI (mvC mkd mce mho mn mz mm mt), mf ||| strF mkd mce mho mn, zm, frX mz, zh, za, my + 1, S2_2, sc2_3, th2_4, mf ||| strF mkd mce mho mn, frX mz) (by first | rfl | (simp [c_1, hhth_6, n_8, n_10]; done)) (by
              try dsimp only
              unfold R_year
              refine Or.inr ⟨y_lt hy (by assumption), rfl, rfl, ?_, rfl, ?_, rfl⟩
              · intro j hj; rw [hzm]; simp only [cpF]; rw [if_pos (by omega)]; exact hhth_6 j hj
              · intro j hj; rw [hza, hzh]; simp only [cpF]; rw [if_pos (by omega), if_pos (by omega)]; exact ⟨rfl, rfl⟩) (by rfl)
      · skip
        have n_11 : k2 < mt := nJ_nle (a := mt) (b := k2) (by omega) (by omega) c_9
        refine V_aload_n (pc := 90) X dX10_year_90 rfl 0 rfl ?_
        refine V_get (C := RX10) (T := TX10) (N := 30) (ci := 10) (pc := 91) X dX10_year_91 in10 0 rfl rfl 2 (by decide) (by decide +kernel) rfl rfl ?_
        refine V_iload_n (pc := 94) X dX10_year_94 rfl 2 rfl ?_
        refine V_aload_n (pc := 95) X dX10_year_95 rfl 0 rfl ?_
        refine V_get (C := RX10) (T := TX10) (N := 30) (ci := 10) (pc := 96) X dX10_year_96 in10 0 rfl rfl 16 (by decide) (by decide +kernel) rfl rfl ?_
        refine V_iload_n (pc := 99) X dX10_year_99 rfl 2 rfl ?_
        refine V_iald (v := th2_4 k2) (pc := 100) X dX10_year_100 7 rfl (vp_in_nI (by omega) (by omega)) (by rw [nI_clamp (by omega)]) ?_
        refine V_iast (f' := upd zm k2 (th2_4 k2)) (ws' := [ob mq 10 [.long mf, .int (nI mt), .ref mmq, .int (nI mn), .ref mkq, .ref mcq, .ref mhq, .ref maq, .int mz, .int my, .long S2_2, .ref mzq, .ref mtq, .int (nI mT), .int (nI mA), .ref mrq, .ref muq, .long (mf ||| strF mkd mce mho mn), .int (frX mz), .ref moq, .int mK, .int mH, .ref mgq, .ref miq, .long mI, .int (bI mB), .ref mlq, .ref msq, .ref meq, .ref mvq], ai g mmq 6 (upd zm k2 (th2_4 k2)), ai g mkq 6 mkd, ai g mcq 6 mce, ai g mhq 6 zh, ai g maq 6 za, ai g mzq 36 sc2_3, ai g muq 6 th2_4]) (pc := 101) X dX10_year_101 1 rfl (vp_in_nI (by omega) (by omega)) (by rw [nI_clamp (by omega)]) rfl ?_
        refine V_iinc (v := nI (k2 + 1)) (lv' := [(2, .int (nI (k2 + 1))), (0, .ref mq), (1, .int (nI (mvC mkd mce mho mn mz mm mt)))]) (pc := 102) X dX10_year_102 2 rfl (nI_add k2 1) (Nat.le_of_ble_eq_true rfl) rfl ?_
        refine V_goto (tgt := 82) (pc := 105) X dX10_year_105 (by decide) ?_
        refine V_lv [1, 2, 0] rfl ?_
        exact ih82 (k2 + 1, upd zm k2 (th2_4 k2)) ⟨(by
              try dsimp only
              all_goals omega), (by
              try dsimp only
              rw [hzm]; exact cpF_s mm th2_4 k2)⟩ (by
              try dsimp only
              all_goals omega)
    · skip
      have n_12 : k < mn := nJ_nle (a := mn) (b := k) (by omega) (by omega) c_7
      refine V_aload_n (pc := 28) X dX10_year_28 rfl 0 rfl ?_
      refine V_get (C := RX10) (T := TX10) (N := 30) (ci := 10) (pc := 29) X dX10_year_29 in10 0 rfl rfl 7 (by decide) (by decide +kernel) rfl rfl ?_
      refine V_iload_n (pc := 32) X dX10_year_32 rfl 2 rfl ?_
      refine V_dup2 (pc := 33) X dX10_year_33 rfl rfl ?_
      refine V_iald (v := za k) (pc := 34) X dX10_year_34 5 rfl (vp_in_nI (by omega) (by omega)) (by rw [nI_clamp (by omega)]) ?_
      refine V_seti (y := mac k) (by rw [hza]; exact cpF_at k) ?_
      refine V_aload_n (pc := 35) X dX10_year_35 rfl 0 rfl ?_
      refine V_get (C := RX10) (T := TX10) (N := 30) (ci := 10) (pc := 36) X dX10_year_36 in10 0 rfl rfl 6 (by decide) (by decide +kernel) rfl rfl ?_
      refine V_iload_n (pc := 39) X dX10_year_39 rfl 2 rfl ?_
      refine V_iald (v := zh k) (pc := 40) X dX10_year_40 4 rfl (vp_in_nI (by omega) (by omega)) (by rw [nI_clamp (by omega)]) ?_
      refine V_seti (y := mho k) (by rw [hzh]; exact cpF_at k) ?_
      refine V_if_le (tgt := 64) (pc := 41) X dX10_year_41 (by decide) (fun c_13 => ?_) (fun c_13 => ?_)
      · skip
        refine V_iconst (v := 0) (pc := 64) X dX10_year_64 (by decide) ?_
        refine V_iadd (pc := 65) X dX10_year_65 ?_
        refine V_iast (f' := upd za k ((mac k) + 0)) (ws' := [ob mq 10 [.long mf, .int (nI mt), .ref mmq, .int (nI mn), .ref mkq, .ref mcq, .ref mhq, .ref maq, .int mz, .int my, .long S2_2, .ref mzq, .ref mtq, .int (nI mT), .int (nI mA), .ref mrq, .ref muq, .long (mf ||| strF mkd mce mho mn), .int (frX mz), .ref moq, .int mK, .int mH, .ref mgq, .ref miq, .long mI, .int (bI mB), .ref mlq, .ref msq, .ref meq, .ref mvq], ai g mmq 6 mm, ai g mkq 6 mkd, ai g mcq 6 mce, ai g mhq 6 zh, ai g maq 6 (upd za k ((mac k) + 0)), ai g mzq 36 sc2_3, ai g muq 6 th2_4]) (pc := 66) X dX10_year_66 5 rfl (vp_in_nI (by omega) (by omega)) (by rw [nI_clamp (by omega)]) rfl ?_
        refine V_aload_n (pc := 67) X dX10_year_67 rfl 0 rfl ?_
        refine V_get (C := RX10) (T := TX10) (N := 30) (ci := 10) (pc := 68) X dX10_year_68 in10 0 rfl rfl 6 (by decide) (by decide +kernel) rfl rfl ?_
        refine V_iload_n (pc := 71) X dX10_year_71 rfl 2 rfl ?_
        refine V_iconst (v := 0) (pc := 72) X dX10_year_72 (by decide) ?_
        refine V_iast (f' := upd zh k 0) (ws' := [ob mq 10 [.long mf, .int (nI mt), .ref mmq, .int (nI mn), .ref mkq, .ref mcq, .ref mhq, .ref maq, .int mz, .int my, .long S2_2, .ref mzq, .ref mtq, .int (nI mT), .int (nI mA), .ref mrq, .ref muq, .long (mf ||| strF mkd mce mho mn), .int (frX mz), .ref moq, .int mK, .int mH, .ref mgq, .ref miq, .long mI, .int (bI mB), .ref mlq, .ref msq, .ref meq, .ref mvq], ai g mmq 6 mm, ai g mkq 6 mkd, ai g mcq 6 mce, ai g mhq 6 (upd zh k 0), ai g maq 6 (upd za k ((mac k) + 0)), ai g mzq 36 sc2_3, ai g muq 6 th2_4]) (pc := 73) X dX10_year_73 4 rfl (vp_in_nI (by omega) (by omega)) (by rw [nI_clamp (by omega)]) rfl ?_
        refine V_iinc (v := nI (k + 1)) (lv' := [(2, .int (nI (k + 1))), (0, .ref mq), (1, .int (nI (mvC mkd mce mho mn mz mm mt)))]) (pc := 74) X dX10_year_74 2 rfl (nI_add k 1) (Nat.le_of_ble_eq_true rfl) rfl ?_
        refine V_goto (tgt := 20) (pc := 77) X dX10_year_77 (by decide) ?_
        refine V_lv [1, 2, 0] rfl ?_
        exact ih20 (k + 1, upd za k ((mac k) + 0), upd zh k 0) ⟨(by
              try dsimp only
              all_goals omega), (by
              try dsimp only
              rw [hza]; first | exact cpF_put (acP_0 (Or.inl (by assumption))) | exact cpF_put (acP_0 (Or.inr (by assumption))) | exact cpF_put (acP_1 (by assumption) (by assumption))), (by
              try dsimp only
              rw [hzh]; exact cpF_s mho (fun _ => 0) k)⟩ (by
              try dsimp only
              all_goals omega)
      · skip
        refine V_aload_n (pc := 44) X dX10_year_44 rfl 0 rfl ?_
        refine V_get (C := RX10) (T := TX10) (N := 30) (ci := 10) (pc := 45) X dX10_year_45 in10 0 rfl rfl 0 (by decide) (by decide +kernel) rfl rfl ?_
        refine V_aload_n (pc := 48) X dX10_year_48 rfl 0 rfl ?_
        refine V_get (C := RX10) (T := TX10) (N := 30) (ci := 10) (pc := 49) X dX10_year_49 in10 0 rfl rfl 5 (by decide) (by decide +kernel) rfl rfl ?_
        refine V_iload_n (pc := 52) X dX10_year_52 rfl 2 rfl ?_
        refine V_iald (v := mce k) (pc := 53) X dX10_year_53 3 rfl (vp_in_nI (by omega) (by omega)) (by rw [nI_clamp (by omega)]) ?_
        refine V_sg (pc := 54) (nA := 2) (As := [.long mf, .int (mce k)]) (rest := [.int (mac k), .int (nI k), .ref maq]) X (c_X10_has l g (f := mf) (x := mce k) (hx := by exact hce _ (by omega))) gX10_year_X10_has dX10_year_54 rfl (by decide +kernel) rfl ⟨rfl, rfl⟩ ⟨Nat.le_of_ble_eq_true rfl, Nat.le_of_ble_eq_true rfl⟩ ⟨Nat.le_of_ble_eq_true rfl, Nat.le_of_ble_eq_true rfl⟩ [] (by decide) rfl rfl (Nat.le_of_ble_eq_true rfl) (st' := [.int (bI (firmB mf (mce k))), .int (mac k), .int (nI k), .ref maq]) rfl ?_
        refine V_if_ne (tgt := 64) (pc := 57) X dX10_year_57 (by decide) (fun c_14 => ?_) (fun c_14 => ?_)
        · skip
          have b_15 : (firmB mf (mce k)) = true := bI1 c_14
          refine V_iconst (v := 0) (pc := 64) X dX10_year_64 (by decide) ?_
          refine V_iadd (pc := 65) X dX10_year_65 ?_
          refine V_iast (f' := upd za k ((mac k) + 0)) (ws' := [ob mq 10 [.long mf, .int (nI mt), .ref mmq, .int (nI mn), .ref mkq, .ref mcq, .ref mhq, .ref maq, .int mz, .int my, .long S2_2, .ref mzq, .ref mtq, .int (nI mT), .int (nI mA), .ref mrq, .ref muq, .long (mf ||| strF mkd mce mho mn), .int (frX mz), .ref moq, .int mK, .int mH, .ref mgq, .ref miq, .long mI, .int (bI mB), .ref mlq, .ref msq, .ref meq, .ref mvq], ai g mmq 6 mm, ai g mkq 6 mkd, ai g mcq 6 mce, ai g mhq 6 zh, ai g maq 6 (upd za k ((mac k) + 0)), ai g mzq 36 sc2_3, ai g muq 6 th2_4]) (pc := 66) X dX10_year_66 5 rfl (vp_in_nI (by omega) (by omega)) (by rw [nI_clamp (by omega)]) rfl ?_
          refine V_aload_n (pc := 67) X dX10_year_67 rfl 0 rfl ?_
          refine V_get (C := RX10) (T := TX10) (N := 30) (ci := 10) (pc := 68) X dX10_year_68 in10 0 rfl rfl 6 (by decide) (by decide +kernel) rfl rfl ?_
          refine V_iload_n (pc := 71) X dX10_year_71 rfl 2 rfl ?_
          refine V_iconst (v := 0) (pc := 72) X dX10_year_72 (by decide) ?_
          refine V_iast (f' := upd zh k 0) (ws' := [ob mq 10 [.long mf, .int (nI mt), .ref mmq, .int (nI mn), .ref mkq, .ref mcq, .ref mhq, .ref maq, .int mz, .int my, .long S2_2, .ref mzq, .ref mtq, .int (nI mT), .int (nI mA), .ref mrq, .ref muq, .long (mf ||| strF mkd mce mho mn), .int (frX mz), .ref moq, .int mK, .int mH, .ref mgq, .ref miq, .long mI, .int (bI mB), .ref mlq, .ref msq, .ref meq, .ref mvq], ai g mmq 6 mm, ai g mkq 6 mkd, ai g mcq 6 mce, ai g mhq 6 (upd zh k 0), ai g maq 6 (upd za k ((mac k) + 0)), ai g mzq 36 sc2_3, ai g muq 6 th2_4]) (pc := 73) X dX10_year_73 4 rfl (vp_in_nI (by omega) (by omega)) (by rw [nI_clamp (by omega)]) rfl ?_
          refine V_iinc (v := nI (k + 1)) (lv' := [(2, .int (nI (k + 1))), (0, .ref mq), (1, .int (nI (mvC mkd mce mho mn mz mm mt)))]) (pc := 74) X dX10_year_74 2 rfl (nI_add k 1) (Nat.le_of_ble_eq_true rfl) rfl ?_
          refine V_goto (tgt := 20) (pc := 77) X dX10_year_77 (by decide) ?_
          refine V_lv [1, 2, 0] rfl ?_
          exact ih20 (k + 1, upd za k ((mac k) + 0), upd zh k 0) ⟨(by
                try dsimp only
                all_goals omega), (by
                try dsimp only
                rw [hza]; first | exact cpF_put (acP_0 (Or.inl (by assumption))) | exact cpF_put (acP_0 (Or.inr (by assumption))) | exact cpF_put (acP_1 (by assumption) (by assumption))), (by
                try dsimp only
                rw [hzh]; exact cpF_s mho (fun _ => 0) k)⟩ (by
                try dsimp only
                all_goals omega)
        · skip
          have b_16 : (firmB mf (mce k)) = false := bI0 c_14
          refine V_iconst (v := 1) (pc := 60) X dX10_year_60 (by decide) ?_
          refine V_goto (tgt := 65) (pc := 61) X dX10_year_61 (by decide) ?_
          refine V_iadd (pc := 65) X dX10_year_65 ?_
          refine V_iast (f' := upd za k ((mac k) + 1)) (ws' := [ob mq 10 [.long mf, .int (nI mt), .ref mmq, .int (nI mn), .ref mkq, .ref mcq, .ref mhq, .ref maq, .int mz, .int my, .long S2_2, .ref mzq, .ref mtq, .int (nI mT), .int (nI mA), .ref mrq, .ref muq, .long (mf ||| strF mkd mce mho mn), .int (frX mz), .ref moq, .int mK, .int mH, .ref mgq, .ref miq, .long mI, .int (bI mB), .ref mlq, .ref msq, .ref meq, .ref mvq], ai g mmq 6 mm, ai g mkq 6 mkd, ai g mcq 6 mce, ai g mhq 6 zh, ai g maq 6 (upd za k ((mac k) + 1)), ai g mzq 36 sc2_3, ai g muq 6 th2_4]) (pc := 66) X dX10_year_66 5 rfl (vp_in_nI (by omega) (by omega)) (by rw [nI_clamp (by omega)]) rfl ?_
          refine V_aload_n (pc := 67) X dX10_year_67 rfl 0 rfl ?_
          refine V_get (C := RX10) (T := TX10) (N := 30) (ci := 10) (pc := 68) X dX10_year_68 in10 0 rfl rfl 6 (by decide) (by decide +kernel) rfl rfl ?_
          refine V_iload_n (pc := 71) X dX10_year_71 rfl 2 rfl ?_
          refine V_iconst (v := 0) (pc := 72) X dX10_year_72 (by decide) ?_
          refine V_iast (f' := upd zh k 0) (ws' := [ob mq 10 [.long mf, .int (nI mt), .ref mmq, .int (nI mn), .ref mkq, .ref mcq, .ref mhq, .ref maq, .int mz, .int my, .long S2_2, .ref mzq, .ref mtq, .int (nI mT), .int (nI mA), .ref mrq, .ref muq, .long (mf ||| strF mkd mce mho mn), .int (frX mz), .ref moq, .int mK, .int mH, .ref mgq, .ref miq, .long mI, .int (bI mB), .ref mlq, .ref msq, .ref meq, .ref mvq], ai g mmq 6 mm, ai g mkq 6 mkd, ai g mcq 6 mce, ai g mhq 6 (upd zh k 0), ai g maq 6 (upd za k ((mac k) + 1)), ai g mzq 36 sc2_3, ai g muq 6 th2_4]) (pc := 73) X dX10_year_73 4 rfl (vp_in_nI (by omega) (by omega)) (by rw [nI_clamp (by omega)]) rfl ?_
          refine V_iinc (v := nI (k + 1)) (lv' := [(2, .int (nI (k + 1))), (0, .ref mq), (1, .int (nI (mvC mkd mce mho mn mz mm mt)))]) (pc := 74) X dX10_year_74 2 rfl (nI_add k 1) (Nat.le_of_ble_eq_true rfl) rfl ?_
          refine V_goto (tgt := 20) (pc := 77) X dX10_year_77 (by decide) ?_
          refine V_lv [1, 2, 0] rfl ?_
          exact ih20 (k + 1, upd za k ((mac k) + 1), upd zh k 0) ⟨(by
                try dsimp only
                all_goals omega), (by
                try dsimp only
                rw [hza]; first | exact cpF_put (acP_0 (Or.inl (by assumption))) | exact cpF_put (acP_0 (Or.inr (by assumption))) | exact cpF_put (acP_1 (by assumption) (by assumption))), (by
                try dsimp only
                rw [hzh]; exact cpF_s mho (fun _ => 0) k)⟩ (by
                try dsimp only
                all_goals omega)
  · skip
    refine V_bipush (v := (-3)) (pc := 10) X dX10_year_10 (by decide) ?_
    exact Ve_iret (pc := 12) X hA9 dX10_year_12 hr ((-3), mf, mm, mz, mho, mac, my, mS, msc, mth, mF, mZ) (by first | rfl | (simp [c_1]; done)) (by
          try dsimp only
          (unfold R_year; exact Or.inl ⟨by rw [show my = 9999 by assumption]; decide, rfl, rfl, rfl, rfl, rfl, rfl, rfl⟩)) (by rfl)
