set_option maxHeartbeats 4000000 in
set_option maxRecDepth 100000 in
theorem c_X10_pilots (l : Launch) (g : XG) (mq : Nat) (mf : Int64) (mt : Nat) (mmq : Nat) (mn : Nat) (mkq : Nat) (mcq : Nat) (mhq : Nat) (maq : Nat) (mz : Int32) (my : Int32) (mS : Int64) (mzq : Nat) (mtq : Nat) (mT : Nat) (mA : Nat) (mrq : Nat) (muq : Nat) (mF : Int64) (mZ : Int32) (moq : Nat) (mK : Int32) (mH : Int32) (mgq : Nat) (miq : Nat) (mI : Int64) (mB : Bool) (mlq : Nat) (msq : Nat) (meq : Nat) (mvq : Nat) (mm : Nat → Int32) (x : Int32) (y : Int32) (ht : mt ≤ 6) : Kg l g yX10_pilots wsX10_pilots ({ frames := 2, cells := 0, slots := 0, locals := 48 } : Room) [.ref mq, .int x, .int y] [ob mq 10 [.long mf, .int (nI mt), .ref mmq, .int (nI mn), .ref mkq, .ref mcq, .ref mhq, .ref maq, .int mz, .int my, .long mS, .ref mzq, .ref mtq, .int (nI mT), .int (nI mA), .ref mrq, .ref muq, .long mF, .int mZ, .ref moq, .int mK, .int mH, .ref mgq, .ref miq, .long mI, .int (bI mB), .ref mlq, .ref msq, .ref meq, .ref mvq], ai g mmq 6 mm] (some (.int (pilotsF x y mz mf mm mt))) := by
  refine Kg.of (cc := cX10_pilots) (maxL := 5) (ret := (some .int)) (lv := [(0, .ref mq), (1, .int x), (2, .int y)]) RX10 rfl (by decide) rfl (Nat.le_of_ble_eq_true rfl) rfl ?_
  intro p e s m below meth c A X hr
  have in10 : ∀ w ∈ u_ws RX10 TX10 30, w ∈ wsX10_pilots := by decide +kernel
  refine V_iload_n (pc := 0) X dX10_pilots_0 rfl 1 rfl ?_
  refine V_i2l (pc := 1) X dX10_pilots_1 ?_
  refine V_sg (pc := 2) (nA := 1) (As := [.long x.toInt64]) (rest := []) X (c_X10_isCell l g (v := x.toInt64) ) gX10_pilots_X10_isCell dX10_pilots_2 rfl (by decide +kernel) rfl ⟨rfl, rfl⟩ ⟨Nat.le_of_ble_eq_true rfl, Nat.le_of_ble_eq_true rfl⟩ ⟨Nat.le_of_ble_eq_true rfl, Nat.le_of_ble_eq_true rfl⟩ [] (by decide) rfl rfl (Nat.le_of_ble_eq_true rfl) (st' := [.int (bI (inJ x.toInt64 0 35))]) rfl ?_
  refine V_seti (y := bI (bel x 36)) (congrArg bI (inJ_bel 35 (by decide) (by decide))) ?_
  refine V_if_eq (tgt := 16) (pc := 5) X dX10_pilots_5 (by decide) (fun c_1 => ?_) (fun c_1 => ?_)
  · skip
    have b_2 : (bel x 36) = false := bI0 c_1
    refine V_iconst (v := (-1)) (pc := 16) X dX10_pilots_16 (by decide) ?_
    exact Vg_iret (pc := 17) X dX10_pilots_17 hr (by simp [pilotsF, b_2])
  · skip
    have b_3 : (bel x 36) = true := bI1 c_1
    refine V_iload_n (pc := 8) X dX10_pilots_8 rfl 2 rfl ?_
    refine V_i2l (pc := 9) X dX10_pilots_9 ?_
    refine V_sg (pc := 10) (nA := 1) (As := [.long y.toInt64]) (rest := []) X (c_X10_isCell l g (v := y.toInt64) ) gX10_pilots_X10_isCell dX10_pilots_10 rfl (by decide +kernel) rfl ⟨rfl, rfl⟩ ⟨Nat.le_of_ble_eq_true rfl, Nat.le_of_ble_eq_true rfl⟩ ⟨Nat.le_of_ble_eq_true rfl, Nat.le_of_ble_eq_true rfl⟩ [] (by decide) rfl rfl (Nat.le_of_ble_eq_true rfl) (st' := [.int (bI (inJ y.toInt64 0 35))]) rfl ?_
    refine V_seti (y := bI (bel y 36)) (congrArg bI (inJ_bel 35 (by decide) (by decide))) ?_
    refine V_if_ne (tgt := 18) (pc := 13) X dX10_pilots_13 (by decide) (fun c_4 => ?_) (fun c_4 => ?_)
    · skip
      have b_5 : (bel y 36) = true := bI1 c_4
      refine V_aload_n (pc := 18) X dX10_pilots_18 rfl 0 rfl ?_
      refine V_vg (pc := 19) (nA := 0) (As := []) (rest := []) X (c_X10_now l g (mq := mq) (mf := mf) (mt := mt) (mmq := mmq) (mn := mn) (mkq := mkq) (mcq := mcq) (mhq := mhq) (maq := maq) (mz := mz) (my := my) (mS := mS) (mzq := mzq) (mtq := mtq) (mT := mT) (mA := mA) (mrq := mrq) (muq := muq) (mF := mF) (mZ := mZ) (moq := moq) (mK := mK) (mH := mH) (mgq := mgq) (miq := miq) (mI := mI) (mB := mB) (mlq := mlq) (msq := msq) (meq := meq) (mvq := mvq) (mm := mm) (ht := by first | assumption | omega)) gX10_pilots_X10_now dX10_pilots_19 rfl (by decide +kernel) rfl (qb := 0) rfl rfl rfl ⟨rfl, rfl⟩ ⟨Nat.le_of_ble_eq_true rfl, Nat.le_of_ble_eq_true rfl⟩ ⟨Nat.le_of_ble_eq_true rfl, Nat.le_of_ble_eq_true rfl⟩ [0, 1] (by decide) rfl rfl (Nat.le_of_ble_eq_true rfl) (st' := [.long (wkX mz mf mm mt (-1))]) rfl ?_
      refine V_iload_n (pc := 22) X dX10_pilots_22 rfl 1 rfl ?_
      refine V_iload_n (pc := 23) X dX10_pilots_23 rfl 2 rfl ?_
      refine V_sg (pc := 24) (nA := 3) (As := [.long (wkX mz mf mm mt (-1)), .int x, .int y]) (rest := []) X (c_X10_steps l g (w := wkX mz mf mm mt (-1)) (x := x) (y := y) (hx := by exact bel_vin (n := 36) (by omega) (by omega) (by omega) (by assumption)) (hy := by exact bel_vin (n := 36) (by omega) (by omega) (by omega) (by assumption))) gX10_pilots_X10_steps dX10_pilots_24 rfl (by decide +kernel) rfl ⟨rfl, rfl⟩ ⟨Nat.le_of_ble_eq_true rfl, Nat.le_of_ble_eq_true rfl⟩ ⟨Nat.le_of_ble_eq_true rfl, Nat.le_of_ble_eq_true rfl⟩ [] (by decide) rfl rfl (Nat.le_of_ble_eq_true rfl) (st' := [.int (stX (wkX mz mf mm mt (-1)) x y)]) rfl ?_
      refine V_bipush (v := (-4)) (pc := 27) X dX10_pilots_27 (by decide) ?_
      refine V_icmp_ne (tgt := 35) (pc := 29) X dX10_pilots_29 (by decide) (fun c_6 => ?_) (fun c_6 => ?_)
      · skip
        refine V_iconst (v := 0) (pc := 35) X dX10_pilots_35 (by decide) ?_
        refine V_istore_n (lv' := [(3, .int 0), (0, .ref mq), (1, .int x), (2, .int y)]) (pc := 36) X dX10_pilots_36 rfl (Nat.le_of_ble_eq_true rfl) rfl ?_
        refine V_iconst (v := 0) (pc := 37) X dX10_pilots_37 (by decide) ?_
        refine V_istore (lv' := [(4, .int 0), (3, .int 0), (0, .ref mq), (1, .int x), (2, .int y)]) (pc := 38) X dX10_pilots_38 (Nat.le_of_ble_eq_true rfl) rfl ?_
        refine V_loop (pc := 40) (σ := Nat × Int32) (fun v9 => [(0, .ref mq), (1, .int x), (2, .int y), (3, .int v9.2), (4, .int (nI v9.1))]) (fun v9 => [ob mq 10 [.long mf, .int (nI mt), .ref mmq, .int (nI mn), .ref mkq, .ref mcq, .ref mhq, .ref maq, .int mz, .int my, .long mS, .ref mzq, .ref mtq, .int (nI mT), .int (nI mA), .ref mrq, .ref muq, .long mF, .int mZ, .ref moq, .int mK, .int mH, .ref mgq, .ref miq, .long mI, .int (bI mB), .ref mlq, .ref msq, .ref meq, .ref mvq], ai g mmq 6 mm]) (fun v9 => (v9.1 ≤ mt) ∧ (v9.2 = plS mz mf mm mt x y v9.1)) (fun v9 => mt - v9.1) (0, 0) ⟨(by
              try dsimp only
              all_goals omega), (by
              try dsimp only
              all_goals rfl)⟩ rfl [2, 3, 4, 1, 0] rfl ?_
        rintro ⟨k, z⟩ ⟨hk, hz⟩ ih40
        try dsimp only at hk
        try dsimp only at hz
        refine V_eqw (ws2 := [ob mq 10 [.long mf, .int (nI mt), .ref mmq, .int (nI mn), .ref mkq, .ref mcq, .ref mhq, .ref maq, .int mz, .int my, .long mS, .ref mzq, .ref mtq, .int (nI mT), .int (nI mA), .ref mrq, .ref muq, .long mF, .int mZ, .ref moq, .int mK, .int mH, .ref mgq, .ref miq, .long mI, .int (bI mB), .ref mlq, .ref msq, .ref meq, .ref mvq], ai g mmq 6 mm]) rfl (V_eql (lv' := [(0, .ref mq), (1, .int x), (2, .int y), (3, .int z), (4, .int (nI k))]) rfl ?_)
        refine V_iload (pc := 40) X dX10_pilots_40 4 rfl ?_
        refine V_aload_n (pc := 42) X dX10_pilots_42 rfl 0 rfl ?_
        refine V_get (C := RX10) (T := TX10) (N := 30) (ci := 10) (pc := 43) X dX10_pilots_43 in10 0 rfl rfl 1 (by decide) (by decide +kernel) rfl rfl ?_
        refine V_icmp_ge (tgt := 94) (pc := 46) X dX10_pilots_46 (by decide) (fun c_7 => ?_) (fun c_7 => ?_)
        · skip
          have n_8 : mt ≤ k := nJ_le (a := mt) (b := k) (by omega) (by omega) c_7
          refine V_iload_n (pc := 94) X dX10_pilots_94 rfl 3 rfl ?_
          exact Vg_iret (pc := 95) X dX10_pilots_95 hr (by (unfold pilotsF; rw [if_neg (by simp [b_3, b_5, c_6, n_8]), if_pos (stX_y (by assumption)), hz, show k = mt by omega]))
        · skip
          have n_9 : k < mt := nJ_nle (a := mt) (b := k) (by omega) (by omega) c_7
          refine V_iload_n (pc := 49) X dX10_pilots_49 rfl 3 rfl ?_
          refine V_aload_n (pc := 50) X dX10_pilots_50 rfl 0 rfl ?_
          refine V_aload_n (pc := 51) X dX10_pilots_51 rfl 0 rfl ?_
          refine V_get (C := RX10) (T := TX10) (N := 30) (ci := 10) (pc := 52) X dX10_pilots_52 in10 0 rfl rfl 0 (by decide) (by decide +kernel) rfl rfl ?_
          refine V_aload_n (pc := 55) X dX10_pilots_55 rfl 0 rfl ?_
          refine V_get (C := RX10) (T := TX10) (N := 30) (ci := 10) (pc := 56) X dX10_pilots_56 in10 0 rfl rfl 8 (by decide) (by decide +kernel) rfl rfl ?_
          refine V_aload_n (pc := 59) X dX10_pilots_59 rfl 0 rfl ?_
          refine V_get (C := RX10) (T := TX10) (N := 30) (ci := 10) (pc := 60) X dX10_pilots_60 in10 0 rfl rfl 2 (by decide) (by decide +kernel) rfl rfl ?_
          refine V_iload (pc := 63) X dX10_pilots_63 4 rfl ?_
          refine V_vg (pc := 65) (nA := 4) (As := [.long mf, .int mz, .ref mmq, .int (nI k)]) (rest := [.int z]) X (c_X10_walks l g (mq := mq) (mf := mf) (mt := mt) (mmq := mmq) (mn := mn) (mkq := mkq) (mcq := mcq) (mhq := mhq) (maq := maq) (mz := mz) (my := my) (mS := mS) (mzq := mzq) (mtq := mtq) (mT := mT) (mA := mA) (mrq := mrq) (muq := muq) (mF := mF) (mZ := mZ) (moq := moq) (mK := mK) (mH := mH) (mgq := mgq) (miq := miq) (mI := mI) (mB := mB) (mlq := mlq) (msq := msq) (meq := meq) (mvq := mvq) (aq9 := mmq) (a9 := mm) (f := mf) (z := mz) (x := nI k) (ht := by first | assumption | omega)) gX10_pilots_X10_walks dX10_pilots_65 rfl (by decide +kernel) rfl (qb := 0) rfl rfl rfl ⟨rfl, rfl⟩ ⟨Nat.le_of_ble_eq_true rfl, Nat.le_of_ble_eq_true rfl⟩ ⟨Nat.le_of_ble_eq_true rfl, Nat.le_of_ble_eq_true rfl⟩ [0, 1] (by decide) rfl rfl (Nat.le_of_ble_eq_true rfl) (st' := [.long (wkX mz mf mm mt (nI k)), .int z]) rfl ?_
          refine V_iload_n (pc := 68) X dX10_pilots_68 rfl 1 rfl ?_
          refine V_iload_n (pc := 69) X dX10_pilots_69 rfl 2 rfl ?_
          refine V_sg (pc := 70) (nA := 3) (As := [.long (wkX mz mf mm mt (nI k)), .int x, .int y]) (rest := [.int z]) X (c_X10_steps l g (w := wkX mz mf mm mt (nI k)) (x := x) (y := y) (hx := by exact bel_vin (n := 36) (by omega) (by omega) (by omega) (by assumption)) (hy := by exact bel_vin (n := 36) (by omega) (by omega) (by omega) (by assumption))) gX10_pilots_X10_steps dX10_pilots_70 rfl (by decide +kernel) rfl ⟨rfl, rfl⟩ ⟨Nat.le_of_ble_eq_true rfl, Nat.le_of_ble_eq_true rfl⟩ ⟨Nat.le_of_ble_eq_true rfl, Nat.le_of_ble_eq_true rfl⟩ [] (by decide) rfl rfl (Nat.le_of_ble_eq_true rfl) (st' := [.int (stX (wkX mz mf mm mt (nI k)) x y), .int z]) rfl ?_
          refine V_bipush (v := (-4)) (pc := 73) X dX10_pilots_73 (by decide) ?_
          refine V_icmp_ne (tgt := 85) (pc := 75) X dX10_pilots_75 (by decide) (fun c_10 => ?_) (fun c_10 => ?_)
          · skip
            refine V_iconst (v := 0) (pc := 85) X dX10_pilots_85 (by decide) ?_
            refine V_ior (pc := 86) X dX10_pilots_86 ?_
            refine V_istore_n (lv' := [(3, .int (z ||| 0)), (0, .ref mq), (1, .int x), (2, .int y), (4, .int (nI k))]) (pc := 87) X dX10_pilots_87 rfl (Nat.le_of_ble_eq_true rfl) rfl ?_
            refine V_iinc (v := nI (k + 1)) (lv' := [(4, .int (nI (k + 1))), (3, .int (z ||| 0)), (0, .ref mq), (1, .int x), (2, .int y)]) (pc := 88) X dX10_pilots_88 4 rfl (nI_add k 1) (Nat.le_of_ble_eq_true rfl) rfl ?_
            refine V_goto (tgt := 40) (pc := 91) X dX10_pilots_91 (by decide) ?_
            refine V_lv [2, 3, 4, 1, 0] rfl ?_
            exact ih40 (k + 1, z ||| 0) ⟨(by
                  try dsimp only
                  all_goals omega), (by
                  try dsimp only
                  first | exact (or32_0 _).trans (hz.trans (plS_a (by assumption))) | (rw [hz]; exact plS_b (by assumption)))⟩ (by
                  try dsimp only
                  all_goals omega)
          · skip
            refine V_iconst (v := 1) (pc := 78) X dX10_pilots_78 (by decide) ?_
            refine V_iload (pc := 79) X dX10_pilots_79 4 rfl ?_
            refine V_ishl (pc := 81) X dX10_pilots_81 ?_
            refine V_goto (tgt := 86) (pc := 82) X dX10_pilots_82 (by decide) ?_
            refine V_ior (pc := 86) X dX10_pilots_86 ?_
            refine V_istore_n (lv' := [(3, .int (z ||| (1 <<< ((nI k) &&& 31)))), (0, .ref mq), (1, .int x), (2, .int y), (4, .int (nI k))]) (pc := 87) X dX10_pilots_87 rfl (Nat.le_of_ble_eq_true rfl) rfl ?_
            refine V_iinc (v := nI (k + 1)) (lv' := [(4, .int (nI (k + 1))), (3, .int (z ||| (1 <<< ((nI k) &&& 31)))), (0, .ref mq), (1, .int x), (2, .int y)]) (pc := 88) X dX10_pilots_88 4 rfl (nI_add k 1) (Nat.le_of_ble_eq_true rfl) rfl ?_
            refine V_goto (tgt := 40) (pc := 91) X dX10_pilots_91 (by decide) ?_
            refine V_lv [2, 3, 4, 1, 0] rfl ?_
            exact ih40 (k + 1, z ||| (1 <<< ((nI k) &&& 31))) ⟨(by
                  try dsimp only
                  all_goals omega), (by
                  try dsimp only
                  first | exact (or32_0 _).trans (hz.trans (plS_a (by assumption))) | (rw [hz]; exact plS_b (by assumption)))⟩ (by
                  try dsimp only
                  all_goals omega)
      · skip
        refine V_bipush (v := (-4)) (pc := 32) X dX10_pilots_32 (by decide) ?_
        exact Vg_iret (pc := 34) X dX10_pilots_34 hr (by (unfold pilotsF; rw [if_neg (by simp [b_3, b_5, c_6]), if_neg (stX_n (by assumption))]))
    · skip
      have b_11 : (bel y 36) = false := bI0 c_4
      refine V_iconst (v := (-1)) (pc := 16) X dX10_pilots_16 (by decide) ?_
      exact Vg_iret (pc := 17) X dX10_pilots_17 hr (by simp [pilotsF, b_3, b_11])
set_option maxHeartbeats 4000000 in
set_option maxRecDepth 100000 in
theorem c_X10_parts (l : Launch) (g : XG) (mq : Nat) (mf : Int64) (mt : Nat) (mmq : Nat) (mn : Nat) (mkq : Nat) (mcq : Nat) (mhq : Nat) (maq : Nat) (mz : Int32) (my : Int32) (mS : Int64) (mzq : Nat) (mtq : Nat) (mT : Nat) (mA : Nat) (mrq : Nat) (muq : Nat) (mF : Int64) (mZ : Int32) (moq : Nat) (mK : Int32) (mH : Int32) (mgq : Nat) (miq : Nat) (mI : Int64) (mB : Bool) (mlq : Nat) (msq : Nat) (meq : Nat) (mvq : Nat) (mm : Nat → Int32) (ht : mt ≤ 6) (hW : in36 (wkX mz mf mm mt (-1))) : Kg l g yX10_parts wsX10_parts ({ frames := 2, cells := 0, slots := 0, locals := 48 } : Room) [.ref mq] [ob mq 10 [.long mf, .int (nI mt), .ref mmq, .int (nI mn), .ref mkq, .ref mcq, .ref mhq, .ref maq, .int mz, .int my, .long mS, .ref mzq, .ref mtq, .int (nI mT), .int (nI mA), .ref mrq, .ref muq, .long mF, .int mZ, .ref moq, .int mK, .int mH, .ref mgq, .ref miq, .long mI, .int (bI mB), .ref mlq, .ref msq, .ref meq, .ref mvq], ai g mmq 6 mm] (some (.int (nI ((ptF (wkX mz mf mm mt (-1)) 36).2)))) := by
  refine Kg.of (cc := cX10_parts) (maxL := 8) (ret := (some .int)) (lv := [(0, .ref mq)]) RX10 rfl (by decide) rfl (Nat.le_of_ble_eq_true rfl) rfl ?_
  intro p e s m below meth c A X hr
  refine V_aload_n (pc := 0) X dX10_parts_0 rfl 0 rfl ?_
  refine V_vg (pc := 1) (nA := 0) (As := []) (rest := []) X (c_X10_now l g (mq := mq) (mf := mf) (mt := mt) (mmq := mmq) (mn := mn) (mkq := mkq) (mcq := mcq) (mhq := mhq) (maq := maq) (mz := mz) (my := my) (mS := mS) (mzq := mzq) (mtq := mtq) (mT := mT) (mA := mA) (mrq := mrq) (muq := muq) (mF := mF) (mZ := mZ) (moq := moq) (mK := mK) (mH := mH) (mgq := mgq) (miq := miq) (mI := mI) (mB := mB) (mlq := mlq) (msq := msq) (meq := meq) (mvq := mvq) (mm := mm) (ht := by first | assumption | omega)) gX10_parts_X10_now dX10_parts_1 rfl (by decide +kernel) rfl (qb := 0) rfl rfl rfl ⟨rfl, rfl⟩ ⟨Nat.le_of_ble_eq_true rfl, Nat.le_of_ble_eq_true rfl⟩ ⟨Nat.le_of_ble_eq_true rfl, Nat.le_of_ble_eq_true rfl⟩ [0, 1] (by decide) rfl rfl (Nat.le_of_ble_eq_true rfl) (st' := [.long (wkX mz mf mm mt (-1))]) rfl ?_
  refine V_lstore_n (lv' := [(1, .long (wkX mz mf mm mt (-1))), (0, .ref mq)]) (pc := 4) X dX10_parts_4 rfl (Nat.le_of_ble_eq_true rfl) rfl ?_
  refine V_iconst (v := 0) (pc := 5) X dX10_parts_5 (by decide) ?_
  refine V_istore_n (lv' := [(3, .int 0), (1, .long (wkX mz mf mm mt (-1))), (0, .ref mq)]) (pc := 6) X dX10_parts_6 rfl (Nat.le_of_ble_eq_true rfl) rfl ?_
  refine V_loop (pc := 7) (σ := Nat × Int64 × Nat) (fun v9 => [(0, .ref mq), (1, .long v9.2.1), (3, .int (nI v9.2.2))]) (fun v9 => [ob mq 10 [.long mf, .int (nI mt), .ref mmq, .int (nI mn), .ref mkq, .ref mcq, .ref mhq, .ref maq, .int mz, .int my, .long mS, .ref mzq, .ref mtq, .int (nI mT), .int (nI mA), .ref mrq, .ref muq, .long mF, .int mZ, .ref moq, .int mK, .int mH, .ref mgq, .ref miq, .long mI, .int (bI mB), .ref mlq, .ref msq, .ref meq, .ref mvq], ai g mmq 6 mm]) (fun v9 => (PK (wkX mz mf mm mt (-1)) v9.1 v9.2.1 v9.2.2)) (fun v9 => 36 - v9.1) (0, wkX mz mf mm mt (-1), 0) (by
        try dsimp only
        exact PK_0 hW) rfl [2, 1, 0] rfl ?_
  rintro ⟨i, w, n⟩ hp ih7
  try dsimp only at hp
  refine V_eqw (ws2 := [ob mq 10 [.long mf, .int (nI mt), .ref mmq, .int (nI mn), .ref mkq, .ref mcq, .ref mhq, .ref maq, .int mz, .int my, .long mS, .ref mzq, .ref mtq, .int (nI mT), .int (nI mA), .ref mrq, .ref muq, .long mF, .int mZ, .ref moq, .int mK, .int mH, .ref mgq, .ref miq, .long mI, .int (bI mB), .ref mlq, .ref msq, .ref meq, .ref mvq], ai g mmq 6 mm]) rfl (V_eql (lv' := [(0, .ref mq), (1, .long w), (3, .int (nI n))]) rfl ?_)
  refine V_lload_n (pc := 7) X dX10_parts_7 rfl 1 rfl ?_
  refine V_lconst (v := 0) (pc := 8) X dX10_parts_8 (by decide) ?_
  refine V_lcmp (pc := 9) X dX10_parts_9 ?_
  refine V_if_eq (tgt := 61) (pc := 10) X dX10_parts_10 (by decide) (fun c_1 => ?_) (fun c_1 => ?_)
  · skip
    have q_2 : w = 0 := cmp_eq_t c_1
    refine V_iload_n (pc := 61) X dX10_parts_61 rfl 2 rfl ?_
    exact Vg_iret (pc := 62) X dX10_parts_62 hr (by rw [PK_e hp (by assumption)])
  · skip
    have q_3 : ¬ w = 0 := cmp_eq_f c_1
    obtain ⟨c9, hc9, hl9, hf9, hj9⟩ := low_bit q_3 hp.2.2.2
    refine V_lload_n (pc := 13) X dX10_parts_13 rfl 1 rfl ?_
    refine V_lload_n (pc := 14) X dX10_parts_14 rfl 1 rfl ?_
    refine V_lneg (pc := 15) X dX10_parts_15 ?_
    refine V_land (pc := 16) X dX10_parts_16 ?_
    refine V_setl (y := bitI (nI c9)) (hl9) ?_
    refine V_lstore (lv' := [(4, .long (bitI (nI c9))), (0, .ref mq), (1, .long w), (3, .int (nI n))]) (pc := 17) X dX10_parts_17 (Nat.le_of_ble_eq_true rfl) rfl ?_
    refine V_lconst (v := 0) (pc := 19) X dX10_parts_19 (by decide) ?_
    refine V_lstore (lv' := [(6, .long 0), (4, .long (bitI (nI c9))), (0, .ref mq), (1, .long w), (3, .int (nI n))]) (pc := 20) X dX10_parts_20 (Nat.le_of_ble_eq_true rfl) rfl ?_
    refine V_loop (pc := 22) (σ := Nat × Int64 × Int64) (fun v9 => [(0, .ref mq), (1, .long w), (3, .int (nI n)), (4, .long v9.2.1), (6, .long v9.2.2)]) (fun v9 => [ob mq 10 [.long mf, .int (nI mt), .ref mmq, .int (nI mn), .ref mkq, .ref mcq, .ref mhq, .ref maq, .int mz, .int my, .long mS, .ref mzq, .ref mtq, .int (nI mT), .int (nI mA), .ref mrq, .ref muq, .long mF, .int mZ, .ref moq, .int mK, .int mH, .ref mgq, .ref miq, .long mI, .int (bI mB), .ref mlq, .ref msq, .ref meq, .ref mvq], ai g mmq 6 mm]) (fun v9 => (JK w c9 v9.1 v9.2.1 v9.2.2)) (fun v9 => 37 - v9.1) (0, bitI (nI c9), 0) (by
          try dsimp only
          exact JK_0) rfl [2, 3, 4, 1, 0] rfl ?_
    rintro ⟨k, a, b⟩ hJ ih22
    try dsimp only at hJ
    refine V_eqw (ws2 := [ob mq 10 [.long mf, .int (nI mt), .ref mmq, .int (nI mn), .ref mkq, .ref mcq, .ref mhq, .ref maq, .int mz, .int my, .long mS, .ref mzq, .ref mtq, .int (nI mT), .int (nI mA), .ref mrq, .ref muq, .long mF, .int mZ, .ref moq, .int mK, .int mH, .ref mgq, .ref miq, .long mI, .int (bI mB), .ref mlq, .ref msq, .ref meq, .ref mvq], ai g mmq 6 mm]) rfl (V_eql (lv' := [(0, .ref mq), (1, .long w), (3, .int (nI n)), (4, .long a), (6, .long b)]) rfl ?_)
    refine V_lload (pc := 22) X dX10_parts_22 3 rfl ?_
    refine V_lload (pc := 24) X dX10_parts_24 4 rfl ?_
    refine V_lcmp (pc := 26) X dX10_parts_26 ?_
    refine V_if_eq (tgt := 46) (pc := 27) X dX10_parts_27 (by decide) (fun c_4 => ?_) (fun c_4 => ?_)
    · skip
      have q_5 : a = b := cmp_eq_t c_4
      refine V_lload_n (pc := 46) X dX10_parts_46 rfl 1 rfl ?_
      refine V_lload (pc := 47) X dX10_parts_47 3 rfl ?_
      refine V_ldc2 (v := (-1)) (pc := 49) X dX10_parts_49 (by decide +kernel) ?_
      refine V_lxor (pc := 52) X dX10_parts_52 ?_
      refine V_land (pc := 53) X dX10_parts_53 ?_
      refine V_lstore_n (lv' := [(1, .long (w &&& (a ^^^ (-1)))), (0, .ref mq), (3, .int (nI n)), (4, .long a), (6, .long b)]) (pc := 54) X dX10_parts_54 rfl (Nat.le_of_ble_eq_true rfl) rfl ?_
      refine V_iinc (v := nI (n + 1)) (lv' := [(3, .int (nI (n + 1))), (1, .long (w &&& (a ^^^ (-1)))), (0, .ref mq), (4, .long a), (6, .long b)]) (pc := 55) X dX10_parts_55 2 rfl (nI_add n 1) (Nat.le_of_ble_eq_true rfl) rfl ?_
      refine V_goto (tgt := 7) (pc := 58) X dX10_parts_58 (by decide) ?_
      refine V_lv [2, 1, 0] rfl ?_
      exact ih7 (c9 + 1, w &&& (a ^^^ (-1)), n + 1) (by
            try dsimp only
            rw [JK_e hc9 hJ (by assumption)]; exact (PK_s hp hc9 hf9 hj9).1) (by
            try dsimp only
            have e9 := (PK_s hp hc9 hf9 hj9).2
            omega)
    · skip
      have q_6 : ¬ a = b := cmp_eq_f c_4
      refine V_lload (pc := 30) X dX10_parts_30 3 rfl ?_
      refine V_lstore (lv' := [(6, .long a), (0, .ref mq), (1, .long w), (3, .int (nI n)), (4, .long a)]) (pc := 32) X dX10_parts_32 (Nat.le_of_ble_eq_true rfl) rfl ?_
      refine V_lload (pc := 34) X dX10_parts_34 4 rfl ?_
      refine V_sg (pc := 36) (nA := 1) (As := [.long a]) (rest := []) X (c_X10_spreads l g (w := a) ) gX10_parts_X10_spreads dX10_parts_36 rfl (by decide +kernel) rfl ⟨rfl, rfl⟩ ⟨Nat.le_of_ble_eq_true rfl, Nat.le_of_ble_eq_true rfl⟩ ⟨Nat.le_of_ble_eq_true rfl, Nat.le_of_ble_eq_true rfl⟩ [] (by decide) rfl rfl (Nat.le_of_ble_eq_true rfl) (st' := [.long (sprF a)]) rfl ?_
      refine V_lload_n (pc := 39) X dX10_parts_39 rfl 2 rfl ?_
      refine V_land (pc := 40) X dX10_parts_40 ?_
      refine V_lstore (lv' := [(4, .long ((sprF a) &&& w)), (6, .long a), (0, .ref mq), (1, .long w), (3, .int (nI n))]) (pc := 41) X dX10_parts_41 (Nat.le_of_ble_eq_true rfl) rfl ?_
      refine V_goto (tgt := 22) (pc := 43) X dX10_parts_43 (by decide) ?_
      refine V_lv [2, 3, 4, 0, 1] rfl ?_
      exact ih22 (k + 1, (sprF a) &&& w, a) (by
            try dsimp only
            exact (JK_s hc9 hf9 hJ (by assumption)).1) (by
            try dsimp only
            have e9 := (JK_s hc9 hf9 hJ (by assumption)).2
            omega)
set_option maxHeartbeats 4000000 in
set_option maxRecDepth 100000 in
theorem c_X10_cost (l : Launch) (g : XG) (mq : Nat) (mf : Int64) (mt : Nat) (mmq : Nat) (mn : Nat) (mkq : Nat) (mcq : Nat) (mhq : Nat) (maq : Nat) (mz : Int32) (my : Int32) (mS : Int64) (mzq : Nat) (mtq : Nat) (mT : Nat) (mA : Nat) (mrq : Nat) (muq : Nat) (mF : Int64) (mZ : Int32) (moq : Nat) (mK : Int32) (mH : Int32) (mgq : Nat) (miq : Nat) (mI : Int64) (mB : Bool) (mlq : Nat) (msq : Nat) (meq : Nat) (mvq : Nat) (x : Int32) (hx : vp_in x 36) : Kg l g yX10_cost wsX10_cost ({ frames := 1, cells := 0, slots := 0, locals := 22 } : Room) [.ref mq, .int x] [ob mq 10 [.long mf, .int (nI mt), .ref mmq, .int (nI mn), .ref mkq, .ref mcq, .ref mhq, .ref maq, .int mz, .int my, .long mS, .ref mzq, .ref mtq, .int (nI mT), .int (nI mA), .ref mrq, .ref muq, .long mF, .int mZ, .ref moq, .int mK, .int mH, .ref mgq, .ref miq, .long mI, .int (bI mB), .ref mlq, .ref msq, .ref meq, .ref mvq]] (some (.int (nI (csN (kcX mz mf) x)))) := by
  refine Kg.of (cc := cX10_cost) (maxL := 2) (ret := (some .int)) (lv := [(0, .ref mq), (1, .int x)]) RX10 rfl (by decide) rfl (Nat.le_of_ble_eq_true rfl) rfl ?_
  intro p e s m below meth c A X hr
  have in10 : ∀ w ∈ u_ws RX10 TX10 30, w ∈ wsX10_cost := by decide +kernel
  refine V_aload_n (pc := 0) X dX10_cost_0 rfl 0 rfl ?_
  refine V_get (C := RX10) (T := TX10) (N := 30) (ci := 10) (pc := 1) X dX10_cost_1 in10 0 rfl rfl 8 (by decide) (by decide +kernel) rfl rfl ?_
  refine V_if_gt (tgt := 18) (pc := 4) X dX10_cost_4 (by decide) (fun c_1 => ?_) (fun c_1 => ?_)
  · skip
    refine V_iconst (v := 1) (pc := 18) X dX10_cost_18 (by decide) ?_
    refine V_goto (tgt := 23) (pc := 19) X dX10_cost_19 (by decide) ?_
    exact Vg_iret (pc := 23) X dX10_cost_23 hr (by first | (unfold csN kcX; rw [if_neg (Int32.not_le.mpr (by assumption)), if_pos (csN_all hx)]; rfl) | (unfold csN kcX; rw [if_pos (Int32.not_lt.mp (by assumption)), if_pos (by assumption)]; rfl) | (unfold csN kcX; rw [if_pos (Int32.not_lt.mp (by assumption)), if_neg (by rw [show firmB mf x = false by assumption]; decide)]; rfl))
  · skip
    refine V_aload_n (pc := 7) X dX10_cost_7 rfl 0 rfl ?_
    refine V_get (C := RX10) (T := TX10) (N := 30) (ci := 10) (pc := 8) X dX10_cost_8 in10 0 rfl rfl 0 (by decide) (by decide +kernel) rfl rfl ?_
    refine V_iload_n (pc := 11) X dX10_cost_11 rfl 1 rfl ?_
    refine V_sg (pc := 12) (nA := 2) (As := [.long mf, .int x]) (rest := []) X (c_X10_has l g (f := mf) (x := x) (hx := by first | assumption | omega)) gX10_cost_X10_has dX10_cost_12 rfl (by decide +kernel) rfl ⟨rfl, rfl⟩ ⟨Nat.le_of_ble_eq_true rfl, Nat.le_of_ble_eq_true rfl⟩ ⟨Nat.le_of_ble_eq_true rfl, Nat.le_of_ble_eq_true rfl⟩ [] (by decide) rfl rfl (Nat.le_of_ble_eq_true rfl) (st' := [.int (bI (firmB mf x))]) rfl ?_
    refine V_if_eq (tgt := 22) (pc := 15) X dX10_cost_15 (by decide) (fun c_2 => ?_) (fun c_2 => ?_)
    · skip
      have b_3 : (firmB mf x) = false := bI0 c_2
      refine V_iconst (v := 2) (pc := 22) X dX10_cost_22 (by decide) ?_
      exact Vg_iret (pc := 23) X dX10_cost_23 hr (by first | (unfold csN kcX; rw [if_neg (Int32.not_le.mpr (by assumption)), if_pos (csN_all hx)]; rfl) | (unfold csN kcX; rw [if_pos (Int32.not_lt.mp (by assumption)), if_pos (by assumption)]; rfl) | (unfold csN kcX; rw [if_pos (Int32.not_lt.mp (by assumption)), if_neg (by rw [show firmB mf x = false by assumption]; decide)]; rfl))
    · skip
      have b_4 : (firmB mf x) = true := bI1 c_2
      refine V_iconst (v := 1) (pc := 18) X dX10_cost_18 (by decide) ?_
      refine V_goto (tgt := 23) (pc := 19) X dX10_cost_19 (by decide) ?_
      exact Vg_iret (pc := 23) X dX10_cost_23 hr (by first | (unfold csN kcX; rw [if_neg (Int32.not_le.mpr (by assumption)), if_pos (csN_all hx)]; rfl) | (unfold csN kcX; rw [if_pos (Int32.not_lt.mp (by assumption)), if_pos (by assumption)]; rfl) | (unfold csN kcX; rw [if_pos (Int32.not_lt.mp (by assumption)), if_neg (by rw [show firmB mf x = false by assumption]; decide)]; rfl))
set_option maxHeartbeats 4000000 in
set_option maxRecDepth 100000 in
theorem c_X10_beside (l : Launch) (g : XG) (i : Nat) (n : Nat) (hi : i < 36) (hn : n < 4) : Kg l g yX10_beside wsX10_beside ({ frames := 1, cells := 0, slots := 0, locals := 25 } : Room) [.int (nI i), .int (nI n)] [] (some (.int (nbr (nI i) (nI n)))) := by
  refine Kg.of (cc := cX10_beside) (maxL := 4) (ret := (some .int)) (lv := [(0, .int (nI i)), (1, .int (nI n))]) RX10 rfl (by decide) rfl (Nat.le_of_ble_eq_true rfl) rfl ?_
  intro p e s m below meth c A X hr
  refine V_iload_n (pc := 0) X dX10_beside_0 rfl 0 rfl ?_
  refine V_bipush (v := 6) (pc := 1) X dX10_beside_1 (by decide) ?_
  refine V_idiv (pc := 3) X dX10_beside_3 (by decide) ?_
  refine V_seti (y := nI (i / 6)) (pk_div (a := i) (d := 6) (by omega) (by omega) (by omega)) ?_
  refine V_iload_n (pc := 4) X dX10_beside_4 rfl 1 rfl ?_
  refine V_if_ne (tgt := 12) (pc := 5) X dX10_beside_5 (by decide) (fun c_1 => ?_) (fun c_1 => ?_)
  · skip
    have n_2 : n ≠ 0 := nJ_ne (a := n) (b := 0) (by omega) (by omega) c_1
    refine V_iload_n (pc := 12) X dX10_beside_12 rfl 1 rfl ?_
    refine V_iconst (v := 3) (pc := 13) X dX10_beside_13 (by decide) ?_
    refine V_icmp_ne (tgt := 21) (pc := 14) X dX10_beside_14 (by decide) (fun c_3 => ?_) (fun c_3 => ?_)
    · skip
      have n_4 : n ≠ 3 := nJ_ne (a := n) (b := 3) (by omega) (by omega) c_3
      refine V_iconst (v := 0) (pc := 21) X dX10_beside_21 (by decide) ?_
      refine V_iadd (pc := 22) X dX10_beside_22 ?_
      refine V_seti (y := nI ((i / 6) + 0)) (nI_add (i / 6) 0) ?_
      refine V_istore_n (lv' := [(2, .int (nI ((i / 6) + 0))), (0, .int (nI i)), (1, .int (nI n))]) (pc := 23) X dX10_beside_23 rfl (Nat.le_of_ble_eq_true rfl) rfl ?_
      refine V_iload_n (pc := 24) X dX10_beside_24 rfl 1 rfl ?_
      refine V_bipush (v := 6) (pc := 25) X dX10_beside_25 (by decide) ?_
      refine V_irem (pc := 27) X dX10_beside_27 (by decide) ?_
      refine V_seti (y := nI (i % 6)) (pk_rem (a := i) (d := 6) (by omega) (by omega) (by omega)) ?_
      refine V_iload_n (pc := 28) X dX10_beside_28 rfl 2 rfl ?_
      refine V_iconst (v := 1) (pc := 29) X dX10_beside_29 (by decide) ?_
      refine V_icmp_ne (tgt := 37) (pc := 30) X dX10_beside_30 (by decide) (fun c_5 => ?_) (fun c_5 => ?_)
      · skip
        have n_6 : n ≠ 1 := nJ_ne (a := n) (b := 1) (by omega) (by omega) c_5
        refine V_iload_n (pc := 37) X dX10_beside_37 rfl 2 rfl ?_
        refine V_iconst (v := 2) (pc := 38) X dX10_beside_38 (by decide) ?_
        refine V_icmp_ne (tgt := 46) (pc := 39) X dX10_beside_39 (by decide) (fun c_7 => ?_) (fun c_7 => ?_)
        · skip
          have n_8 : n ≠ 2 := nJ_ne (a := n) (b := 2) (by omega) (by omega) c_7
          refine V_iconst (v := 0) (pc := 46) X dX10_beside_46 (by decide) ?_
          refine V_iadd (pc := 47) X dX10_beside_47 ?_
          refine V_seti (y := nI ((i % 6) + 0)) (nI_add (i % 6) 0) ?_
          refine V_istore_n (lv' := [(3, .int (nI ((i % 6) + 0))), (2, .int (nI ((i / 6) + 0))), (0, .int (nI i)), (1, .int (nI n))]) (pc := 48) X dX10_beside_48 rfl (Nat.le_of_ble_eq_true rfl) rfl ?_
          refine V_iload_n (pc := 49) X dX10_beside_49 rfl 1 rfl ?_
          refine V_i2l (pc := 50) X dX10_beside_50 ?_
          refine V_lconst (v := 0) (pc := 51) X dX10_beside_51 (by decide) ?_
          refine V_ldc2 (v := 5) (pc := 52) X dX10_beside_52 (by decide +kernel) ?_
          refine V_sg (pc := 55) (nA := 3) (As := [.long ((nI ((i / 6) + 0)).toInt64), .long 0, .long 5]) (rest := []) X (c_X10_in l g (v := (nI ((i / 6) + 0)).toInt64) (v1 := 0) (v2 := 5) ) gX10_beside_X10_in dX10_beside_55 rfl (by decide +kernel) rfl ⟨rfl, rfl⟩ ⟨Nat.le_of_ble_eq_true rfl, Nat.le_of_ble_eq_true rfl⟩ ⟨Nat.le_of_ble_eq_true rfl, Nat.le_of_ble_eq_true rfl⟩ [] (by decide) rfl rfl (Nat.le_of_ble_eq_true rfl) (st' := [.int (bI (inJ ((nI ((i / 6) + 0)).toInt64) 0 5))]) rfl ?_
          refine V_seti (y := bI (bel (nI ((i / 6) + 0)) 6)) (congrArg bI (inJ_bel 5 (by decide) (by decide))) ?_
          refine V_if_eq (tgt := 82) (pc := 58) X dX10_beside_58 (by decide) (fun c_9 => ?_) (fun c_9 => ?_)
          · skip
            have b_10 : (bel (nI ((i / 6) + 0)) 6) = false := bI0 c_9
            refine V_iconst (v := (-1)) (pc := 82) X dX10_beside_82 (by decide) ?_
            exact Vg_iret (pc := 83) X dX10_beside_83 hr (by exfalso; omega)
          · skip
            have b_11 : (bel (nI ((i / 6) + 0)) 6) = true := bI1 c_9
            refine V_iload_n (pc := 61) X dX10_beside_61 rfl 0 rfl ?_
            refine V_i2l (pc := 62) X dX10_beside_62 ?_
            refine V_lconst (v := 0) (pc := 63) X dX10_beside_63 (by decide) ?_
            refine V_ldc2 (v := 5) (pc := 64) X dX10_beside_64 (by decide +kernel) ?_
            refine V_sg (pc := 67) (nA := 3) (As := [.long ((nI ((i % 6) + 0)).toInt64), .long 0, .long 5]) (rest := []) X (c_X10_in l g (v := (nI ((i % 6) + 0)).toInt64) (v1 := 0) (v2 := 5) ) gX10_beside_X10_in dX10_beside_67 rfl (by decide +kernel) rfl ⟨rfl, rfl⟩ ⟨Nat.le_of_ble_eq_true rfl, Nat.le_of_ble_eq_true rfl⟩ ⟨Nat.le_of_ble_eq_true rfl, Nat.le_of_ble_eq_true rfl⟩ [] (by decide) rfl rfl (Nat.le_of_ble_eq_true rfl) (st' := [.int (bI (inJ ((nI ((i % 6) + 0)).toInt64) 0 5))]) rfl ?_
            refine V_seti (y := bI (bel (nI ((i % 6) + 0)) 6)) (congrArg bI (inJ_bel 5 (by decide) (by decide))) ?_
            refine V_if_eq (tgt := 82) (pc := 70) X dX10_beside_70 (by decide) (fun c_12 => ?_) (fun c_12 => ?_)
            · skip
              have b_13 : (bel (nI ((i % 6) + 0)) 6) = false := bI0 c_12
              refine V_iconst (v := (-1)) (pc := 82) X dX10_beside_82 (by decide) ?_
              exact Vg_iret (pc := 83) X dX10_beside_83 hr (by exfalso; omega)
            · skip
              have b_14 : (bel (nI ((i % 6) + 0)) 6) = true := bI1 c_12
              refine V_bipush (v := 6) (pc := 73) X dX10_beside_73 (by decide) ?_
              refine V_iload_n (pc := 75) X dX10_beside_75 rfl 1 rfl ?_
              refine V_imul (pc := 76) X dX10_beside_76 ?_
              refine V_seti (y := nI (6 * ((i / 6) + 0))) (pk_mul 6 ((i / 6) + 0)) ?_
              refine V_iload_n (pc := 77) X dX10_beside_77 rfl 0 rfl ?_
              refine V_iadd (pc := 78) X dX10_beside_78 ?_
              refine V_seti (y := nI ((6 * ((i / 6) + 0)) + ((i % 6) + 0))) (nI_add (6 * ((i / 6) + 0)) ((i % 6) + 0)) ?_
              refine V_goto (tgt := 83) (pc := 79) X dX10_beside_79 (by decide) ?_
              exact Vg_iret (pc := 83) X dX10_beside_83 hr (by exfalso; omega)
        · skip
          have n_15 : n = 2 := nJ_eq (a := n) (b := 2) (by omega) (by omega) c_7
          refine V_iconst (v := 1) (pc := 42) X dX10_beside_42 (by decide) ?_
          refine V_goto (tgt := 47) (pc := 43) X dX10_beside_43 (by decide) ?_
          refine V_iadd (pc := 47) X dX10_beside_47 ?_
          refine V_seti (y := nI ((i % 6) + 1)) (nI_add (i % 6) 1) ?_
          refine V_istore_n (lv' := [(3, .int (nI ((i % 6) + 1))), (2, .int (nI ((i / 6) + 0))), (0, .int (nI i)), (1, .int (nI n))]) (pc := 48) X dX10_beside_48 rfl (Nat.le_of_ble_eq_true rfl) rfl ?_
          refine V_iload_n (pc := 49) X dX10_beside_49 rfl 1 rfl ?_
          refine V_i2l (pc := 50) X dX10_beside_50 ?_
          refine V_lconst (v := 0) (pc := 51) X dX10_beside_51 (by decide) ?_
          refine V_ldc2 (v := 5) (pc := 52) X dX10_beside_52 (by decide +kernel) ?_
          refine V_sg (pc := 55) (nA := 3) (As := [.long ((nI ((i / 6) + 0)).toInt64), .long 0, .long 5]) (rest := []) X (c_X10_in l g (v := (nI ((i / 6) + 0)).toInt64) (v1 := 0) (v2 := 5) ) gX10_beside_X10_in dX10_beside_55 rfl (by decide +kernel) rfl ⟨rfl, rfl⟩ ⟨Nat.le_of_ble_eq_true rfl, Nat.le_of_ble_eq_true rfl⟩ ⟨Nat.le_of_ble_eq_true rfl, Nat.le_of_ble_eq_true rfl⟩ [] (by decide) rfl rfl (Nat.le_of_ble_eq_true rfl) (st' := [.int (bI (inJ ((nI ((i / 6) + 0)).toInt64) 0 5))]) rfl ?_
          refine V_seti (y := bI (bel (nI ((i / 6) + 0)) 6)) (congrArg bI (inJ_bel 5 (by decide) (by decide))) ?_
          refine V_if_eq (tgt := 82) (pc := 58) X dX10_beside_58 (by decide) (fun c_16 => ?_) (fun c_16 => ?_)
          · skip
            have b_17 : (bel (nI ((i / 6) + 0)) 6) = false := bI0 c_16
            refine V_iconst (v := (-1)) (pc := 82) X dX10_beside_82 (by decide) ?_
            exact Vg_iret (pc := 83) X dX10_beside_83 hr (by first | (exfalso; omega) | (obtain rfl : n = 2 := (by omega); exact (by decide +kernel : ∀ i, i < 36 → (bel (nI ((i / 6) + 0)) 6) = false → (-1) = nbr (nI i) (nI 2)) i hi b_17))
          · skip
            have b_18 : (bel (nI ((i / 6) + 0)) 6) = true := bI1 c_16
            refine V_iload_n (pc := 61) X dX10_beside_61 rfl 0 rfl ?_
            refine V_i2l (pc := 62) X dX10_beside_62 ?_
            refine V_lconst (v := 0) (pc := 63) X dX10_beside_63 (by decide) ?_
            refine V_ldc2 (v := 5) (pc := 64) X dX10_beside_64 (by decide +kernel) ?_
            refine V_sg (pc := 67) (nA := 3) (As := [.long ((nI ((i % 6) + 1)).toInt64), .long 0, .long 5]) (rest := []) X (c_X10_in l g (v := (nI ((i % 6) + 1)).toInt64) (v1 := 0) (v2 := 5) ) gX10_beside_X10_in dX10_beside_67 rfl (by decide +kernel) rfl ⟨rfl, rfl⟩ ⟨Nat.le_of_ble_eq_true rfl, Nat.le_of_ble_eq_true rfl⟩ ⟨Nat.le_of_ble_eq_true rfl, Nat.le_of_ble_eq_true rfl⟩ [] (by decide) rfl rfl (Nat.le_of_ble_eq_true rfl) (st' := [.int (bI (inJ ((nI ((i % 6) + 1)).toInt64) 0 5))]) rfl ?_
            refine V_seti (y := bI (bel (nI ((i % 6) + 1)) 6)) (congrArg bI (inJ_bel 5 (by decide) (by decide))) ?_
            refine V_if_eq (tgt := 82) (pc := 70) X dX10_beside_70 (by decide) (fun c_19 => ?_) (fun c_19 => ?_)
            · skip
              have b_20 : (bel (nI ((i % 6) + 1)) 6) = false := bI0 c_19
              refine V_iconst (v := (-1)) (pc := 82) X dX10_beside_82 (by decide) ?_
              exact Vg_iret (pc := 83) X dX10_beside_83 hr (by first | (exfalso; omega) | (obtain rfl : n = 2 := (by omega); exact (by decide +kernel : ∀ i, i < 36 → (bel (nI ((i / 6) + 0)) 6) = true → (bel (nI ((i % 6) + 1)) 6) = false → (-1) = nbr (nI i) (nI 2)) i hi b_18 b_20))
            · skip
              have b_21 : (bel (nI ((i % 6) + 1)) 6) = true := bI1 c_19
              refine V_bipush (v := 6) (pc := 73) X dX10_beside_73 (by decide) ?_
              refine V_iload_n (pc := 75) X dX10_beside_75 rfl 1 rfl ?_
              refine V_imul (pc := 76) X dX10_beside_76 ?_
              refine V_seti (y := nI (6 * ((i / 6) + 0))) (pk_mul 6 ((i / 6) + 0)) ?_
              refine V_iload_n (pc := 77) X dX10_beside_77 rfl 0 rfl ?_
              refine V_iadd (pc := 78) X dX10_beside_78 ?_
              refine V_seti (y := nI ((6 * ((i / 6) + 0)) + ((i % 6) + 1))) (nI_add (6 * ((i / 6) + 0)) ((i % 6) + 1)) ?_
              refine V_goto (tgt := 83) (pc := 79) X dX10_beside_79 (by decide) ?_
              exact Vg_iret (pc := 83) X dX10_beside_83 hr (by first | (exfalso; omega) | (obtain rfl : n = 2 := (by omega); exact (by decide +kernel : ∀ i, i < 36 → (bel (nI ((i / 6) + 0)) 6) = true → (bel (nI ((i % 6) + 1)) 6) = true → nI ((6 * ((i / 6) + 0)) + ((i % 6) + 1)) = nbr (nI i) (nI 2)) i hi b_18 b_21))
      · skip
        have n_22 : n = 1 := nJ_eq (a := n) (b := 1) (by omega) (by omega) c_5
        refine V_iconst (v := (-1)) (pc := 33) X dX10_beside_33 (by decide) ?_
        refine V_goto (tgt := 47) (pc := 34) X dX10_beside_34 (by decide) ?_
        refine V_iadd (pc := 47) X dX10_beside_47 ?_
        refine V_istore_n (lv' := [(3, .int ((nI (i % 6)) + (-1))), (2, .int (nI ((i / 6) + 0))), (0, .int (nI i)), (1, .int (nI n))]) (pc := 48) X dX10_beside_48 rfl (Nat.le_of_ble_eq_true rfl) rfl ?_
        refine V_iload_n (pc := 49) X dX10_beside_49 rfl 1 rfl ?_
        refine V_i2l (pc := 50) X dX10_beside_50 ?_
        refine V_lconst (v := 0) (pc := 51) X dX10_beside_51 (by decide) ?_
        refine V_ldc2 (v := 5) (pc := 52) X dX10_beside_52 (by decide +kernel) ?_
        refine V_sg (pc := 55) (nA := 3) (As := [.long ((nI ((i / 6) + 0)).toInt64), .long 0, .long 5]) (rest := []) X (c_X10_in l g (v := (nI ((i / 6) + 0)).toInt64) (v1 := 0) (v2 := 5) ) gX10_beside_X10_in dX10_beside_55 rfl (by decide +kernel) rfl ⟨rfl, rfl⟩ ⟨Nat.le_of_ble_eq_true rfl, Nat.le_of_ble_eq_true rfl⟩ ⟨Nat.le_of_ble_eq_true rfl, Nat.le_of_ble_eq_true rfl⟩ [] (by decide) rfl rfl (Nat.le_of_ble_eq_true rfl) (st' := [.int (bI (inJ ((nI ((i / 6) + 0)).toInt64) 0 5))]) rfl ?_
        refine V_seti (y := bI (bel (nI ((i / 6) + 0)) 6)) (congrArg bI (inJ_bel 5 (by decide) (by decide))) ?_
        refine V_if_eq (tgt := 82) (pc := 58) X dX10_beside_58 (by decide) (fun c_23 => ?_) (fun c_23 => ?_)
        · skip
          have b_24 : (bel (nI ((i / 6) + 0)) 6) = false := bI0 c_23
          refine V_iconst (v := (-1)) (pc := 82) X dX10_beside_82 (by decide) ?_
          exact Vg_iret (pc := 83) X dX10_beside_83 hr (by first | (exfalso; omega) | (obtain rfl : n = 1 := (by omega); exact (by decide +kernel : ∀ i, i < 36 → (bel (nI ((i / 6) + 0)) 6) = false → (-1) = nbr (nI i) (nI 1)) i hi b_24))
        · skip
          have b_25 : (bel (nI ((i / 6) + 0)) 6) = true := bI1 c_23
          refine V_iload_n (pc := 61) X dX10_beside_61 rfl 0 rfl ?_
          refine V_i2l (pc := 62) X dX10_beside_62 ?_
          refine V_lconst (v := 0) (pc := 63) X dX10_beside_63 (by decide) ?_
          refine V_ldc2 (v := 5) (pc := 64) X dX10_beside_64 (by decide +kernel) ?_
          refine V_sg (pc := 67) (nA := 3) (As := [.long (((nI (i % 6)) + (-1)).toInt64), .long 0, .long 5]) (rest := []) X (c_X10_in l g (v := ((nI (i % 6)) + (-1)).toInt64) (v1 := 0) (v2 := 5) ) gX10_beside_X10_in dX10_beside_67 rfl (by decide +kernel) rfl ⟨rfl, rfl⟩ ⟨Nat.le_of_ble_eq_true rfl, Nat.le_of_ble_eq_true rfl⟩ ⟨Nat.le_of_ble_eq_true rfl, Nat.le_of_ble_eq_true rfl⟩ [] (by decide) rfl rfl (Nat.le_of_ble_eq_true rfl) (st' := [.int (bI (inJ (((nI (i % 6)) + (-1)).toInt64) 0 5))]) rfl ?_
          refine V_seti (y := bI (bel ((nI (i % 6)) + (-1)) 6)) (congrArg bI (inJ_bel 5 (by decide) (by decide))) ?_
          refine V_if_eq (tgt := 82) (pc := 70) X dX10_beside_70 (by decide) (fun c_26 => ?_) (fun c_26 => ?_)
          · skip
            have b_27 : (bel ((nI (i % 6)) + (-1)) 6) = false := bI0 c_26
            refine V_iconst (v := (-1)) (pc := 82) X dX10_beside_82 (by decide) ?_
            exact Vg_iret (pc := 83) X dX10_beside_83 hr (by first | (exfalso; omega) | (obtain rfl : n = 1 := (by omega); exact (by decide +kernel : ∀ i, i < 36 → (bel (nI ((i / 6) + 0)) 6) = true → (bel ((nI (i % 6)) + (-1)) 6) = false → (-1) = nbr (nI i) (nI 1)) i hi b_25 b_27))
          · skip
            have b_28 : (bel ((nI (i % 6)) + (-1)) 6) = true := bI1 c_26
            refine V_bipush (v := 6) (pc := 73) X dX10_beside_73 (by decide) ?_
            refine V_iload_n (pc := 75) X dX10_beside_75 rfl 1 rfl ?_
            refine V_imul (pc := 76) X dX10_beside_76 ?_
            refine V_seti (y := nI (6 * ((i / 6) + 0))) (pk_mul 6 ((i / 6) + 0)) ?_
            refine V_iload_n (pc := 77) X dX10_beside_77 rfl 0 rfl ?_
            refine V_iadd (pc := 78) X dX10_beside_78 ?_
            refine V_goto (tgt := 83) (pc := 79) X dX10_beside_79 (by decide) ?_
            exact Vg_iret (pc := 83) X dX10_beside_83 hr (by first | (exfalso; omega) | (obtain rfl : n = 1 := (by omega); exact (by decide +kernel : ∀ i, i < 36 → (bel (nI ((i / 6) + 0)) 6) = true → (bel ((nI (i % 6)) + (-1)) 6) = true → (nI (6 * ((i / 6) + 0))) + ((nI (i % 6)) + (-1)) = nbr (nI i) (nI 1)) i hi b_25 b_28))
    · skip
      have n_29 : n = 3 := nJ_eq (a := n) (b := 3) (by omega) (by omega) c_3
      refine V_iconst (v := 1) (pc := 17) X dX10_beside_17 (by decide) ?_
      refine V_goto (tgt := 22) (pc := 18) X dX10_beside_18 (by decide) ?_
      refine V_iadd (pc := 22) X dX10_beside_22 ?_
      refine V_seti (y := nI ((i / 6) + 1)) (nI_add (i / 6) 1) ?_
      refine V_istore_n (lv' := [(2, .int (nI ((i / 6) + 1))), (0, .int (nI i)), (1, .int (nI n))]) (pc := 23) X dX10_beside_23 rfl (Nat.le_of_ble_eq_true rfl) rfl ?_
      refine V_iload_n (pc := 24) X dX10_beside_24 rfl 1 rfl ?_
      refine V_bipush (v := 6) (pc := 25) X dX10_beside_25 (by decide) ?_
      refine V_irem (pc := 27) X dX10_beside_27 (by decide) ?_
      refine V_seti (y := nI (i % 6)) (pk_rem (a := i) (d := 6) (by omega) (by omega) (by omega)) ?_
      refine V_iload_n (pc := 28) X dX10_beside_28 rfl 2 rfl ?_
      refine V_iconst (v := 1) (pc := 29) X dX10_beside_29 (by decide) ?_
      refine V_icmp_ne (tgt := 37) (pc := 30) X dX10_beside_30 (by decide) (fun c_30 => ?_) (fun c_30 => ?_)
      · skip
        have n_31 : n ≠ 1 := nJ_ne (a := n) (b := 1) (by omega) (by omega) c_30
        refine V_iload_n (pc := 37) X dX10_beside_37 rfl 2 rfl ?_
        refine V_iconst (v := 2) (pc := 38) X dX10_beside_38 (by decide) ?_
        refine V_icmp_ne (tgt := 46) (pc := 39) X dX10_beside_39 (by decide) (fun c_32 => ?_) (fun c_32 => ?_)
        · skip
          have n_33 : n ≠ 2 := nJ_ne (a := n) (b := 2) (by omega) (by omega) c_32
          refine V_iconst (v := 0) (pc := 46) X dX10_beside_46 (by decide) ?_
          refine V_iadd (pc := 47) X dX10_beside_47 ?_
          refine V_seti (y := nI ((i % 6) + 0)) (nI_add (i % 6) 0) ?_
          refine V_istore_n (lv' := [(3, .int (nI ((i % 6) + 0))), (2, .int (nI ((i / 6) + 1))), (0, .int (nI i)), (1, .int (nI n))]) (pc := 48) X dX10_beside_48 rfl (Nat.le_of_ble_eq_true rfl) rfl ?_
          refine V_iload_n (pc := 49) X dX10_beside_49 rfl 1 rfl ?_
          refine V_i2l (pc := 50) X dX10_beside_50 ?_
          refine V_lconst (v := 0) (pc := 51) X dX10_beside_51 (by decide) ?_
          refine V_ldc2 (v := 5) (pc := 52) X dX10_beside_52 (by decide +kernel) ?_
          refine V_sg (pc := 55) (nA := 3) (As := [.long ((nI ((i / 6) + 1)).toInt64), .long 0, .long 5]) (rest := []) X (c_X10_in l g (v := (nI ((i / 6) + 1)).toInt64) (v1 := 0) (v2 := 5) ) gX10_beside_X10_in dX10_beside_55 rfl (by decide +kernel) rfl ⟨rfl, rfl⟩ ⟨Nat.le_of_ble_eq_true rfl, Nat.le_of_ble_eq_true rfl⟩ ⟨Nat.le_of_ble_eq_true rfl, Nat.le_of_ble_eq_true rfl⟩ [] (by decide) rfl rfl (Nat.le_of_ble_eq_true rfl) (st' := [.int (bI (inJ ((nI ((i / 6) + 1)).toInt64) 0 5))]) rfl ?_
          refine V_seti (y := bI (bel (nI ((i / 6) + 1)) 6)) (congrArg bI (inJ_bel 5 (by decide) (by decide))) ?_
          refine V_if_eq (tgt := 82) (pc := 58) X dX10_beside_58 (by decide) (fun c_34 => ?_) (fun c_34 => ?_)
          · skip
            have b_35 : (bel (nI ((i / 6) + 1)) 6) = false := bI0 c_34
            refine V_iconst (v := (-1)) (pc := 82) X dX10_beside_82 (by decide) ?_
            exact Vg_iret (pc := 83) X dX10_beside_83 hr (by first | (exfalso; omega) | (obtain rfl : n = 3 := (by omega); exact (by decide +kernel : ∀ i, i < 36 → (bel (nI ((i / 6) + 1)) 6) = false → (-1) = nbr (nI i) (nI 3)) i hi b_35))
          · skip
            have b_36 : (bel (nI ((i / 6) + 1)) 6) = true := bI1 c_34
            refine V_iload_n (pc := 61) X dX10_beside_61 rfl 0 rfl ?_
            refine V_i2l (pc := 62) X dX10_beside_62 ?_
            refine V_lconst (v := 0) (pc := 63) X dX10_beside_63 (by decide) ?_
            refine V_ldc2 (v := 5) (pc := 64) X dX10_beside_64 (by decide +kernel) ?_
            refine V_sg (pc := 67) (nA := 3) (As := [.long ((nI ((i % 6) + 0)).toInt64), .long 0, .long 5]) (rest := []) X (c_X10_in l g (v := (nI ((i % 6) + 0)).toInt64) (v1 := 0) (v2 := 5) ) gX10_beside_X10_in dX10_beside_67 rfl (by decide +kernel) rfl ⟨rfl, rfl⟩ ⟨Nat.le_of_ble_eq_true rfl, Nat.le_of_ble_eq_true rfl⟩ ⟨Nat.le_of_ble_eq_true rfl, Nat.le_of_ble_eq_true rfl⟩ [] (by decide) rfl rfl (Nat.le_of_ble_eq_true rfl) (st' := [.int (bI (inJ ((nI ((i % 6) + 0)).toInt64) 0 5))]) rfl ?_
            refine V_seti (y := bI (bel (nI ((i % 6) + 0)) 6)) (congrArg bI (inJ_bel 5 (by decide) (by decide))) ?_
            refine V_if_eq (tgt := 82) (pc := 70) X dX10_beside_70 (by decide) (fun c_37 => ?_) (fun c_37 => ?_)
            · skip
              have b_38 : (bel (nI ((i % 6) + 0)) 6) = false := bI0 c_37
              refine V_iconst (v := (-1)) (pc := 82) X dX10_beside_82 (by decide) ?_
              exact Vg_iret (pc := 83) X dX10_beside_83 hr (by first | (exfalso; omega) | (obtain rfl : n = 3 := (by omega); exact (by decide +kernel : ∀ i, i < 36 → (bel (nI ((i / 6) + 1)) 6) = true → (bel (nI ((i % 6) + 0)) 6) = false → (-1) = nbr (nI i) (nI 3)) i hi b_36 b_38))
            · skip
              have b_39 : (bel (nI ((i % 6) + 0)) 6) = true := bI1 c_37
              refine V_bipush (v := 6) (pc := 73) X dX10_beside_73 (by decide) ?_
              refine V_iload_n (pc := 75) X dX10_beside_75 rfl 1 rfl ?_
              refine V_imul (pc := 76) X dX10_beside_76 ?_
              refine V_seti (y := nI (6 * ((i / 6) + 1))) (pk_mul 6 ((i / 6) + 1)) ?_
              refine V_iload_n (pc := 77) X dX10_beside_77 rfl 0 rfl ?_
              refine V_iadd (pc := 78) X dX10_beside_78 ?_
              refine V_seti (y := nI ((6 * ((i / 6) + 1)) + ((i % 6) + 0))) (nI_add (6 * ((i / 6) + 1)) ((i % 6) + 0)) ?_
              refine V_goto (tgt := 83) (pc := 79) X dX10_beside_79 (by decide) ?_
              exact Vg_iret (pc := 83) X dX10_beside_83 hr (by first | (exfalso; omega) | (obtain rfl : n = 3 := (by omega); exact (by decide +kernel : ∀ i, i < 36 → (bel (nI ((i / 6) + 1)) 6) = true → (bel (nI ((i % 6) + 0)) 6) = true → nI ((6 * ((i / 6) + 1)) + ((i % 6) + 0)) = nbr (nI i) (nI 3)) i hi b_36 b_39))
        · skip
          have n_40 : n = 2 := nJ_eq (a := n) (b := 2) (by omega) (by omega) c_32
          refine V_iconst (v := 1) (pc := 42) X dX10_beside_42 (by decide) ?_
          refine V_goto (tgt := 47) (pc := 43) X dX10_beside_43 (by decide) ?_
          refine V_iadd (pc := 47) X dX10_beside_47 ?_
          refine V_seti (y := nI ((i % 6) + 1)) (nI_add (i % 6) 1) ?_
          refine V_istore_n (lv' := [(3, .int (nI ((i % 6) + 1))), (2, .int (nI ((i / 6) + 1))), (0, .int (nI i)), (1, .int (nI n))]) (pc := 48) X dX10_beside_48 rfl (Nat.le_of_ble_eq_true rfl) rfl ?_
          refine V_iload_n (pc := 49) X dX10_beside_49 rfl 1 rfl ?_
          refine V_i2l (pc := 50) X dX10_beside_50 ?_
          refine V_lconst (v := 0) (pc := 51) X dX10_beside_51 (by decide) ?_
          refine V_ldc2 (v := 5) (pc := 52) X dX10_beside_52 (by decide +kernel) ?_
          refine V_sg (pc := 55) (nA := 3) (As := [.long ((nI ((i / 6) + 1)).toInt64), .long 0, .long 5]) (rest := []) X (c_X10_in l g (v := (nI ((i / 6) + 1)).toInt64) (v1 := 0) (v2 := 5) ) gX10_beside_X10_in dX10_beside_55 rfl (by decide +kernel) rfl ⟨rfl, rfl⟩ ⟨Nat.le_of_ble_eq_true rfl, Nat.le_of_ble_eq_true rfl⟩ ⟨Nat.le_of_ble_eq_true rfl, Nat.le_of_ble_eq_true rfl⟩ [] (by decide) rfl rfl (Nat.le_of_ble_eq_true rfl) (st' := [.int (bI (inJ ((nI ((i / 6) + 1)).toInt64) 0 5))]) rfl ?_
          refine V_seti (y := bI (bel (nI ((i / 6) + 1)) 6)) (congrArg bI (inJ_bel 5 (by decide) (by decide))) ?_
          refine V_if_eq (tgt := 82) (pc := 58) X dX10_beside_58 (by decide) (fun c_41 => ?_) (fun c_41 => ?_)
          · skip
            have b_42 : (bel (nI ((i / 6) + 1)) 6) = false := bI0 c_41
            refine V_iconst (v := (-1)) (pc := 82) X dX10_beside_82 (by decide) ?_
            exact Vg_iret (pc := 83) X dX10_beside_83 hr (by first | (exfalso; omega) | (obtain rfl : n = 3 := (by omega); exact (by decide +kernel : ∀ i, i < 36 → (bel (nI ((i / 6) + 1)) 6) = false → (-1) = nbr (nI i) (nI 3)) i hi b_42))
          · skip
            have b_43 : (bel (nI ((i / 6) + 1)) 6) = true := bI1 c_41
            refine V_iload_n (pc := 61) X dX10_beside_61 rfl 0 rfl ?_
            refine V_i2l (pc := 62) X dX10_beside_62 ?_
            refine V_lconst (v := 0) (pc := 63) X dX10_beside_63 (by decide) ?_
            refine V_ldc2 (v := 5) (pc := 64) X dX10_beside_64 (by decide +kernel) ?_
            refine V_sg (pc := 67) (nA := 3) (As := [.long ((nI ((i % 6) + 1)).toInt64), .long 0, .long 5]) (rest := []) X (c_X10_in l g (v := (nI ((i % 6) + 1)).toInt64) (v1 := 0) (v2 := 5) ) gX10_beside_X10_in dX10_beside_67 rfl (by decide +kernel) rfl ⟨rfl, rfl⟩ ⟨Nat.le_of_ble_eq_true rfl, Nat.le_of_ble_eq_true rfl⟩ ⟨Nat.le_of_ble_eq_true rfl, Nat.le_of_ble_eq_true rfl⟩ [] (by decide) rfl rfl (Nat.le_of_ble_eq_true rfl) (st' := [.int (bI (inJ ((nI ((i % 6) + 1)).toInt64) 0 5))]) rfl ?_
            refine V_seti (y := bI (bel (nI ((i % 6) + 1)) 6)) (congrArg bI (inJ_bel 5 (by decide) (by decide))) ?_
            refine V_if_eq (tgt := 82) (pc := 70) X dX10_beside_70 (by decide) (fun c_44 => ?_) (fun c_44 => ?_)
            · skip
              have b_45 : (bel (nI ((i % 6) + 1)) 6) = false := bI0 c_44
              refine V_iconst (v := (-1)) (pc := 82) X dX10_beside_82 (by decide) ?_
              exact Vg_iret (pc := 83) X dX10_beside_83 hr (by first | (exfalso; omega) | (obtain rfl : n = 3 := (by omega); exact (by decide +kernel : ∀ i, i < 36 → (bel (nI ((i / 6) + 1)) 6) = true → (bel (nI ((i % 6) + 1)) 6) = false → (-1) = nbr (nI i) (nI 3)) i hi b_43 b_45))
            · skip
              have b_46 : (bel (nI ((i % 6) + 1)) 6) = true := bI1 c_44
              refine V_bipush (v := 6) (pc := 73) X dX10_beside_73 (by decide) ?_
              refine V_iload_n (pc := 75) X dX10_beside_75 rfl 1 rfl ?_
              refine V_imul (pc := 76) X dX10_beside_76 ?_
              refine V_seti (y := nI (6 * ((i / 6) + 1))) (pk_mul 6 ((i / 6) + 1)) ?_
              refine V_iload_n (pc := 77) X dX10_beside_77 rfl 0 rfl ?_
              refine V_iadd (pc := 78) X dX10_beside_78 ?_
              refine V_seti (y := nI ((6 * ((i / 6) + 1)) + ((i % 6) + 1))) (nI_add (6 * ((i / 6) + 1)) ((i % 6) + 1)) ?_
              refine V_goto (tgt := 83) (pc := 79) X dX10_beside_79 (by decide) ?_
              exact Vg_iret (pc := 83) X dX10_beside_83 hr (by first | (exfalso; omega) | (obtain rfl : n = 3 := (by omega); exact (by decide +kernel : ∀ i, i < 36 → (bel (nI ((i / 6) + 1)) 6) = true → (bel (nI ((i % 6) + 1)) 6) = true → nI ((6 * ((i / 6) + 1)) + ((i % 6) + 1)) = nbr (nI i) (nI 3)) i hi b_43 b_46))
      · skip
        have n_47 : n = 1 := nJ_eq (a := n) (b := 1) (by omega) (by omega) c_30
        refine V_iconst (v := (-1)) (pc := 33) X dX10_beside_33 (by decide) ?_
        refine V_goto (tgt := 47) (pc := 34) X dX10_beside_34 (by decide) ?_
        refine V_iadd (pc := 47) X dX10_beside_47 ?_
        refine V_istore_n (lv' := [(3, .int ((nI (i % 6)) + (-1))), (2, .int (nI ((i / 6) + 1))), (0, .int (nI i)), (1, .int (nI n))]) (pc := 48) X dX10_beside_48 rfl (Nat.le_of_ble_eq_true rfl) rfl ?_
        refine V_iload_n (pc := 49) X dX10_beside_49 rfl 1 rfl ?_
        refine V_i2l (pc := 50) X dX10_beside_50 ?_
        refine V_lconst (v := 0) (pc := 51) X dX10_beside_51 (by decide) ?_
        refine V_ldc2 (v := 5) (pc := 52) X dX10_beside_52 (by decide +kernel) ?_
        refine V_sg (pc := 55) (nA := 3) (As := [.long ((nI ((i / 6) + 1)).toInt64), .long 0, .long 5]) (rest := []) X (c_X10_in l g (v := (nI ((i / 6) + 1)).toInt64) (v1 := 0) (v2 := 5) ) gX10_beside_X10_in dX10_beside_55 rfl (by decide +kernel) rfl ⟨rfl, rfl⟩ ⟨Nat.le_of_ble_eq_true rfl, Nat.le_of_ble_eq_true rfl⟩ ⟨Nat.le_of_ble_eq_true rfl, Nat.le_of_ble_eq_true rfl⟩ [] (by decide) rfl rfl (Nat.le_of_ble_eq_true rfl) (st' := [.int (bI (inJ ((nI ((i / 6) + 1)).toInt64) 0 5))]) rfl ?_
        refine V_seti (y := bI (bel (nI ((i / 6) + 1)) 6)) (congrArg bI (inJ_bel 5 (by decide) (by decide))) ?_
        refine V_if_eq (tgt := 82) (pc := 58) X dX10_beside_58 (by decide) (fun c_48 => ?_) (fun c_48 => ?_)
        · skip
          have b_49 : (bel (nI ((i / 6) + 1)) 6) = false := bI0 c_48
          refine V_iconst (v := (-1)) (pc := 82) X dX10_beside_82 (by decide) ?_
          exact Vg_iret (pc := 83) X dX10_beside_83 hr (by first | (exfalso; omega) | (obtain rfl : n = 3 := (by omega); exact (by decide +kernel : ∀ i, i < 36 → (bel (nI ((i / 6) + 1)) 6) = false → (-1) = nbr (nI i) (nI 3)) i hi b_49))
        · skip
          have b_50 : (bel (nI ((i / 6) + 1)) 6) = true := bI1 c_48
          refine V_iload_n (pc := 61) X dX10_beside_61 rfl 0 rfl ?_
          refine V_i2l (pc := 62) X dX10_beside_62 ?_
          refine V_lconst (v := 0) (pc := 63) X dX10_beside_63 (by decide) ?_
          refine V_ldc2 (v := 5) (pc := 64) X dX10_beside_64 (by decide +kernel) ?_
          refine V_sg (pc := 67) (nA := 3) (As := [.long (((nI (i % 6)) + (-1)).toInt64), .long 0, .long 5]) (rest := []) X (c_X10_in l g (v := ((nI (i % 6)) + (-1)).toInt64) (v1 := 0) (v2 := 5) ) gX10_beside_X10_in dX10_beside_67 rfl (by decide +kernel) rfl ⟨rfl, rfl⟩ ⟨Nat.le_of_ble_eq_true rfl, Nat.le_of_ble_eq_true rfl⟩ ⟨Nat.le_of_ble_eq_true rfl, Nat.le_of_ble_eq_true rfl⟩ [] (by decide) rfl rfl (Nat.le_of_ble_eq_true rfl) (st' := [.int (bI (inJ (((nI (i % 6)) + (-1)).toInt64) 0 5))]) rfl ?_
          refine V_seti (y := bI (bel ((nI (i % 6)) + (-1)) 6)) (congrArg bI (inJ_bel 5 (by decide) (by decide))) ?_
          refine V_if_eq (tgt := 82) (pc := 70) X dX10_beside_70 (by decide) (fun c_51 => ?_) (fun c_51 => ?_)
          · skip
            have b_52 : (bel ((nI (i % 6)) + (-1)) 6) = false := bI0 c_51
            refine V_iconst (v := (-1)) (pc := 82) X dX10_beside_82 (by decide) ?_
            exact Vg_iret (pc := 83) X dX10_beside_83 hr (by first | (exfalso; omega) | (obtain rfl : n = 3 := (by omega); exact (by decide +kernel : ∀ i, i < 36 → (bel (nI ((i / 6) + 1)) 6) = true → (bel ((nI (i % 6)) + (-1)) 6) = false → (-1) = nbr (nI i) (nI 3)) i hi b_50 b_52))
          · skip
            have b_53 : (bel ((nI (i % 6)) + (-1)) 6) = true := bI1 c_51
            refine V_bipush (v := 6) (pc := 73) X dX10_beside_73 (by decide) ?_
            refine V_iload_n (pc := 75) X dX10_beside_75 rfl 1 rfl ?_
            refine V_imul (pc := 76) X dX10_beside_76 ?_
            refine V_seti (y := nI (6 * ((i / 6) + 1))) (pk_mul 6 ((i / 6) + 1)) ?_
            refine V_iload_n (pc := 77) X dX10_beside_77 rfl 0 rfl ?_
            refine V_iadd (pc := 78) X dX10_beside_78 ?_
            refine V_goto (tgt := 83) (pc := 79) X dX10_beside_79 (by decide) ?_
            exact Vg_iret (pc := 83) X dX10_beside_83 hr (by first | (exfalso; omega) | (obtain rfl : n = 3 := (by omega); exact (by decide +kernel : ∀ i, i < 36 → (bel (nI ((i / 6) + 1)) 6) = true → (bel ((nI (i % 6)) + (-1)) 6) = true → (nI (6 * ((i / 6) + 1))) + ((nI (i % 6)) + (-1)) = nbr (nI i) (nI 3)) i hi b_50 b_53))
  · skip
    have n_54 : n = 0 := nJ_eq (a := n) (b := 0) (by omega) (by omega) c_1
    refine V_iconst (v := (-1)) (pc := 8) X dX10_beside_8 (by decide) ?_
    refine V_goto (tgt := 22) (pc := 9) X dX10_beside_9 (by decide) ?_
    refine V_iadd (pc := 22) X dX10_beside_22 ?_
    refine V_istore_n (lv' := [(2, .int ((nI (i / 6)) + (-1))), (0, .int (nI i)), (1, .int (nI n))]) (pc := 23) X dX10_beside_23 rfl (Nat.le_of_ble_eq_true rfl) rfl ?_
    refine V_iload_n (pc := 24) X dX10_beside_24 rfl 1 rfl ?_
    refine V_bipush (v := 6) (pc := 25) X dX10_beside_25 (by decide) ?_
    refine V_irem (pc := 27) X dX10_beside_27 (by decide) ?_
    refine V_seti (y := nI (i % 6)) (pk_rem (a := i) (d := 6) (by omega) (by omega) (by omega)) ?_
    refine V_iload_n (pc := 28) X dX10_beside_28 rfl 2 rfl ?_
    refine V_iconst (v := 1) (pc := 29) X dX10_beside_29 (by decide) ?_
    refine V_icmp_ne (tgt := 37) (pc := 30) X dX10_beside_30 (by decide) (fun c_55 => ?_) (fun c_55 => ?_)
    · skip
      have n_56 : n ≠ 1 := nJ_ne (a := n) (b := 1) (by omega) (by omega) c_55
      refine V_iload_n (pc := 37) X dX10_beside_37 rfl 2 rfl ?_
      refine V_iconst (v := 2) (pc := 38) X dX10_beside_38 (by decide) ?_
      refine V_icmp_ne (tgt := 46) (pc := 39) X dX10_beside_39 (by decide) (fun c_57 => ?_) (fun c_57 => ?_)
      · skip
        have n_58 : n ≠ 2 := nJ_ne (a := n) (b := 2) (by omega) (by omega) c_57
        refine V_iconst (v := 0) (pc := 46) X dX10_beside_46 (by decide) ?_
        refine V_iadd (pc := 47) X dX10_beside_47 ?_
        refine V_seti (y := nI ((i % 6) + 0)) (nI_add (i % 6) 0) ?_
        refine V_istore_n (lv' := [(3, .int (nI ((i % 6) + 0))), (2, .int ((nI (i / 6)) + (-1))), (0, .int (nI i)), (1, .int (nI n))]) (pc := 48) X dX10_beside_48 rfl (Nat.le_of_ble_eq_true rfl) rfl ?_
        refine V_iload_n (pc := 49) X dX10_beside_49 rfl 1 rfl ?_
        refine V_i2l (pc := 50) X dX10_beside_50 ?_
        refine V_lconst (v := 0) (pc := 51) X dX10_beside_51 (by decide) ?_
        refine V_ldc2 (v := 5) (pc := 52) X dX10_beside_52 (by decide +kernel) ?_
        refine V_sg (pc := 55) (nA := 3) (As := [.long (((nI (i / 6)) + (-1)).toInt64), .long 0, .long 5]) (rest := []) X (c_X10_in l g (v := ((nI (i / 6)) + (-1)).toInt64) (v1 := 0) (v2 := 5) ) gX10_beside_X10_in dX10_beside_55 rfl (by decide +kernel) rfl ⟨rfl, rfl⟩ ⟨Nat.le_of_ble_eq_true rfl, Nat.le_of_ble_eq_true rfl⟩ ⟨Nat.le_of_ble_eq_true rfl, Nat.le_of_ble_eq_true rfl⟩ [] (by decide) rfl rfl (Nat.le_of_ble_eq_true rfl) (st' := [.int (bI (inJ (((nI (i / 6)) + (-1)).toInt64) 0 5))]) rfl ?_
        refine V_seti (y := bI (bel ((nI (i / 6)) + (-1)) 6)) (congrArg bI (inJ_bel 5 (by decide) (by decide))) ?_
        refine V_if_eq (tgt := 82) (pc := 58) X dX10_beside_58 (by decide) (fun c_59 => ?_) (fun c_59 => ?_)
        · skip
          have b_60 : (bel ((nI (i / 6)) + (-1)) 6) = false := bI0 c_59
          refine V_iconst (v := (-1)) (pc := 82) X dX10_beside_82 (by decide) ?_
          exact Vg_iret (pc := 83) X dX10_beside_83 hr (by first | (exfalso; omega) | (obtain rfl : n = 0 := (by omega); exact (by decide +kernel : ∀ i, i < 36 → (bel ((nI (i / 6)) + (-1)) 6) = false → (-1) = nbr (nI i) (nI 0)) i hi b_60))
        · skip
          have b_61 : (bel ((nI (i / 6)) + (-1)) 6) = true := bI1 c_59
          refine V_iload_n (pc := 61) X dX10_beside_61 rfl 0 rfl ?_
          refine V_i2l (pc := 62) X dX10_beside_62 ?_
          refine V_lconst (v := 0) (pc := 63) X dX10_beside_63 (by decide) ?_
          refine V_ldc2 (v := 5) (pc := 64) X dX10_beside_64 (by decide +kernel) ?_
          refine V_sg (pc := 67) (nA := 3) (As := [.long ((nI ((i % 6) + 0)).toInt64), .long 0, .long 5]) (rest := []) X (c_X10_in l g (v := (nI ((i % 6) + 0)).toInt64) (v1 := 0) (v2 := 5) ) gX10_beside_X10_in dX10_beside_67 rfl (by decide +kernel) rfl ⟨rfl, rfl⟩ ⟨Nat.le_of_ble_eq_true rfl, Nat.le_of_ble_eq_true rfl⟩ ⟨Nat.le_of_ble_eq_true rfl, Nat.le_of_ble_eq_true rfl⟩ [] (by decide) rfl rfl (Nat.le_of_ble_eq_true rfl) (st' := [.int (bI (inJ ((nI ((i % 6) + 0)).toInt64) 0 5))]) rfl ?_
          refine V_seti (y := bI (bel (nI ((i % 6) + 0)) 6)) (congrArg bI (inJ_bel 5 (by decide) (by decide))) ?_
          refine V_if_eq (tgt := 82) (pc := 70) X dX10_beside_70 (by decide) (fun c_62 => ?_) (fun c_62 => ?_)
          · skip
            have b_63 : (bel (nI ((i % 6) + 0)) 6) = false := bI0 c_62
            refine V_iconst (v := (-1)) (pc := 82) X dX10_beside_82 (by decide) ?_
            exact Vg_iret (pc := 83) X dX10_beside_83 hr (by first | (exfalso; omega) | (obtain rfl : n = 0 := (by omega); exact (by decide +kernel : ∀ i, i < 36 → (bel ((nI (i / 6)) + (-1)) 6) = true → (bel (nI ((i % 6) + 0)) 6) = false → (-1) = nbr (nI i) (nI 0)) i hi b_61 b_63))
          · skip
            have b_64 : (bel (nI ((i % 6) + 0)) 6) = true := bI1 c_62
            refine V_bipush (v := 6) (pc := 73) X dX10_beside_73 (by decide) ?_
            refine V_iload_n (pc := 75) X dX10_beside_75 rfl 1 rfl ?_
            refine V_imul (pc := 76) X dX10_beside_76 ?_
            refine V_iload_n (pc := 77) X dX10_beside_77 rfl 0 rfl ?_
            refine V_iadd (pc := 78) X dX10_beside_78 ?_
            refine V_goto (tgt := 83) (pc := 79) X dX10_beside_79 (by decide) ?_
            exact Vg_iret (pc := 83) X dX10_beside_83 hr (by first | (exfalso; omega) | (obtain rfl : n = 0 := (by omega); exact (by decide +kernel : ∀ i, i < 36 → (bel ((nI (i / 6)) + (-1)) 6) = true → (bel (nI ((i % 6) + 0)) 6) = true → (6 * ((nI (i / 6)) + (-1))) + (nI ((i % 6) + 0)) = nbr (nI i) (nI 0)) i hi b_61 b_64))
      · skip
        have n_65 : n = 2 := nJ_eq (a := n) (b := 2) (by omega) (by omega) c_57
        refine V_iconst (v := 1) (pc := 42) X dX10_beside_42 (by decide) ?_
        refine V_goto (tgt := 47) (pc := 43) X dX10_beside_43 (by decide) ?_
        refine V_iadd (pc := 47) X dX10_beside_47 ?_
        refine V_seti (y := nI ((i % 6) + 1)) (nI_add (i % 6) 1) ?_
        refine V_istore_n (lv' := [(3, .int (nI ((i % 6) + 1))), (2, .int ((nI (i / 6)) + (-1))), (0, .int (nI i)), (1, .int (nI n))]) (pc := 48) X dX10_beside_48 rfl (Nat.le_of_ble_eq_true rfl) rfl ?_
        refine V_iload_n (pc := 49) X dX10_beside_49 rfl 1 rfl ?_
        refine V_i2l (pc := 50) X dX10_beside_50 ?_
        refine V_lconst (v := 0) (pc := 51) X dX10_beside_51 (by decide) ?_
        refine V_ldc2 (v := 5) (pc := 52) X dX10_beside_52 (by decide +kernel) ?_
        refine V_sg (pc := 55) (nA := 3) (As := [.long (((nI (i / 6)) + (-1)).toInt64), .long 0, .long 5]) (rest := []) X (c_X10_in l g (v := ((nI (i / 6)) + (-1)).toInt64) (v1 := 0) (v2 := 5) ) gX10_beside_X10_in dX10_beside_55 rfl (by decide +kernel) rfl ⟨rfl, rfl⟩ ⟨Nat.le_of_ble_eq_true rfl, Nat.le_of_ble_eq_true rfl⟩ ⟨Nat.le_of_ble_eq_true rfl, Nat.le_of_ble_eq_true rfl⟩ [] (by decide) rfl rfl (Nat.le_of_ble_eq_true rfl) (st' := [.int (bI (inJ (((nI (i / 6)) + (-1)).toInt64) 0 5))]) rfl ?_
        refine V_seti (y := bI (bel ((nI (i / 6)) + (-1)) 6)) (congrArg bI (inJ_bel 5 (by decide) (by decide))) ?_
        refine V_if_eq (tgt := 82) (pc := 58) X dX10_beside_58 (by decide) (fun c_66 => ?_) (fun c_66 => ?_)
        · skip
          have b_67 : (bel ((nI (i / 6)) + (-1)) 6) = false := bI0 c_66
          refine V_iconst (v := (-1)) (pc := 82) X dX10_beside_82 (by decide) ?_
          exact Vg_iret (pc := 83) X dX10_beside_83 hr (by first | (exfalso; omega) | (obtain rfl : n = 0 := (by omega); exact (by decide +kernel : ∀ i, i < 36 → (bel ((nI (i / 6)) + (-1)) 6) = false → (-1) = nbr (nI i) (nI 0)) i hi b_67))
        · skip
          have b_68 : (bel ((nI (i / 6)) + (-1)) 6) = true := bI1 c_66
          refine V_iload_n (pc := 61) X dX10_beside_61 rfl 0 rfl ?_
          refine V_i2l (pc := 62) X dX10_beside_62 ?_
          refine V_lconst (v := 0) (pc := 63) X dX10_beside_63 (by decide) ?_
          refine V_ldc2 (v := 5) (pc := 64) X dX10_beside_64 (by decide +kernel) ?_
          refine V_sg (pc := 67) (nA := 3) (As := [.long ((nI ((i % 6) + 1)).toInt64), .long 0, .long 5]) (rest := []) X (c_X10_in l g (v := (nI ((i % 6) + 1)).toInt64) (v1 := 0) (v2 := 5) ) gX10_beside_X10_in dX10_beside_67 rfl (by decide +kernel) rfl ⟨rfl, rfl⟩ ⟨Nat.le_of_ble_eq_true rfl, Nat.le_of_ble_eq_true rfl⟩ ⟨Nat.le_of_ble_eq_true rfl, Nat.le_of_ble_eq_true rfl⟩ [] (by decide) rfl rfl (Nat.le_of_ble_eq_true rfl) (st' := [.int (bI (inJ ((nI ((i % 6) + 1)).toInt64) 0 5))]) rfl ?_
          refine V_seti (y := bI (bel (nI ((i % 6) + 1)) 6)) (congrArg bI (inJ_bel 5 (by decide) (by decide))) ?_
          refine V_if_eq (tgt := 82) (pc := 70) X dX10_beside_70 (by decide) (fun c_69 => ?_) (fun c_69 => ?_)
          · skip
            have b_70 : (bel (nI ((i % 6) + 1)) 6) = false := bI0 c_69
            refine V_iconst (v := (-1)) (pc := 82) X dX10_beside_82 (by decide) ?_
            exact Vg_iret (pc := 83) X dX10_beside_83 hr (by first | (exfalso; omega) | (obtain rfl : n = 0 := (by omega); exact (by decide +kernel : ∀ i, i < 36 → (bel ((nI (i / 6)) + (-1)) 6) = true → (bel (nI ((i % 6) + 1)) 6) = false → (-1) = nbr (nI i) (nI 0)) i hi b_68 b_70))
          · skip
            have b_71 : (bel (nI ((i % 6) + 1)) 6) = true := bI1 c_69
            refine V_bipush (v := 6) (pc := 73) X dX10_beside_73 (by decide) ?_
            refine V_iload_n (pc := 75) X dX10_beside_75 rfl 1 rfl ?_
            refine V_imul (pc := 76) X dX10_beside_76 ?_
            refine V_iload_n (pc := 77) X dX10_beside_77 rfl 0 rfl ?_
            refine V_iadd (pc := 78) X dX10_beside_78 ?_
            refine V_goto (tgt := 83) (pc := 79) X dX10_beside_79 (by decide) ?_
            exact Vg_iret (pc := 83) X dX10_beside_83 hr (by first | (exfalso; omega) | (obtain rfl : n = 0 := (by omega); exact (by decide +kernel : ∀ i, i < 36 → (bel ((nI (i / 6)) + (-1)) 6) = true → (bel (nI ((i % 6) + 1)) 6) = true → (6 * ((nI (i / 6)) + (-1))) + (nI ((i % 6) + 1)) = nbr (nI i) (nI 0)) i hi b_68 b_71))
    · skip
      have n_72 : n = 1 := nJ_eq (a := n) (b := 1) (by omega) (by omega) c_55
      refine V_iconst (v := (-1)) (pc := 33) X dX10_beside_33 (by decide) ?_
      refine V_goto (tgt := 47) (pc := 34) X dX10_beside_34 (by decide) ?_
      refine V_iadd (pc := 47) X dX10_beside_47 ?_
      refine V_istore_n (lv' := [(3, .int ((nI (i % 6)) + (-1))), (2, .int ((nI (i / 6)) + (-1))), (0, .int (nI i)), (1, .int (nI n))]) (pc := 48) X dX10_beside_48 rfl (Nat.le_of_ble_eq_true rfl) rfl ?_
      refine V_iload_n (pc := 49) X dX10_beside_49 rfl 1 rfl ?_
      refine V_i2l (pc := 50) X dX10_beside_50 ?_
      refine V_lconst (v := 0) (pc := 51) X dX10_beside_51 (by decide) ?_
      refine V_ldc2 (v := 5) (pc := 52) X dX10_beside_52 (by decide +kernel) ?_
      refine V_sg (pc := 55) (nA := 3) (As := [.long (((nI (i / 6)) + (-1)).toInt64), .long 0, .long 5]) (rest := []) X (c_X10_in l g (v := ((nI (i / 6)) + (-1)).toInt64) (v1 := 0) (v2 := 5) ) gX10_beside_X10_in dX10_beside_55 rfl (by decide +kernel) rfl ⟨rfl, rfl⟩ ⟨Nat.le_of_ble_eq_true rfl, Nat.le_of_ble_eq_true rfl⟩ ⟨Nat.le_of_ble_eq_true rfl, Nat.le_of_ble_eq_true rfl⟩ [] (by decide) rfl rfl (Nat.le_of_ble_eq_true rfl) (st' := [.int (bI (inJ (((nI (i / 6)) + (-1)).toInt64) 0 5))]) rfl ?_
      refine V_seti (y := bI (bel ((nI (i / 6)) + (-1)) 6)) (congrArg bI (inJ_bel 5 (by decide) (by decide))) ?_
      refine V_if_eq (tgt := 82) (pc := 58) X dX10_beside_58 (by decide) (fun c_73 => ?_) (fun c_73 => ?_)
      · skip
        have b_74 : (bel ((nI (i / 6)) + (-1)) 6) = false := bI0 c_73
        refine V_iconst (v := (-1)) (pc := 82) X dX10_beside_82 (by decide) ?_
        exact Vg_iret (pc := 83) X dX10_beside_83 hr (by first | (exfalso; omega) | (obtain rfl : n = 0 := (by omega); exact (by decide +kernel : ∀ i, i < 36 → (bel ((nI (i / 6)) + (-1)) 6) = false → (-1) = nbr (nI i) (nI 0)) i hi b_74))
      · skip
        have b_75 : (bel ((nI (i / 6)) + (-1)) 6) = true := bI1 c_73
        refine V_iload_n (pc := 61) X dX10_beside_61 rfl 0 rfl ?_
        refine V_i2l (pc := 62) X dX10_beside_62 ?_
        refine V_lconst (v := 0) (pc := 63) X dX10_beside_63 (by decide) ?_
        refine V_ldc2 (v := 5) (pc := 64) X dX10_beside_64 (by decide +kernel) ?_
        refine V_sg (pc := 67) (nA := 3) (As := [.long (((nI (i % 6)) + (-1)).toInt64), .long 0, .long 5]) (rest := []) X (c_X10_in l g (v := ((nI (i % 6)) + (-1)).toInt64) (v1 := 0) (v2 := 5) ) gX10_beside_X10_in dX10_beside_67 rfl (by decide +kernel) rfl ⟨rfl, rfl⟩ ⟨Nat.le_of_ble_eq_true rfl, Nat.le_of_ble_eq_true rfl⟩ ⟨Nat.le_of_ble_eq_true rfl, Nat.le_of_ble_eq_true rfl⟩ [] (by decide) rfl rfl (Nat.le_of_ble_eq_true rfl) (st' := [.int (bI (inJ (((nI (i % 6)) + (-1)).toInt64) 0 5))]) rfl ?_
        refine V_seti (y := bI (bel ((nI (i % 6)) + (-1)) 6)) (congrArg bI (inJ_bel 5 (by decide) (by decide))) ?_
        refine V_if_eq (tgt := 82) (pc := 70) X dX10_beside_70 (by decide) (fun c_76 => ?_) (fun c_76 => ?_)
        · skip
          have b_77 : (bel ((nI (i % 6)) + (-1)) 6) = false := bI0 c_76
          refine V_iconst (v := (-1)) (pc := 82) X dX10_beside_82 (by decide) ?_
          exact Vg_iret (pc := 83) X dX10_beside_83 hr (by first | (exfalso; omega) | (obtain rfl : n = 0 := (by omega); exact (by decide +kernel : ∀ i, i < 36 → (bel ((nI (i / 6)) + (-1)) 6) = true → (bel ((nI (i % 6)) + (-1)) 6) = false → (-1) = nbr (nI i) (nI 0)) i hi b_75 b_77))
        · skip
          have b_78 : (bel ((nI (i % 6)) + (-1)) 6) = true := bI1 c_76
          refine V_bipush (v := 6) (pc := 73) X dX10_beside_73 (by decide) ?_
          refine V_iload_n (pc := 75) X dX10_beside_75 rfl 1 rfl ?_
          refine V_imul (pc := 76) X dX10_beside_76 ?_
          refine V_iload_n (pc := 77) X dX10_beside_77 rfl 0 rfl ?_
          refine V_iadd (pc := 78) X dX10_beside_78 ?_
          refine V_goto (tgt := 83) (pc := 79) X dX10_beside_79 (by decide) ?_
          exact Vg_iret (pc := 83) X dX10_beside_83 hr (by first | (exfalso; omega) | (obtain rfl : n = 0 := (by omega); exact (by decide +kernel : ∀ i, i < 36 → (bel ((nI (i / 6)) + (-1)) 6) = true → (bel ((nI (i % 6)) + (-1)) 6) = true → (6 * ((nI (i / 6)) + (-1))) + ((nI (i % 6)) + (-1)) = nbr (nI i) (nI 0)) i hi b_75 b_78))
set_option maxHeartbeats 4000000 in
set_option maxRecDepth 100000 in
theorem c_X10_lay (l : Launch) (g : XG) (mq : Nat) (mf : Int64) (mt : Nat) (mmq : Nat) (mn : Nat) (mkq : Nat) (mcq : Nat) (mhq : Nat) (maq : Nat) (mz : Int32) (my : Int32) (mS : Int64) (mzq : Nat) (mtq : Nat) (mT : Nat) (mA : Nat) (mrq : Nat) (muq : Nat) (mF : Int64) (mZ : Int32) (moq : Nat) (mK : Int32) (mH : Int32) (mgq : Nat) (miq : Nat) (mI : Int64) (mB : Bool) (mlq : Nat) (msq : Nat) (meq : Nat) (mvq : Nat) (mim : Nat → Int32) (aq9 : Nat) (a9 : Nat → Int32) (j : Nat) (hj : j + 6 ≤ 34) : Ke l g yX10_lay wsX10_lay ({ frames := 0, cells := 0, slots := 0, locals := 0 } : Room) 0 0 [.ref mq, .ref aq9, .int (nI j)] [ob mq 10 [.long mf, .int (nI mt), .ref mmq, .int (nI mn), .ref mkq, .ref mcq, .ref mhq, .ref maq, .int mz, .int my, .long mS, .ref mzq, .ref mtq, .int (nI mT), .int (nI mA), .ref mrq, .ref muq, .long mF, .int mZ, .ref moq, .int mK, .int mH, .ref mgq, .ref miq, .long mI, .int (bI mB), .ref mlq, .ref msq, .ref meq, .ref mvq], ai g miq 34 mim, ai g aq9 6 a9] (fun u : Unit => some (.int (nI (j + 6)))) (fun u => [ob mq 10 [.long mf, .int (nI mt), .ref mmq, .int (nI mn), .ref mkq, .ref mcq, .ref mhq, .ref maq, .int mz, .int my, .long mS, .ref mzq, .ref mtq, .int (nI mT), .int (nI mA), .ref mrq, .ref muq, .long mF, .int mZ, .ref moq, .int mK, .int mH, .ref mgq, .ref miq, .long mI, .int (bI mB), .ref mlq, .ref msq, .ref meq, .ref mvq], ai g miq 34 (cpJ mim a9 j 6), ai g aq9 6 a9]) (fun u => True) := by
  refine Ke.of (cc := cX10_lay) (maxL := 4) (ret := (some .int)) (lv := [(0, .ref mq), (1, .ref aq9), (2, .int (nI j))]) RX10 rfl (by decide) rfl (Nat.le_of_ble_eq_true rfl) rfl ?_
  intro p e s m below meth c A sz hA9 X hr hin2
  have in10 : ∀ w ∈ u_ws RX10 TX10 30, w ∈ wsX10_lay := by decide +kernel
  refine V_iconst (v := 0) (pc := 0) X dX10_lay_0 (by decide) ?_
  refine V_istore_n (lv' := [(3, .int 0), (0, .ref mq), (1, .ref aq9), (2, .int (nI j))]) (pc := 1) X dX10_lay_1 rfl (Nat.le_of_ble_eq_true rfl) rfl ?_
  refine V_loop (pc := 2) (σ := Nat × (Nat → Int32)) (fun v9 => [(0, .ref mq), (1, .ref aq9), (2, .int (nI j)), (3, .int (nI v9.1))]) (fun v9 => [ob mq 10 [.long mf, .int (nI mt), .ref mmq, .int (nI mn), .ref mkq, .ref mcq, .ref mhq, .ref maq, .int mz, .int my, .long mS, .ref mzq, .ref mtq, .int (nI mT), .int (nI mA), .ref mrq, .ref muq, .long mF, .int mZ, .ref moq, .int mK, .int mH, .ref mgq, .ref miq, .long mI, .int (bI mB), .ref mlq, .ref msq, .ref meq, .ref mvq], ai g miq 34 v9.2, ai g aq9 6 a9]) (fun v9 => (v9.1 ≤ 6) ∧ (v9.2 = cpJ mim a9 j v9.1)) (fun v9 => 6 - v9.1) (0, mim) ⟨(by
        try dsimp only
        all_goals omega), (by
        try dsimp only
        exact cpJ_0 _ _ _)⟩ rfl [1, 2, 3, 0] rfl ?_
  rintro ⟨k, z⟩ ⟨hk, hz⟩ ih2
  try dsimp only at hk
  try dsimp only at hz
  refine V_eqw (ws2 := [ob mq 10 [.long mf, .int (nI mt), .ref mmq, .int (nI mn), .ref mkq, .ref mcq, .ref mhq, .ref maq, .int mz, .int my, .long mS, .ref mzq, .ref mtq, .int (nI mT), .int (nI mA), .ref mrq, .ref muq, .long mF, .int mZ, .ref moq, .int mK, .int mH, .ref mgq, .ref miq, .long mI, .int (bI mB), .ref mlq, .ref msq, .ref meq, .ref mvq], ai g miq 34 z, ai g aq9 6 a9]) rfl (V_eql (lv' := [(0, .ref mq), (1, .ref aq9), (2, .int (nI j)), (3, .int (nI k))]) rfl ?_)
  refine V_iload_n (pc := 2) X dX10_lay_2 rfl 3 rfl ?_
  refine V_bipush (v := 6) (pc := 3) X dX10_lay_3 (by decide) ?_
  refine V_icmp_ge (tgt := 25) (pc := 5) X dX10_lay_5 (by decide) (fun c_1 => ?_) (fun c_1 => ?_)
  · skip
    have n_2 : 6 ≤ k := nJ_le (a := 6) (b := k) (by omega) (by omega) c_1
    refine V_iload_n (pc := 25) X dX10_lay_25 rfl 2 rfl ?_
    refine V_bipush (v := 6) (pc := 26) X dX10_lay_26 (by decide) ?_
    refine V_iadd (pc := 28) X dX10_lay_28 ?_
    refine V_seti (y := nI (j + 6)) (nI_add j 6) ?_
    exact Ve_iret (pc := 29) X hA9 dX10_lay_29 hr () (by first | rfl | (simp [n_2]; done)) trivial (by rw [hz, show k = 6 by omega])
  · skip
    have n_3 : k < 6 := nJ_nle (a := 6) (b := k) (by omega) (by omega) c_1
    refine V_aload_n (pc := 8) X dX10_lay_8 rfl 0 rfl ?_
    refine V_get (C := RX10) (T := TX10) (N := 30) (ci := 10) (pc := 9) X dX10_lay_9 in10 0 rfl rfl 23 (by decide) (by decide +kernel) rfl rfl ?_
    refine V_iload_n (pc := 12) X dX10_lay_12 rfl 2 rfl ?_
    refine V_iload_n (pc := 13) X dX10_lay_13 rfl 3 rfl ?_
    refine V_iadd (pc := 14) X dX10_lay_14 ?_
    refine V_seti (y := nI (j + k)) (nI_add j k) ?_
    refine V_aload_n (pc := 15) X dX10_lay_15 rfl 1 rfl ?_
    refine V_iload_n (pc := 16) X dX10_lay_16 rfl 3 rfl ?_
    refine V_iald (v := a9 k) (pc := 17) X dX10_lay_17 2 rfl (vp_in_nI (by omega) (by omega)) (by rw [nI_clamp (by omega)]) ?_
    refine V_iast (f' := upd z (j + k) (a9 k)) (ws' := [ob mq 10 [.long mf, .int (nI mt), .ref mmq, .int (nI mn), .ref mkq, .ref mcq, .ref mhq, .ref maq, .int mz, .int my, .long mS, .ref mzq, .ref mtq, .int (nI mT), .int (nI mA), .ref mrq, .ref muq, .long mF, .int mZ, .ref moq, .int mK, .int mH, .ref mgq, .ref miq, .long mI, .int (bI mB), .ref mlq, .ref msq, .ref meq, .ref mvq], ai g miq 34 (upd z (j + k) (a9 k)), ai g aq9 6 a9]) (pc := 18) X dX10_lay_18 1 rfl (vp_in_nI (by omega) (by omega)) (by rw [nI_clamp (by omega)]) rfl ?_
    refine V_iinc (v := nI (k + 1)) (lv' := [(3, .int (nI (k + 1))), (0, .ref mq), (1, .ref aq9), (2, .int (nI j))]) (pc := 19) X dX10_lay_19 3 rfl (nI_add k 1) (Nat.le_of_ble_eq_true rfl) rfl ?_
    refine V_goto (tgt := 2) (pc := 22) X dX10_lay_22 (by decide) ?_
    refine V_lv [1, 2, 3, 0] rfl ?_
    exact ih2 (k + 1, upd z (j + k) (a9 k)) ⟨(by
          try dsimp only
          all_goals omega), (by
          try dsimp only
          rw [hz]; exact cpJ_s _ _ _ _)⟩ (by
          try dsimp only
          all_goals omega)
set_option maxHeartbeats 4000000 in
set_option maxRecDepth 100000 in
theorem c_X10_gives (l : Launch) (g : XG) (mq : Nat) (mf : Int64) (mt : Nat) (mmq : Nat) (mn : Nat) (mkq : Nat) (mcq : Nat) (mhq : Nat) (maq : Nat) (mz : Int32) (my : Int32) (mS : Int64) (mzq : Nat) (mtq : Nat) (mT : Nat) (mA : Nat) (mrq : Nat) (muq : Nat) (mF : Int64) (mZ : Int32) (moq : Nat) (mK : Int32) (mH : Int32) (mgq : Nat) (miq : Nat) (mI : Int64) (mB : Bool) (mlq : Nat) (msq : Nat) (meq : Nat) (mvq : Nat) (mim : Nat → Int32) (aq9 : Nat) (a9 : Nat → Int32) (j : Nat) (hj : j + 6 ≤ 34) : Ke l g yX10_gives wsX10_gives ({ frames := 0, cells := 0, slots := 0, locals := 0 } : Room) 0 0 [.ref mq, .int (nI j), .ref aq9] [ob mq 10 [.long mf, .int (nI mt), .ref mmq, .int (nI mn), .ref mkq, .ref mcq, .ref mhq, .ref maq, .int mz, .int my, .long mS, .ref mzq, .ref mtq, .int (nI mT), .int (nI mA), .ref mrq, .ref muq, .long mF, .int mZ, .ref moq, .int mK, .int mH, .ref mgq, .ref miq, .long mI, .int (bI mB), .ref mlq, .ref msq, .ref meq, .ref mvq], ai g miq 34 mim, ai g aq9 6 a9] (fun u : Unit => some (.int (nI (j + 6)))) (fun u => [ob mq 10 [.long mf, .int (nI mt), .ref mmq, .int (nI mn), .ref mkq, .ref mcq, .ref mhq, .ref maq, .int mz, .int my, .long mS, .ref mzq, .ref mtq, .int (nI mT), .int (nI mA), .ref mrq, .ref muq, .long mF, .int mZ, .ref moq, .int mK, .int mH, .ref mgq, .ref miq, .long mI, .int (bI mB), .ref mlq, .ref msq, .ref meq, .ref mvq], ai g miq 34 mim, ai g aq9 6 (cpF a9 (fun q => mim (j + q)) 6)]) (fun u => True) := by
  refine Ke.of (cc := cX10_gives) (maxL := 4) (ret := (some .int)) (lv := [(0, .ref mq), (1, .int (nI j)), (2, .ref aq9)]) RX10 rfl (by decide) rfl (Nat.le_of_ble_eq_true rfl) rfl ?_
  intro p e s m below meth c A sz hA9 X hr hin2
  have in10 : ∀ w ∈ u_ws RX10 TX10 30, w ∈ wsX10_gives := by decide +kernel
  refine V_iconst (v := 0) (pc := 0) X dX10_gives_0 (by decide) ?_
  refine V_istore_n (lv' := [(3, .int 0), (0, .ref mq), (1, .int (nI j)), (2, .ref aq9)]) (pc := 1) X dX10_gives_1 rfl (Nat.le_of_ble_eq_true rfl) rfl ?_
  refine V_loop (pc := 2) (σ := Nat × (Nat → Int32)) (fun v9 => [(0, .ref mq), (1, .int (nI j)), (2, .ref aq9), (3, .int (nI v9.1))]) (fun v9 => [ob mq 10 [.long mf, .int (nI mt), .ref mmq, .int (nI mn), .ref mkq, .ref mcq, .ref mhq, .ref maq, .int mz, .int my, .long mS, .ref mzq, .ref mtq, .int (nI mT), .int (nI mA), .ref mrq, .ref muq, .long mF, .int mZ, .ref moq, .int mK, .int mH, .ref mgq, .ref miq, .long mI, .int (bI mB), .ref mlq, .ref msq, .ref meq, .ref mvq], ai g miq 34 mim, ai g aq9 6 v9.2]) (fun v9 => (v9.1 ≤ 6) ∧ (v9.2 = cpF a9 (fun q => mim (j + q)) v9.1)) (fun v9 => 6 - v9.1) (0, a9) ⟨(by
        try dsimp only
        all_goals omega), (by
        try dsimp only
        exact cpF_0 _ _)⟩ rfl [1, 2, 3, 0] rfl ?_
  rintro ⟨k, z⟩ ⟨hk, hz⟩ ih2
  try dsimp only at hk
  try dsimp only at hz
  refine V_eqw (ws2 := [ob mq 10 [.long mf, .int (nI mt), .ref mmq, .int (nI mn), .ref mkq, .ref mcq, .ref mhq, .ref maq, .int mz, .int my, .long mS, .ref mzq, .ref mtq, .int (nI mT), .int (nI mA), .ref mrq, .ref muq, .long mF, .int mZ, .ref moq, .int mK, .int mH, .ref mgq, .ref miq, .long mI, .int (bI mB), .ref mlq, .ref msq, .ref meq, .ref mvq], ai g miq 34 mim, ai g aq9 6 z]) rfl (V_eql (lv' := [(0, .ref mq), (1, .int (nI j)), (2, .ref aq9), (3, .int (nI k))]) rfl ?_)
  refine V_iload_n (pc := 2) X dX10_gives_2 rfl 3 rfl ?_
  refine V_bipush (v := 6) (pc := 3) X dX10_gives_3 (by decide) ?_
  refine V_icmp_ge (tgt := 25) (pc := 5) X dX10_gives_5 (by decide) (fun c_1 => ?_) (fun c_1 => ?_)
  · skip
    have n_2 : 6 ≤ k := nJ_le (a := 6) (b := k) (by omega) (by omega) c_1
    refine V_iload_n (pc := 25) X dX10_gives_25 rfl 1 rfl ?_
    refine V_bipush (v := 6) (pc := 26) X dX10_gives_26 (by decide) ?_
    refine V_iadd (pc := 28) X dX10_gives_28 ?_
    refine V_seti (y := nI (j + 6)) (nI_add j 6) ?_
    exact Ve_iret (pc := 29) X hA9 dX10_gives_29 hr () (by first | rfl | (simp [n_2]; done)) trivial (by rw [hz, show k = 6 by omega])
  · skip
    have n_3 : k < 6 := nJ_nle (a := 6) (b := k) (by omega) (by omega) c_1
    refine V_aload_n (pc := 8) X dX10_gives_8 rfl 2 rfl ?_
    refine V_iload_n (pc := 9) X dX10_gives_9 rfl 3 rfl ?_
    refine V_aload_n (pc := 10) X dX10_gives_10 rfl 0 rfl ?_
    refine V_get (C := RX10) (T := TX10) (N := 30) (ci := 10) (pc := 11) X dX10_gives_11 in10 0 rfl rfl 23 (by decide) (by decide +kernel) rfl rfl ?_
    refine V_iload_n (pc := 14) X dX10_gives_14 rfl 1 rfl ?_
    refine V_iload_n (pc := 15) X dX10_gives_15 rfl 3 rfl ?_
    refine V_iadd (pc := 16) X dX10_gives_16 ?_
    refine V_seti (y := nI (j + k)) (nI_add j k) ?_
    refine V_iald (v := mim (j + k)) (pc := 17) X dX10_gives_17 1 rfl (vp_in_nI (by omega) (by omega)) (by rw [nI_clamp (by omega)]) ?_
    refine V_iast (f' := upd z k (mim (j + k))) (ws' := [ob mq 10 [.long mf, .int (nI mt), .ref mmq, .int (nI mn), .ref mkq, .ref mcq, .ref mhq, .ref maq, .int mz, .int my, .long mS, .ref mzq, .ref mtq, .int (nI mT), .int (nI mA), .ref mrq, .ref muq, .long mF, .int mZ, .ref moq, .int mK, .int mH, .ref mgq, .ref miq, .long mI, .int (bI mB), .ref mlq, .ref msq, .ref meq, .ref mvq], ai g miq 34 mim, ai g aq9 6 (upd z k (mim (j + k)))]) (pc := 18) X dX10_gives_18 2 rfl (vp_in_nI (by omega) (by omega)) (by rw [nI_clamp (by omega)]) rfl ?_
    refine V_iinc (v := nI (k + 1)) (lv' := [(3, .int (nI (k + 1))), (0, .ref mq), (1, .int (nI j)), (2, .ref aq9)]) (pc := 19) X dX10_gives_19 3 rfl (nI_add k 1) (Nat.le_of_ble_eq_true rfl) rfl ?_
    refine V_goto (tgt := 2) (pc := 22) X dX10_gives_22 (by decide) ?_
    refine V_lv [1, 2, 3, 0] rfl ?_
    exact ih2 (k + 1, upd z k (mim (j + k))) ⟨(by
          try dsimp only
          all_goals omega), (by
          try dsimp only
          rw [hz]; exact cpF_s a9 (fun q => mim (j + q)) k)⟩ (by
          try dsimp only
          all_goals omega)
set_option maxHeartbeats 4000000 in
set_option maxRecDepth 100000 in
theorem c_X10_image (l : Launch) (g : XG) (mq : Nat) (mf : Int64) (mt : Nat) (mmq : Nat) (mn : Nat) (mkq : Nat) (mcq : Nat) (mhq : Nat) (maq : Nat) (mz : Int32) (my : Int32) (mS : Int64) (mzq : Nat) (mtq : Nat) (mT : Nat) (mA : Nat) (mrq : Nat) (muq : Nat) (mF : Int64) (mZ : Int32) (moq : Nat) (mK : Int32) (mH : Int32) (mgq : Nat) (miq : Nat) (mI : Int64) (mB : Bool) (mlq : Nat) (msq : Nat) (meq : Nat) (mvq : Nat) (mm : Nat → Int32) (mkd : Nat → Int32) (mce : Nat → Int32) (mho : Nat → Int32) (mac : Nat → Int32) (mim : Nat → Int32)  : Ke l g yX10_image wsX10_image ({ frames := 1, cells := 0, slots := 0, locals := 23 } : Room) 0 0 [.ref mq] [ob mq 10 [.long mf, .int (nI mt), .ref mmq, .int (nI mn), .ref mkq, .ref mcq, .ref mhq, .ref maq, .int mz, .int my, .long mS, .ref mzq, .ref mtq, .int (nI mT), .int (nI mA), .ref mrq, .ref muq, .long mF, .int mZ, .ref moq, .int mK, .int mH, .ref mgq, .ref miq, .long mI, .int (bI mB), .ref mlq, .ref msq, .ref meq, .ref mvq], ai g mmq 6 mm, ai g mkq 6 mkd, ai g mcq 6 mce, ai g mhq 6 mho, ai g maq 6 mac, ai g miq 34 mim] (fun u : Unit => some (.int 1)) (fun u => [ob mq 10 [.long mf, .int (nI mt), .ref mmq, .int (nI mn), .ref mkq, .ref mcq, .ref mhq, .ref maq, .int mz, .int my, .long mS, .ref mzq, .ref mtq, .int (nI mT), .int (nI mA), .ref mrq, .ref muq, .long mF, .int mZ, .ref moq, .int mK, .int mH, .ref mgq, .ref miq, .long mf, .int 1, .ref mlq, .ref msq, .ref meq, .ref mvq], ai g mmq 6 mm, ai g mkq 6 mkd, ai g mcq 6 mce, ai g mhq 6 mho, ai g maq 6 mac, ai g miq 34 (upd (upd (upd (upd (cpJ (cpJ (cpJ (cpJ (cpJ mim mm 0 6) mkd 6 6) mce 12 6) mho 18 6) mac 24 6) 30 (nI mt)) 31 (nI mn)) 32 mz) 33 my)]) (fun u => True) := by
  refine Ke.of (cc := cX10_image) (maxL := 2) (ret := (some .int)) (lv := [(0, .ref mq)]) RX10 rfl (by decide) rfl (Nat.le_of_ble_eq_true rfl) rfl ?_
  intro p e s m below meth c A sz hA9 X hr hin2
  have in10 : ∀ w ∈ u_ws RX10 TX10 30, w ∈ wsX10_image := by decide +kernel
  refine V_aload_n (pc := 0) X dX10_image_0 rfl 0 rfl ?_
  refine V_aload_n (pc := 1) X dX10_image_1 rfl 0 rfl ?_
  refine V_get (C := RX10) (T := TX10) (N := 30) (ci := 10) (pc := 2) X dX10_image_2 in10 0 rfl rfl 2 (by decide) (by decide +kernel) rfl rfl ?_
  refine V_iconst (v := 0) (pc := 5) X dX10_image_5 (by decide) ?_
  refine V_ve (pc := 6) (nA := 2) (As := [.ref mmq, .int 0]) (rest := []) X (c_X10_lay l g (mq := mq) (mf := mf) (mt := mt) (mmq := mmq) (mn := mn) (mkq := mkq) (mcq := mcq) (mhq := mhq) (maq := maq) (mz := mz) (my := my) (mS := mS) (mzq := mzq) (mtq := mtq) (mT := mT) (mA := mA) (mrq := mrq) (muq := muq) (mF := mF) (mZ := mZ) (moq := moq) (mK := mK) (mH := mH) (mgq := mgq) (miq := miq) (mI := mI) (mB := mB) (mlq := mlq) (msq := msq) (meq := meq) (mvq := mvq) (mim := mim) (aq9 := mmq) (a9 := mm) (j := 0) (hj := by first | assumption | omega)) gX10_image_X10_lay dX10_image_6 rfl (by decide +kernel) rfl (qb := 0) rfl rfl rfl ⟨rfl, rfl⟩ ⟨Nat.le_of_ble_eq_true rfl, Nat.le_of_ble_eq_true rfl⟩ ⟨Nat.le_of_ble_eq_true rfl, Nat.le_of_ble_eq_true rfl⟩ [0, 6, 1] (by decide) rfl [2, 3, 4, 5] (by decide) (by decide) [ai g mkq 6 mkd, ai g mcq 6 mce, ai g mhq 6 mho, ai g maq 6 mac] rfl [4, 6, 0, 1, 2, 3, 5] (by decide) (fun u => [ob mq 10 [.long mf, .int (nI mt), .ref mmq, .int (nI mn), .ref mkq, .ref mcq, .ref mhq, .ref maq, .int mz, .int my, .long mS, .ref mzq, .ref mtq, .int (nI mT), .int (nI mA), .ref mrq, .ref muq, .long mF, .int mZ, .ref moq, .int mK, .int mH, .ref mgq, .ref miq, .long mI, .int (bI mB), .ref mlq, .ref msq, .ref meq, .ref mvq], ai g mmq 6 mm, ai g mkq 6 mkd, ai g mcq 6 mce, ai g mhq 6 mho, ai g maq 6 mac, ai g miq 34 (cpJ mim mm 0 6)]) (fun _ => rfl) rfl (Nat.le_of_ble_eq_true rfl) (fun u => [.int (nI (0 + 6))]) (fun _ => rfl) (fun u hu_1 => ?_)
  refine V_eqw (ws2 := [ob mq 10 [.long mf, .int (nI mt), .ref mmq, .int (nI mn), .ref mkq, .ref mcq, .ref mhq, .ref maq, .int mz, .int my, .long mS, .ref mzq, .ref mtq, .int (nI mT), .int (nI mA), .ref mrq, .ref muq, .long mF, .int mZ, .ref moq, .int mK, .int mH, .ref mgq, .ref miq, .long mI, .int (bI mB), .ref mlq, .ref msq, .ref meq, .ref mvq], ai g mmq 6 mm, ai g mkq 6 mkd, ai g mcq 6 mce, ai g mhq 6 mho, ai g maq 6 mac, ai g miq 34 (cpJ mim mm 0 6)]) rfl (V_eqs (st2 := [.int (nI (0 + 6))]) rfl ?_)
  refine V_istore_n (lv' := [(1, .int (nI (0 + 6))), (0, .ref mq)]) (pc := 9) X dX10_image_9 rfl (Nat.le_of_ble_eq_true rfl) rfl ?_
  refine V_aload_n (pc := 10) X dX10_image_10 rfl 1 rfl ?_
  refine V_aload_n (pc := 11) X dX10_image_11 rfl 1 rfl ?_
  refine V_get (C := RX10) (T := TX10) (N := 30) (ci := 10) (pc := 12) X dX10_image_12 in10 0 rfl rfl 4 (by decide) (by decide +kernel) rfl rfl ?_
  refine V_iload_n (pc := 15) X dX10_image_15 rfl 0 rfl ?_
  refine V_ve (pc := 16) (nA := 2) (As := [.ref mkq, .int (nI (0 + 6))]) (rest := []) X (c_X10_lay l g (mq := mq) (mf := mf) (mt := mt) (mmq := mmq) (mn := mn) (mkq := mkq) (mcq := mcq) (mhq := mhq) (maq := maq) (mz := mz) (my := my) (mS := mS) (mzq := mzq) (mtq := mtq) (mT := mT) (mA := mA) (mrq := mrq) (muq := muq) (mF := mF) (mZ := mZ) (moq := moq) (mK := mK) (mH := mH) (mgq := mgq) (miq := miq) (mI := mI) (mB := mB) (mlq := mlq) (msq := msq) (meq := meq) (mvq := mvq) (mim := cpJ mim mm 0 6) (aq9 := mkq) (a9 := mkd) (j := 0 + 6) (hj := by first | assumption | omega)) gX10_image_X10_lay dX10_image_16 rfl (by decide +kernel) rfl (qb := 0) rfl rfl rfl ⟨rfl, rfl⟩ ⟨Nat.le_of_ble_eq_true rfl, Nat.le_of_ble_eq_true rfl⟩ ⟨Nat.le_of_ble_eq_true rfl, Nat.le_of_ble_eq_true rfl⟩ [0, 6, 2] (by decide) rfl [1, 3, 4, 5] (by decide) (by decide) [ai g mmq 6 mm, ai g mcq 6 mce, ai g mhq 6 mho, ai g maq 6 mac] rfl [4, 0, 6, 1, 2, 3, 5] (by decide) (fun u => [ob mq 10 [.long mf, .int (nI mt), .ref mmq, .int (nI mn), .ref mkq, .ref mcq, .ref mhq, .ref maq, .int mz, .int my, .long mS, .ref mzq, .ref mtq, .int (nI mT), .int (nI mA), .ref mrq, .ref muq, .long mF, .int mZ, .ref moq, .int mK, .int mH, .ref mgq, .ref miq, .long mI, .int (bI mB), .ref mlq, .ref msq, .ref meq, .ref mvq], ai g mmq 6 mm, ai g mkq 6 mkd, ai g mcq 6 mce, ai g mhq 6 mho, ai g maq 6 mac, ai g miq 34 (cpJ (cpJ mim mm 0 6) mkd (0 + 6) 6)]) (fun _ => rfl) rfl (Nat.le_of_ble_eq_true rfl) (fun u => [.int (nI ((0 + 6) + 6))]) (fun _ => rfl) (fun u hu_2 => ?_)
  refine V_eqw (ws2 := [ob mq 10 [.long mf, .int (nI mt), .ref mmq, .int (nI mn), .ref mkq, .ref mcq, .ref mhq, .ref maq, .int mz, .int my, .long mS, .ref mzq, .ref mtq, .int (nI mT), .int (nI mA), .ref mrq, .ref muq, .long mF, .int mZ, .ref moq, .int mK, .int mH, .ref mgq, .ref miq, .long mI, .int (bI mB), .ref mlq, .ref msq, .ref meq, .ref mvq], ai g mmq 6 mm, ai g mkq 6 mkd, ai g mcq 6 mce, ai g mhq 6 mho, ai g maq 6 mac, ai g miq 34 (cpJ (cpJ mim mm 0 6) mkd (0 + 6) 6)]) rfl (V_eqs (st2 := [.int (nI ((0 + 6) + 6))]) rfl ?_)
  refine V_istore_n (lv' := [(1, .int (nI ((0 + 6) + 6))), (0, .ref mq)]) (pc := 19) X dX10_image_19 rfl (Nat.le_of_ble_eq_true rfl) rfl ?_
  refine V_aload_n (pc := 20) X dX10_image_20 rfl 1 rfl ?_
  refine V_aload_n (pc := 21) X dX10_image_21 rfl 1 rfl ?_
  refine V_get (C := RX10) (T := TX10) (N := 30) (ci := 10) (pc := 22) X dX10_image_22 in10 0 rfl rfl 5 (by decide) (by decide +kernel) rfl rfl ?_
  refine V_iload_n (pc := 25) X dX10_image_25 rfl 0 rfl ?_
  refine V_ve (pc := 26) (nA := 2) (As := [.ref mcq, .int (nI ((0 + 6) + 6))]) (rest := []) X (c_X10_lay l g (mq := mq) (mf := mf) (mt := mt) (mmq := mmq) (mn := mn) (mkq := mkq) (mcq := mcq) (mhq := mhq) (maq := maq) (mz := mz) (my := my) (mS := mS) (mzq := mzq) (mtq := mtq) (mT := mT) (mA := mA) (mrq := mrq) (muq := muq) (mF := mF) (mZ := mZ) (moq := moq) (mK := mK) (mH := mH) (mgq := mgq) (miq := miq) (mI := mI) (mB := mB) (mlq := mlq) (msq := msq) (meq := meq) (mvq := mvq) (mim := cpJ (cpJ mim mm 0 6) mkd (0 + 6) 6) (aq9 := mcq) (a9 := mce) (j := (0 + 6) + 6) (hj := by first | assumption | omega)) gX10_image_X10_lay dX10_image_26 rfl (by decide +kernel) rfl (qb := 0) rfl rfl rfl ⟨rfl, rfl⟩ ⟨Nat.le_of_ble_eq_true rfl, Nat.le_of_ble_eq_true rfl⟩ ⟨Nat.le_of_ble_eq_true rfl, Nat.le_of_ble_eq_true rfl⟩ [0, 6, 3] (by decide) rfl [1, 2, 4, 5] (by decide) (by decide) [ai g mmq 6 mm, ai g mkq 6 mkd, ai g mhq 6 mho, ai g maq 6 mac] rfl [4, 0, 1, 6, 2, 3, 5] (by decide) (fun u => [ob mq 10 [.long mf, .int (nI mt), .ref mmq, .int (nI mn), .ref mkq, .ref mcq, .ref mhq, .ref maq, .int mz, .int my, .long mS, .ref mzq, .ref mtq, .int (nI mT), .int (nI mA), .ref mrq, .ref muq, .long mF, .int mZ, .ref moq, .int mK, .int mH, .ref mgq, .ref miq, .long mI, .int (bI mB), .ref mlq, .ref msq, .ref meq, .ref mvq], ai g mmq 6 mm, ai g mkq 6 mkd, ai g mcq 6 mce, ai g mhq 6 mho, ai g maq 6 mac, ai g miq 34 (cpJ (cpJ (cpJ mim mm 0 6) mkd (0 + 6) 6) mce ((0 + 6) + 6) 6)]) (fun _ => rfl) rfl (Nat.le_of_ble_eq_true rfl) (fun u => [.int (nI (((0 + 6) + 6) + 6))]) (fun _ => rfl) (fun u hu_3 => ?_)
  refine V_eqw (ws2 := [ob mq 10 [.long mf, .int (nI mt), .ref mmq, .int (nI mn), .ref mkq, .ref mcq, .ref mhq, .ref maq, .int mz, .int my, .long mS, .ref mzq, .ref mtq, .int (nI mT), .int (nI mA), .ref mrq, .ref muq, .long mF, .int mZ, .ref moq, .int mK, .int mH, .ref mgq, .ref miq, .long mI, .int (bI mB), .ref mlq, .ref msq, .ref meq, .ref mvq], ai g mmq 6 mm, ai g mkq 6 mkd, ai g mcq 6 mce, ai g mhq 6 mho, ai g maq 6 mac, ai g miq 34 (cpJ (cpJ (cpJ mim mm 0 6) mkd (0 + 6) 6) mce ((0 + 6) + 6) 6)]) rfl (V_eqs (st2 := [.int (nI (((0 + 6) + 6) + 6))]) rfl ?_)
  refine V_istore_n (lv' := [(1, .int (nI (((0 + 6) + 6) + 6))), (0, .ref mq)]) (pc := 29) X dX10_image_29 rfl (Nat.le_of_ble_eq_true rfl) rfl ?_
  refine V_aload_n (pc := 30) X dX10_image_30 rfl 1 rfl ?_
  refine V_aload_n (pc := 31) X dX10_image_31 rfl 1 rfl ?_
  refine V_get (C := RX10) (T := TX10) (N := 30) (ci := 10) (pc := 32) X dX10_image_32 in10 0 rfl rfl 6 (by decide) (by decide +kernel) rfl rfl ?_
  refine V_iload_n (pc := 35) X dX10_image_35 rfl 0 rfl ?_
  refine V_ve (pc := 36) (nA := 2) (As := [.ref mhq, .int (nI (((0 + 6) + 6) + 6))]) (rest := []) X (c_X10_lay l g (mq := mq) (mf := mf) (mt := mt) (mmq := mmq) (mn := mn) (mkq := mkq) (mcq := mcq) (mhq := mhq) (maq := maq) (mz := mz) (my := my) (mS := mS) (mzq := mzq) (mtq := mtq) (mT := mT) (mA := mA) (mrq := mrq) (muq := muq) (mF := mF) (mZ := mZ) (moq := moq) (mK := mK) (mH := mH) (mgq := mgq) (miq := miq) (mI := mI) (mB := mB) (mlq := mlq) (msq := msq) (meq := meq) (mvq := mvq) (mim := cpJ (cpJ (cpJ mim mm 0 6) mkd (0 + 6) 6) mce ((0 + 6) + 6) 6) (aq9 := mhq) (a9 := mho) (j := ((0 + 6) + 6) + 6) (hj := by first | assumption | omega)) gX10_image_X10_lay dX10_image_36 rfl (by decide +kernel) rfl (qb := 0) rfl rfl rfl ⟨rfl, rfl⟩ ⟨Nat.le_of_ble_eq_true rfl, Nat.le_of_ble_eq_true rfl⟩ ⟨Nat.le_of_ble_eq_true rfl, Nat.le_of_ble_eq_true rfl⟩ [0, 6, 4] (by decide) rfl [1, 2, 3, 5] (by decide) (by decide) [ai g mmq 6 mm, ai g mkq 6 mkd, ai g mcq 6 mce, ai g maq 6 mac] rfl [4, 0, 1, 2, 6, 3, 5] (by decide) (fun u => [ob mq 10 [.long mf, .int (nI mt), .ref mmq, .int (nI mn), .ref mkq, .ref mcq, .ref mhq, .ref maq, .int mz, .int my, .long mS, .ref mzq, .ref mtq, .int (nI mT), .int (nI mA), .ref mrq, .ref muq, .long mF, .int mZ, .ref moq, .int mK, .int mH, .ref mgq, .ref miq, .long mI, .int (bI mB), .ref mlq, .ref msq, .ref meq, .ref mvq], ai g mmq 6 mm, ai g mkq 6 mkd, ai g mcq 6 mce, ai g mhq 6 mho, ai g maq 6 mac, ai g miq 34 (cpJ (cpJ (cpJ (cpJ mim mm 0 6) mkd (0 + 6) 6) mce ((0 + 6) + 6) 6) mho (((0 + 6) + 6) + 6) 6)]) (fun _ => rfl) rfl (Nat.le_of_ble_eq_true rfl) (fun u => [.int (nI ((((0 + 6) + 6) + 6) + 6))]) (fun _ => rfl) (fun u hu_4 => ?_)
  refine V_eqw (ws2 := [ob mq 10 [.long mf, .int (nI mt), .ref mmq, .int (nI mn), .ref mkq, .ref mcq, .ref mhq, .ref maq, .int mz, .int my, .long mS, .ref mzq, .ref mtq, .int (nI mT), .int (nI mA), .ref mrq, .ref muq, .long mF, .int mZ, .ref moq, .int mK, .int mH, .ref mgq, .ref miq, .long mI, .int (bI mB), .ref mlq, .ref msq, .ref meq, .ref mvq], ai g mmq 6 mm, ai g mkq 6 mkd, ai g mcq 6 mce, ai g mhq 6 mho, ai g maq 6 mac, ai g miq 34 (cpJ (cpJ (cpJ (cpJ mim mm 0 6) mkd (0 + 6) 6) mce ((0 + 6) + 6) 6) mho (((0 + 6) + 6) + 6) 6)]) rfl (V_eqs (st2 := [.int (nI ((((0 + 6) + 6) + 6) + 6))]) rfl ?_)
  refine V_istore_n (lv' := [(1, .int (nI ((((0 + 6) + 6) + 6) + 6))), (0, .ref mq)]) (pc := 39) X dX10_image_39 rfl (Nat.le_of_ble_eq_true rfl) rfl ?_
  refine V_aload_n (pc := 40) X dX10_image_40 rfl 1 rfl ?_
  refine V_aload_n (pc := 41) X dX10_image_41 rfl 1 rfl ?_
  refine V_get (C := RX10) (T := TX10) (N := 30) (ci := 10) (pc := 42) X dX10_image_42 in10 0 rfl rfl 7 (by decide) (by decide +kernel) rfl rfl ?_
  refine V_iload_n (pc := 45) X dX10_image_45 rfl 0 rfl ?_
  refine V_ve (pc := 46) (nA := 2) (As := [.ref maq, .int (nI ((((0 + 6) + 6) + 6) + 6))]) (rest := []) X (c_X10_lay l g (mq := mq) (mf := mf) (mt := mt) (mmq := mmq) (mn := mn) (mkq := mkq) (mcq := mcq) (mhq := mhq) (maq := maq) (mz := mz) (my := my) (mS := mS) (mzq := mzq) (mtq := mtq) (mT := mT) (mA := mA) (mrq := mrq) (muq := muq) (mF := mF) (mZ := mZ) (moq := moq) (mK := mK) (mH := mH) (mgq := mgq) (miq := miq) (mI := mI) (mB := mB) (mlq := mlq) (msq := msq) (meq := meq) (mvq := mvq) (mim := cpJ (cpJ (cpJ (cpJ mim mm 0 6) mkd (0 + 6) 6) mce ((0 + 6) + 6) 6) mho (((0 + 6) + 6) + 6) 6) (aq9 := maq) (a9 := mac) (j := (((0 + 6) + 6) + 6) + 6) (hj := by first | assumption | omega)) gX10_image_X10_lay dX10_image_46 rfl (by decide +kernel) rfl (qb := 0) rfl rfl rfl ⟨rfl, rfl⟩ ⟨Nat.le_of_ble_eq_true rfl, Nat.le_of_ble_eq_true rfl⟩ ⟨Nat.le_of_ble_eq_true rfl, Nat.le_of_ble_eq_true rfl⟩ [0, 6, 5] (by decide) rfl [1, 2, 3, 4] (by decide) (by decide) [ai g mmq 6 mm, ai g mkq 6 mkd, ai g mcq 6 mce, ai g mhq 6 mho] rfl [4, 0, 1, 2, 3, 6, 5] (by decide) (fun u => [ob mq 10 [.long mf, .int (nI mt), .ref mmq, .int (nI mn), .ref mkq, .ref mcq, .ref mhq, .ref maq, .int mz, .int my, .long mS, .ref mzq, .ref mtq, .int (nI mT), .int (nI mA), .ref mrq, .ref muq, .long mF, .int mZ, .ref moq, .int mK, .int mH, .ref mgq, .ref miq, .long mI, .int (bI mB), .ref mlq, .ref msq, .ref meq, .ref mvq], ai g mmq 6 mm, ai g mkq 6 mkd, ai g mcq 6 mce, ai g mhq 6 mho, ai g maq 6 mac, ai g miq 34 (cpJ (cpJ (cpJ (cpJ (cpJ mim mm 0 6) mkd (0 + 6) 6) mce ((0 + 6) + 6) 6) mho (((0 + 6) + 6) + 6) 6) mac ((((0 + 6) + 6) + 6) + 6) 6)]) (fun _ => rfl) rfl (Nat.le_of_ble_eq_true rfl) (fun u => [.int (nI (((((0 + 6) + 6) + 6) + 6) + 6))]) (fun _ => rfl) (fun u hu_5 => ?_)
  refine V_eqw (ws2 := [ob mq 10 [.long mf, .int (nI mt), .ref mmq, .int (nI mn), .ref mkq, .ref mcq, .ref mhq, .ref maq, .int mz, .int my, .long mS, .ref mzq, .ref mtq, .int (nI mT), .int (nI mA), .ref mrq, .ref muq, .long mF, .int mZ, .ref moq, .int mK, .int mH, .ref mgq, .ref miq, .long mI, .int (bI mB), .ref mlq, .ref msq, .ref meq, .ref mvq], ai g mmq 6 mm, ai g mkq 6 mkd, ai g mcq 6 mce, ai g mhq 6 mho, ai g maq 6 mac, ai g miq 34 (cpJ (cpJ (cpJ (cpJ (cpJ mim mm 0 6) mkd (0 + 6) 6) mce ((0 + 6) + 6) 6) mho (((0 + 6) + 6) + 6) 6) mac ((((0 + 6) + 6) + 6) + 6) 6)]) rfl (V_eqs (st2 := [.int (nI (((((0 + 6) + 6) + 6) + 6) + 6))]) rfl ?_)
  refine V_istore_n (lv' := [(1, .int (nI (((((0 + 6) + 6) + 6) + 6) + 6))), (0, .ref mq)]) (pc := 49) X dX10_image_49 rfl (Nat.le_of_ble_eq_true rfl) rfl ?_
  refine V_aload_n (pc := 50) X dX10_image_50 rfl 1 rfl ?_
  refine V_get (C := RX10) (T := TX10) (N := 30) (ci := 10) (pc := 51) X dX10_image_51 in10 0 rfl rfl 23 (by decide) (by decide +kernel) rfl rfl ?_
  refine V_iload_n (pc := 54) X dX10_image_54 rfl 0 rfl ?_
  refine V_aload_n (pc := 55) X dX10_image_55 rfl 1 rfl ?_
  refine V_get (C := RX10) (T := TX10) (N := 30) (ci := 10) (pc := 56) X dX10_image_56 in10 0 rfl rfl 1 (by decide) (by decide +kernel) rfl rfl ?_
  refine V_iast (f' := upd (cpJ (cpJ (cpJ (cpJ (cpJ mim mm 0 6) mkd (0 + 6) 6) mce ((0 + 6) + 6) 6) mho (((0 + 6) + 6) + 6) 6) mac ((((0 + 6) + 6) + 6) + 6) 6) (((((0 + 6) + 6) + 6) + 6) + 6) (nI mt)) (ws' := [ob mq 10 [.long mf, .int (nI mt), .ref mmq, .int (nI mn), .ref mkq, .ref mcq, .ref mhq, .ref maq, .int mz, .int my, .long mS, .ref mzq, .ref mtq, .int (nI mT), .int (nI mA), .ref mrq, .ref muq, .long mF, .int mZ, .ref moq, .int mK, .int mH, .ref mgq, .ref miq, .long mI, .int (bI mB), .ref mlq, .ref msq, .ref meq, .ref mvq], ai g mmq 6 mm, ai g mkq 6 mkd, ai g mcq 6 mce, ai g mhq 6 mho, ai g maq 6 mac, ai g miq 34 (upd (cpJ (cpJ (cpJ (cpJ (cpJ mim mm 0 6) mkd (0 + 6) 6) mce ((0 + 6) + 6) 6) mho (((0 + 6) + 6) + 6) 6) mac ((((0 + 6) + 6) + 6) + 6) 6) (((((0 + 6) + 6) + 6) + 6) + 6) (nI mt))]) (pc := 59) X dX10_image_59 6 rfl (vp_in_nI (by omega) (by omega)) (by rw [nI_clamp (by omega)]) rfl ?_
  refine V_aload_n (pc := 60) X dX10_image_60 rfl 1 rfl ?_
  refine V_get (C := RX10) (T := TX10) (N := 30) (ci := 10) (pc := 61) X dX10_image_61 in10 0 rfl rfl 23 (by decide) (by decide +kernel) rfl rfl ?_
  refine V_iload_n (pc := 64) X dX10_image_64 rfl 0 rfl ?_
  refine V_iconst (v := 1) (pc := 65) X dX10_image_65 (by decide) ?_
  refine V_iadd (pc := 66) X dX10_image_66 ?_
  refine V_seti (y := nI ((((((0 + 6) + 6) + 6) + 6) + 6) + 1)) (nI_add (((((0 + 6) + 6) + 6) + 6) + 6) 1) ?_
  refine V_aload_n (pc := 67) X dX10_image_67 rfl 1 rfl ?_
  refine V_get (C := RX10) (T := TX10) (N := 30) (ci := 10) (pc := 68) X dX10_image_68 in10 0 rfl rfl 3 (by decide) (by decide +kernel) rfl rfl ?_
  refine V_iast (f' := upd (upd (cpJ (cpJ (cpJ (cpJ (cpJ mim mm 0 6) mkd (0 + 6) 6) mce ((0 + 6) + 6) 6) mho (((0 + 6) + 6) + 6) 6) mac ((((0 + 6) + 6) + 6) + 6) 6) (((((0 + 6) + 6) + 6) + 6) + 6) (nI mt)) ((((((0 + 6) + 6) + 6) + 6) + 6) + 1) (nI mn)) (ws' := [ob mq 10 [.long mf, .int (nI mt), .ref mmq, .int (nI mn), .ref mkq, .ref mcq, .ref mhq, .ref maq, .int mz, .int my, .long mS, .ref mzq, .ref mtq, .int (nI mT), .int (nI mA), .ref mrq, .ref muq, .long mF, .int mZ, .ref moq, .int mK, .int mH, .ref mgq, .ref miq, .long mI, .int (bI mB), .ref mlq, .ref msq, .ref meq, .ref mvq], ai g mmq 6 mm, ai g mkq 6 mkd, ai g mcq 6 mce, ai g mhq 6 mho, ai g maq 6 mac, ai g miq 34 (upd (upd (cpJ (cpJ (cpJ (cpJ (cpJ mim mm 0 6) mkd (0 + 6) 6) mce ((0 + 6) + 6) 6) mho (((0 + 6) + 6) + 6) 6) mac ((((0 + 6) + 6) + 6) + 6) 6) (((((0 + 6) + 6) + 6) + 6) + 6) (nI mt)) ((((((0 + 6) + 6) + 6) + 6) + 6) + 1) (nI mn))]) (pc := 71) X dX10_image_71 6 rfl (vp_in_nI (by omega) (by omega)) (by rw [nI_clamp (by omega)]) rfl ?_
  refine V_aload_n (pc := 72) X dX10_image_72 rfl 1 rfl ?_
  refine V_get (C := RX10) (T := TX10) (N := 30) (ci := 10) (pc := 73) X dX10_image_73 in10 0 rfl rfl 23 (by decide) (by decide +kernel) rfl rfl ?_
  refine V_iload_n (pc := 76) X dX10_image_76 rfl 0 rfl ?_
  refine V_iconst (v := 2) (pc := 77) X dX10_image_77 (by decide) ?_
  refine V_iadd (pc := 78) X dX10_image_78 ?_
  refine V_seti (y := nI ((((((0 + 6) + 6) + 6) + 6) + 6) + 2)) (nI_add (((((0 + 6) + 6) + 6) + 6) + 6) 2) ?_
  refine V_aload_n (pc := 79) X dX10_image_79 rfl 1 rfl ?_
  refine V_get (C := RX10) (T := TX10) (N := 30) (ci := 10) (pc := 80) X dX10_image_80 in10 0 rfl rfl 8 (by decide) (by decide +kernel) rfl rfl ?_
  refine V_iast (f' := upd (upd (upd (cpJ (cpJ (cpJ (cpJ (cpJ mim mm 0 6) mkd (0 + 6) 6) mce ((0 + 6) + 6) 6) mho (((0 + 6) + 6) + 6) 6) mac ((((0 + 6) + 6) + 6) + 6) 6) (((((0 + 6) + 6) + 6) + 6) + 6) (nI mt)) ((((((0 + 6) + 6) + 6) + 6) + 6) + 1) (nI mn)) ((((((0 + 6) + 6) + 6) + 6) + 6) + 2) mz) (ws' := [ob mq 10 [.long mf, .int (nI mt), .ref mmq, .int (nI mn), .ref mkq, .ref mcq, .ref mhq, .ref maq, .int mz, .int my, .long mS, .ref mzq, .ref mtq, .int (nI mT), .int (nI mA), .ref mrq, .ref muq, .long mF, .int mZ, .ref moq, .int mK, .int mH, .ref mgq, .ref miq, .long mI, .int (bI mB), .ref mlq, .ref msq, .ref meq, .ref mvq], ai g mmq 6 mm, ai g mkq 6 mkd, ai g mcq 6 mce, ai g mhq 6 mho, ai g maq 6 mac, ai g miq 34 (upd (upd (upd (cpJ (cpJ (cpJ (cpJ (cpJ mim mm 0 6) mkd (0 + 6) 6) mce ((0 + 6) + 6) 6) mho (((0 + 6) + 6) + 6) 6) mac ((((0 + 6) + 6) + 6) + 6) 6) (((((0 + 6) + 6) + 6) + 6) + 6) (nI mt)) ((((((0 + 6) + 6) + 6) + 6) + 6) + 1) (nI mn)) ((((((0 + 6) + 6) + 6) + 6) + 6) + 2) mz)]) (pc := 83) X dX10_image_83 6 rfl (vp_in_nI (by omega) (by omega)) (by rw [nI_clamp (by omega)]) rfl ?_
  refine V_aload_n (pc := 84) X dX10_image_84 rfl 1 rfl ?_
  refine V_get (C := RX10) (T := TX10) (N := 30) (ci := 10) (pc := 85) X dX10_image_85 in10 0 rfl rfl 23 (by decide) (by decide +kernel) rfl rfl ?_
  refine V_iload_n (pc := 88) X dX10_image_88 rfl 0 rfl ?_
  refine V_iconst (v := 3) (pc := 89) X dX10_image_89 (by decide) ?_
  refine V_iadd (pc := 90) X dX10_image_90 ?_
  refine V_seti (y := nI ((((((0 + 6) + 6) + 6) + 6) + 6) + 3)) (nI_add (((((0 + 6) + 6) + 6) + 6) + 6) 3) ?_
  refine V_aload_n (pc := 91) X dX10_image_91 rfl 1 rfl ?_
  refine V_get (C := RX10) (T := TX10) (N := 30) (ci := 10) (pc := 92) X dX10_image_92 in10 0 rfl rfl 9 (by decide) (by decide +kernel) rfl rfl ?_
  refine V_iast (f' := upd (upd (upd (upd (cpJ (cpJ (cpJ (cpJ (cpJ mim mm 0 6) mkd (0 + 6) 6) mce ((0 + 6) + 6) 6) mho (((0 + 6) + 6) + 6) 6) mac ((((0 + 6) + 6) + 6) + 6) 6) (((((0 + 6) + 6) + 6) + 6) + 6) (nI mt)) ((((((0 + 6) + 6) + 6) + 6) + 6) + 1) (nI mn)) ((((((0 + 6) + 6) + 6) + 6) + 6) + 2) mz) ((((((0 + 6) + 6) + 6) + 6) + 6) + 3) my) (ws' := [ob mq 10 [.long mf, .int (nI mt), .ref mmq, .int (nI mn), .ref mkq, .ref mcq, .ref mhq, .ref maq, .int mz, .int my, .long mS, .ref mzq, .ref mtq, .int (nI mT), .int (nI mA), .ref mrq, .ref muq, .long mF, .int mZ, .ref moq, .int mK, .int mH, .ref mgq, .ref miq, .long mI, .int (bI mB), .ref mlq, .ref msq, .ref meq, .ref mvq], ai g mmq 6 mm, ai g mkq 6 mkd, ai g mcq 6 mce, ai g mhq 6 mho, ai g maq 6 mac, ai g miq 34 (upd (upd (upd (upd (cpJ (cpJ (cpJ (cpJ (cpJ mim mm 0 6) mkd (0 + 6) 6) mce ((0 + 6) + 6) 6) mho (((0 + 6) + 6) + 6) 6) mac ((((0 + 6) + 6) + 6) + 6) 6) (((((0 + 6) + 6) + 6) + 6) + 6) (nI mt)) ((((((0 + 6) + 6) + 6) + 6) + 6) + 1) (nI mn)) ((((((0 + 6) + 6) + 6) + 6) + 6) + 2) mz) ((((((0 + 6) + 6) + 6) + 6) + 6) + 3) my)]) (pc := 95) X dX10_image_95 6 rfl (vp_in_nI (by omega) (by omega)) (by rw [nI_clamp (by omega)]) rfl ?_
  refine V_aload_n (pc := 96) X dX10_image_96 rfl 1 rfl ?_
  refine V_aload_n (pc := 97) X dX10_image_97 rfl 1 rfl ?_
  refine V_get (C := RX10) (T := TX10) (N := 30) (ci := 10) (pc := 98) X dX10_image_98 in10 0 rfl rfl 0 (by decide) (by decide +kernel) rfl rfl ?_
  refine V_put (C := RX10) (T := TX10) (N := 30) (ci := 10) (ws' := [ob mq 10 [.long mf, .int (nI mt), .ref mmq, .int (nI mn), .ref mkq, .ref mcq, .ref mhq, .ref maq, .int mz, .int my, .long mS, .ref mzq, .ref mtq, .int (nI mT), .int (nI mA), .ref mrq, .ref muq, .long mF, .int mZ, .ref moq, .int mK, .int mH, .ref mgq, .ref miq, .long mf, .int (bI mB), .ref mlq, .ref msq, .ref meq, .ref mvq], ai g mmq 6 mm, ai g mkq 6 mkd, ai g mcq 6 mce, ai g mhq 6 mho, ai g maq 6 mac, ai g miq 34 (upd (upd (upd (upd (cpJ (cpJ (cpJ (cpJ (cpJ mim mm 0 6) mkd (0 + 6) 6) mce ((0 + 6) + 6) 6) mho (((0 + 6) + 6) + 6) 6) mac ((((0 + 6) + 6) + 6) + 6) 6) (((((0 + 6) + 6) + 6) + 6) + 6) (nI mt)) ((((((0 + 6) + 6) + 6) + 6) + 6) + 1) (nI mn)) ((((((0 + 6) + 6) + 6) + 6) + 6) + 2) mz) ((((((0 + 6) + 6) + 6) + 6) + 6) + 3) my)]) (pc := 101) X dX10_image_101 in10 tyX10 tyX10_ok nmX10 0 rfl rfl 24 (by decide) (by decide +kernel) rfl rfl rfl rfl rfl (Nat.le_of_ble_eq_true rfl) rfl ?_
  refine V_aload_n (pc := 104) X dX10_image_104 rfl 1 rfl ?_
  refine V_iconst (v := 1) (pc := 105) X dX10_image_105 (by decide) ?_
  refine V_put (C := RX10) (T := TX10) (N := 30) (ci := 10) (ws' := [ob mq 10 [.long mf, .int (nI mt), .ref mmq, .int (nI mn), .ref mkq, .ref mcq, .ref mhq, .ref maq, .int mz, .int my, .long mS, .ref mzq, .ref mtq, .int (nI mT), .int (nI mA), .ref mrq, .ref muq, .long mF, .int mZ, .ref moq, .int mK, .int mH, .ref mgq, .ref miq, .long mf, .int 1, .ref mlq, .ref msq, .ref meq, .ref mvq], ai g mmq 6 mm, ai g mkq 6 mkd, ai g mcq 6 mce, ai g mhq 6 mho, ai g maq 6 mac, ai g miq 34 (upd (upd (upd (upd (cpJ (cpJ (cpJ (cpJ (cpJ mim mm 0 6) mkd (0 + 6) 6) mce ((0 + 6) + 6) 6) mho (((0 + 6) + 6) + 6) 6) mac ((((0 + 6) + 6) + 6) + 6) 6) (((((0 + 6) + 6) + 6) + 6) + 6) (nI mt)) ((((((0 + 6) + 6) + 6) + 6) + 6) + 1) (nI mn)) ((((((0 + 6) + 6) + 6) + 6) + 6) + 2) mz) ((((((0 + 6) + 6) + 6) + 6) + 6) + 3) my)]) (pc := 106) X dX10_image_106 in10 tyX10 tyX10_ok nmX10 0 rfl rfl 25 (by decide) (by decide +kernel) rfl rfl rfl rfl rfl (Nat.le_of_ble_eq_true rfl) rfl ?_
  refine V_iconst (v := 1) (pc := 109) X dX10_image_109 (by decide) ?_
  exact Ve_iret (pc := 110) X hA9 dX10_image_110 hr () (by first | rfl | (simp []; done)) trivial (by rfl)
set_option maxHeartbeats 4000000 in
set_option maxRecDepth 100000 in
theorem c_X10_restore_ok (l : Launch) (g : XG) (mq : Nat) (mf : Int64) (mt : Nat) (mmq : Nat) (mn : Nat) (mkq : Nat) (mcq : Nat) (mhq : Nat) (maq : Nat) (mz : Int32) (my : Int32) (mS : Int64) (mzq : Nat) (mtq : Nat) (mT : Nat) (mA : Nat) (mrq : Nat) (muq : Nat) (mF : Int64) (mZ : Int32) (moq : Nat) (mK : Int32) (mH : Int32) (mgq : Nat) (miq : Nat) (mI : Int64) (mB : Bool) (mlq : Nat) (msq : Nat) (meq : Nat) (mvq : Nat) (mm : Nat → Int32) (mkd : Nat → Int32) (mce : Nat → Int32) (mho : Nat → Int32) (mac : Nat → Int32) (mim : Nat → Int32) (vt : Nat) (vn : Nat) (hi9 : mB = true) (hvt : mim 30 = nI vt) (hvn : mim 31 = nI vn) : Ke l g yX10_restore wsX10_restore ({ frames := 1, cells := 0, slots := 0, locals := 23 } : Room) 0 0 [.ref mq] [ob mq 10 [.long mf, .int (nI mt), .ref mmq, .int (nI mn), .ref mkq, .ref mcq, .ref mhq, .ref maq, .int mz, .int my, .long mS, .ref mzq, .ref mtq, .int (nI mT), .int (nI mA), .ref mrq, .ref muq, .long mF, .int mZ, .ref moq, .int mK, .int mH, .ref mgq, .ref miq, .long mI, .int (bI mB), .ref mlq, .ref msq, .ref meq, .ref mvq], ai g mmq 6 mm, ai g mkq 6 mkd, ai g mcq 6 mce, ai g mhq 6 mho, ai g maq 6 mac, ai g miq 34 mim] (fun u : Unit => some (.int 1)) (fun u => [ob mq 10 [.long mI, .int (nI vt), .ref mmq, .int (nI vn), .ref mkq, .ref mcq, .ref mhq, .ref maq, .int (mim 32), .int (mim 33), .long mS, .ref mzq, .ref mtq, .int (nI mT), .int (nI mA), .ref mrq, .ref muq, .long mF, .int mZ, .ref moq, .int mK, .int mH, .ref mgq, .ref miq, .long mI, .int (bI mB), .ref mlq, .ref msq, .ref meq, .ref mvq], ai g mmq 6 (cpF mm (fun q => mim (0 + q)) 6), ai g mkq 6 (cpF mkd (fun q => mim (6 + q)) 6), ai g mcq 6 (cpF mce (fun q => mim (12 + q)) 6), ai g mhq 6 (cpF mho (fun q => mim (18 + q)) 6), ai g maq 6 (cpF mac (fun q => mim (24 + q)) 6), ai g miq 34 mim]) (fun u => True) := by
  refine Ke.of (cc := cX10_restore) (maxL := 2) (ret := (some .int)) (lv := [(0, .ref mq)]) RX10 rfl (by decide) rfl (Nat.le_of_ble_eq_true rfl) rfl ?_
  intro p e s m below meth c A sz hA9 X hr hin2
  have in10 : ∀ w ∈ u_ws RX10 TX10 30, w ∈ wsX10_restore := by decide +kernel
  refine V_aload_n (pc := 0) X dX10_restore_0 rfl 0 rfl ?_
  refine V_get (C := RX10) (T := TX10) (N := 30) (ci := 10) (pc := 1) X dX10_restore_1 in10 0 rfl rfl 25 (by decide) (by decide +kernel) rfl rfl ?_
  refine V_if_ne (tgt := 10) (pc := 4) X dX10_restore_4 (by decide) (fun c_1 => ?_) (fun c_1 => ?_)
  · skip
    have b_2 : mB = true := bI1 c_1
    refine V_aload_n (pc := 10) X dX10_restore_10 rfl 0 rfl ?_
    refine V_iconst (v := 0) (pc := 11) X dX10_restore_11 (by decide) ?_
    refine V_aload_n (pc := 12) X dX10_restore_12 rfl 0 rfl ?_
    refine V_get (C := RX10) (T := TX10) (N := 30) (ci := 10) (pc := 13) X dX10_restore_13 in10 0 rfl rfl 2 (by decide) (by decide +kernel) rfl rfl ?_
    refine V_ve (pc := 16) (nA := 2) (As := [.int 0, .ref mmq]) (rest := []) X (c_X10_gives l g (mq := mq) (mf := mf) (mt := mt) (mmq := mmq) (mn := mn) (mkq := mkq) (mcq := mcq) (mhq := mhq) (maq := maq) (mz := mz) (my := my) (mS := mS) (mzq := mzq) (mtq := mtq) (mT := mT) (mA := mA) (mrq := mrq) (muq := muq) (mF := mF) (mZ := mZ) (moq := moq) (mK := mK) (mH := mH) (mgq := mgq) (miq := miq) (mI := mI) (mB := mB) (mlq := mlq) (msq := msq) (meq := meq) (mvq := mvq) (mim := mim) (aq9 := mmq) (a9 := mm) (j := 0) (hj := by first | assumption | omega)) gX10_restore_X10_gives dX10_restore_16 rfl (by decide +kernel) rfl (qb := 0) rfl rfl rfl ⟨rfl, rfl⟩ ⟨Nat.le_of_ble_eq_true rfl, Nat.le_of_ble_eq_true rfl⟩ ⟨Nat.le_of_ble_eq_true rfl, Nat.le_of_ble_eq_true rfl⟩ [0, 6, 1] (by decide) rfl [2, 3, 4, 5] (by decide) (by decide) [ai g mkq 6 mkd, ai g mcq 6 mce, ai g mhq 6 mho, ai g maq 6 mac] rfl [4, 6, 0, 1, 2, 3, 5] (by decide) (fun u => [ob mq 10 [.long mf, .int (nI mt), .ref mmq, .int (nI mn), .ref mkq, .ref mcq, .ref mhq, .ref maq, .int mz, .int my, .long mS, .ref mzq, .ref mtq, .int (nI mT), .int (nI mA), .ref mrq, .ref muq, .long mF, .int mZ, .ref moq, .int mK, .int mH, .ref mgq, .ref miq, .long mI, .int (bI mB), .ref mlq, .ref msq, .ref meq, .ref mvq], ai g mmq 6 (cpF mm (fun q => mim (0 + q)) 6), ai g mkq 6 mkd, ai g mcq 6 mce, ai g mhq 6 mho, ai g maq 6 mac, ai g miq 34 mim]) (fun _ => rfl) rfl (Nat.le_of_ble_eq_true rfl) (fun u => [.int (nI (0 + 6))]) (fun _ => rfl) (fun u hu_3 => ?_)
    refine V_eqw (ws2 := [ob mq 10 [.long mf, .int (nI mt), .ref mmq, .int (nI mn), .ref mkq, .ref mcq, .ref mhq, .ref maq, .int mz, .int my, .long mS, .ref mzq, .ref mtq, .int (nI mT), .int (nI mA), .ref mrq, .ref muq, .long mF, .int mZ, .ref moq, .int mK, .int mH, .ref mgq, .ref miq, .long mI, .int (bI mB), .ref mlq, .ref msq, .ref meq, .ref mvq], ai g mmq 6 (cpF mm (fun q => mim (0 + q)) 6), ai g mkq 6 mkd, ai g mcq 6 mce, ai g mhq 6 mho, ai g maq 6 mac, ai g miq 34 mim]) rfl (V_eqs (st2 := [.int (nI (0 + 6))]) rfl ?_)
    refine V_istore_n (lv' := [(1, .int (nI (0 + 6))), (0, .ref mq)]) (pc := 19) X dX10_restore_19 rfl (Nat.le_of_ble_eq_true rfl) rfl ?_
    refine V_aload_n (pc := 20) X dX10_restore_20 rfl 1 rfl ?_
    refine V_iload_n (pc := 21) X dX10_restore_21 rfl 0 rfl ?_
    refine V_aload_n (pc := 22) X dX10_restore_22 rfl 1 rfl ?_
    refine V_get (C := RX10) (T := TX10) (N := 30) (ci := 10) (pc := 23) X dX10_restore_23 in10 0 rfl rfl 4 (by decide) (by decide +kernel) rfl rfl ?_
    refine V_ve (pc := 26) (nA := 2) (As := [.int (nI (0 + 6)), .ref mkq]) (rest := []) X (c_X10_gives l g (mq := mq) (mf := mf) (mt := mt) (mmq := mmq) (mn := mn) (mkq := mkq) (mcq := mcq) (mhq := mhq) (maq := maq) (mz := mz) (my := my) (mS := mS) (mzq := mzq) (mtq := mtq) (mT := mT) (mA := mA) (mrq := mrq) (muq := muq) (mF := mF) (mZ := mZ) (moq := moq) (mK := mK) (mH := mH) (mgq := mgq) (miq := miq) (mI := mI) (mB := mB) (mlq := mlq) (msq := msq) (meq := meq) (mvq := mvq) (mim := mim) (aq9 := mkq) (a9 := mkd) (j := 0 + 6) (hj := by first | assumption | omega)) gX10_restore_X10_gives dX10_restore_26 rfl (by decide +kernel) rfl (qb := 0) rfl rfl rfl ⟨rfl, rfl⟩ ⟨Nat.le_of_ble_eq_true rfl, Nat.le_of_ble_eq_true rfl⟩ ⟨Nat.le_of_ble_eq_true rfl, Nat.le_of_ble_eq_true rfl⟩ [0, 6, 2] (by decide) rfl [1, 3, 4, 5] (by decide) (by decide) [ai g mmq 6 (cpF mm (fun q => mim (0 + q)) 6), ai g mcq 6 mce, ai g mhq 6 mho, ai g maq 6 mac] rfl [4, 0, 6, 1, 2, 3, 5] (by decide) (fun u => [ob mq 10 [.long mf, .int (nI mt), .ref mmq, .int (nI mn), .ref mkq, .ref mcq, .ref mhq, .ref maq, .int mz, .int my, .long mS, .ref mzq, .ref mtq, .int (nI mT), .int (nI mA), .ref mrq, .ref muq, .long mF, .int mZ, .ref moq, .int mK, .int mH, .ref mgq, .ref miq, .long mI, .int (bI mB), .ref mlq, .ref msq, .ref meq, .ref mvq], ai g mmq 6 (cpF mm (fun q => mim (0 + q)) 6), ai g mkq 6 (cpF mkd (fun q => mim ((0 + 6) + q)) 6), ai g mcq 6 mce, ai g mhq 6 mho, ai g maq 6 mac, ai g miq 34 mim]) (fun _ => rfl) rfl (Nat.le_of_ble_eq_true rfl) (fun u => [.int (nI ((0 + 6) + 6))]) (fun _ => rfl) (fun u hu_4 => ?_)
    refine V_eqw (ws2 := [ob mq 10 [.long mf, .int (nI mt), .ref mmq, .int (nI mn), .ref mkq, .ref mcq, .ref mhq, .ref maq, .int mz, .int my, .long mS, .ref mzq, .ref mtq, .int (nI mT), .int (nI mA), .ref mrq, .ref muq, .long mF, .int mZ, .ref moq, .int mK, .int mH, .ref mgq, .ref miq, .long mI, .int (bI mB), .ref mlq, .ref msq, .ref meq, .ref mvq], ai g mmq 6 (cpF mm (fun q => mim (0 + q)) 6), ai g mkq 6 (cpF mkd (fun q => mim ((0 + 6) + q)) 6), ai g mcq 6 mce, ai g mhq 6 mho, ai g maq 6 mac, ai g miq 34 mim]) rfl (V_eqs (st2 := [.int (nI ((0 + 6) + 6))]) rfl ?_)
    refine V_istore_n (lv' := [(1, .int (nI ((0 + 6) + 6))), (0, .ref mq)]) (pc := 29) X dX10_restore_29 rfl (Nat.le_of_ble_eq_true rfl) rfl ?_
    refine V_aload_n (pc := 30) X dX10_restore_30 rfl 1 rfl ?_
    refine V_iload_n (pc := 31) X dX10_restore_31 rfl 0 rfl ?_
    refine V_aload_n (pc := 32) X dX10_restore_32 rfl 1 rfl ?_
    refine V_get (C := RX10) (T := TX10) (N := 30) (ci := 10) (pc := 33) X dX10_restore_33 in10 0 rfl rfl 5 (by decide) (by decide +kernel) rfl rfl ?_
    refine V_ve (pc := 36) (nA := 2) (As := [.int (nI ((0 + 6) + 6)), .ref mcq]) (rest := []) X (c_X10_gives l g (mq := mq) (mf := mf) (mt := mt) (mmq := mmq) (mn := mn) (mkq := mkq) (mcq := mcq) (mhq := mhq) (maq := maq) (mz := mz) (my := my) (mS := mS) (mzq := mzq) (mtq := mtq) (mT := mT) (mA := mA) (mrq := mrq) (muq := muq) (mF := mF) (mZ := mZ) (moq := moq) (mK := mK) (mH := mH) (mgq := mgq) (miq := miq) (mI := mI) (mB := mB) (mlq := mlq) (msq := msq) (meq := meq) (mvq := mvq) (mim := mim) (aq9 := mcq) (a9 := mce) (j := (0 + 6) + 6) (hj := by first | assumption | omega)) gX10_restore_X10_gives dX10_restore_36 rfl (by decide +kernel) rfl (qb := 0) rfl rfl rfl ⟨rfl, rfl⟩ ⟨Nat.le_of_ble_eq_true rfl, Nat.le_of_ble_eq_true rfl⟩ ⟨Nat.le_of_ble_eq_true rfl, Nat.le_of_ble_eq_true rfl⟩ [0, 6, 3] (by decide) rfl [1, 2, 4, 5] (by decide) (by decide) [ai g mmq 6 (cpF mm (fun q => mim (0 + q)) 6), ai g mkq 6 (cpF mkd (fun q => mim ((0 + 6) + q)) 6), ai g mhq 6 mho, ai g maq 6 mac] rfl [4, 0, 1, 6, 2, 3, 5] (by decide) (fun u => [ob mq 10 [.long mf, .int (nI mt), .ref mmq, .int (nI mn), .ref mkq, .ref mcq, .ref mhq, .ref maq, .int mz, .int my, .long mS, .ref mzq, .ref mtq, .int (nI mT), .int (nI mA), .ref mrq, .ref muq, .long mF, .int mZ, .ref moq, .int mK, .int mH, .ref mgq, .ref miq, .long mI, .int (bI mB), .ref mlq, .ref msq, .ref meq, .ref mvq], ai g mmq 6 (cpF mm (fun q => mim (0 + q)) 6), ai g mkq 6 (cpF mkd (fun q => mim ((0 + 6) + q)) 6), ai g mcq 6 (cpF mce (fun q => mim (((0 + 6) + 6) + q)) 6), ai g mhq 6 mho, ai g maq 6 mac, ai g miq 34 mim]) (fun _ => rfl) rfl (Nat.le_of_ble_eq_true rfl) (fun u => [.int (nI (((0 + 6) + 6) + 6))]) (fun _ => rfl) (fun u hu_5 => ?_)
    refine V_eqw (ws2 := [ob mq 10 [.long mf, .int (nI mt), .ref mmq, .int (nI mn), .ref mkq, .ref mcq, .ref mhq, .ref maq, .int mz, .int my, .long mS, .ref mzq, .ref mtq, .int (nI mT), .int (nI mA), .ref mrq, .ref muq, .long mF, .int mZ, .ref moq, .int mK, .int mH, .ref mgq, .ref miq, .long mI, .int (bI mB), .ref mlq, .ref msq, .ref meq, .ref mvq], ai g mmq 6 (cpF mm (fun q => mim (0 + q)) 6), ai g mkq 6 (cpF mkd (fun q => mim ((0 + 6) + q)) 6), ai g mcq 6 (cpF mce (fun q => mim (((0 + 6) + 6) + q)) 6), ai g mhq 6 mho, ai g maq 6 mac, ai g miq 34 mim]) rfl (V_eqs (st2 := [.int (nI (((0 + 6) + 6) + 6))]) rfl ?_)
    refine V_istore_n (lv' := [(1, .int (nI (((0 + 6) + 6) + 6))), (0, .ref mq)]) (pc := 39) X dX10_restore_39 rfl (Nat.le_of_ble_eq_true rfl) rfl ?_
    refine V_aload_n (pc := 40) X dX10_restore_40 rfl 1 rfl ?_
    refine V_iload_n (pc := 41) X dX10_restore_41 rfl 0 rfl ?_
    refine V_aload_n (pc := 42) X dX10_restore_42 rfl 1 rfl ?_
    refine V_get (C := RX10) (T := TX10) (N := 30) (ci := 10) (pc := 43) X dX10_restore_43 in10 0 rfl rfl 6 (by decide) (by decide +kernel) rfl rfl ?_
    refine V_ve (pc := 46) (nA := 2) (As := [.int (nI (((0 + 6) + 6) + 6)), .ref mhq]) (rest := []) X (c_X10_gives l g (mq := mq) (mf := mf) (mt := mt) (mmq := mmq) (mn := mn) (mkq := mkq) (mcq := mcq) (mhq := mhq) (maq := maq) (mz := mz) (my := my) (mS := mS) (mzq := mzq) (mtq := mtq) (mT := mT) (mA := mA) (mrq := mrq) (muq := muq) (mF := mF) (mZ := mZ) (moq := moq) (mK := mK) (mH := mH) (mgq := mgq) (miq := miq) (mI := mI) (mB := mB) (mlq := mlq) (msq := msq) (meq := meq) (mvq := mvq) (mim := mim) (aq9 := mhq) (a9 := mho) (j := ((0 + 6) + 6) + 6) (hj := by first | assumption | omega)) gX10_restore_X10_gives dX10_restore_46 rfl (by decide +kernel) rfl (qb := 0) rfl rfl rfl ⟨rfl, rfl⟩ ⟨Nat.le_of_ble_eq_true rfl, Nat.le_of_ble_eq_true rfl⟩ ⟨Nat.le_of_ble_eq_true rfl, Nat.le_of_ble_eq_true rfl⟩ [0, 6, 4] (by decide) rfl [1, 2, 3, 5] (by decide) (by decide) [ai g mmq 6 (cpF mm (fun q => mim (0 + q)) 6), ai g mkq 6 (cpF mkd (fun q => mim ((0 + 6) + q)) 6), ai g mcq 6 (cpF mce (fun q => mim (((0 + 6) + 6) + q)) 6), ai g maq 6 mac] rfl [4, 0, 1, 2, 6, 3, 5] (by decide) (fun u => [ob mq 10 [.long mf, .int (nI mt), .ref mmq, .int (nI mn), .ref mkq, .ref mcq, .ref mhq, .ref maq, .int mz, .int my, .long mS, .ref mzq, .ref mtq, .int (nI mT), .int (nI mA), .ref mrq, .ref muq, .long mF, .int mZ, .ref moq, .int mK, .int mH, .ref mgq, .ref miq, .long mI, .int (bI mB), .ref mlq, .ref msq, .ref meq, .ref mvq], ai g mmq 6 (cpF mm (fun q => mim (0 + q)) 6), ai g mkq 6 (cpF mkd (fun q => mim ((0 + 6) + q)) 6), ai g mcq 6 (cpF mce (fun q => mim (((0 + 6) + 6) + q)) 6), ai g mhq 6 (cpF mho (fun q => mim ((((0 + 6) + 6) + 6) + q)) 6), ai g maq 6 mac, ai g miq 34 mim]) (fun _ => rfl) rfl (Nat.le_of_ble_eq_true rfl) (fun u => [.int (nI ((((0 + 6) + 6) + 6) + 6))]) (fun _ => rfl) (fun u hu_6 => ?_)
    refine V_eqw (ws2 := [ob mq 10 [.long mf, .int (nI mt), .ref mmq, .int (nI mn), .ref mkq, .ref mcq, .ref mhq, .ref maq, .int mz, .int my, .long mS, .ref mzq, .ref mtq, .int (nI mT), .int (nI mA), .ref mrq, .ref muq, .long mF, .int mZ, .ref moq, .int mK, .int mH, .ref mgq, .ref miq, .long mI, .int (bI mB), .ref mlq, .ref msq, .ref meq, .ref mvq], ai g mmq 6 (cpF mm (fun q => mim (0 + q)) 6), ai g mkq 6 (cpF mkd (fun q => mim ((0 + 6) + q)) 6), ai g mcq 6 (cpF mce (fun q => mim (((0 + 6) + 6) + q)) 6), ai g mhq 6 (cpF mho (fun q => mim ((((0 + 6) + 6) + 6) + q)) 6), ai g maq 6 mac, ai g miq 34 mim]) rfl (V_eqs (st2 := [.int (nI ((((0 + 6) + 6) + 6) + 6))]) rfl ?_)
    refine V_istore_n (lv' := [(1, .int (nI ((((0 + 6) + 6) + 6) + 6))), (0, .ref mq)]) (pc := 49) X dX10_restore_49 rfl (Nat.le_of_ble_eq_true rfl) rfl ?_
    refine V_aload_n (pc := 50) X dX10_restore_50 rfl 1 rfl ?_
    refine V_iload_n (pc := 51) X dX10_restore_51 rfl 0 rfl ?_
    refine V_aload_n (pc := 52) X dX10_restore_52 rfl 1 rfl ?_
    refine V_get (C := RX10) (T := TX10) (N := 30) (ci := 10) (pc := 53) X dX10_restore_53 in10 0 rfl rfl 7 (by decide) (by decide +kernel) rfl rfl ?_
    refine V_ve (pc := 56) (nA := 2) (As := [.int (nI ((((0 + 6) + 6) + 6) + 6)), .ref maq]) (rest := []) X (c_X10_gives l g (mq := mq) (mf := mf) (mt := mt) (mmq := mmq) (mn := mn) (mkq := mkq) (mcq := mcq) (mhq := mhq) (maq := maq) (mz := mz) (my := my) (mS := mS) (mzq := mzq) (mtq := mtq) (mT := mT) (mA := mA) (mrq := mrq) (muq := muq) (mF := mF) (mZ := mZ) (moq := moq) (mK := mK) (mH := mH) (mgq := mgq) (miq := miq) (mI := mI) (mB := mB) (mlq := mlq) (msq := msq) (meq := meq) (mvq := mvq) (mim := mim) (aq9 := maq) (a9 := mac) (j := (((0 + 6) + 6) + 6) + 6) (hj := by first | assumption | omega)) gX10_restore_X10_gives dX10_restore_56 rfl (by decide +kernel) rfl (qb := 0) rfl rfl rfl ⟨rfl, rfl⟩ ⟨Nat.le_of_ble_eq_true rfl, Nat.le_of_ble_eq_true rfl⟩ ⟨Nat.le_of_ble_eq_true rfl, Nat.le_of_ble_eq_true rfl⟩ [0, 6, 5] (by decide) rfl [1, 2, 3, 4] (by decide) (by decide) [ai g mmq 6 (cpF mm (fun q => mim (0 + q)) 6), ai g mkq 6 (cpF mkd (fun q => mim ((0 + 6) + q)) 6), ai g mcq 6 (cpF mce (fun q => mim (((0 + 6) + 6) + q)) 6), ai g mhq 6 (cpF mho (fun q => mim ((((0 + 6) + 6) + 6) + q)) 6)] rfl [4, 0, 1, 2, 3, 6, 5] (by decide) (fun u => [ob mq 10 [.long mf, .int (nI mt), .ref mmq, .int (nI mn), .ref mkq, .ref mcq, .ref mhq, .ref maq, .int mz, .int my, .long mS, .ref mzq, .ref mtq, .int (nI mT), .int (nI mA), .ref mrq, .ref muq, .long mF, .int mZ, .ref moq, .int mK, .int mH, .ref mgq, .ref miq, .long mI, .int (bI mB), .ref mlq, .ref msq, .ref meq, .ref mvq], ai g mmq 6 (cpF mm (fun q => mim (0 + q)) 6), ai g mkq 6 (cpF mkd (fun q => mim ((0 + 6) + q)) 6), ai g mcq 6 (cpF mce (fun q => mim (((0 + 6) + 6) + q)) 6), ai g mhq 6 (cpF mho (fun q => mim ((((0 + 6) + 6) + 6) + q)) 6), ai g maq 6 (cpF mac (fun q => mim (((((0 + 6) + 6) + 6) + 6) + q)) 6), ai g miq 34 mim]) (fun _ => rfl) rfl (Nat.le_of_ble_eq_true rfl) (fun u => [.int (nI (((((0 + 6) + 6) + 6) + 6) + 6))]) (fun _ => rfl) (fun u hu_7 => ?_)
    refine V_eqw (ws2 := [ob mq 10 [.long mf, .int (nI mt), .ref mmq, .int (nI mn), .ref mkq, .ref mcq, .ref mhq, .ref maq, .int mz, .int my, .long mS, .ref mzq, .ref mtq, .int (nI mT), .int (nI mA), .ref mrq, .ref muq, .long mF, .int mZ, .ref moq, .int mK, .int mH, .ref mgq, .ref miq, .long mI, .int (bI mB), .ref mlq, .ref msq, .ref meq, .ref mvq], ai g mmq 6 (cpF mm (fun q => mim (0 + q)) 6), ai g mkq 6 (cpF mkd (fun q => mim ((0 + 6) + q)) 6), ai g mcq 6 (cpF mce (fun q => mim (((0 + 6) + 6) + q)) 6), ai g mhq 6 (cpF mho (fun q => mim ((((0 + 6) + 6) + 6) + q)) 6), ai g maq 6 (cpF mac (fun q => mim (((((0 + 6) + 6) + 6) + 6) + q)) 6), ai g miq 34 mim]) rfl (V_eqs (st2 := [.int (nI (((((0 + 6) + 6) + 6) + 6) + 6))]) rfl ?_)
    refine V_istore_n (lv' := [(1, .int (nI (((((0 + 6) + 6) + 6) + 6) + 6))), (0, .ref mq)]) (pc := 59) X dX10_restore_59 rfl (Nat.le_of_ble_eq_true rfl) rfl ?_
    refine V_aload_n (pc := 60) X dX10_restore_60 rfl 1 rfl ?_
    refine V_aload_n (pc := 61) X dX10_restore_61 rfl 1 rfl ?_
    refine V_get (C := RX10) (T := TX10) (N := 30) (ci := 10) (pc := 62) X dX10_restore_62 in10 0 rfl rfl 23 (by decide) (by decide +kernel) rfl rfl ?_
    refine V_iload_n (pc := 65) X dX10_restore_65 rfl 0 rfl ?_
    refine V_iald (v := mim (((((0 + 6) + 6) + 6) + 6) + 6)) (pc := 66) X dX10_restore_66 6 rfl (vp_in_nI (by omega) (by omega)) (by rw [nI_clamp (by omega)]) ?_
    refine V_seti (y := nI vt) hvt ?_
    refine V_put (C := RX10) (T := TX10) (N := 30) (ci := 10) (ws' := [ob mq 10 [.long mf, .int (nI vt), .ref mmq, .int (nI mn), .ref mkq, .ref mcq, .ref mhq, .ref maq, .int mz, .int my, .long mS, .ref mzq, .ref mtq, .int (nI mT), .int (nI mA), .ref mrq, .ref muq, .long mF, .int mZ, .ref moq, .int mK, .int mH, .ref mgq, .ref miq, .long mI, .int (bI mB), .ref mlq, .ref msq, .ref meq, .ref mvq], ai g mmq 6 (cpF mm (fun q => mim (0 + q)) 6), ai g mkq 6 (cpF mkd (fun q => mim ((0 + 6) + q)) 6), ai g mcq 6 (cpF mce (fun q => mim (((0 + 6) + 6) + q)) 6), ai g mhq 6 (cpF mho (fun q => mim ((((0 + 6) + 6) + 6) + q)) 6), ai g maq 6 (cpF mac (fun q => mim (((((0 + 6) + 6) + 6) + 6) + q)) 6), ai g miq 34 mim]) (pc := 67) X dX10_restore_67 in10 tyX10 tyX10_ok nmX10 0 rfl rfl 1 (by decide) (by decide +kernel) rfl rfl rfl rfl rfl (Nat.le_of_ble_eq_true rfl) rfl ?_
    refine V_aload_n (pc := 70) X dX10_restore_70 rfl 1 rfl ?_
    refine V_aload_n (pc := 71) X dX10_restore_71 rfl 1 rfl ?_
    refine V_get (C := RX10) (T := TX10) (N := 30) (ci := 10) (pc := 72) X dX10_restore_72 in10 0 rfl rfl 23 (by decide) (by decide +kernel) rfl rfl ?_
    refine V_iload_n (pc := 75) X dX10_restore_75 rfl 0 rfl ?_
    refine V_iconst (v := 1) (pc := 76) X dX10_restore_76 (by decide) ?_
    refine V_iadd (pc := 77) X dX10_restore_77 ?_
    refine V_seti (y := nI ((((((0 + 6) + 6) + 6) + 6) + 6) + 1)) (nI_add (((((0 + 6) + 6) + 6) + 6) + 6) 1) ?_
    refine V_iald (v := mim ((((((0 + 6) + 6) + 6) + 6) + 6) + 1)) (pc := 78) X dX10_restore_78 6 rfl (vp_in_nI (by omega) (by omega)) (by rw [nI_clamp (by omega)]) ?_
    refine V_seti (y := nI vn) hvn ?_
    refine V_put (C := RX10) (T := TX10) (N := 30) (ci := 10) (ws' := [ob mq 10 [.long mf, .int (nI vt), .ref mmq, .int (nI vn), .ref mkq, .ref mcq, .ref mhq, .ref maq, .int mz, .int my, .long mS, .ref mzq, .ref mtq, .int (nI mT), .int (nI mA), .ref mrq, .ref muq, .long mF, .int mZ, .ref moq, .int mK, .int mH, .ref mgq, .ref miq, .long mI, .int (bI mB), .ref mlq, .ref msq, .ref meq, .ref mvq], ai g mmq 6 (cpF mm (fun q => mim (0 + q)) 6), ai g mkq 6 (cpF mkd (fun q => mim ((0 + 6) + q)) 6), ai g mcq 6 (cpF mce (fun q => mim (((0 + 6) + 6) + q)) 6), ai g mhq 6 (cpF mho (fun q => mim ((((0 + 6) + 6) + 6) + q)) 6), ai g maq 6 (cpF mac (fun q => mim (((((0 + 6) + 6) + 6) + 6) + q)) 6), ai g miq 34 mim]) (pc := 79) X dX10_restore_79 in10 tyX10 tyX10_ok nmX10 0 rfl rfl 3 (by decide) (by decide +kernel) rfl rfl rfl rfl rfl (Nat.le_of_ble_eq_true rfl) rfl ?_
    refine V_aload_n (pc := 82) X dX10_restore_82 rfl 1 rfl ?_
    refine V_aload_n (pc := 83) X dX10_restore_83 rfl 1 rfl ?_
    refine V_get (C := RX10) (T := TX10) (N := 30) (ci := 10) (pc := 84) X dX10_restore_84 in10 0 rfl rfl 23 (by decide) (by decide +kernel) rfl rfl ?_
    refine V_iload_n (pc := 87) X dX10_restore_87 rfl 0 rfl ?_
    refine V_iconst (v := 2) (pc := 88) X dX10_restore_88 (by decide) ?_
    refine V_iadd (pc := 89) X dX10_restore_89 ?_
    refine V_seti (y := nI ((((((0 + 6) + 6) + 6) + 6) + 6) + 2)) (nI_add (((((0 + 6) + 6) + 6) + 6) + 6) 2) ?_
    refine V_iald (v := mim ((((((0 + 6) + 6) + 6) + 6) + 6) + 2)) (pc := 90) X dX10_restore_90 6 rfl (vp_in_nI (by omega) (by omega)) (by rw [nI_clamp (by omega)]) ?_
    refine V_put (C := RX10) (T := TX10) (N := 30) (ci := 10) (ws' := [ob mq 10 [.long mf, .int (nI vt), .ref mmq, .int (nI vn), .ref mkq, .ref mcq, .ref mhq, .ref maq, .int (mim ((((((0 + 6) + 6) + 6) + 6) + 6) + 2)), .int my, .long mS, .ref mzq, .ref mtq, .int (nI mT), .int (nI mA), .ref mrq, .ref muq, .long mF, .int mZ, .ref moq, .int mK, .int mH, .ref mgq, .ref miq, .long mI, .int (bI mB), .ref mlq, .ref msq, .ref meq, .ref mvq], ai g mmq 6 (cpF mm (fun q => mim (0 + q)) 6), ai g mkq 6 (cpF mkd (fun q => mim ((0 + 6) + q)) 6), ai g mcq 6 (cpF mce (fun q => mim (((0 + 6) + 6) + q)) 6), ai g mhq 6 (cpF mho (fun q => mim ((((0 + 6) + 6) + 6) + q)) 6), ai g maq 6 (cpF mac (fun q => mim (((((0 + 6) + 6) + 6) + 6) + q)) 6), ai g miq 34 mim]) (pc := 91) X dX10_restore_91 in10 tyX10 tyX10_ok nmX10 0 rfl rfl 8 (by decide) (by decide +kernel) rfl rfl rfl rfl rfl (Nat.le_of_ble_eq_true rfl) rfl ?_
    refine V_aload_n (pc := 94) X dX10_restore_94 rfl 1 rfl ?_
    refine V_aload_n (pc := 95) X dX10_restore_95 rfl 1 rfl ?_
    refine V_get (C := RX10) (T := TX10) (N := 30) (ci := 10) (pc := 96) X dX10_restore_96 in10 0 rfl rfl 23 (by decide) (by decide +kernel) rfl rfl ?_
    refine V_iload_n (pc := 99) X dX10_restore_99 rfl 0 rfl ?_
    refine V_iconst (v := 3) (pc := 100) X dX10_restore_100 (by decide) ?_
    refine V_iadd (pc := 101) X dX10_restore_101 ?_
    refine V_seti (y := nI ((((((0 + 6) + 6) + 6) + 6) + 6) + 3)) (nI_add (((((0 + 6) + 6) + 6) + 6) + 6) 3) ?_
    refine V_iald (v := mim ((((((0 + 6) + 6) + 6) + 6) + 6) + 3)) (pc := 102) X dX10_restore_102 6 rfl (vp_in_nI (by omega) (by omega)) (by rw [nI_clamp (by omega)]) ?_
    refine V_put (C := RX10) (T := TX10) (N := 30) (ci := 10) (ws' := [ob mq 10 [.long mf, .int (nI vt), .ref mmq, .int (nI vn), .ref mkq, .ref mcq, .ref mhq, .ref maq, .int (mim ((((((0 + 6) + 6) + 6) + 6) + 6) + 2)), .int (mim ((((((0 + 6) + 6) + 6) + 6) + 6) + 3)), .long mS, .ref mzq, .ref mtq, .int (nI mT), .int (nI mA), .ref mrq, .ref muq, .long mF, .int mZ, .ref moq, .int mK, .int mH, .ref mgq, .ref miq, .long mI, .int (bI mB), .ref mlq, .ref msq, .ref meq, .ref mvq], ai g mmq 6 (cpF mm (fun q => mim (0 + q)) 6), ai g mkq 6 (cpF mkd (fun q => mim ((0 + 6) + q)) 6), ai g mcq 6 (cpF mce (fun q => mim (((0 + 6) + 6) + q)) 6), ai g mhq 6 (cpF mho (fun q => mim ((((0 + 6) + 6) + 6) + q)) 6), ai g maq 6 (cpF mac (fun q => mim (((((0 + 6) + 6) + 6) + 6) + q)) 6), ai g miq 34 mim]) (pc := 103) X dX10_restore_103 in10 tyX10 tyX10_ok nmX10 0 rfl rfl 9 (by decide) (by decide +kernel) rfl rfl rfl rfl rfl (Nat.le_of_ble_eq_true rfl) rfl ?_
    refine V_aload_n (pc := 106) X dX10_restore_106 rfl 1 rfl ?_
    refine V_aload_n (pc := 107) X dX10_restore_107 rfl 1 rfl ?_
    refine V_get (C := RX10) (T := TX10) (N := 30) (ci := 10) (pc := 108) X dX10_restore_108 in10 0 rfl rfl 24 (by decide) (by decide +kernel) rfl rfl ?_
    refine V_put (C := RX10) (T := TX10) (N := 30) (ci := 10) (ws' := [ob mq 10 [.long mI, .int (nI vt), .ref mmq, .int (nI vn), .ref mkq, .ref mcq, .ref mhq, .ref maq, .int (mim ((((((0 + 6) + 6) + 6) + 6) + 6) + 2)), .int (mim ((((((0 + 6) + 6) + 6) + 6) + 6) + 3)), .long mS, .ref mzq, .ref mtq, .int (nI mT), .int (nI mA), .ref mrq, .ref muq, .long mF, .int mZ, .ref moq, .int mK, .int mH, .ref mgq, .ref miq, .long mI, .int (bI mB), .ref mlq, .ref msq, .ref meq, .ref mvq], ai g mmq 6 (cpF mm (fun q => mim (0 + q)) 6), ai g mkq 6 (cpF mkd (fun q => mim ((0 + 6) + q)) 6), ai g mcq 6 (cpF mce (fun q => mim (((0 + 6) + 6) + q)) 6), ai g mhq 6 (cpF mho (fun q => mim ((((0 + 6) + 6) + 6) + q)) 6), ai g maq 6 (cpF mac (fun q => mim (((((0 + 6) + 6) + 6) + 6) + q)) 6), ai g miq 34 mim]) (pc := 111) X dX10_restore_111 in10 tyX10 tyX10_ok nmX10 0 rfl rfl 0 (by decide) (by decide +kernel) rfl rfl rfl rfl rfl (Nat.le_of_ble_eq_true rfl) rfl ?_
    refine V_iconst (v := 1) (pc := 114) X dX10_restore_114 (by decide) ?_
    exact Ve_iret (pc := 115) X hA9 dX10_restore_115 hr () (by first | rfl | (simp [b_2]; done)) trivial (by rfl)
  · exact absurd c_1 (by rw [hi9]; decide)
set_option maxHeartbeats 4000000 in
set_option maxRecDepth 100000 in
theorem c_X10_restore_no (l : Launch) (g : XG) (mq : Nat) (mf : Int64) (mt : Nat) (mmq : Nat) (mn : Nat) (mkq : Nat) (mcq : Nat) (mhq : Nat) (maq : Nat) (mz : Int32) (my : Int32) (mS : Int64) (mzq : Nat) (mtq : Nat) (mT : Nat) (mA : Nat) (mrq : Nat) (muq : Nat) (mF : Int64) (mZ : Int32) (moq : Nat) (mK : Int32) (mH : Int32) (mgq : Nat) (miq : Nat) (mI : Int64) (mB : Bool) (mlq : Nat) (msq : Nat) (meq : Nat) (mvq : Nat) (hi9 : mB = false) : Kg l g yX10_restore wsX10_restore ({ frames := 0, cells := 0, slots := 0, locals := 0 } : Room) [.ref mq] [ob mq 10 [.long mf, .int (nI mt), .ref mmq, .int (nI mn), .ref mkq, .ref mcq, .ref mhq, .ref maq, .int mz, .int my, .long mS, .ref mzq, .ref mtq, .int (nI mT), .int (nI mA), .ref mrq, .ref muq, .long mF, .int mZ, .ref moq, .int mK, .int mH, .ref mgq, .ref miq, .long mI, .int (bI mB), .ref mlq, .ref msq, .ref meq, .ref mvq]] (some (.int (-4))) := by
  refine Kg.of (cc := cX10_restore) (maxL := 2) (ret := (some .int)) (lv := [(0, .ref mq)]) RX10 rfl (by decide) rfl (Nat.le_of_ble_eq_true rfl) rfl ?_
  intro p e s m below meth c A X hr
  have in10 : ∀ w ∈ u_ws RX10 TX10 30, w ∈ wsX10_restore := by decide +kernel
  refine V_aload_n (pc := 0) X dX10_restore_0 rfl 0 rfl ?_
  refine V_get (C := RX10) (T := TX10) (N := 30) (ci := 10) (pc := 1) X dX10_restore_1 in10 0 rfl rfl 25 (by decide) (by decide +kernel) rfl rfl ?_
  refine V_if_ne (tgt := 10) (pc := 4) X dX10_restore_4 (by decide) (fun c_1 => ?_) (fun c_1 => ?_)
  · exact absurd c_1 (by rw [hi9]; decide)
  · skip
    have b_2 : mB = false := bI0 c_1
    refine V_bipush (v := (-4)) (pc := 7) X dX10_restore_7 (by decide) ?_
    exact Vg_iret (pc := 9) X dX10_restore_9 hr (by first | rfl | (simp [b_2]; done))
set_option maxHeartbeats 4000000 in
set_option maxRecDepth 100000 in
theorem c_X10_isSheet (l : Launch) (g : XG) (x : Int32)  : Kg l g yX10_isSheet wsX10_isSheet ({ frames := 1, cells := 0, slots := 0, locals := 25 } : Room) [.int x] [] (some (.int (bI (bel x 4)))) := by
  refine Kg.of (cc := cX10_isSheet) (maxL := 1) (ret := (some .boolean)) (lv := [(0, .int x)]) RX10 rfl (by decide) rfl (Nat.le_of_ble_eq_true rfl) rfl ?_
  intro p e s m below meth c A X hr
  refine V_iload_n (pc := 0) X dX10_isSheet_0 rfl 0 rfl ?_
  refine V_i2l (pc := 1) X dX10_isSheet_1 ?_
  refine V_lconst (v := 0) (pc := 2) X dX10_isSheet_2 (by decide) ?_
  refine V_ldc2 (v := 3) (pc := 3) X dX10_isSheet_3 (by decide +kernel) ?_
  refine V_sg (pc := 6) (nA := 3) (As := [.long x.toInt64, .long 0, .long 3]) (rest := []) X (c_X10_in l g (v := x.toInt64) (v1 := 0) (v2 := 3) ) gX10_isSheet_X10_in dX10_isSheet_6 rfl (by decide +kernel) rfl ⟨rfl, rfl⟩ ⟨Nat.le_of_ble_eq_true rfl, Nat.le_of_ble_eq_true rfl⟩ ⟨Nat.le_of_ble_eq_true rfl, Nat.le_of_ble_eq_true rfl⟩ [] (by decide) rfl rfl (Nat.le_of_ble_eq_true rfl) (st' := [.int (bI (inJ x.toInt64 0 3))]) rfl ?_
  refine V_seti (y := bI (bel x 4)) (congrArg bI (inJ_bel 3 (by decide) (by decide))) ?_
  exact Vg_zret (pc := 9) X dX10_isSheet_9 hr (by first | rfl | (simp []; done)) (bI_n _)
set_option maxHeartbeats 4000000 in
set_option maxRecDepth 100000 in
theorem c_X10_isLane (l : Launch) (g : XG) (x : Int32)  : Kg l g yX10_isLane wsX10_isLane ({ frames := 1, cells := 0, slots := 0, locals := 25 } : Room) [.int x] [] (some (.int (bI (bel x 3)))) := by
  refine Kg.of (cc := cX10_isLane) (maxL := 1) (ret := (some .boolean)) (lv := [(0, .int x)]) RX10 rfl (by decide) rfl (Nat.le_of_ble_eq_true rfl) rfl ?_
  intro p e s m below meth c A X hr
  refine V_iload_n (pc := 0) X dX10_isLane_0 rfl 0 rfl ?_
  refine V_i2l (pc := 1) X dX10_isLane_1 ?_
  refine V_lconst (v := 0) (pc := 2) X dX10_isLane_2 (by decide) ?_
  refine V_ldc2 (v := 2) (pc := 3) X dX10_isLane_3 (by decide +kernel) ?_
  refine V_sg (pc := 6) (nA := 3) (As := [.long x.toInt64, .long 0, .long 2]) (rest := []) X (c_X10_in l g (v := x.toInt64) (v1 := 0) (v2 := 2) ) gX10_isLane_X10_in dX10_isLane_6 rfl (by decide +kernel) rfl ⟨rfl, rfl⟩ ⟨Nat.le_of_ble_eq_true rfl, Nat.le_of_ble_eq_true rfl⟩ ⟨Nat.le_of_ble_eq_true rfl, Nat.le_of_ble_eq_true rfl⟩ [] (by decide) rfl rfl (Nat.le_of_ble_eq_true rfl) (st' := [.int (bI (inJ x.toInt64 0 2))]) rfl ?_
  refine V_seti (y := bI (bel x 3)) (congrArg bI (inJ_bel 2 (by decide) (by decide))) ?_
  exact Vg_zret (pc := 9) X dX10_isLane_9 hr (by first | rfl | (simp []; done)) (bI_n _)
set_option maxHeartbeats 4000000 in
set_option maxRecDepth 100000 in
theorem c_X10_why (l : Launch) (g : XG) (mq : Nat) (mf : Int64) (mt : Nat) (mmq : Nat) (mn : Nat) (mkq : Nat) (mcq : Nat) (mhq : Nat) (maq : Nat) (mz : Int32) (my : Int32) (mS : Int64) (mzq : Nat) (mtq : Nat) (mT : Nat) (mA : Nat) (mrq : Nat) (muq : Nat) (mF : Int64) (mZ : Int32) (moq : Nat) (mK : Int32) (mH : Int32) (mgq : Nat) (miq : Nat) (mI : Int64) (mB : Bool) (mlq : Nat) (msq : Nat) (meq : Nat) (mvq : Nat) (mla : Nat → Int32) (msz : Nat → Int32) (s9 : Nat) (l0 : Int32) (i : Int32) (n : Int32) (hs : s9 < 4) : Kg l g yX10_why wsX10_why ({ frames := 0, cells := 0, slots := 0, locals := 0 } : Room) [.ref mq, .int (nI s9), .int l0, .int i, .int n] [ob mq 10 [.long mf, .int (nI mt), .ref mmq, .int (nI mn), .ref mkq, .ref mcq, .ref mhq, .ref maq, .int mz, .int my, .long mS, .ref mzq, .ref mtq, .int (nI mT), .int (nI mA), .ref mrq, .ref muq, .long mF, .int mZ, .ref moq, .int mK, .int mH, .ref mgq, .ref miq, .long mI, .int (bI mB), .ref mlq, .ref msq, .ref meq, .ref mvq], ai g mlq 4 mla, ai g msq 4 msz] (some (.int (whM (mla s9) l0 i n (msz s9)))) := by
  refine Kg.of (cc := cX10_why) (maxL := 5) (ret := (some .int)) (lv := [(0, .ref mq), (1, .int (nI s9)), (2, .int l0), (3, .int i), (4, .int n)]) RX10 rfl (by decide) rfl (Nat.le_of_ble_eq_true rfl) rfl ?_
  intro p e s m below meth c A X hr
  have in10 : ∀ w ∈ u_ws RX10 TX10 30, w ∈ wsX10_why := by decide +kernel
  refine V_aload_n (pc := 0) X dX10_why_0 rfl 0 rfl ?_
  refine V_get (C := RX10) (T := TX10) (N := 30) (ci := 10) (pc := 1) X dX10_why_1 in10 0 rfl rfl 26 (by decide) (by decide +kernel) rfl rfl ?_
  refine V_iload_n (pc := 4) X dX10_why_4 rfl 1 rfl ?_
  refine V_iald (v := mla s9) (pc := 5) X dX10_why_5 1 rfl (vp_in_nI (by omega) (by omega)) (by rw [nI_clamp (by omega)]) ?_
  refine V_if_ge (tgt := 12) (pc := 6) X dX10_why_6 (by decide) (fun c_1 => ?_) (fun c_1 => ?_)
  · skip
    refine V_aload_n (pc := 12) X dX10_why_12 rfl 0 rfl ?_
    refine V_get (C := RX10) (T := TX10) (N := 30) (ci := 10) (pc := 13) X dX10_why_13 in10 0 rfl rfl 26 (by decide) (by decide +kernel) rfl rfl ?_
    refine V_iload_n (pc := 16) X dX10_why_16 rfl 1 rfl ?_
    refine V_iald (v := mla s9) (pc := 17) X dX10_why_17 1 rfl (vp_in_nI (by omega) (by omega)) (by rw [nI_clamp (by omega)]) ?_
    refine V_iload_n (pc := 18) X dX10_why_18 rfl 2 rfl ?_
    refine V_icmp_eq (tgt := 25) (pc := 19) X dX10_why_19 (by decide) (fun c_2 => ?_) (fun c_2 => ?_)
    · skip
      refine V_iload_n (pc := 25) X dX10_why_25 rfl 3 rfl ?_
      refine V_if_lt (tgt := 46) (pc := 26) X dX10_why_26 (by decide) (fun c_3 => ?_) (fun c_3 => ?_)
      · skip
        refine V_bipush (v := (-13)) (pc := 46) X dX10_why_46 (by decide) ?_
        refine V_goto (tgt := 52) (pc := 48) X dX10_why_48 (by decide) ?_
        exact Vg_iret (pc := 52) X dX10_why_52 hr (by (unfold whM; rw [if_neg (Int32.not_lt.mpr (by assumption)), if_pos (by assumption), if_pos (by assumption)]))
      · skip
        refine V_iload_n (pc := 29) X dX10_why_29 rfl 3 rfl ?_
        refine V_i2l (pc := 30) X dX10_why_30 ?_
        refine V_iload (pc := 31) X dX10_why_31 4 rfl ?_
        refine V_i2l (pc := 33) X dX10_why_33 ?_
        refine V_ladd (pc := 34) X dX10_why_34 ?_
        refine V_aload_n (pc := 35) X dX10_why_35 rfl 0 rfl ?_
        refine V_get (C := RX10) (T := TX10) (N := 30) (ci := 10) (pc := 36) X dX10_why_36 in10 0 rfl rfl 27 (by decide) (by decide +kernel) rfl rfl ?_
        refine V_iload_n (pc := 39) X dX10_why_39 rfl 1 rfl ?_
        refine V_iald (v := msz s9) (pc := 40) X dX10_why_40 2 rfl (vp_in_nI (by omega) (by omega)) (by rw [nI_clamp (by omega)]) ?_
        refine V_i2l (pc := 41) X dX10_why_41 ?_
        refine V_lcmp (pc := 42) X dX10_why_42 ?_
        refine V_if_le (tgt := 51) (pc := 43) X dX10_why_43 (by decide) (fun c_4 => ?_) (fun c_4 => ?_)
        · skip
          have q_5 : ¬ ((msz s9).toInt64) < (i.toInt64 + n.toInt64) := cmp_le_t c_4
          refine V_iconst (v := 0) (pc := 51) X dX10_why_51 (by decide) ?_
          exact Vg_iret (pc := 52) X dX10_why_52 hr (by (unfold whM; rw [if_neg (Int32.not_lt.mpr (by assumption)), if_pos (by assumption), if_neg (by assumption), if_neg (by assumption)]))
        · skip
          have q_6 : ((msz s9).toInt64) < (i.toInt64 + n.toInt64) := cmp_le_f c_4
          refine V_bipush (v := (-13)) (pc := 46) X dX10_why_46 (by decide) ?_
          refine V_goto (tgt := 52) (pc := 48) X dX10_why_48 (by decide) ?_
          exact Vg_iret (pc := 52) X dX10_why_52 hr (by (unfold whM; rw [if_neg (Int32.not_lt.mpr (by assumption)), if_pos (by assumption), if_neg (by assumption), if_pos (by assumption)]))
    · skip
      refine V_bipush (v := (-12)) (pc := 22) X dX10_why_22 (by decide) ?_
      exact Vg_iret (pc := 24) X dX10_why_24 hr (by (unfold whM; rw [if_neg (Int32.not_lt.mpr (by assumption)), if_neg (by assumption)]))
  · skip
    refine V_bipush (v := (-11)) (pc := 9) X dX10_why_9 (by decide) ?_
    exact Vg_iret (pc := 11) X dX10_why_11 hr (by (unfold whM; rw [if_pos (Int32.not_le.mp (by assumption))]))
set_option maxHeartbeats 4000000 in
set_option maxRecDepth 100000 in
theorem c_X10_puts (l : Launch) (g : XG) (mq : Nat) (mf : Int64) (mt : Nat) (mmq : Nat) (mn : Nat) (mkq : Nat) (mcq : Nat) (mhq : Nat) (maq : Nat) (mz : Int32) (my : Int32) (mS : Int64) (mzq : Nat) (mtq : Nat) (mT : Nat) (mA : Nat) (mrq : Nat) (muq : Nat) (mF : Int64) (mZ : Int32) (moq : Nat) (mK : Int32) (mH : Int32) (mgq : Nat) (miq : Nat) (mI : Int64) (mB : Bool) (mlq : Nat) (msq : Nat) (meq : Nat) (mvq : Nat) (mla : Nat → Int32) (mit : Nat → Int64) (s9 : Nat) (i : Nat) (v : Int64) (hs : s9 < 4) (hi : i < 16) : Ke l g yX10_puts wsX10_puts ({ frames := 0, cells := 0, slots := 0, locals := 0 } : Room) 0 0 [.ref mq, .int (nI s9), .int (nI i), .long v] [ob mq 10 [.long mf, .int (nI mt), .ref mmq, .int (nI mn), .ref mkq, .ref mcq, .ref mhq, .ref maq, .int mz, .int my, .long mS, .ref mzq, .ref mtq, .int (nI mT), .int (nI mA), .ref mrq, .ref muq, .long mF, .int mZ, .ref moq, .int mK, .int mH, .ref mgq, .ref miq, .long mI, .int (bI mB), .ref mlq, .ref msq, .ref meq, .ref mvq], ai g mlq 4 mla, al g meq 64 mit] (fun u : Unit => none) (fun u => [ob mq 10 [.long mf, .int (nI mt), .ref mmq, .int (nI mn), .ref mkq, .ref mcq, .ref mhq, .ref maq, .int mz, .int my, .long mS, .ref mzq, .ref mtq, .int (nI mT), .int (nI mA), .ref mrq, .ref muq, .long mF, .int mZ, .ref moq, .int mK, .int mH, .ref mgq, .ref miq, .long mI, .int (bI mB), .ref mlq, .ref msq, .ref meq, .ref mvq], ai g mlq 4 mla, al g meq 64 (vp_updL mit (16 * s9 + i) (cutL (mla s9) v))]) (fun u => True) := by
  refine Ke.of (cc := cX10_puts) (maxL := 6) (ret := none) (lv := [(0, .ref mq), (1, .int (nI s9)), (2, .int (nI i)), (3, .long v)]) RX10 rfl (by decide) rfl (Nat.le_of_ble_eq_true rfl) rfl ?_
  intro p e s m below meth c A sz hA9 X hr hin2
  have in10 : ∀ w ∈ u_ws RX10 TX10 30, w ∈ wsX10_puts := by decide +kernel
  refine V_aload_n (pc := 0) X dX10_puts_0 rfl 0 rfl ?_
  refine V_get (C := RX10) (T := TX10) (N := 30) (ci := 10) (pc := 1) X dX10_puts_1 in10 0 rfl rfl 26 (by decide) (by decide +kernel) rfl rfl ?_
  refine V_iload_n (pc := 4) X dX10_puts_4 rfl 1 rfl ?_
  refine V_iald (v := mla s9) (pc := 5) X dX10_puts_5 1 rfl (vp_in_nI (by omega) (by omega)) (by rw [nI_clamp (by omega)]) ?_
  refine V_istore (lv' := [(5, .int (mla s9)), (0, .ref mq), (1, .int (nI s9)), (2, .int (nI i)), (3, .long v)]) (pc := 6) X dX10_puts_6 (Nat.le_of_ble_eq_true rfl) rfl ?_
  refine V_aload_n (pc := 8) X dX10_puts_8 rfl 1 rfl ?_
  refine V_get (C := RX10) (T := TX10) (N := 30) (ci := 10) (pc := 9) X dX10_puts_9 in10 0 rfl rfl 28 (by decide) (by decide +kernel) rfl rfl ?_
  refine V_bipush (v := 16) (pc := 12) X dX10_puts_12 (by decide) ?_
  refine V_iload_n (pc := 14) X dX10_puts_14 rfl 2 rfl ?_
  refine V_imul (pc := 15) X dX10_puts_15 ?_
  refine V_seti (y := nI (16 * s9)) (pk_mul 16 s9) ?_
  refine V_iload_n (pc := 16) X dX10_puts_16 rfl 3 rfl ?_
  refine V_iadd (pc := 17) X dX10_puts_17 ?_
  refine V_seti (y := nI ((16 * s9) + i)) (nI_add (16 * s9) i) ?_
  refine V_iload (pc := 18) X dX10_puts_18 0 rfl ?_
  refine V_if_ne (tgt := 30) (pc := 20) X dX10_puts_20 (by decide) (fun c_1 => ?_) (fun c_1 => ?_)
  · skip
    refine V_iload (pc := 30) X dX10_puts_30 0 rfl ?_
    refine V_iconst (v := 1) (pc := 32) X dX10_puts_32 (by decide) ?_
    refine V_icmp_ne (tgt := 42) (pc := 33) X dX10_puts_33 (by decide) (fun c_2 => ?_) (fun c_2 => ?_)
    · skip
      refine V_lload_n (pc := 42) X dX10_puts_42 rfl 4 rfl ?_
      refine V_last (f' := vp_updL mit ((16 * s9) + i) v) (ws' := [ob mq 10 [.long mf, .int (nI mt), .ref mmq, .int (nI mn), .ref mkq, .ref mcq, .ref mhq, .ref maq, .int mz, .int my, .long mS, .ref mzq, .ref mtq, .int (nI mT), .int (nI mA), .ref mrq, .ref muq, .long mF, .int mZ, .ref moq, .int mK, .int mH, .ref mgq, .ref miq, .long mI, .int (bI mB), .ref mlq, .ref msq, .ref meq, .ref mvq], ai g mlq 4 mla, al g meq 64 (vp_updL mit ((16 * s9) + i) v)]) (pc := 43) X dX10_puts_43 2 rfl (vp_in_nI (by omega) (by omega)) (by rw [nI_clamp (by omega)]) rfl ?_
      exact Ve_vret (pc := 44) X hA9 dX10_puts_44 hr () rfl trivial (by simp [cutL, c_1, c_2])
    · skip
      refine V_lload_n (pc := 36) X dX10_puts_36 rfl 4 rfl ?_
      refine V_l2i (pc := 37) X dX10_puts_37 ?_
      refine V_i2l (pc := 38) X dX10_puts_38 ?_
      refine V_goto (tgt := 43) (pc := 39) X dX10_puts_39 (by decide) ?_
      refine V_last (f' := vp_updL mit ((16 * s9) + i) v.toInt32.toInt64) (ws' := [ob mq 10 [.long mf, .int (nI mt), .ref mmq, .int (nI mn), .ref mkq, .ref mcq, .ref mhq, .ref maq, .int mz, .int my, .long mS, .ref mzq, .ref mtq, .int (nI mT), .int (nI mA), .ref mrq, .ref muq, .long mF, .int mZ, .ref moq, .int mK, .int mH, .ref mgq, .ref miq, .long mI, .int (bI mB), .ref mlq, .ref msq, .ref meq, .ref mvq], ai g mlq 4 mla, al g meq 64 (vp_updL mit ((16 * s9) + i) v.toInt32.toInt64)]) (pc := 43) X dX10_puts_43 2 rfl (vp_in_nI (by omega) (by omega)) (by rw [nI_clamp (by omega)]) rfl ?_
      exact Ve_vret (pc := 44) X hA9 dX10_puts_44 hr () rfl trivial (by simp [cutL, c_1, c_2])
  · skip
    refine V_lload_n (pc := 23) X dX10_puts_23 rfl 4 rfl ?_
    refine V_l2i (pc := 24) X dX10_puts_24 ?_
    refine V_i2b (pc := 25) X dX10_puts_25 ?_
    refine V_i2l (pc := 26) X dX10_puts_26 ?_
    refine V_goto (tgt := 43) (pc := 27) X dX10_puts_27 (by decide) ?_
    refine V_last (f' := vp_updL mit ((16 * s9) + i) v.toInt32.toInt8.toInt32.toInt64) (ws' := [ob mq 10 [.long mf, .int (nI mt), .ref mmq, .int (nI mn), .ref mkq, .ref mcq, .ref mhq, .ref maq, .int mz, .int my, .long mS, .ref mzq, .ref mtq, .int (nI mT), .int (nI mA), .ref mrq, .ref muq, .long mF, .int mZ, .ref moq, .int mK, .int mH, .ref mgq, .ref miq, .long mI, .int (bI mB), .ref mlq, .ref msq, .ref meq, .ref mvq], ai g mlq 4 mla, al g meq 64 (vp_updL mit ((16 * s9) + i) v.toInt32.toInt8.toInt32.toInt64)]) (pc := 43) X dX10_puts_43 2 rfl (vp_in_nI (by omega) (by omega)) (by rw [nI_clamp (by omega)]) rfl ?_
    exact Ve_vret (pc := 44) X hA9 dX10_puts_44 hr () rfl trivial (by simp [cutL, c_1])
set_option maxHeartbeats 4000000 in
set_option maxRecDepth 100000 in
theorem c_X10_sat (l : Launch) (g : XG) (mq : Nat) (mf : Int64) (mt : Nat) (mmq : Nat) (mn : Nat) (mkq : Nat) (mcq : Nat) (mhq : Nat) (maq : Nat) (mz : Int32) (my : Int32) (mS : Int64) (mzq : Nat) (mtq : Nat) (mT : Nat) (mA : Nat) (mrq : Nat) (muq : Nat) (mF : Int64) (mZ : Int32) (moq : Nat) (mK : Int32) (mH : Int32) (mgq : Nat) (miq : Nat) (mI : Int64) (mB : Bool) (mlq : Nat) (msq : Nat) (meq : Nat) (mvq : Nat) (mm : Nat → Int32) (mkd : Nat → Int32) (mce : Nat → Int32) (mho : Nat → Int32) (msc : Nat → Int32) (mth : Nat → Int32) (mla : Nat → Int32) (msz : Nat → Int32) (mit : Nat → Int64) (o : Int32) (h : Int32) (x : Int32) (l0 : Int32) (i : Int32) (ht : mt ≤ 6) (hn : mn ≤ 6) (hce : ∀ j, j < mn → vp_in (mce j) 36) (hkd : ∀ j, j < mn → mkd j = 0 ∨ mkd j = 1 ∨ mkd j = 2 ∨ mkd j = 3) (hz9 : ∃ q, q < 10 ∧ mz = nI q) (hsz : ∀ q, q < 4 → ∃ k, k ≤ 16 ∧ msz q = nI k) : Ke l g yX10_sat wsX10_sat ({ frames := 3, cells := 0, slots := 0, locals := 72 } : Room) 0 0 [.ref mq, .int o, .int h, .int x, .int l0, .int i] [ob mq 10 [.long mf, .int (nI mt), .ref mmq, .int (nI mn), .ref mkq, .ref mcq, .ref mhq, .ref maq, .int mz, .int my, .long mS, .ref mzq, .ref mtq, .int (nI mT), .int (nI mA), .ref mrq, .ref muq, .long mF, .int mZ, .ref moq, .int mK, .int mH, .ref mgq, .ref miq, .long mI, .int (bI mB), .ref mlq, .ref msq, .ref meq, .ref mvq], ai g mmq 6 mm, ai g mkq 6 mkd, ai g mcq 6 mce, ai g mhq 6 mho, ai g mzq 36 msc, ai g muq 6 mth, ai g mlq 4 mla, ai g msq 4 msz, al g meq 64 mit] (fun u : Int64 × Int64 × (Nat → Int32) × (Nat → Int32) × Int64 × Int32 × Int32 × Int32 => some (.long u.1)) (fun u => [ob mq 10 [.long mf, .int (nI mt), .ref mmq, .int (nI mn), .ref mkq, .ref mcq, .ref mhq, .ref maq, .int mz, .int my, .long u.2.1, .ref mzq, .ref mtq, .int (nI mT), .int (nI mA), .ref mrq, .ref muq, .long u.2.2.2.2.1, .int u.2.2.2.2.2.1, .ref moq, .int u.2.2.2.2.2.2.1, .int u.2.2.2.2.2.2.2, .ref mgq, .ref miq, .long mI, .int (bI mB), .ref mlq, .ref msq, .ref meq, .ref mvq], ai g mmq 6 mm, ai g mkq 6 mkd, ai g mcq 6 mce, ai g mhq 6 mho, ai g mzq 36 u.2.2.1, ai g muq 6 u.2.2.2.1, ai g mlq 4 mla, ai g msq 4 msz, al g meq 64 mit]) (fun u => (u.1 = satM o h x l0 i mla msz mit mkd mce mho mn mz mm mt)) := by
  refine Ke.of (cc := cX10_sat) (maxL := 12) (ret := (some .long)) (lv := [(0, .ref mq), (1, .int o), (2, .int h), (3, .int x), (4, .int l0), (5, .int i)]) RX10 rfl (by decide) rfl (Nat.le_of_ble_eq_true rfl) rfl ?_
  intro p e s m below meth c A sz hA9 X hr hin2
  have in10 : ∀ w ∈ u_ws RX10 TX10 30, w ∈ wsX10_sat := by decide +kernel
  refine V_aload_n (pc := 0) X dX10_sat_0 rfl 0 rfl ?_
  refine V_iload_n (pc := 1) X dX10_sat_1 rfl 1 rfl ?_
  refine V_vg (pc := 2) (nA := 1) (As := [.int o]) (rest := []) X (c_X10_isOne l g (mq := mq) (mf := mf) (mt := mt) (mmq := mmq) (mn := mn) (mkq := mkq) (mcq := mcq) (mhq := mhq) (maq := maq) (mz := mz) (my := my) (mS := mS) (mzq := mzq) (mtq := mtq) (mT := mT) (mA := mA) (mrq := mrq) (muq := muq) (mF := mF) (mZ := mZ) (moq := moq) (mK := mK) (mH := mH) (mgq := mgq) (miq := miq) (mI := mI) (mB := mB) (mlq := mlq) (msq := msq) (meq := meq) (mvq := mvq) (x := o) (hn := by first | assumption | omega)) gX10_sat_X10_isOne dX10_sat_2 rfl (by decide +kernel) rfl (qb := 0) rfl rfl rfl ⟨rfl, rfl⟩ ⟨Nat.le_of_ble_eq_true rfl, Nat.le_of_ble_eq_true rfl⟩ ⟨Nat.le_of_ble_eq_true rfl, Nat.le_of_ble_eq_true rfl⟩ [0] (by decide) rfl rfl (Nat.le_of_ble_eq_true rfl) (st' := [.int (bI (bel o (nI mn)))]) rfl ?_
  refine V_if_eq (tgt := 35) (pc := 5) X dX10_sat_5 (by decide) (fun c_1 => ?_) (fun c_1 => ?_)
  · skip
    have b_2 : (bel o (nI mn)) = false := bI0 c_1
    refine V_ldc2 (v := (-1)) (pc := 35) X dX10_sat_35 (by decide +kernel) ?_
    exact Ve_lret (pc := 38) X hA9 dX10_sat_38 hr ((-1), mS, msc, mth, mF, mZ, mK, mH) (by first | rfl | (simp [b_2]; done)) (by
          try dsimp only
          exact satM_b (by simp [b_2])) (by rfl)
  · skip
    have b_3 : (bel o (nI mn)) = true := bI1 c_1
    refine V_iload_n (pc := 8) X dX10_sat_8 rfl 2 rfl ?_
    refine V_i2l (pc := 9) X dX10_sat_9 ?_
    refine V_lconst (v := 1) (pc := 10) X dX10_sat_10 (by decide) ?_
    refine V_ldc2 (v := 99) (pc := 11) X dX10_sat_11 (by decide +kernel) ?_
    refine V_sg (pc := 14) (nA := 3) (As := [.long h.toInt64, .long 1, .long 99]) (rest := []) X (c_X10_in l g (v := h.toInt64) (v1 := 1) (v2 := 99) ) gX10_sat_X10_in dX10_sat_14 rfl (by decide +kernel) rfl ⟨rfl, rfl⟩ ⟨Nat.le_of_ble_eq_true rfl, Nat.le_of_ble_eq_true rfl⟩ ⟨Nat.le_of_ble_eq_true rfl, Nat.le_of_ble_eq_true rfl⟩ [] (by decide) rfl rfl (Nat.le_of_ble_eq_true rfl) (st' := [.int (bI (inJ h.toInt64 1 99))]) rfl ?_
    refine V_seti (y := bI (stay h)) (congrArg bI inJ_stay) ?_
    refine V_if_eq (tgt := 35) (pc := 17) X dX10_sat_17 (by decide) (fun c_4 => ?_) (fun c_4 => ?_)
    · skip
      have b_5 : (stay h) = false := bI0 c_4
      refine V_ldc2 (v := (-1)) (pc := 35) X dX10_sat_35 (by decide +kernel) ?_
      exact Ve_lret (pc := 38) X hA9 dX10_sat_38 hr ((-1), mS, msc, mth, mF, mZ, mK, mH) (by first | rfl | (simp [b_3, b_5]; done)) (by
            try dsimp only
            exact satM_b (by simp [b_3, b_5])) (by rfl)
    · skip
      have b_6 : (stay h) = true := bI1 c_4
      refine V_iload_n (pc := 20) X dX10_sat_20 rfl 3 rfl ?_
      refine V_sg (pc := 21) (nA := 1) (As := [.int x]) (rest := []) X (c_X10_isSheet l g (x := x) ) gX10_sat_X10_isSheet dX10_sat_21 rfl (by decide +kernel) rfl ⟨rfl, rfl⟩ ⟨Nat.le_of_ble_eq_true rfl, Nat.le_of_ble_eq_true rfl⟩ ⟨Nat.le_of_ble_eq_true rfl, Nat.le_of_ble_eq_true rfl⟩ [] (by decide) rfl rfl (Nat.le_of_ble_eq_true rfl) (st' := [.int (bI (bel x 4))]) rfl ?_
      refine V_if_eq (tgt := 35) (pc := 24) X dX10_sat_24 (by decide) (fun c_7 => ?_) (fun c_7 => ?_)
      · skip
        have b_8 : (bel x 4) = false := bI0 c_7
        refine V_ldc2 (v := (-1)) (pc := 35) X dX10_sat_35 (by decide +kernel) ?_
        exact Ve_lret (pc := 38) X hA9 dX10_sat_38 hr ((-1), mS, msc, mth, mF, mZ, mK, mH) (by first | rfl | (simp [b_3, b_6, b_8]; done)) (by
              try dsimp only
              exact satM_b (by simp [b_3, b_6, b_8])) (by rfl)
      · skip
        have b_9 : (bel x 4) = true := bI1 c_7
        refine V_iload (pc := 27) X dX10_sat_27 4 rfl ?_
        refine V_sg (pc := 29) (nA := 1) (As := [.int l0]) (rest := []) X (c_X10_isLane l g (x := l0) ) gX10_sat_X10_isLane dX10_sat_29 rfl (by decide +kernel) rfl ⟨rfl, rfl⟩ ⟨Nat.le_of_ble_eq_true rfl, Nat.le_of_ble_eq_true rfl⟩ ⟨Nat.le_of_ble_eq_true rfl, Nat.le_of_ble_eq_true rfl⟩ [] (by decide) rfl rfl (Nat.le_of_ble_eq_true rfl) (st' := [.int (bI (bel l0 3))]) rfl ?_
        refine V_if_ne (tgt := 39) (pc := 32) X dX10_sat_32 (by decide) (fun c_10 => ?_) (fun c_10 => ?_)
        · skip
          have b_11 : (bel l0 3) = true := bI1 c_10
          obtain ⟨j_12, hj_13, rfl⟩ := bel_nat (n := mn) (by omega) b_3
          obtain ⟨j_14, hj_15, rfl⟩ := bel_nat (n := 4) (by omega) b_9
          refine V_aload_n (pc := 39) X dX10_sat_39 rfl 0 rfl ?_
          refine V_iload_n (pc := 40) X dX10_sat_40 rfl 3 rfl ?_
          refine V_iload (pc := 41) X dX10_sat_41 4 rfl ?_
          refine V_iload (pc := 43) X dX10_sat_43 5 rfl ?_
          refine V_aload_n (pc := 45) X dX10_sat_45 rfl 0 rfl ?_
          refine V_get (C := RX10) (T := TX10) (N := 30) (ci := 10) (pc := 46) X dX10_sat_46 in10 0 rfl rfl 1 (by decide) (by decide +kernel) rfl rfl ?_
          refine V_vg (pc := 49) (nA := 4) (As := [.int (nI j_14), .int l0, .int i, .int (nI mt)]) (rest := []) X (c_X10_why l g (mq := mq) (mf := mf) (mt := mt) (mmq := mmq) (mn := mn) (mkq := mkq) (mcq := mcq) (mhq := mhq) (maq := maq) (mz := mz) (my := my) (mS := mS) (mzq := mzq) (mtq := mtq) (mT := mT) (mA := mA) (mrq := mrq) (muq := muq) (mF := mF) (mZ := mZ) (moq := moq) (mK := mK) (mH := mH) (mgq := mgq) (miq := miq) (mI := mI) (mB := mB) (mlq := mlq) (msq := msq) (meq := meq) (mvq := mvq) (mla := mla) (msz := msz) (s9 := j_14) (l0 := l0) (i := i) (n := nI mt) (hs := by first | assumption | omega)) gX10_sat_X10_why dX10_sat_49 rfl (by decide +kernel) rfl (qb := 0) rfl rfl rfl ⟨rfl, rfl⟩ ⟨Nat.le_of_ble_eq_true rfl, Nat.le_of_ble_eq_true rfl⟩ ⟨Nat.le_of_ble_eq_true rfl, Nat.le_of_ble_eq_true rfl⟩ [0, 7, 8] (by decide) rfl rfl (Nat.le_of_ble_eq_true rfl) (st' := [.int (whM (mla j_14) l0 i (nI mt) (msz j_14))]) rfl ?_
          refine V_istore (lv' := [(6, .int (whM (mla j_14) l0 i (nI mt) (msz j_14))), (0, .ref mq), (1, .int (nI j_12)), (2, .int h), (3, .int (nI j_14)), (4, .int l0), (5, .int i)]) (pc := 52) X dX10_sat_52 (Nat.le_of_ble_eq_true rfl) rfl ?_
          refine V_iload (pc := 54) X dX10_sat_54 0 rfl ?_
          refine V_if_ge (tgt := 63) (pc := 56) X dX10_sat_56 (by decide) (fun c_16 => ?_) (fun c_16 => ?_)
          · skip
            obtain ⟨k_19, hk_20, ek_21⟩ := hsz j_14 (by omega)
            obtain ⟨j_17, rfl, hj_18⟩ := whM_nat (w := mt) hk_20 (by omega) ek_21 c_16
            refine V_aload_n (pc := 63) X dX10_sat_63 rfl 1 rfl ?_
            refine V_iload_n (pc := 64) X dX10_sat_64 rfl 2 rfl ?_
            refine V_ve (pc := 65) (nA := 1) (As := [.int (nI j_12)]) (rest := []) X (c_X10_keeps l g (mq := mq) (mf := mf) (mt := mt) (mmq := mmq) (mn := mn) (mkq := mkq) (mcq := mcq) (mhq := mhq) (maq := maq) (mz := mz) (my := my) (mS := mS) (mzq := mzq) (mtq := mtq) (mT := mT) (mA := mA) (mrq := mrq) (muq := muq) (mF := mF) (mZ := mZ) (moq := moq) (mK := mK) (mH := mH) (mgq := mgq) (miq := miq) (mI := mI) (mB := mB) (mlq := mlq) (msq := msq) (meq := meq) (mvq := mvq) (mce := mce) (mho := mho) (j := j_12) (hj := by first | assumption | omega)) gX10_sat_X10_keeps dX10_sat_65 rfl (by decide +kernel) rfl (qb := 0) rfl rfl rfl ⟨rfl, rfl⟩ ⟨Nat.le_of_ble_eq_true rfl, Nat.le_of_ble_eq_true rfl⟩ ⟨Nat.le_of_ble_eq_true rfl, Nat.le_of_ble_eq_true rfl⟩ [0, 3, 4] (by decide) rfl [1, 2, 5, 6, 7, 8, 9] (by decide) (by decide) [ai g mmq 6 mm, ai g mkq 6 mkd, ai g mzq 36 msc, ai g muq 6 mth, ai g mlq 4 mla, ai g msq 4 msz, al g meq 64 mit] rfl [7, 0, 1, 8, 9, 2, 3, 4, 5, 6] (by decide) (fun u => [ob mq 10 [.long mf, .int (nI mt), .ref mmq, .int (nI mn), .ref mkq, .ref mcq, .ref mhq, .ref maq, .int mz, .int my, .long mS, .ref mzq, .ref mtq, .int (nI mT), .int (nI mA), .ref mrq, .ref muq, .long mF, .int mZ, .ref moq, .int (mce j_12), .int (mho j_12), .ref mgq, .ref miq, .long mI, .int (bI mB), .ref mlq, .ref msq, .ref meq, .ref mvq], ai g mmq 6 mm, ai g mkq 6 mkd, ai g mcq 6 mce, ai g mhq 6 mho, ai g mzq 36 msc, ai g muq 6 mth, ai g mlq 4 mla, ai g msq 4 msz, al g meq 64 mit]) (fun _ => rfl) rfl (Nat.le_of_ble_eq_true rfl) (fun u => []) (fun _ => rfl) (fun u hu_22 => ?_)
            refine V_eqw (ws2 := [ob mq 10 [.long mf, .int (nI mt), .ref mmq, .int (nI mn), .ref mkq, .ref mcq, .ref mhq, .ref maq, .int mz, .int my, .long mS, .ref mzq, .ref mtq, .int (nI mT), .int (nI mA), .ref mrq, .ref muq, .long mF, .int mZ, .ref moq, .int (mce j_12), .int (mho j_12), .ref mgq, .ref miq, .long mI, .int (bI mB), .ref mlq, .ref msq, .ref meq, .ref mvq], ai g mmq 6 mm, ai g mkq 6 mkd, ai g mcq 6 mce, ai g mhq 6 mho, ai g mzq 36 msc, ai g muq 6 mth, ai g mlq 4 mla, ai g msq 4 msz, al g meq 64 mit]) rfl (V_eqs (st2 := []) rfl ?_)
            refine V_lconst (v := 0) (pc := 68) X dX10_sat_68 (by decide) ?_
            refine V_lstore (lv' := [(7, .long 0), (6, .int (whM (mla j_14) l0 (nI j_17) (nI mt) (msz j_14))), (0, .ref mq), (1, .int (nI j_12)), (2, .int h), (3, .int (nI j_14)), (4, .int l0), (5, .int (nI j_17))]) (pc := 69) X dX10_sat_69 (Nat.le_of_ble_eq_true rfl) rfl ?_
            refine V_iconst (v := 0) (pc := 71) X dX10_sat_71 (by decide) ?_
            refine V_istore (lv' := [(9, .int 0), (7, .long 0), (6, .int (whM (mla j_14) l0 (nI j_17) (nI mt) (msz j_14))), (0, .ref mq), (1, .int (nI j_12)), (2, .int h), (3, .int (nI j_14)), (4, .int l0), (5, .int (nI j_17))]) (pc := 72) X dX10_sat_72 (Nat.le_of_ble_eq_true rfl) rfl ?_
            refine V_loop (pc := 74) (σ := Nat × Int64 × (Nat → Int32) × (Nat → Int32) × Int64 × (Nat → Int32) × (Nat → Int32) × Int64 × Int32) (fun v9 => [(0, .ref mq), (1, .int (nI j_12)), (2, .int h), (3, .int (nI j_14)), (5, .int (nI j_17)), (7, .long v9.2.1), (9, .int (nI v9.1))]) (fun v9 => [ob mq 10 [.long mf, .int (nI mt), .ref mmq, .int (nI mn), .ref mkq, .ref mcq, .ref mhq, .ref maq, .int mz, .int my, .long v9.2.2.2.2.1, .ref mzq, .ref mtq, .int (nI mT), .int (nI mA), .ref mrq, .ref muq, .long v9.2.2.2.2.2.2.2.1, .int v9.2.2.2.2.2.2.2.2, .ref moq, .int (mce j_12), .int (mho j_12), .ref mgq, .ref miq, .long mI, .int (bI mB), .ref mlq, .ref msq, .ref meq, .ref mvq], ai g mmq 6 mm, ai g mkq 6 mkd, ai g mcq 6 v9.2.2.1, ai g mhq 6 v9.2.2.2.1, ai g mzq 36 v9.2.2.2.2.2.1, ai g muq 6 v9.2.2.2.2.2.2.1, ai g mlq 4 mla, ai g msq 4 msz, al g meq 64 mit]) (fun v9 => (v9.1 ≤ 36) ∧ (∀ u8, upd v9.2.2.1 j_12 u8 = upd mce j_12 u8) ∧ (∀ u8, upd v9.2.2.2.1 j_12 u8 = upd mho j_12 u8) ∧ (∀ q, q < mn → vp_in (v9.2.2.1 q) 36) ∧ (v9.2.1 = satS j_12 h mkd mce mho mn mz mm mt (itM mit j_14) j_17 v9.1)) (fun v9 => 36 - v9.1) (0, 0, mce, mho, mS, msc, mth, mF, mZ) ⟨(by
                  try dsimp only
                  all_goals omega), (by
                  try dsimp only
                  exact fun _ => rfl), (by
                  try dsimp only
                  exact fun _ => rfl), (by
                  try dsimp only
                  exact hce), (by
                  try dsimp only
                  all_goals rfl)⟩ rfl [3, 4, 5, 6, 8, 1, 0] rfl ?_
            rintro ⟨c0, zr, zc, zh, zS, zs, zt, zF, zZ⟩ ⟨hk, hc, hh, hcz, hz⟩ ih74
            try dsimp only at hk
            try dsimp only at hc
            try dsimp only at hh
            try dsimp only at hcz
            try dsimp only at hz
            refine V_eqw (ws2 := [ob mq 10 [.long mf, .int (nI mt), .ref mmq, .int (nI mn), .ref mkq, .ref mcq, .ref mhq, .ref maq, .int mz, .int my, .long zS, .ref mzq, .ref mtq, .int (nI mT), .int (nI mA), .ref mrq, .ref muq, .long zF, .int zZ, .ref moq, .int (mce j_12), .int (mho j_12), .ref mgq, .ref miq, .long mI, .int (bI mB), .ref mlq, .ref msq, .ref meq, .ref mvq], ai g mmq 6 mm, ai g mkq 6 mkd, ai g mcq 6 zc, ai g mhq 6 zh, ai g mzq 36 zs, ai g muq 6 zt, ai g mlq 4 mla, ai g msq 4 msz, al g meq 64 mit]) rfl (V_eql (lv' := [(0, .ref mq), (1, .int (nI j_12)), (2, .int h), (3, .int (nI j_14)), (5, .int (nI j_17)), (7, .long zr), (9, .int (nI c0))]) rfl ?_)
            refine V_iload (pc := 74) X dX10_sat_74 6 rfl ?_
            refine V_bipush (v := 36) (pc := 76) X dX10_sat_76 (by decide) ?_
            refine V_icmp_ge (tgt := 185) (pc := 78) X dX10_sat_78 (by decide) (fun c_23 => ?_) (fun c_23 => ?_)
            · skip
              have n_24 : 36 ≤ c0 := nJ_le (a := 36) (b := c0) (by omega) (by omega) c_23
              refine V_aload_n (pc := 185) X dX10_sat_185 rfl 0 rfl ?_
              refine V_iload_n (pc := 186) X dX10_sat_186 rfl 1 rfl ?_
              refine V_ve (pc := 187) (nA := 1) (As := [.int (nI j_12)]) (rest := []) X (c_X10_back l g (mq := mq) (mf := mf) (mt := mt) (mmq := mmq) (mn := mn) (mkq := mkq) (mcq := mcq) (mhq := mhq) (maq := maq) (mz := mz) (my := my) (mS := zS) (mzq := mzq) (mtq := mtq) (mT := mT) (mA := mA) (mrq := mrq) (muq := muq) (mF := zF) (mZ := zZ) (moq := moq) (mK := mce j_12) (mH := mho j_12) (mgq := mgq) (miq := miq) (mI := mI) (mB := mB) (mlq := mlq) (msq := msq) (meq := meq) (mvq := mvq) (mce := zc) (mho := zh) (j := j_12) (hj := by first | assumption | omega)) gX10_sat_X10_back dX10_sat_187 rfl (by decide +kernel) rfl (qb := 0) rfl rfl rfl ⟨rfl, rfl⟩ ⟨Nat.le_of_ble_eq_true rfl, Nat.le_of_ble_eq_true rfl⟩ ⟨Nat.le_of_ble_eq_true rfl, Nat.le_of_ble_eq_true rfl⟩ [0, 3, 4] (by decide) rfl [1, 2, 5, 6, 7, 8, 9] (by decide) (by decide) [ai g mmq 6 mm, ai g mkq 6 mkd, ai g mzq 36 zs, ai g muq 6 zt, ai g mlq 4 mla, ai g msq 4 msz, al g meq 64 mit] rfl [7, 0, 1, 8, 9, 2, 3, 4, 5, 6] (by decide) (fun u => [ob mq 10 [.long mf, .int (nI mt), .ref mmq, .int (nI mn), .ref mkq, .ref mcq, .ref mhq, .ref maq, .int mz, .int my, .long zS, .ref mzq, .ref mtq, .int (nI mT), .int (nI mA), .ref mrq, .ref muq, .long zF, .int zZ, .ref moq, .int (mce j_12), .int (mho j_12), .ref mgq, .ref miq, .long mI, .int (bI mB), .ref mlq, .ref msq, .ref meq, .ref mvq], ai g mmq 6 mm, ai g mkq 6 mkd, ai g mcq 6 (upd zc j_12 (mce j_12)), ai g mhq 6 (upd zh j_12 (mho j_12)), ai g mzq 36 zs, ai g muq 6 zt, ai g mlq 4 mla, ai g msq 4 msz, al g meq 64 mit]) (fun _ => rfl) rfl (Nat.le_of_ble_eq_true rfl) (fun u => []) (fun _ => rfl) (fun u hu_25 => ?_)
              refine V_eqw (ws2 := [ob mq 10 [.long mf, .int (nI mt), .ref mmq, .int (nI mn), .ref mkq, .ref mcq, .ref mhq, .ref maq, .int mz, .int my, .long zS, .ref mzq, .ref mtq, .int (nI mT), .int (nI mA), .ref mrq, .ref muq, .long zF, .int zZ, .ref moq, .int (mce j_12), .int (mho j_12), .ref mgq, .ref miq, .long mI, .int (bI mB), .ref mlq, .ref msq, .ref meq, .ref mvq], ai g mmq 6 mm, ai g mkq 6 mkd, ai g mcq 6 (upd zc j_12 (mce j_12)), ai g mhq 6 (upd zh j_12 (mho j_12)), ai g mzq 36 zs, ai g muq 6 zt, ai g mlq 4 mla, ai g msq 4 msz, al g meq 64 mit]) rfl (V_eqs (st2 := []) rfl ?_)
              refine V_eqw (ws2 := [ob mq 10 [.long mf, .int (nI mt), .ref mmq, .int (nI mn), .ref mkq, .ref mcq, .ref mhq, .ref maq, .int mz, .int my, .long zS, .ref mzq, .ref mtq, .int (nI mT), .int (nI mA), .ref mrq, .ref muq, .long zF, .int zZ, .ref moq, .int (mce j_12), .int (mho j_12), .ref mgq, .ref miq, .long mI, .int (bI mB), .ref mlq, .ref msq, .ref meq, .ref mvq], ai g mmq 6 mm, ai g mkq 6 mkd, ai g mcq 6 mce, ai g mhq 6 mho, ai g mzq 36 zs, ai g muq 6 zt, ai g mlq 4 mla, ai g msq 4 msz, al g meq 64 mit]) (by rw [upd_back hc, upd_back hh]) ?_
              refine V_lload (pc := 190) X dX10_sat_190 5 rfl ?_
              exact Ve_lret (pc := 192) X hA9 dX10_sat_192 hr (zr, zS, zs, zt, zF, zZ, (mce j_12), (mho j_12)) (by first | rfl | (simp [b_3, b_6, b_9, b_11, hj_13, hj_15, c_16, hj_18, hk_20, n_24]; done)) (by
                    try dsimp only
                    rw [satM_c (by assumption) (by assumption) (by assumption) (by assumption), nI_clamp (n := j_14) (by omega), if_pos (by assumption), nI_clamp (n := j_12) (by omega), nI_clamp (n := j_17) (by omega), hz, show c0 = 36 by omega]) (by rfl)
            · skip
              have n_26 : c0 < 36 := nJ_nle (a := 36) (b := c0) (by omega) (by omega) c_23
              refine V_aload_n (pc := 81) X dX10_sat_81 rfl 0 rfl ?_
              refine V_get (C := RX10) (T := TX10) (N := 30) (ci := 10) (pc := 82) X dX10_sat_82 in10 0 rfl rfl 5 (by decide) (by decide +kernel) rfl rfl ?_
              refine V_iload_n (pc := 85) X dX10_sat_85 rfl 1 rfl ?_
              refine V_iload (pc := 86) X dX10_sat_86 6 rfl ?_
              refine V_iast (f' := upd zc j_12 (nI c0)) (ws' := [ob mq 10 [.long mf, .int (nI mt), .ref mmq, .int (nI mn), .ref mkq, .ref mcq, .ref mhq, .ref maq, .int mz, .int my, .long zS, .ref mzq, .ref mtq, .int (nI mT), .int (nI mA), .ref mrq, .ref muq, .long zF, .int zZ, .ref moq, .int (mce j_12), .int (mho j_12), .ref mgq, .ref miq, .long mI, .int (bI mB), .ref mlq, .ref msq, .ref meq, .ref mvq], ai g mmq 6 mm, ai g mkq 6 mkd, ai g mcq 6 (upd zc j_12 (nI c0)), ai g mhq 6 zh, ai g mzq 36 zs, ai g muq 6 zt, ai g mlq 4 mla, ai g msq 4 msz, al g meq 64 mit]) (pc := 88) X dX10_sat_88 3 rfl (vp_in_nI (by omega) (by omega)) (by rw [nI_clamp (by omega)]) rfl ?_
              refine V_aload_n (pc := 89) X dX10_sat_89 rfl 0 rfl ?_
              refine V_get (C := RX10) (T := TX10) (N := 30) (ci := 10) (pc := 90) X dX10_sat_90 in10 0 rfl rfl 6 (by decide) (by decide +kernel) rfl rfl ?_
              refine V_iload_n (pc := 93) X dX10_sat_93 rfl 1 rfl ?_
              refine V_iload_n (pc := 94) X dX10_sat_94 rfl 2 rfl ?_
              refine V_iast (f' := upd zh j_12 h) (ws' := [ob mq 10 [.long mf, .int (nI mt), .ref mmq, .int (nI mn), .ref mkq, .ref mcq, .ref mhq, .ref maq, .int mz, .int my, .long zS, .ref mzq, .ref mtq, .int (nI mT), .int (nI mA), .ref mrq, .ref muq, .long zF, .int zZ, .ref moq, .int (mce j_12), .int (mho j_12), .ref mgq, .ref miq, .long mI, .int (bI mB), .ref mlq, .ref msq, .ref meq, .ref mvq], ai g mmq 6 mm, ai g mkq 6 mkd, ai g mcq 6 (upd zc j_12 (nI c0)), ai g mhq 6 (upd zh j_12 h), ai g mzq 36 zs, ai g muq 6 zt, ai g mlq 4 mla, ai g msq 4 msz, al g meq 64 mit]) (pc := 95) X dX10_sat_95 4 rfl (vp_in_nI (by omega) (by omega)) (by rw [nI_clamp (by omega)]) rfl ?_
              refine V_aload_n (pc := 96) X dX10_sat_96 rfl 0 rfl ?_
              refine V_ve (pc := 97) (nA := 0) (As := []) (rest := []) X (c_X10_lays l g (mq := mq) (mf := mf) (mt := mt) (mmq := mmq) (mn := mn) (mkq := mkq) (mcq := mcq) (mhq := mhq) (maq := maq) (mz := mz) (my := my) (mS := zS) (mzq := mzq) (mtq := mtq) (mT := mT) (mA := mA) (mrq := mrq) (muq := muq) (mF := zF) (mZ := zZ) (moq := moq) (mK := mce j_12) (mH := mho j_12) (mgq := mgq) (miq := miq) (mI := mI) (mB := mB) (mlq := mlq) (msq := msq) (meq := meq) (mvq := mvq) (mm := mm) (mkd := mkd) (mce := upd zc j_12 (nI c0)) (mho := upd zh j_12 h) (msc := zs) (mth := zt) (ht := by first | assumption | omega) (hn := by first | assumption | omega) (hce := by exact upd_vin hcz (vp_in_nI (by omega) (by omega))) (hkd := by first | assumption | omega) (hz9 := by first | assumption | omega)) gX10_sat_X10_lays dX10_sat_97 rfl (by decide +kernel) rfl (qb := 0) rfl rfl rfl ⟨rfl, rfl⟩ ⟨Nat.le_of_ble_eq_true rfl, Nat.le_of_ble_eq_true rfl⟩ ⟨Nat.le_of_ble_eq_true rfl, Nat.le_of_ble_eq_true rfl⟩ [0, 1, 2, 3, 4, 5, 6] (by decide) rfl [7, 8, 9] (by decide) (by decide) [ai g mlq 4 mla, ai g msq 4 msz, al g meq 64 mit] rfl [3, 4, 5, 6, 7, 8, 9, 0, 1, 2] (by decide) (fun u => [ob mq 10 [.long mf, .int (nI mt), .ref mmq, .int (nI mn), .ref mkq, .ref mcq, .ref mhq, .ref maq, .int mz, .int my, .long u.1, .ref mzq, .ref mtq, .int (nI mT), .int (nI mA), .ref mrq, .ref muq, .long (mf ||| strF mkd (upd zc j_12 (nI c0)) (upd zh j_12 h) mn), .int (frX mz), .ref moq, .int (mce j_12), .int (mho j_12), .ref mgq, .ref miq, .long mI, .int (bI mB), .ref mlq, .ref msq, .ref meq, .ref mvq], ai g mmq 6 mm, ai g mkq 6 mkd, ai g mcq 6 (upd zc j_12 (nI c0)), ai g mhq 6 (upd zh j_12 h), ai g mzq 36 u.2.1, ai g muq 6 u.2.2, ai g mlq 4 mla, ai g msq 4 msz, al g meq 64 mit]) (fun _ => rfl) rfl (Nat.le_of_ble_eq_true rfl) (fun u => [.int (nI (mvC mkd (upd zc j_12 (nI c0)) (upd zh j_12 h) mn mz mm mt))]) (fun _ => rfl) (fun u hu_30 => ?_)
              obtain ⟨S2_27, sc2_28, th2_29⟩ := u
              try dsimp only at hu_30
              have hhth_31 := hu_30
              refine V_eqw (ws2 := [ob mq 10 [.long mf, .int (nI mt), .ref mmq, .int (nI mn), .ref mkq, .ref mcq, .ref mhq, .ref maq, .int mz, .int my, .long S2_27, .ref mzq, .ref mtq, .int (nI mT), .int (nI mA), .ref mrq, .ref muq, .long (mf ||| strF mkd (upd zc j_12 (nI c0)) (upd zh j_12 h) mn), .int (frX mz), .ref moq, .int (mce j_12), .int (mho j_12), .ref mgq, .ref miq, .long mI, .int (bI mB), .ref mlq, .ref msq, .ref meq, .ref mvq], ai g mmq 6 mm, ai g mkq 6 mkd, ai g mcq 6 (upd zc j_12 (nI c0)), ai g mhq 6 (upd zh j_12 h), ai g mzq 36 sc2_28, ai g muq 6 th2_29, ai g mlq 4 mla, ai g msq 4 msz, al g meq 64 mit]) rfl (V_eqs (st2 := [.int (nI (mvC mkd (upd zc j_12 (nI c0)) (upd zh j_12 h) mn mz mm mt))]) rfl ?_)
              refine V_pop (pc := 100) X dX10_sat_100 rfl ?_
              refine V_iconst (v := 1) (pc := 101) X dX10_sat_101 (by decide) ?_
              refine V_istore (lv' := [(10, .int 1), (0, .ref mq), (1, .int (nI j_12)), (2, .int h), (3, .int (nI j_14)), (5, .int (nI j_17)), (7, .long zr), (9, .int (nI c0))]) (pc := 102) X dX10_sat_102 (Nat.le_of_ble_eq_true rfl) rfl ?_
              refine V_iconst (v := 0) (pc := 104) X dX10_sat_104 (by decide) ?_
              refine V_istore (lv' := [(11, .int 0), (10, .int 1), (0, .ref mq), (1, .int (nI j_12)), (2, .int h), (3, .int (nI j_14)), (5, .int (nI j_17)), (7, .long zr), (9, .int (nI c0))]) (pc := 105) X dX10_sat_105 (Nat.le_of_ble_eq_true rfl) rfl ?_
              refine V_loop (pc := 107) (σ := Nat × Bool) (fun v9 => [(0, .ref mq), (1, .int (nI j_12)), (2, .int h), (3, .int (nI j_14)), (5, .int (nI j_17)), (7, .long zr), (9, .int (nI c0)), (10, .int (bI v9.2)), (11, .int (nI v9.1))]) (fun v9 => [ob mq 10 [.long mf, .int (nI mt), .ref mmq, .int (nI mn), .ref mkq, .ref mcq, .ref mhq, .ref maq, .int mz, .int my, .long S2_27, .ref mzq, .ref mtq, .int (nI mT), .int (nI mA), .ref mrq, .ref muq, .long (mf ||| strF mkd (upd zc j_12 (nI c0)) (upd zh j_12 h) mn), .int (frX mz), .ref moq, .int (mce j_12), .int (mho j_12), .ref mgq, .ref miq, .long mI, .int (bI mB), .ref mlq, .ref msq, .ref meq, .ref mvq], ai g mmq 6 mm, ai g mkq 6 mkd, ai g mcq 6 (upd zc j_12 (nI c0)), ai g mhq 6 (upd zh j_12 h), ai g mzq 36 sc2_28, ai g muq 6 th2_29, ai g mlq 4 mla, ai g msq 4 msz, al g meq 64 mit]) (fun v9 => (v9.1 ≤ mt) ∧ (v9.2 = telF (itM mit j_14) th2_29 j_17 v9.1)) (fun v9 => mt - v9.1) (0, true) ⟨(by
                    try dsimp only
                    all_goals omega), (by
                    try dsimp only
                    all_goals rfl)⟩ rfl [2, 3, 4, 5, 6, 7, 8, 1, 0] rfl ?_
              rintro ⟨k, ok⟩ ⟨hkk, hok⟩ ih107
              try dsimp only at hkk
              try dsimp only at hok
              refine V_eqw (ws2 := [ob mq 10 [.long mf, .int (nI mt), .ref mmq, .int (nI mn), .ref mkq, .ref mcq, .ref mhq, .ref maq, .int mz, .int my, .long S2_27, .ref mzq, .ref mtq, .int (nI mT), .int (nI mA), .ref mrq, .ref muq, .long (mf ||| strF mkd (upd zc j_12 (nI c0)) (upd zh j_12 h) mn), .int (frX mz), .ref moq, .int (mce j_12), .int (mho j_12), .ref mgq, .ref miq, .long mI, .int (bI mB), .ref mlq, .ref msq, .ref meq, .ref mvq], ai g mmq 6 mm, ai g mkq 6 mkd, ai g mcq 6 (upd zc j_12 (nI c0)), ai g mhq 6 (upd zh j_12 h), ai g mzq 36 sc2_28, ai g muq 6 th2_29, ai g mlq 4 mla, ai g msq 4 msz, al g meq 64 mit]) rfl (V_eql (lv' := [(0, .ref mq), (1, .int (nI j_12)), (2, .int h), (3, .int (nI j_14)), (5, .int (nI j_17)), (7, .long zr), (9, .int (nI c0)), (10, .int (bI ok)), (11, .int (nI k))]) rfl ?_)
              refine V_iload (pc := 107) X dX10_sat_107 8 rfl ?_
              refine V_aload_n (pc := 109) X dX10_sat_109 rfl 0 rfl ?_
              refine V_get (C := RX10) (T := TX10) (N := 30) (ci := 10) (pc := 110) X dX10_sat_110 in10 0 rfl rfl 1 (by decide) (by decide +kernel) rfl rfl ?_
              refine V_icmp_ge (tgt := 161) (pc := 113) X dX10_sat_113 (by decide) (fun c_32 => ?_) (fun c_32 => ?_)
              · skip
                have n_33 : mt ≤ k := nJ_le (a := mt) (b := k) (by omega) (by omega) c_32
                refine V_lload (pc := 161) X dX10_sat_161 5 rfl ?_
                refine V_iload (pc := 163) X dX10_sat_163 7 rfl ?_
                refine V_if_eq (tgt := 175) (pc := 165) X dX10_sat_165 (by decide) (fun c_34 => ?_) (fun c_34 => ?_)
                · skip
                  have b_35 : ok = false := bI0 c_34
                  refine V_lconst (v := 0) (pc := 175) X dX10_sat_175 (by decide) ?_
                  refine V_lor (pc := 176) X dX10_sat_176 ?_
                  refine V_lstore (lv' := [(7, .long (zr ||| 0)), (0, .ref mq), (1, .int (nI j_12)), (2, .int h), (3, .int (nI j_14)), (5, .int (nI j_17)), (9, .int (nI c0)), (10, .int (bI ok)), (11, .int (nI k))]) (pc := 177) X dX10_sat_177 (Nat.le_of_ble_eq_true rfl) rfl ?_
                  refine V_iinc (v := nI (c0 + 1)) (lv' := [(9, .int (nI (c0 + 1))), (7, .long (zr ||| 0)), (0, .ref mq), (1, .int (nI j_12)), (2, .int h), (3, .int (nI j_14)), (5, .int (nI j_17)), (10, .int (bI ok)), (11, .int (nI k))]) (pc := 179) X dX10_sat_179 6 rfl (nI_add c0 1) (Nat.le_of_ble_eq_true rfl) rfl ?_
                  refine V_goto (tgt := 74) (pc := 182) X dX10_sat_182 (by decide) ?_
                  refine V_lv [2, 3, 4, 5, 6, 1, 0] rfl ?_
                  exact ih74 (c0 + 1, zr ||| 0, (upd zc j_12 (nI c0)), (upd zh j_12 h), S2_27, sc2_28, th2_29, mf ||| strF mkd (upd zc j_12 (nI c0)) (upd zh j_12 h) mn, frX mz) ⟨(by
                        try dsimp only
                        all_goals omega), (by
                        try dsimp only
                        exact fun v => (upd_upd _ _ _ _).trans (hc v)), (by
                        try dsimp only
                        exact fun v => (upd_upd _ _ _ _).trans (hh v)), (by
                        try dsimp only
                        exact upd_vin hcz (vp_in_nI (by omega) (by omega))), (by
                        try dsimp only
                        have e9 : TS j_12 h mkd mce mho mn mz mm mt (itM mit j_14) j_17 c0 = false := by
                          rw [← TSm_of (th := th2_29) (by intro q9 h9; rw [hhth_31 q9 h9, hc, hh]), show mt = k by omega]
                          exact hok.symm.trans b_35
                        exact (or64_0 _).trans (hz.trans (satS_n e9)))⟩ (by
                        try dsimp only
                        all_goals omega)
                · skip
                  have b_36 : ok = true := bI1 c_34
                  refine V_lconst (v := 1) (pc := 168) X dX10_sat_168 (by decide) ?_
                  refine V_iload (pc := 169) X dX10_sat_169 6 rfl ?_
                  refine V_lshl (pc := 171) X dX10_sat_171 ?_
                  refine V_setl (y := bitI (nI c0)) rfl ?_
                  refine V_goto (tgt := 176) (pc := 172) X dX10_sat_172 (by decide) ?_
                  refine V_lor (pc := 176) X dX10_sat_176 ?_
                  refine V_lstore (lv' := [(7, .long (zr ||| (bitI (nI c0)))), (0, .ref mq), (1, .int (nI j_12)), (2, .int h), (3, .int (nI j_14)), (5, .int (nI j_17)), (9, .int (nI c0)), (10, .int (bI ok)), (11, .int (nI k))]) (pc := 177) X dX10_sat_177 (Nat.le_of_ble_eq_true rfl) rfl ?_
                  refine V_iinc (v := nI (c0 + 1)) (lv' := [(9, .int (nI (c0 + 1))), (7, .long (zr ||| (bitI (nI c0)))), (0, .ref mq), (1, .int (nI j_12)), (2, .int h), (3, .int (nI j_14)), (5, .int (nI j_17)), (10, .int (bI ok)), (11, .int (nI k))]) (pc := 179) X dX10_sat_179 6 rfl (nI_add c0 1) (Nat.le_of_ble_eq_true rfl) rfl ?_
                  refine V_goto (tgt := 74) (pc := 182) X dX10_sat_182 (by decide) ?_
                  refine V_lv [2, 3, 4, 5, 6, 1, 0] rfl ?_
                  exact ih74 (c0 + 1, zr ||| (bitI (nI c0)), (upd zc j_12 (nI c0)), (upd zh j_12 h), S2_27, sc2_28, th2_29, mf ||| strF mkd (upd zc j_12 (nI c0)) (upd zh j_12 h) mn, frX mz) ⟨(by
                        try dsimp only
                        all_goals omega), (by
                        try dsimp only
                        exact fun v => (upd_upd _ _ _ _).trans (hc v)), (by
                        try dsimp only
                        exact fun v => (upd_upd _ _ _ _).trans (hh v)), (by
                        try dsimp only
                        exact upd_vin hcz (vp_in_nI (by omega) (by omega))), (by
                        try dsimp only
                        have e9 : TS j_12 h mkd mce mho mn mz mm mt (itM mit j_14) j_17 c0 = true := by
                          rw [← TSm_of (th := th2_29) (by intro q9 h9; rw [hhth_31 q9 h9, hc, hh]), show mt = k by omega]
                          exact hok.symm.trans b_36
                        rw [hz]; exact satS_y e9)⟩ (by
                        try dsimp only
                        all_goals omega)
              · skip
                have n_37 : k < mt := nJ_nle (a := mt) (b := k) (by omega) (by omega) c_32
                refine V_iload (pc := 116) X dX10_sat_116 7 rfl ?_
                refine V_if_eq (tgt := 152) (pc := 118) X dX10_sat_118 (by decide) (fun c_38 => ?_) (fun c_38 => ?_)
                · skip
                  have b_39 : ok = false := bI0 c_38
                  refine V_iconst (v := 0) (pc := 152) X dX10_sat_152 (by decide) ?_
                  refine V_istore (lv' := [(10, .int 0), (0, .ref mq), (1, .int (nI j_12)), (2, .int h), (3, .int (nI j_14)), (5, .int (nI j_17)), (7, .long zr), (9, .int (nI c0)), (11, .int (nI k))]) (pc := 153) X dX10_sat_153 (Nat.le_of_ble_eq_true rfl) rfl ?_
                  refine V_iinc (v := nI (k + 1)) (lv' := [(11, .int (nI (k + 1))), (10, .int 0), (0, .ref mq), (1, .int (nI j_12)), (2, .int h), (3, .int (nI j_14)), (5, .int (nI j_17)), (7, .long zr), (9, .int (nI c0))]) (pc := 155) X dX10_sat_155 8 rfl (nI_add k 1) (Nat.le_of_ble_eq_true rfl) rfl ?_
                  refine V_goto (tgt := 107) (pc := 158) X dX10_sat_158 (by decide) ?_
                  refine V_lv [2, 3, 4, 5, 6, 7, 8, 1, 0] rfl ?_
                  exact ih107 (k + 1, false) ⟨(by
                        try dsimp only
                        all_goals omega), (by
                        try dsimp only
                        rw [telF, ← hok]; simp [b_3, b_6, b_9, b_11, hj_13, hj_15, c_16, hj_18, hk_20, n_26, hhth_31, n_37, b_39])⟩ (by
                        try dsimp only
                        all_goals omega)
                · skip
                  have b_40 : ok = true := bI1 c_38
                  refine V_aload_n (pc := 121) X dX10_sat_121 rfl 0 rfl ?_
                  refine V_get (C := RX10) (T := TX10) (N := 30) (ci := 10) (pc := 122) X dX10_sat_122 in10 0 rfl rfl 16 (by decide) (by decide +kernel) rfl rfl ?_
                  refine V_iload (pc := 125) X dX10_sat_125 8 rfl ?_
                  refine V_iald (v := th2_29 k) (pc := 127) X dX10_sat_127 6 rfl (vp_in_nI (by omega) (by omega)) (by rw [nI_clamp (by omega)]) ?_
                  refine V_i2l (pc := 128) X dX10_sat_128 ?_
                  refine V_aload_n (pc := 129) X dX10_sat_129 rfl 0 rfl ?_
                  refine V_get (C := RX10) (T := TX10) (N := 30) (ci := 10) (pc := 130) X dX10_sat_130 in10 0 rfl rfl 28 (by decide) (by decide +kernel) rfl rfl ?_
                  refine V_bipush (v := 16) (pc := 133) X dX10_sat_133 (by decide) ?_
                  refine V_iload_n (pc := 135) X dX10_sat_135 rfl 3 rfl ?_
                  refine V_imul (pc := 136) X dX10_sat_136 ?_
                  refine V_seti (y := nI (16 * j_14)) (pk_mul 16 j_14) ?_
                  refine V_iload (pc := 137) X dX10_sat_137 4 rfl ?_
                  refine V_iadd (pc := 139) X dX10_sat_139 ?_
                  refine V_seti (y := nI ((16 * j_14) + j_17)) (nI_add (16 * j_14) j_17) ?_
                  refine V_iload (pc := 140) X dX10_sat_140 8 rfl ?_
                  refine V_iadd (pc := 142) X dX10_sat_142 ?_
                  refine V_seti (y := nI (((16 * j_14) + j_17) + k)) (nI_add ((16 * j_14) + j_17) k) ?_
                  refine V_lald (v := mit (((16 * j_14) + j_17) + k)) (pc := 143) X dX10_sat_143 9 rfl (vp_in_nI (by omega) (by omega)) (by rw [nI_clamp (by omega)]) ?_
                  refine V_setl (y := itM mit j_14 (j_17 + k)) (by unfold itM; rw [Nat.add_assoc]) ?_
                  refine V_lcmp (pc := 144) X dX10_sat_144 ?_
                  refine V_if_ne (tgt := 152) (pc := 145) X dX10_sat_145 (by decide) (fun c_41 => ?_) (fun c_41 => ?_)
                  · skip
                    have q_42 : ¬ ((th2_29 k).toInt64) = (itM mit j_14 (j_17 + k)) := cmp_ne_t c_41
                    refine V_iconst (v := 0) (pc := 152) X dX10_sat_152 (by decide) ?_
                    refine V_istore (lv' := [(10, .int 0), (0, .ref mq), (1, .int (nI j_12)), (2, .int h), (3, .int (nI j_14)), (5, .int (nI j_17)), (7, .long zr), (9, .int (nI c0)), (11, .int (nI k))]) (pc := 153) X dX10_sat_153 (Nat.le_of_ble_eq_true rfl) rfl ?_
                    refine V_iinc (v := nI (k + 1)) (lv' := [(11, .int (nI (k + 1))), (10, .int 0), (0, .ref mq), (1, .int (nI j_12)), (2, .int h), (3, .int (nI j_14)), (5, .int (nI j_17)), (7, .long zr), (9, .int (nI c0))]) (pc := 155) X dX10_sat_155 8 rfl (nI_add k 1) (Nat.le_of_ble_eq_true rfl) rfl ?_
                    refine V_goto (tgt := 107) (pc := 158) X dX10_sat_158 (by decide) ?_
                    refine V_lv [2, 3, 4, 5, 6, 7, 8, 1, 0] rfl ?_
                    exact ih107 (k + 1, false) ⟨(by
                          try dsimp only
                          all_goals omega), (by
                          try dsimp only
                          rw [telF, ← hok]; rw [b_40, decide_eq_false (fun q => absurd q.symm (by assumption))]; rfl)⟩ (by
                          try dsimp only
                          all_goals omega)
                  · skip
                    have q_43 : ((th2_29 k).toInt64) = (itM mit j_14 (j_17 + k)) := cmp_ne_f c_41
                    refine V_iconst (v := 1) (pc := 148) X dX10_sat_148 (by decide) ?_
                    refine V_goto (tgt := 153) (pc := 149) X dX10_sat_149 (by decide) ?_
                    refine V_istore (lv' := [(10, .int 1), (0, .ref mq), (1, .int (nI j_12)), (2, .int h), (3, .int (nI j_14)), (5, .int (nI j_17)), (7, .long zr), (9, .int (nI c0)), (11, .int (nI k))]) (pc := 153) X dX10_sat_153 (Nat.le_of_ble_eq_true rfl) rfl ?_
                    refine V_iinc (v := nI (k + 1)) (lv' := [(11, .int (nI (k + 1))), (10, .int 1), (0, .ref mq), (1, .int (nI j_12)), (2, .int h), (3, .int (nI j_14)), (5, .int (nI j_17)), (7, .long zr), (9, .int (nI c0))]) (pc := 155) X dX10_sat_155 8 rfl (nI_add k 1) (Nat.le_of_ble_eq_true rfl) rfl ?_
                    refine V_goto (tgt := 107) (pc := 158) X dX10_sat_158 (by decide) ?_
                    refine V_lv [2, 3, 4, 5, 6, 7, 8, 1, 0] rfl ?_
                    exact ih107 (k + 1, true) ⟨(by
                          try dsimp only
                          all_goals omega), (by
                          try dsimp only
                          rw [telF, ← hok]; rw [b_40, decide_eq_true (Eq.symm (by assumption))]; rfl)⟩ (by
                          try dsimp only
                          all_goals omega)
          · skip
            refine V_iload (pc := 59) X dX10_sat_59 0 rfl ?_
            refine V_i2l (pc := 61) X dX10_sat_61 ?_
            exact Ve_lret (pc := 62) X hA9 dX10_sat_62 hr ((whM (mla j_14) l0 i (nI mt) (msz j_14)).toInt64, mS, msc, mth, mF, mZ, mK, mH) (by first | rfl | (simp [b_3, b_6, b_9, b_11, hj_13, hj_15, c_16]; done)) (by
                  try dsimp only
                  rw [satM_c (by assumption) (by assumption) (by assumption) (by assumption), nI_clamp (n := j_14) (by omega), if_neg (by assumption)]) (by rfl)
        · skip
          have b_44 : (bel l0 3) = false := bI0 c_10
          refine V_ldc2 (v := (-1)) (pc := 35) X dX10_sat_35 (by decide +kernel) ?_
          exact Ve_lret (pc := 38) X hA9 dX10_sat_38 hr ((-1), mS, msc, mth, mF, mZ, mK, mH) (by first | rfl | (simp [b_3, b_6, b_9, b_44]; done)) (by
                try dsimp only
                exact satM_b (by simp [b_3, b_6, b_9, b_44])) (by rfl)
set_option maxHeartbeats 4000000 in
set_option maxRecDepth 100000 in
theorem c_X10_film (l : Launch) (g : XG) (mq : Nat) (mf : Int64) (mt : Nat) (mmq : Nat) (mn : Nat) (mkq : Nat) (mcq : Nat) (mhq : Nat) (maq : Nat) (mz : Int32) (my : Int32) (mS : Int64) (mzq : Nat) (mtq : Nat) (mT : Nat) (mA : Nat) (mrq : Nat) (muq : Nat) (mF : Int64) (mZ : Int32) (moq : Nat) (mK : Int32) (mH : Int32) (mgq : Nat) (miq : Nat) (mI : Int64) (mB : Bool) (mlq : Nat) (msq : Nat) (meq : Nat) (mvq : Nat) (mm : Nat → Int32) (mla : Nat → Int32) (msz : Nat → Int32) (mit : Nat → Int64) (x : Int32) (l0 : Int32) (i : Int32) (ht : mt ≤ 6) (hsz : ∀ q, q < 4 → ∃ k, k ≤ 16 ∧ msz q = nI k) (hmm : ∀ j, j < mt → vp_in (mm j) 36) : Ke l g yX10_film wsX10_film ({ frames := 2, cells := 0, slots := 0, locals := 45 } : Room) 0 0 [.ref mq, .int x, .int l0, .int i] [ob mq 10 [.long mf, .int (nI mt), .ref mmq, .int (nI mn), .ref mkq, .ref mcq, .ref mhq, .ref maq, .int mz, .int my, .long mS, .ref mzq, .ref mtq, .int (nI mT), .int (nI mA), .ref mrq, .ref muq, .long mF, .int mZ, .ref moq, .int mK, .int mH, .ref mgq, .ref miq, .long mI, .int (bI mB), .ref mlq, .ref msq, .ref meq, .ref mvq], ai g mmq 6 mm, ai g mlq 4 mla, ai g msq 4 msz, al g meq 64 mit] (fun u : Int32 × (Nat → Int64) => some (.int u.1)) (fun u => [ob mq 10 [.long mf, .int (nI mt), .ref mmq, .int (nI mn), .ref mkq, .ref mcq, .ref mhq, .ref maq, .int mz, .int my, .long mS, .ref mzq, .ref mtq, .int (nI mT), .int (nI mA), .ref mrq, .ref muq, .long mF, .int mZ, .ref moq, .int mK, .int mH, .ref mgq, .ref miq, .long mI, .int (bI mB), .ref mlq, .ref msq, .ref meq, .ref mvq], ai g mmq 6 mm, ai g mlq 4 mla, ai g msq 4 msz, al g meq 64 u.2]) (fun u => (R_filmM x l0 i mla msz mit mt mm u.1 u.2)) := by
  refine Ke.of (cc := cX10_film) (maxL := 6) (ret := (some .int)) (lv := [(0, .ref mq), (1, .int x), (2, .int l0), (3, .int i)]) RX10 rfl (by decide) rfl (Nat.le_of_ble_eq_true rfl) rfl ?_
  intro p e s m below meth c A sz hA9 X hr hin2
  have in10 : ∀ w ∈ u_ws RX10 TX10 30, w ∈ wsX10_film := by decide +kernel
  refine V_iload_n (pc := 0) X dX10_film_0 rfl 1 rfl ?_
  refine V_sg (pc := 1) (nA := 1) (As := [.int x]) (rest := []) X (c_X10_isSheet l g (x := x) ) gX10_film_X10_isSheet dX10_film_1 rfl (by decide +kernel) rfl ⟨rfl, rfl⟩ ⟨Nat.le_of_ble_eq_true rfl, Nat.le_of_ble_eq_true rfl⟩ ⟨Nat.le_of_ble_eq_true rfl, Nat.le_of_ble_eq_true rfl⟩ [] (by decide) rfl rfl (Nat.le_of_ble_eq_true rfl) (st' := [.int (bI (bel x 4))]) rfl ?_
  refine V_if_eq (tgt := 14) (pc := 4) X dX10_film_4 (by decide) (fun c_1 => ?_) (fun c_1 => ?_)
  · skip
    have b_2 : (bel x 4) = false := bI0 c_1
    refine V_iconst (v := (-1)) (pc := 14) X dX10_film_14 (by decide) ?_
    exact Ve_iret (pc := 15) X hA9 dX10_film_15 hr ((-1), mit) (by first | rfl | (simp [b_2]; done)) (by
          try dsimp only
          (unfold R_filmM; exact Or.inl ⟨by simp [b_2], rfl, rfl⟩)) (by rfl)
  · skip
    have b_3 : (bel x 4) = true := bI1 c_1
    refine V_iload_n (pc := 7) X dX10_film_7 rfl 2 rfl ?_
    refine V_sg (pc := 8) (nA := 1) (As := [.int l0]) (rest := []) X (c_X10_isLane l g (x := l0) ) gX10_film_X10_isLane dX10_film_8 rfl (by decide +kernel) rfl ⟨rfl, rfl⟩ ⟨Nat.le_of_ble_eq_true rfl, Nat.le_of_ble_eq_true rfl⟩ ⟨Nat.le_of_ble_eq_true rfl, Nat.le_of_ble_eq_true rfl⟩ [] (by decide) rfl rfl (Nat.le_of_ble_eq_true rfl) (st' := [.int (bI (bel l0 3))]) rfl ?_
    refine V_if_ne (tgt := 16) (pc := 11) X dX10_film_11 (by decide) (fun c_4 => ?_) (fun c_4 => ?_)
    · skip
      have b_5 : (bel l0 3) = true := bI1 c_4
      obtain ⟨j_6, hj_7, rfl⟩ := bel_nat (n := 4) (by omega) b_3
      refine V_aload_n (pc := 16) X dX10_film_16 rfl 0 rfl ?_
      refine V_iload_n (pc := 17) X dX10_film_17 rfl 1 rfl ?_
      refine V_iload_n (pc := 18) X dX10_film_18 rfl 2 rfl ?_
      refine V_iload_n (pc := 19) X dX10_film_19 rfl 3 rfl ?_
      refine V_aload_n (pc := 20) X dX10_film_20 rfl 0 rfl ?_
      refine V_get (C := RX10) (T := TX10) (N := 30) (ci := 10) (pc := 21) X dX10_film_21 in10 0 rfl rfl 1 (by decide) (by decide +kernel) rfl rfl ?_
      refine V_vg (pc := 24) (nA := 4) (As := [.int (nI j_6), .int l0, .int i, .int (nI mt)]) (rest := []) X (c_X10_why l g (mq := mq) (mf := mf) (mt := mt) (mmq := mmq) (mn := mn) (mkq := mkq) (mcq := mcq) (mhq := mhq) (maq := maq) (mz := mz) (my := my) (mS := mS) (mzq := mzq) (mtq := mtq) (mT := mT) (mA := mA) (mrq := mrq) (muq := muq) (mF := mF) (mZ := mZ) (moq := moq) (mK := mK) (mH := mH) (mgq := mgq) (miq := miq) (mI := mI) (mB := mB) (mlq := mlq) (msq := msq) (meq := meq) (mvq := mvq) (mla := mla) (msz := msz) (s9 := j_6) (l0 := l0) (i := i) (n := nI mt) (hs := by first | assumption | omega)) gX10_film_X10_why dX10_film_24 rfl (by decide +kernel) rfl (qb := 0) rfl rfl rfl ⟨rfl, rfl⟩ ⟨Nat.le_of_ble_eq_true rfl, Nat.le_of_ble_eq_true rfl⟩ ⟨Nat.le_of_ble_eq_true rfl, Nat.le_of_ble_eq_true rfl⟩ [0, 2, 3] (by decide) rfl rfl (Nat.le_of_ble_eq_true rfl) (st' := [.int (whM (mla j_6) l0 i (nI mt) (msz j_6))]) rfl ?_
      refine V_istore (lv' := [(4, .int (whM (mla j_6) l0 i (nI mt) (msz j_6))), (0, .ref mq), (1, .int (nI j_6)), (2, .int l0), (3, .int i)]) (pc := 27) X dX10_film_27 (Nat.le_of_ble_eq_true rfl) rfl ?_
      refine V_iload (pc := 29) X dX10_film_29 0 rfl ?_
      refine V_if_ge (tgt := 37) (pc := 31) X dX10_film_31 (by decide) (fun c_8 => ?_) (fun c_8 => ?_)
      · skip
        obtain ⟨k_11, hk_12, ek_13⟩ := hsz j_6 (by omega)
        obtain ⟨j_9, rfl, hj_10⟩ := whM_nat (w := mt) hk_12 (by omega) ek_13 c_8
        refine V_iconst (v := 0) (pc := 37) X dX10_film_37 (by decide) ?_
        refine V_istore (lv' := [(5, .int 0), (4, .int (whM (mla j_6) l0 (nI j_9) (nI mt) (msz j_6))), (0, .ref mq), (1, .int (nI j_6)), (2, .int l0), (3, .int (nI j_9))]) (pc := 38) X dX10_film_38 (Nat.le_of_ble_eq_true rfl) rfl ?_
        refine V_loop (pc := 40) (σ := Nat × (Nat → Int64)) (fun v9 => [(0, .ref mq), (1, .int (nI j_6)), (3, .int (nI j_9)), (5, .int (nI v9.1))]) (fun v9 => [ob mq 10 [.long mf, .int (nI mt), .ref mmq, .int (nI mn), .ref mkq, .ref mcq, .ref mhq, .ref maq, .int mz, .int my, .long mS, .ref mzq, .ref mtq, .int (nI mT), .int (nI mA), .ref mrq, .ref muq, .long mF, .int mZ, .ref moq, .int mK, .int mH, .ref mgq, .ref miq, .long mI, .int (bI mB), .ref mlq, .ref msq, .ref meq, .ref mvq], ai g mmq 6 mm, ai g mlq 4 mla, ai g msq 4 msz, al g meq 64 v9.2]) (fun v9 => (v9.1 ≤ mt) ∧ (v9.2 = flF mit mm (16 * j_6 + j_9) v9.1)) (fun v9 => mt - v9.1) (0, mit) ⟨(by
              try dsimp only
              all_goals omega), (by
              try dsimp only
              exact flF_0 _ _ _)⟩ rfl [2, 3, 5, 0] rfl ?_
        rintro ⟨k, z⟩ ⟨hk, hz⟩ ih40
        try dsimp only at hk
        try dsimp only at hz
        refine V_eqw (ws2 := [ob mq 10 [.long mf, .int (nI mt), .ref mmq, .int (nI mn), .ref mkq, .ref mcq, .ref mhq, .ref maq, .int mz, .int my, .long mS, .ref mzq, .ref mtq, .int (nI mT), .int (nI mA), .ref mrq, .ref muq, .long mF, .int mZ, .ref moq, .int mK, .int mH, .ref mgq, .ref miq, .long mI, .int (bI mB), .ref mlq, .ref msq, .ref meq, .ref mvq], ai g mmq 6 mm, ai g mlq 4 mla, ai g msq 4 msz, al g meq 64 z]) rfl (V_eql (lv' := [(0, .ref mq), (1, .int (nI j_6)), (3, .int (nI j_9)), (5, .int (nI k))]) rfl ?_)
        refine V_iload (pc := 40) X dX10_film_40 3 rfl ?_
        refine V_aload_n (pc := 42) X dX10_film_42 rfl 0 rfl ?_
        refine V_get (C := RX10) (T := TX10) (N := 30) (ci := 10) (pc := 43) X dX10_film_43 in10 0 rfl rfl 1 (by decide) (by decide +kernel) rfl rfl ?_
        refine V_icmp_ge (tgt := 72) (pc := 46) X dX10_film_46 (by decide) (fun c_14 => ?_) (fun c_14 => ?_)
        · skip
          have n_15 : mt ≤ k := nJ_le (a := mt) (b := k) (by omega) (by omega) c_14
          refine V_aload_n (pc := 72) X dX10_film_72 rfl 0 rfl ?_
          refine V_get (C := RX10) (T := TX10) (N := 30) (ci := 10) (pc := 73) X dX10_film_73 in10 0 rfl rfl 1 (by decide) (by decide +kernel) rfl rfl ?_
          exact Ve_iret (pc := 76) X hA9 dX10_film_76 hr (nI mt, z) (by first | rfl | (simp [b_3, b_5, hj_7, c_8, hj_10, hk_12, n_15]; done)) (by
                try dsimp only
                (unfold R_filmM; exact Or.inr (Or.inr ⟨by simp [b_3, b_5, hj_7, c_8, hj_10, hk_12, n_15], by rw [nI_clamp (n := j_6) (by omega)]; assumption, rfl, by rw [nI_clamp (n := j_6) (by omega), nI_clamp (n := j_9) (by omega), hz, show k = mt by omega]⟩))) (by rfl)
        · skip
          have n_16 : k < mt := nJ_nle (a := mt) (b := k) (by omega) (by omega) c_14
          refine V_aload_n (pc := 49) X dX10_film_49 rfl 0 rfl ?_
          refine V_iload_n (pc := 50) X dX10_film_50 rfl 1 rfl ?_
          refine V_iload_n (pc := 51) X dX10_film_51 rfl 2 rfl ?_
          refine V_iload (pc := 52) X dX10_film_52 3 rfl ?_
          refine V_iadd (pc := 54) X dX10_film_54 ?_
          refine V_seti (y := nI (j_9 + k)) (nI_add j_9 k) ?_
          refine V_aload_n (pc := 55) X dX10_film_55 rfl 0 rfl ?_
          refine V_get (C := RX10) (T := TX10) (N := 30) (ci := 10) (pc := 56) X dX10_film_56 in10 0 rfl rfl 2 (by decide) (by decide +kernel) rfl rfl ?_
          refine V_iload (pc := 59) X dX10_film_59 3 rfl ?_
          refine V_iald (v := mm k) (pc := 61) X dX10_film_61 1 rfl (vp_in_nI (by omega) (by omega)) (by rw [nI_clamp (by omega)]) ?_
          refine V_i2l (pc := 62) X dX10_film_62 ?_
          refine V_ve (pc := 63) (nA := 3) (As := [.int (nI j_6), .int (nI (j_9 + k)), .long ((mm k).toInt64)]) (rest := []) X (c_X10_puts l g (mq := mq) (mf := mf) (mt := mt) (mmq := mmq) (mn := mn) (mkq := mkq) (mcq := mcq) (mhq := mhq) (maq := maq) (mz := mz) (my := my) (mS := mS) (mzq := mzq) (mtq := mtq) (mT := mT) (mA := mA) (mrq := mrq) (muq := muq) (mF := mF) (mZ := mZ) (moq := moq) (mK := mK) (mH := mH) (mgq := mgq) (miq := miq) (mI := mI) (mB := mB) (mlq := mlq) (msq := msq) (meq := meq) (mvq := mvq) (mla := mla) (mit := z) (s9 := j_6) (i := j_9 + k) (v := (mm k).toInt64) (hs := by first | assumption | omega) (hi := by first | assumption | omega)) gX10_film_X10_puts dX10_film_63 rfl (by decide +kernel) rfl (qb := 0) rfl rfl rfl ⟨rfl, rfl⟩ ⟨Nat.le_of_ble_eq_true rfl, Nat.le_of_ble_eq_true rfl⟩ ⟨Nat.le_of_ble_eq_true rfl, Nat.le_of_ble_eq_true rfl⟩ [0, 2, 4] (by decide) rfl [1, 3] (by decide) (by decide) [ai g mmq 6 mm, ai g msq 4 msz] rfl [2, 0, 3, 1, 4] (by decide) (fun u => [ob mq 10 [.long mf, .int (nI mt), .ref mmq, .int (nI mn), .ref mkq, .ref mcq, .ref mhq, .ref maq, .int mz, .int my, .long mS, .ref mzq, .ref mtq, .int (nI mT), .int (nI mA), .ref mrq, .ref muq, .long mF, .int mZ, .ref moq, .int mK, .int mH, .ref mgq, .ref miq, .long mI, .int (bI mB), .ref mlq, .ref msq, .ref meq, .ref mvq], ai g mmq 6 mm, ai g mlq 4 mla, ai g msq 4 msz, al g meq 64 (vp_updL z (16 * j_6 + (j_9 + k)) (cutL (mla j_6) ((mm k).toInt64)))]) (fun _ => rfl) rfl (Nat.le_of_ble_eq_true rfl) (fun u => []) (fun _ => rfl) (fun u hu_17 => ?_)
          refine V_eqw (ws2 := [ob mq 10 [.long mf, .int (nI mt), .ref mmq, .int (nI mn), .ref mkq, .ref mcq, .ref mhq, .ref maq, .int mz, .int my, .long mS, .ref mzq, .ref mtq, .int (nI mT), .int (nI mA), .ref mrq, .ref muq, .long mF, .int mZ, .ref moq, .int mK, .int mH, .ref mgq, .ref miq, .long mI, .int (bI mB), .ref mlq, .ref msq, .ref meq, .ref mvq], ai g mmq 6 mm, ai g mlq 4 mla, ai g msq 4 msz, al g meq 64 (vp_updL z (16 * j_6 + (j_9 + k)) (cutL (mla j_6) ((mm k).toInt64)))]) rfl (V_eqs (st2 := []) rfl ?_)
          refine V_iinc (v := nI (k + 1)) (lv' := [(5, .int (nI (k + 1))), (0, .ref mq), (1, .int (nI j_6)), (3, .int (nI j_9))]) (pc := 66) X dX10_film_66 3 rfl (nI_add k 1) (Nat.le_of_ble_eq_true rfl) rfl ?_
          refine V_goto (tgt := 40) (pc := 69) X dX10_film_69 (by decide) ?_
          refine V_lv [1, 2, 3, 0] rfl ?_
          exact ih40 (k + 1, vp_updL z (16 * j_6 + (j_9 + k)) (cutL (mla j_6) ((mm k).toInt64))) ⟨(by
                try dsimp only
                all_goals omega), (by
                try dsimp only
                rw [hz, cut_cell (hmm k (by omega)), ← Nat.add_assoc]; exact flF_s _ _ _ _)⟩ (by
                try dsimp only
                all_goals omega)
      · skip
        refine V_iload (pc := 34) X dX10_film_34 0 rfl ?_
        exact Ve_iret (pc := 36) X hA9 dX10_film_36 hr (whM (mla j_6) l0 i (nI mt) (msz j_6), mit) (by first | rfl | (simp [b_3, b_5, hj_7, c_8]; done)) (by
              try dsimp only
              (unfold R_filmM; exact Or.inr (Or.inl ⟨by simp [b_3, b_5, hj_7, c_8], by rw [nI_clamp (n := j_6) (by omega)]; assumption, by rw [nI_clamp (n := j_6) (by omega)], rfl⟩))) (by rfl)
    · skip
      have b_18 : (bel l0 3) = false := bI0 c_4
      refine V_iconst (v := (-1)) (pc := 14) X dX10_film_14 (by decide) ?_
      exact Ve_iret (pc := 15) X hA9 dX10_film_15 hr ((-1), mit) (by first | rfl | (simp [b_3, b_18]; done)) (by
            try dsimp only
            (unfold R_filmM; exact Or.inl ⟨by simp [b_3, b_18], rfl, rfl⟩)) (by rfl)
set_option maxHeartbeats 4000000 in
set_option maxRecDepth 100000 in
theorem c_X10_sheet (l : Launch) (g : XG) (mq : Nat) (mf : Int64) (mt : Nat) (mmq : Nat) (mn : Nat) (mkq : Nat) (mcq : Nat) (mhq : Nat) (maq : Nat) (mz : Int32) (my : Int32) (mS : Int64) (mzq : Nat) (mtq : Nat) (mT : Nat) (mA : Nat) (mrq : Nat) (muq : Nat) (mF : Int64) (mZ : Int32) (moq : Nat) (mK : Int32) (mH : Int32) (mgq : Nat) (miq : Nat) (mI : Int64) (mB : Bool) (mlq : Nat) (msq : Nat) (meq : Nat) (mvq : Nat) (mla : Nat → Int32) (msz : Nat → Int32) (mit : Nat → Int64) (x : Int32) (l0 : Int32) (y : Int32)  : Ke l g yX10_sheet wsX10_sheet ({ frames := 2, cells := 0, slots := 0, locals := 45 } : Room) 0 0 [.ref mq, .int x, .int l0, .int y] [ob mq 10 [.long mf, .int (nI mt), .ref mmq, .int (nI mn), .ref mkq, .ref mcq, .ref mhq, .ref maq, .int mz, .int my, .long mS, .ref mzq, .ref mtq, .int (nI mT), .int (nI mA), .ref mrq, .ref muq, .long mF, .int mZ, .ref moq, .int mK, .int mH, .ref mgq, .ref miq, .long mI, .int (bI mB), .ref mlq, .ref msq, .ref meq, .ref mvq], ai g mlq 4 mla, ai g msq 4 msz, al g meq 64 mit] (fun u : Int32 × (Nat → Int32) × (Nat → Int32) × (Nat → Int64) => some (.int u.1)) (fun u => [ob mq 10 [.long mf, .int (nI mt), .ref mmq, .int (nI mn), .ref mkq, .ref mcq, .ref mhq, .ref maq, .int mz, .int my, .long mS, .ref mzq, .ref mtq, .int (nI mT), .int (nI mA), .ref mrq, .ref muq, .long mF, .int mZ, .ref moq, .int mK, .int mH, .ref mgq, .ref miq, .long mI, .int (bI mB), .ref mlq, .ref msq, .ref meq, .ref mvq], ai g mlq 4 u.2.1, ai g msq 4 u.2.2.1, al g meq 64 u.2.2.2]) (fun u => (R_sheetM x l0 y mla msz mit u.1 u.2.1 u.2.2.1 u.2.2.2)) := by
  refine Ke.of (cc := cX10_sheet) (maxL := 5) (ret := (some .int)) (lv := [(0, .ref mq), (1, .int x), (2, .int l0), (3, .int y)]) RX10 rfl (by decide) rfl (Nat.le_of_ble_eq_true rfl) rfl ?_
  intro p e s m below meth c A sz hA9 X hr hin2
  have in10 : ∀ w ∈ u_ws RX10 TX10 30, w ∈ wsX10_sheet := by decide +kernel
  refine V_iload_n (pc := 0) X dX10_sheet_0 rfl 1 rfl ?_
  refine V_sg (pc := 1) (nA := 1) (As := [.int x]) (rest := []) X (c_X10_isSheet l g (x := x) ) gX10_sheet_X10_isSheet dX10_sheet_1 rfl (by decide +kernel) rfl ⟨rfl, rfl⟩ ⟨Nat.le_of_ble_eq_true rfl, Nat.le_of_ble_eq_true rfl⟩ ⟨Nat.le_of_ble_eq_true rfl, Nat.le_of_ble_eq_true rfl⟩ [] (by decide) rfl rfl (Nat.le_of_ble_eq_true rfl) (st' := [.int (bI (bel x 4))]) rfl ?_
  refine V_if_eq (tgt := 20) (pc := 4) X dX10_sheet_4 (by decide) (fun c_1 => ?_) (fun c_1 => ?_)
  · skip
    have b_2 : (bel x 4) = false := bI0 c_1
    refine V_iconst (v := (-1)) (pc := 20) X dX10_sheet_20 (by decide) ?_
    exact Ve_iret (pc := 21) X hA9 dX10_sheet_21 hr ((-1), mla, msz, mit) (by first | rfl | (simp [b_2]; done)) (by
          try dsimp only
          (unfold R_sheetM; exact Or.inl ⟨by simp [b_2], rfl, rfl, rfl, rfl⟩)) (by rfl)
  · skip
    have b_3 : (bel x 4) = true := bI1 c_1
    refine V_iload_n (pc := 7) X dX10_sheet_7 rfl 2 rfl ?_
    refine V_sg (pc := 8) (nA := 1) (As := [.int l0]) (rest := []) X (c_X10_isLane l g (x := l0) ) gX10_sheet_X10_isLane dX10_sheet_8 rfl (by decide +kernel) rfl ⟨rfl, rfl⟩ ⟨Nat.le_of_ble_eq_true rfl, Nat.le_of_ble_eq_true rfl⟩ ⟨Nat.le_of_ble_eq_true rfl, Nat.le_of_ble_eq_true rfl⟩ [] (by decide) rfl rfl (Nat.le_of_ble_eq_true rfl) (st' := [.int (bI (bel l0 3))]) rfl ?_
    refine V_if_eq (tgt := 20) (pc := 11) X dX10_sheet_11 (by decide) (fun c_4 => ?_) (fun c_4 => ?_)
    · skip
      have b_5 : (bel l0 3) = false := bI0 c_4
      refine V_iconst (v := (-1)) (pc := 20) X dX10_sheet_20 (by decide) ?_
      exact Ve_iret (pc := 21) X hA9 dX10_sheet_21 hr ((-1), mla, msz, mit) (by first | rfl | (simp [b_3, b_5]; done)) (by
            try dsimp only
            (unfold R_sheetM; exact Or.inl ⟨by simp [b_3, b_5], rfl, rfl, rfl, rfl⟩)) (by rfl)
    · skip
      have b_6 : (bel l0 3) = true := bI1 c_4
      refine V_iload_n (pc := 14) X dX10_sheet_14 rfl 3 rfl ?_
      refine V_bipush (v := 16) (pc := 15) X dX10_sheet_15 (by decide) ?_
      refine V_icmp_le (tgt := 22) (pc := 17) X dX10_sheet_17 (by decide) (fun c_7 => ?_) (fun c_7 => ?_)
      · skip
        refine V_iload_n (pc := 22) X dX10_sheet_22 rfl 3 rfl ?_
        refine V_if_ge (tgt := 29) (pc := 23) X dX10_sheet_23 (by decide) (fun c_8 => ?_) (fun c_8 => ?_)
        · skip
          obtain ⟨j_9, hj_10, rfl⟩ := bel_nat (n := 4) (by omega) b_3
          refine V_aload_n (pc := 29) X dX10_sheet_29 rfl 0 rfl ?_
          refine V_get (C := RX10) (T := TX10) (N := 30) (ci := 10) (pc := 30) X dX10_sheet_30 in10 0 rfl rfl 26 (by decide) (by decide +kernel) rfl rfl ?_
          refine V_iload_n (pc := 33) X dX10_sheet_33 rfl 1 rfl ?_
          refine V_iload_n (pc := 34) X dX10_sheet_34 rfl 2 rfl ?_
          refine V_iast (f' := upd mla j_9 l0) (ws' := [ob mq 10 [.long mf, .int (nI mt), .ref mmq, .int (nI mn), .ref mkq, .ref mcq, .ref mhq, .ref maq, .int mz, .int my, .long mS, .ref mzq, .ref mtq, .int (nI mT), .int (nI mA), .ref mrq, .ref muq, .long mF, .int mZ, .ref moq, .int mK, .int mH, .ref mgq, .ref miq, .long mI, .int (bI mB), .ref mlq, .ref msq, .ref meq, .ref mvq], ai g mlq 4 (upd mla j_9 l0), ai g msq 4 msz, al g meq 64 mit]) (pc := 35) X dX10_sheet_35 1 rfl (vp_in_nI (by omega) (by omega)) (by rw [nI_clamp (by omega)]) rfl ?_
          refine V_aload_n (pc := 36) X dX10_sheet_36 rfl 0 rfl ?_
          refine V_get (C := RX10) (T := TX10) (N := 30) (ci := 10) (pc := 37) X dX10_sheet_37 in10 0 rfl rfl 27 (by decide) (by decide +kernel) rfl rfl ?_
          refine V_iload_n (pc := 40) X dX10_sheet_40 rfl 1 rfl ?_
          refine V_iload_n (pc := 41) X dX10_sheet_41 rfl 3 rfl ?_
          refine V_iast (f' := upd msz j_9 y) (ws' := [ob mq 10 [.long mf, .int (nI mt), .ref mmq, .int (nI mn), .ref mkq, .ref mcq, .ref mhq, .ref maq, .int mz, .int my, .long mS, .ref mzq, .ref mtq, .int (nI mT), .int (nI mA), .ref mrq, .ref muq, .long mF, .int mZ, .ref moq, .int mK, .int mH, .ref mgq, .ref miq, .long mI, .int (bI mB), .ref mlq, .ref msq, .ref meq, .ref mvq], ai g mlq 4 (upd mla j_9 l0), ai g msq 4 (upd msz j_9 y), al g meq 64 mit]) (pc := 42) X dX10_sheet_42 2 rfl (vp_in_nI (by omega) (by omega)) (by rw [nI_clamp (by omega)]) rfl ?_
          refine V_iconst (v := 0) (pc := 43) X dX10_sheet_43 (by decide) ?_
          refine V_istore (lv' := [(4, .int 0), (0, .ref mq), (1, .int (nI j_9)), (2, .int l0), (3, .int y)]) (pc := 44) X dX10_sheet_44 (Nat.le_of_ble_eq_true rfl) rfl ?_
          refine V_loop (pc := 46) (σ := Nat × (Nat → Int64)) (fun v9 => [(0, .ref mq), (1, .int (nI j_9)), (3, .int y), (4, .int (nI v9.1))]) (fun v9 => [ob mq 10 [.long mf, .int (nI mt), .ref mmq, .int (nI mn), .ref mkq, .ref mcq, .ref mhq, .ref maq, .int mz, .int my, .long mS, .ref mzq, .ref mtq, .int (nI mT), .int (nI mA), .ref mrq, .ref muq, .long mF, .int mZ, .ref moq, .int mK, .int mH, .ref mgq, .ref miq, .long mI, .int (bI mB), .ref mlq, .ref msq, .ref meq, .ref mvq], ai g mlq 4 (upd mla j_9 l0), ai g msq 4 (upd msz j_9 y), al g meq 64 v9.2]) (fun v9 => (v9.1 ≤ 16) ∧ (v9.2 = zrF mit (16 * j_9) v9.1)) (fun v9 => 16 - v9.1) (0, mit) ⟨(by
                try dsimp only
                all_goals omega), (by
                try dsimp only
                exact zrF_0 _ _)⟩ rfl [1, 2, 4, 0] rfl ?_
          rintro ⟨k, z⟩ ⟨hk, hz⟩ ih46
          try dsimp only at hk
          try dsimp only at hz
          refine V_eqw (ws2 := [ob mq 10 [.long mf, .int (nI mt), .ref mmq, .int (nI mn), .ref mkq, .ref mcq, .ref mhq, .ref maq, .int mz, .int my, .long mS, .ref mzq, .ref mtq, .int (nI mT), .int (nI mA), .ref mrq, .ref muq, .long mF, .int mZ, .ref moq, .int mK, .int mH, .ref mgq, .ref miq, .long mI, .int (bI mB), .ref mlq, .ref msq, .ref meq, .ref mvq], ai g mlq 4 (upd mla j_9 l0), ai g msq 4 (upd msz j_9 y), al g meq 64 z]) rfl (V_eql (lv' := [(0, .ref mq), (1, .int (nI j_9)), (3, .int y), (4, .int (nI k))]) rfl ?_)
          refine V_iload (pc := 46) X dX10_sheet_46 3 rfl ?_
          refine V_bipush (v := 16) (pc := 48) X dX10_sheet_48 (by decide) ?_
          refine V_icmp_ge (tgt := 72) (pc := 50) X dX10_sheet_50 (by decide) (fun c_11 => ?_) (fun c_11 => ?_)
          · skip
            have n_12 : 16 ≤ k := nJ_le (a := 16) (b := k) (by omega) (by omega) c_11
            refine V_iload_n (pc := 72) X dX10_sheet_72 rfl 2 rfl ?_
            exact Ve_iret (pc := 73) X hA9 dX10_sheet_73 hr (y, upd mla j_9 l0, upd msz j_9 y, z) (by first | rfl | (simp [b_3, b_6, c_7, c_8, hj_10, n_12]; done)) (by
                  try dsimp only
                  (unfold R_sheetM; exact Or.inr (Or.inr ⟨by simp [b_3, b_6, c_7, c_8, hj_10, n_12], by assumption, rfl, by rw [nI_clamp (n := j_9) (by omega)], by rw [nI_clamp (n := j_9) (by omega)], by rw [nI_clamp (n := j_9) (by omega), hz, show k = 16 by omega]⟩))) (by rfl)
          · skip
            have n_13 : k < 16 := nJ_nle (a := 16) (b := k) (by omega) (by omega) c_11
            refine V_aload_n (pc := 53) X dX10_sheet_53 rfl 0 rfl ?_
            refine V_get (C := RX10) (T := TX10) (N := 30) (ci := 10) (pc := 54) X dX10_sheet_54 in10 0 rfl rfl 28 (by decide) (by decide +kernel) rfl rfl ?_
            refine V_bipush (v := 16) (pc := 57) X dX10_sheet_57 (by decide) ?_
            refine V_iload_n (pc := 59) X dX10_sheet_59 rfl 1 rfl ?_
            refine V_imul (pc := 60) X dX10_sheet_60 ?_
            refine V_seti (y := nI (16 * j_9)) (pk_mul 16 j_9) ?_
            refine V_iload (pc := 61) X dX10_sheet_61 3 rfl ?_
            refine V_iadd (pc := 63) X dX10_sheet_63 ?_
            refine V_seti (y := nI ((16 * j_9) + k)) (nI_add (16 * j_9) k) ?_
            refine V_lconst (v := 0) (pc := 64) X dX10_sheet_64 (by decide) ?_
            refine V_last (f' := vp_updL z ((16 * j_9) + k) 0) (ws' := [ob mq 10 [.long mf, .int (nI mt), .ref mmq, .int (nI mn), .ref mkq, .ref mcq, .ref mhq, .ref maq, .int mz, .int my, .long mS, .ref mzq, .ref mtq, .int (nI mT), .int (nI mA), .ref mrq, .ref muq, .long mF, .int mZ, .ref moq, .int mK, .int mH, .ref mgq, .ref miq, .long mI, .int (bI mB), .ref mlq, .ref msq, .ref meq, .ref mvq], ai g mlq 4 (upd mla j_9 l0), ai g msq 4 (upd msz j_9 y), al g meq 64 (vp_updL z ((16 * j_9) + k) 0)]) (pc := 65) X dX10_sheet_65 3 rfl (vp_in_nI (by omega) (by omega)) (by rw [nI_clamp (by omega)]) rfl ?_
            refine V_iinc (v := nI (k + 1)) (lv' := [(4, .int (nI (k + 1))), (0, .ref mq), (1, .int (nI j_9)), (3, .int y)]) (pc := 66) X dX10_sheet_66 3 rfl (nI_add k 1) (Nat.le_of_ble_eq_true rfl) rfl ?_
            refine V_goto (tgt := 46) (pc := 69) X dX10_sheet_69 (by decide) ?_
            refine V_lv [1, 2, 3, 0] rfl ?_
            exact ih46 (k + 1, vp_updL z ((16 * j_9) + k) 0) ⟨(by
                  try dsimp only
                  all_goals omega), (by
                  try dsimp only
                  rw [hz]; exact zrF_s _ _ _)⟩ (by
                  try dsimp only
                  all_goals omega)
        · skip
          refine V_bipush (v := (-14)) (pc := 26) X dX10_sheet_26 (by decide) ?_
          exact Ve_iret (pc := 28) X hA9 dX10_sheet_28 hr ((-14), mla, msz, mit) (by first | rfl | (simp [b_3, b_6, c_7, c_8]; done)) (by
                try dsimp only
                (unfold R_sheetM; exact Or.inr (Or.inl ⟨by simp [b_3, b_6, c_7, c_8], by assumption, rfl, rfl, rfl, rfl⟩))) (by rfl)
      · skip
        refine V_iconst (v := (-1)) (pc := 20) X dX10_sheet_20 (by decide) ?_
        exact Ve_iret (pc := 21) X hA9 dX10_sheet_21 hr ((-1), mla, msz, mit) (by first | rfl | (simp [b_3, b_6, c_7]; done)) (by
              try dsimp only
              (unfold R_sheetM; exact Or.inl ⟨by simp [b_3, b_6, c_7], rfl, rfl, rfl, rfl⟩)) (by rfl)
set_option maxHeartbeats 4000000 in
set_option maxRecDepth 100000 in
theorem c_X10_drop (l : Launch) (g : XG) (mq : Nat) (mf : Int64) (mt : Nat) (mmq : Nat) (mn : Nat) (mkq : Nat) (mcq : Nat) (mhq : Nat) (maq : Nat) (mz : Int32) (my : Int32) (mS : Int64) (mzq : Nat) (mtq : Nat) (mT : Nat) (mA : Nat) (mrq : Nat) (muq : Nat) (mF : Int64) (mZ : Int32) (moq : Nat) (mK : Int32) (mH : Int32) (mgq : Nat) (miq : Nat) (mI : Int64) (mB : Bool) (mlq : Nat) (msq : Nat) (meq : Nat) (mvq : Nat) (mla : Nat → Int32) (msz : Nat → Int32) (x : Int32)  : Ke l g yX10_drop wsX10_drop ({ frames := 2, cells := 0, slots := 0, locals := 45 } : Room) 0 0 [.ref mq, .int x] [ob mq 10 [.long mf, .int (nI mt), .ref mmq, .int (nI mn), .ref mkq, .ref mcq, .ref mhq, .ref maq, .int mz, .int my, .long mS, .ref mzq, .ref mtq, .int (nI mT), .int (nI mA), .ref mrq, .ref muq, .long mF, .int mZ, .ref moq, .int mK, .int mH, .ref mgq, .ref miq, .long mI, .int (bI mB), .ref mlq, .ref msq, .ref meq, .ref mvq], ai g mlq 4 mla, ai g msq 4 msz] (fun u : Int32 × (Nat → Int32) => some (.int u.1)) (fun u => [ob mq 10 [.long mf, .int (nI mt), .ref mmq, .int (nI mn), .ref mkq, .ref mcq, .ref mhq, .ref maq, .int mz, .int my, .long mS, .ref mzq, .ref mtq, .int (nI mT), .int (nI mA), .ref mrq, .ref muq, .long mF, .int mZ, .ref moq, .int mK, .int mH, .ref mgq, .ref miq, .long mI, .int (bI mB), .ref mlq, .ref msq, .ref meq, .ref mvq], ai g mlq 4 u.2, ai g msq 4 msz]) (fun u => (R_dropM x mla msz u.1 u.2)) := by
  refine Ke.of (cc := cX10_drop) (maxL := 2) (ret := (some .int)) (lv := [(0, .ref mq), (1, .int x)]) RX10 rfl (by decide) rfl (Nat.le_of_ble_eq_true rfl) rfl ?_
  intro p e s m below meth c A sz hA9 X hr hin2
  have in10 : ∀ w ∈ u_ws RX10 TX10 30, w ∈ wsX10_drop := by decide +kernel
  refine V_iload_n (pc := 0) X dX10_drop_0 rfl 1 rfl ?_
  refine V_sg (pc := 1) (nA := 1) (As := [.int x]) (rest := []) X (c_X10_isSheet l g (x := x) ) gX10_drop_X10_isSheet dX10_drop_1 rfl (by decide +kernel) rfl ⟨rfl, rfl⟩ ⟨Nat.le_of_ble_eq_true rfl, Nat.le_of_ble_eq_true rfl⟩ ⟨Nat.le_of_ble_eq_true rfl, Nat.le_of_ble_eq_true rfl⟩ [] (by decide) rfl rfl (Nat.le_of_ble_eq_true rfl) (st' := [.int (bI (bel x 4))]) rfl ?_
  refine V_if_ne (tgt := 9) (pc := 4) X dX10_drop_4 (by decide) (fun c_1 => ?_) (fun c_1 => ?_)
  · skip
    have b_2 : (bel x 4) = true := bI1 c_1
    refine V_aload_n (pc := 9) X dX10_drop_9 rfl 0 rfl ?_
    refine V_get (C := RX10) (T := TX10) (N := 30) (ci := 10) (pc := 10) X dX10_drop_10 in10 0 rfl rfl 26 (by decide) (by decide +kernel) rfl rfl ?_
    refine V_iload_n (pc := 13) X dX10_drop_13 rfl 1 rfl ?_
    refine V_iald (v := mla x.toNatClampNeg) (pc := 14) X dX10_drop_14 1 rfl (by first | assumption | exact bel_vin (n := 4) (by omega) (by omega) (by omega) (by assumption)) rfl ?_
    refine V_if_ge (tgt := 21) (pc := 15) X dX10_drop_15 (by decide) (fun c_3 => ?_) (fun c_3 => ?_)
    · skip
      refine V_aload_n (pc := 21) X dX10_drop_21 rfl 0 rfl ?_
      refine V_get (C := RX10) (T := TX10) (N := 30) (ci := 10) (pc := 22) X dX10_drop_22 in10 0 rfl rfl 26 (by decide) (by decide +kernel) rfl rfl ?_
      refine V_iload_n (pc := 25) X dX10_drop_25 rfl 1 rfl ?_
      refine V_iconst (v := (-1)) (pc := 26) X dX10_drop_26 (by decide) ?_
      refine V_iast (f' := upd mla x.toNatClampNeg (-1)) (ws' := [ob mq 10 [.long mf, .int (nI mt), .ref mmq, .int (nI mn), .ref mkq, .ref mcq, .ref mhq, .ref maq, .int mz, .int my, .long mS, .ref mzq, .ref mtq, .int (nI mT), .int (nI mA), .ref mrq, .ref muq, .long mF, .int mZ, .ref moq, .int mK, .int mH, .ref mgq, .ref miq, .long mI, .int (bI mB), .ref mlq, .ref msq, .ref meq, .ref mvq], ai g mlq 4 (upd mla x.toNatClampNeg (-1)), ai g msq 4 msz]) (pc := 27) X dX10_drop_27 1 rfl (by first | assumption | exact bel_vin (n := 4) (by omega) (by omega) (by omega) (by assumption)) rfl rfl ?_
      refine V_aload_n (pc := 28) X dX10_drop_28 rfl 0 rfl ?_
      refine V_get (C := RX10) (T := TX10) (N := 30) (ci := 10) (pc := 29) X dX10_drop_29 in10 0 rfl rfl 27 (by decide) (by decide +kernel) rfl rfl ?_
      refine V_iload_n (pc := 32) X dX10_drop_32 rfl 1 rfl ?_
      refine V_iald (v := msz x.toNatClampNeg) (pc := 33) X dX10_drop_33 2 rfl (by first | assumption | exact bel_vin (n := 4) (by omega) (by omega) (by omega) (by assumption)) rfl ?_
      exact Ve_iret (pc := 34) X hA9 dX10_drop_34 hr (msz x.toNatClampNeg, upd mla x.toNatClampNeg (-1)) (by first | rfl | (simp [b_2, c_3]; done)) (by
            try dsimp only
            (unfold R_dropM; first | (refine Or.inl ⟨?_, ?_, ?_⟩ <;> first | rfl | assumption | omega | (simp [b_2, c_3]; done)) | (refine Or.inr (Or.inl ⟨?_, ?_, ?_, ?_⟩) <;> first | rfl | assumption | omega | (simp [b_2, c_3]; done)) | (refine Or.inr (Or.inr (⟨?_, ?_, ?_, ?_⟩)) <;> first | rfl | assumption | omega | (simp [b_2, c_3]; done)))) (by rfl)
    · skip
      refine V_bipush (v := (-11)) (pc := 18) X dX10_drop_18 (by decide) ?_
      exact Ve_iret (pc := 20) X hA9 dX10_drop_20 hr ((-11), mla) (by first | rfl | (simp [b_2, c_3]; done)) (by
            try dsimp only
            (unfold R_dropM; first | (refine Or.inl ⟨?_, ?_, ?_⟩ <;> first | rfl | assumption | omega | (simp [b_2, c_3]; done)) | (refine Or.inr (Or.inl ⟨?_, ?_, ?_, ?_⟩) <;> first | rfl | assumption | omega | (simp [b_2, c_3]; done)) | (refine Or.inr (Or.inr (⟨?_, ?_, ?_, ?_⟩)) <;> first | rfl | assumption | omega | (simp [b_2, c_3]; done)))) (by rfl)
  · skip
    have b_4 : (bel x 4) = false := bI0 c_1
    refine V_iconst (v := (-1)) (pc := 7) X dX10_drop_7 (by decide) ?_
    exact Ve_iret (pc := 8) X hA9 dX10_drop_8 hr ((-1), mla) (by first | rfl | (simp [b_4]; done)) (by
          try dsimp only
          (unfold R_dropM; first | (refine Or.inl ⟨?_, ?_, ?_⟩ <;> first | rfl | assumption | omega | (simp [b_4]; done)) | (refine Or.inr (Or.inl ⟨?_, ?_, ?_, ?_⟩) <;> first | rfl | assumption | omega | (simp [b_4]; done)) | (refine Or.inr (Or.inr (⟨?_, ?_, ?_, ?_⟩)) <;> first | rfl | assumption | omega | (simp [b_4]; done)))) (by rfl)
set_option maxHeartbeats 4000000 in
set_option maxRecDepth 100000 in
theorem c_X10_item (l : Launch) (g : XG) (mq : Nat) (mf : Int64) (mt : Nat) (mmq : Nat) (mn : Nat) (mkq : Nat) (mcq : Nat) (mhq : Nat) (maq : Nat) (mz : Int32) (my : Int32) (mS : Int64) (mzq : Nat) (mtq : Nat) (mT : Nat) (mA : Nat) (mrq : Nat) (muq : Nat) (mF : Int64) (mZ : Int32) (moq : Nat) (mK : Int32) (mH : Int32) (mgq : Nat) (miq : Nat) (mI : Int64) (mB : Bool) (mlq : Nat) (msq : Nat) (meq : Nat) (mvq : Nat) (mla : Nat → Int32) (msz : Nat → Int32) (mit : Nat → Int64) (x : Int32) (l0 : Int32) (i : Int32) (v : Int64) (hsz : ∀ q, q < 4 → ∃ k, k ≤ 16 ∧ msz q = nI k) : Ke l g yX10_item wsX10_item ({ frames := 2, cells := 0, slots := 0, locals := 45 } : Room) 0 0 [.ref mq, .int x, .int l0, .int i, .long v] [ob mq 10 [.long mf, .int (nI mt), .ref mmq, .int (nI mn), .ref mkq, .ref mcq, .ref mhq, .ref maq, .int mz, .int my, .long mS, .ref mzq, .ref mtq, .int (nI mT), .int (nI mA), .ref mrq, .ref muq, .long mF, .int mZ, .ref moq, .int mK, .int mH, .ref mgq, .ref miq, .long mI, .int (bI mB), .ref mlq, .ref msq, .ref meq, .ref mvq], ai g mlq 4 mla, ai g msq 4 msz, al g meq 64 mit] (fun u : Int32 × (Nat → Int64) => some (.int u.1)) (fun u => [ob mq 10 [.long mf, .int (nI mt), .ref mmq, .int (nI mn), .ref mkq, .ref mcq, .ref mhq, .ref maq, .int mz, .int my, .long mS, .ref mzq, .ref mtq, .int (nI mT), .int (nI mA), .ref mrq, .ref muq, .long mF, .int mZ, .ref moq, .int mK, .int mH, .ref mgq, .ref miq, .long mI, .int (bI mB), .ref mlq, .ref msq, .ref meq, .ref mvq], ai g mlq 4 mla, ai g msq 4 msz, al g meq 64 u.2]) (fun u => (R_itemM x l0 i v mla msz mit u.1 u.2)) := by
  refine Ke.of (cc := cX10_item) (maxL := 7) (ret := (some .int)) (lv := [(0, .ref mq), (1, .int x), (2, .int l0), (3, .int i), (4, .long v)]) RX10 rfl (by decide) rfl (Nat.le_of_ble_eq_true rfl) rfl ?_
  intro p e s m below meth c A sz hA9 X hr hin2
  refine V_iload_n (pc := 0) X dX10_item_0 rfl 1 rfl ?_
  refine V_sg (pc := 1) (nA := 1) (As := [.int x]) (rest := []) X (c_X10_isSheet l g (x := x) ) gX10_item_X10_isSheet dX10_item_1 rfl (by decide +kernel) rfl ⟨rfl, rfl⟩ ⟨Nat.le_of_ble_eq_true rfl, Nat.le_of_ble_eq_true rfl⟩ ⟨Nat.le_of_ble_eq_true rfl, Nat.le_of_ble_eq_true rfl⟩ [] (by decide) rfl rfl (Nat.le_of_ble_eq_true rfl) (st' := [.int (bI (bel x 4))]) rfl ?_
  refine V_if_eq (tgt := 14) (pc := 4) X dX10_item_4 (by decide) (fun c_1 => ?_) (fun c_1 => ?_)
  · skip
    have b_2 : (bel x 4) = false := bI0 c_1
    refine V_iconst (v := (-1)) (pc := 14) X dX10_item_14 (by decide) ?_
    exact Ve_iret (pc := 15) X hA9 dX10_item_15 hr ((-1), mit) (by first | rfl | (simp [b_2]; done)) (by
          try dsimp only
          (unfold R_itemM; exact Or.inl ⟨by simp [b_2], rfl, rfl⟩)) (by rfl)
  · skip
    have b_3 : (bel x 4) = true := bI1 c_1
    refine V_iload_n (pc := 7) X dX10_item_7 rfl 2 rfl ?_
    refine V_sg (pc := 8) (nA := 1) (As := [.int l0]) (rest := []) X (c_X10_isLane l g (x := l0) ) gX10_item_X10_isLane dX10_item_8 rfl (by decide +kernel) rfl ⟨rfl, rfl⟩ ⟨Nat.le_of_ble_eq_true rfl, Nat.le_of_ble_eq_true rfl⟩ ⟨Nat.le_of_ble_eq_true rfl, Nat.le_of_ble_eq_true rfl⟩ [] (by decide) rfl rfl (Nat.le_of_ble_eq_true rfl) (st' := [.int (bI (bel l0 3))]) rfl ?_
    refine V_if_ne (tgt := 16) (pc := 11) X dX10_item_11 (by decide) (fun c_4 => ?_) (fun c_4 => ?_)
    · skip
      have b_5 : (bel l0 3) = true := bI1 c_4
      obtain ⟨j_6, hj_7, rfl⟩ := bel_nat (n := 4) (by omega) b_3
      refine V_aload_n (pc := 16) X dX10_item_16 rfl 0 rfl ?_
      refine V_iload_n (pc := 17) X dX10_item_17 rfl 1 rfl ?_
      refine V_iload_n (pc := 18) X dX10_item_18 rfl 2 rfl ?_
      refine V_iload_n (pc := 19) X dX10_item_19 rfl 3 rfl ?_
      refine V_iconst (v := 1) (pc := 20) X dX10_item_20 (by decide) ?_
      refine V_vg (pc := 21) (nA := 4) (As := [.int (nI j_6), .int l0, .int i, .int 1]) (rest := []) X (c_X10_why l g (mq := mq) (mf := mf) (mt := mt) (mmq := mmq) (mn := mn) (mkq := mkq) (mcq := mcq) (mhq := mhq) (maq := maq) (mz := mz) (my := my) (mS := mS) (mzq := mzq) (mtq := mtq) (mT := mT) (mA := mA) (mrq := mrq) (muq := muq) (mF := mF) (mZ := mZ) (moq := moq) (mK := mK) (mH := mH) (mgq := mgq) (miq := miq) (mI := mI) (mB := mB) (mlq := mlq) (msq := msq) (meq := meq) (mvq := mvq) (mla := mla) (msz := msz) (s9 := j_6) (l0 := l0) (i := i) (n := 1) (hs := by first | assumption | omega)) gX10_item_X10_why dX10_item_21 rfl (by decide +kernel) rfl (qb := 0) rfl rfl rfl ⟨rfl, rfl⟩ ⟨Nat.le_of_ble_eq_true rfl, Nat.le_of_ble_eq_true rfl⟩ ⟨Nat.le_of_ble_eq_true rfl, Nat.le_of_ble_eq_true rfl⟩ [0, 1, 2] (by decide) rfl rfl (Nat.le_of_ble_eq_true rfl) (st' := [.int (whM (mla j_6) l0 i 1 (msz j_6))]) rfl ?_
      refine V_istore (lv' := [(6, .int (whM (mla j_6) l0 i 1 (msz j_6))), (0, .ref mq), (1, .int (nI j_6)), (2, .int l0), (3, .int i), (4, .long v)]) (pc := 24) X dX10_item_24 (Nat.le_of_ble_eq_true rfl) rfl ?_
      refine V_iload (pc := 26) X dX10_item_26 0 rfl ?_
      refine V_if_ge (tgt := 34) (pc := 28) X dX10_item_28 (by decide) (fun c_8 => ?_) (fun c_8 => ?_)
      · skip
        obtain ⟨k_11, hk_12, ek_13⟩ := hsz j_6 (by omega)
        obtain ⟨j_9, rfl, hj_10⟩ := whM_nat (w := 1) hk_12 (by omega) ek_13 c_8
        refine V_aload_n (pc := 34) X dX10_item_34 rfl 1 rfl ?_
        refine V_iload_n (pc := 35) X dX10_item_35 rfl 2 rfl ?_
        refine V_iload_n (pc := 36) X dX10_item_36 rfl 4 rfl ?_
        refine V_lload (pc := 37) X dX10_item_37 5 rfl ?_
        refine V_ve (pc := 39) (nA := 3) (As := [.int (nI j_6), .int (nI j_9), .long v]) (rest := []) X (c_X10_puts l g (mq := mq) (mf := mf) (mt := mt) (mmq := mmq) (mn := mn) (mkq := mkq) (mcq := mcq) (mhq := mhq) (maq := maq) (mz := mz) (my := my) (mS := mS) (mzq := mzq) (mtq := mtq) (mT := mT) (mA := mA) (mrq := mrq) (muq := muq) (mF := mF) (mZ := mZ) (moq := moq) (mK := mK) (mH := mH) (mgq := mgq) (miq := miq) (mI := mI) (mB := mB) (mlq := mlq) (msq := msq) (meq := meq) (mvq := mvq) (mla := mla) (mit := mit) (s9 := j_6) (i := j_9) (v := v) (hs := by first | assumption | omega) (hi := by first | assumption | omega)) gX10_item_X10_puts dX10_item_39 rfl (by decide +kernel) rfl (qb := 0) rfl rfl rfl ⟨rfl, rfl⟩ ⟨Nat.le_of_ble_eq_true rfl, Nat.le_of_ble_eq_true rfl⟩ ⟨Nat.le_of_ble_eq_true rfl, Nat.le_of_ble_eq_true rfl⟩ [0, 1, 3] (by decide) rfl [2] (by decide) (by decide) [ai g msq 4 msz] rfl [1, 2, 0, 3] (by decide) (fun u => [ob mq 10 [.long mf, .int (nI mt), .ref mmq, .int (nI mn), .ref mkq, .ref mcq, .ref mhq, .ref maq, .int mz, .int my, .long mS, .ref mzq, .ref mtq, .int (nI mT), .int (nI mA), .ref mrq, .ref muq, .long mF, .int mZ, .ref moq, .int mK, .int mH, .ref mgq, .ref miq, .long mI, .int (bI mB), .ref mlq, .ref msq, .ref meq, .ref mvq], ai g mlq 4 mla, ai g msq 4 msz, al g meq 64 (vp_updL mit (16 * j_6 + j_9) (cutL (mla j_6) v))]) (fun _ => rfl) rfl (Nat.le_of_ble_eq_true rfl) (fun u => []) (fun _ => rfl) (fun u hu_14 => ?_)
        refine V_eqw (ws2 := [ob mq 10 [.long mf, .int (nI mt), .ref mmq, .int (nI mn), .ref mkq, .ref mcq, .ref mhq, .ref maq, .int mz, .int my, .long mS, .ref mzq, .ref mtq, .int (nI mT), .int (nI mA), .ref mrq, .ref muq, .long mF, .int mZ, .ref moq, .int mK, .int mH, .ref mgq, .ref miq, .long mI, .int (bI mB), .ref mlq, .ref msq, .ref meq, .ref mvq], ai g mlq 4 mla, ai g msq 4 msz, al g meq 64 (vp_updL mit (16 * j_6 + j_9) (cutL (mla j_6) v))]) rfl (V_eqs (st2 := []) rfl ?_)
        refine V_iconst (v := 1) (pc := 42) X dX10_item_42 (by decide) ?_
        exact Ve_iret (pc := 43) X hA9 dX10_item_43 hr (1, vp_updL mit (16 * j_6 + j_9) (cutL (mla j_6) v)) (by first | rfl | (simp [b_3, b_5, hj_7, c_8, hj_10, hk_12]; done)) (by
              try dsimp only
              (unfold R_itemM; exact Or.inr (Or.inr ⟨by simp [b_3, b_5, hj_7, c_8, hj_10, hk_12], by rw [nI_clamp (n := j_6) (by omega)]; assumption, rfl, by rw [nI_clamp (n := j_6) (by omega), nI_clamp (n := j_9) (by omega)]⟩))) (by rfl)
      · skip
        refine V_iload (pc := 31) X dX10_item_31 0 rfl ?_
        exact Ve_iret (pc := 33) X hA9 dX10_item_33 hr (whM (mla j_6) l0 i 1 (msz j_6), mit) (by first | rfl | (simp [b_3, b_5, hj_7, c_8]; done)) (by
              try dsimp only
              (unfold R_itemM; exact Or.inr (Or.inl ⟨by simp [b_3, b_5, hj_7, c_8], by rw [nI_clamp (n := j_6) (by omega)]; assumption, by rw [nI_clamp (n := j_6) (by omega)], rfl⟩))) (by rfl)
    · skip
      have b_15 : (bel l0 3) = false := bI0 c_4
      refine V_iconst (v := (-1)) (pc := 14) X dX10_item_14 (by decide) ?_
      exact Ve_iret (pc := 15) X hA9 dX10_item_15 hr ((-1), mit) (by first | rfl | (simp [b_3, b_15]; done)) (by
            try dsimp only
            (unfold R_itemM; exact Or.inl ⟨by simp [b_3, b_15], rfl, rfl⟩)) (by rfl)
set_option maxHeartbeats 4000000 in
set_option maxRecDepth 100000 in
theorem c_X10_copy (l : Launch) (g : XG) (mq : Nat) (mf : Int64) (mt : Nat) (mmq : Nat) (mn : Nat) (mkq : Nat) (mcq : Nat) (mhq : Nat) (maq : Nat) (mz : Int32) (my : Int32) (mS : Int64) (mzq : Nat) (mtq : Nat) (mT : Nat) (mA : Nat) (mrq : Nat) (muq : Nat) (mF : Int64) (mZ : Int32) (moq : Nat) (mK : Int32) (mH : Int32) (mgq : Nat) (miq : Nat) (mI : Int64) (mB : Bool) (mlq : Nat) (msq : Nat) (meq : Nat) (mvq : Nat) (mla : Nat → Int32) (msz : Nat → Int32) (mit : Nat → Int64) (mmv : Nat → Int64) (x : Int32) (i : Int32) (y : Int32) (j : Int32) (k0 : Int32) (hsz : ∀ q, q < 4 → ∃ k, k ≤ 16 ∧ msz q = nI k) : Ke l g yX10_copy wsX10_copy ({ frames := 2, cells := 0, slots := 0, locals := 45 } : Room) 0 0 [.ref mq, .int x, .int i, .int y, .int j, .int k0] [ob mq 10 [.long mf, .int (nI mt), .ref mmq, .int (nI mn), .ref mkq, .ref mcq, .ref mhq, .ref maq, .int mz, .int my, .long mS, .ref mzq, .ref mtq, .int (nI mT), .int (nI mA), .ref mrq, .ref muq, .long mF, .int mZ, .ref moq, .int mK, .int mH, .ref mgq, .ref miq, .long mI, .int (bI mB), .ref mlq, .ref msq, .ref meq, .ref mvq], ai g mlq 4 mla, ai g msq 4 msz, al g meq 64 mit, al g mvq 16 mmv] (fun u : Int32 × (Nat → Int64) × (Nat → Int64) => some (.int u.1)) (fun u => [ob mq 10 [.long mf, .int (nI mt), .ref mmq, .int (nI mn), .ref mkq, .ref mcq, .ref mhq, .ref maq, .int mz, .int my, .long mS, .ref mzq, .ref mtq, .int (nI mT), .int (nI mA), .ref mrq, .ref muq, .long mF, .int mZ, .ref moq, .int mK, .int mH, .ref mgq, .ref miq, .long mI, .int (bI mB), .ref mlq, .ref msq, .ref meq, .ref mvq], ai g mlq 4 mla, ai g msq 4 msz, al g meq 64 u.2.1, al g mvq 16 u.2.2]) (fun u => (R_copyM x y i j k0 mla msz mit u.1 u.2.1)) := by
  refine Ke.of (cc := cX10_copy) (maxL := 7) (ret := (some .int)) (lv := [(0, .ref mq), (1, .int x), (2, .int i), (3, .int y), (4, .int j), (5, .int k0)]) RX10 rfl (by decide) rfl (Nat.le_of_ble_eq_true rfl) rfl ?_
  intro p e s m below meth c A sz hA9 X hr hin2
  have in10 : ∀ w ∈ u_ws RX10 TX10 30, w ∈ wsX10_copy := by decide +kernel
  refine V_iload_n (pc := 0) X dX10_copy_0 rfl 1 rfl ?_
  refine V_sg (pc := 1) (nA := 1) (As := [.int x]) (rest := []) X (c_X10_isSheet l g (x := x) ) gX10_copy_X10_isSheet dX10_copy_1 rfl (by decide +kernel) rfl ⟨rfl, rfl⟩ ⟨Nat.le_of_ble_eq_true rfl, Nat.le_of_ble_eq_true rfl⟩ ⟨Nat.le_of_ble_eq_true rfl, Nat.le_of_ble_eq_true rfl⟩ [] (by decide) rfl rfl (Nat.le_of_ble_eq_true rfl) (st' := [.int (bI (bel x 4))]) rfl ?_
  refine V_if_eq (tgt := 14) (pc := 4) X dX10_copy_4 (by decide) (fun c_1 => ?_) (fun c_1 => ?_)
  · skip
    have b_2 : (bel x 4) = false := bI0 c_1
    refine V_iconst (v := (-1)) (pc := 14) X dX10_copy_14 (by decide) ?_
    exact Ve_iret (pc := 15) X hA9 dX10_copy_15 hr ((-1), mit, mmv) (by first | rfl | (simp [b_2]; done)) (by
          try dsimp only
          (unfold R_copyM; exact Or.inl ⟨by simp [copyG, b_2], by simp [copyG, b_2], rfl⟩)) (by rfl)
  · skip
    have b_3 : (bel x 4) = true := bI1 c_1
    refine V_iload_n (pc := 7) X dX10_copy_7 rfl 3 rfl ?_
    refine V_sg (pc := 8) (nA := 1) (As := [.int y]) (rest := []) X (c_X10_isSheet l g (x := y) ) gX10_copy_X10_isSheet dX10_copy_8 rfl (by decide +kernel) rfl ⟨rfl, rfl⟩ ⟨Nat.le_of_ble_eq_true rfl, Nat.le_of_ble_eq_true rfl⟩ ⟨Nat.le_of_ble_eq_true rfl, Nat.le_of_ble_eq_true rfl⟩ [] (by decide) rfl rfl (Nat.le_of_ble_eq_true rfl) (st' := [.int (bI (bel y 4))]) rfl ?_
    refine V_if_ne (tgt := 16) (pc := 11) X dX10_copy_11 (by decide) (fun c_4 => ?_) (fun c_4 => ?_)
    · skip
      have b_5 : (bel y 4) = true := bI1 c_4
      obtain ⟨j_6, hj_7, rfl⟩ := bel_nat (n := 4) (by omega) b_3
      obtain ⟨j_8, hj_9, rfl⟩ := bel_nat (n := 4) (by omega) b_5
      refine V_aload_n (pc := 16) X dX10_copy_16 rfl 0 rfl ?_
      refine V_get (C := RX10) (T := TX10) (N := 30) (ci := 10) (pc := 17) X dX10_copy_17 in10 0 rfl rfl 26 (by decide) (by decide +kernel) rfl rfl ?_
      refine V_iload_n (pc := 20) X dX10_copy_20 rfl 1 rfl ?_
      refine V_iald (v := mla j_6) (pc := 21) X dX10_copy_21 1 rfl (vp_in_nI (by omega) (by omega)) (by rw [nI_clamp (by omega)]) ?_
      refine V_if_lt (tgt := 34) (pc := 22) X dX10_copy_22 (by decide) (fun c_10 => ?_) (fun c_10 => ?_)
      · skip
        refine V_bipush (v := (-11)) (pc := 34) X dX10_copy_34 (by decide) ?_
        exact Ve_iret (pc := 36) X hA9 dX10_copy_36 hr ((-11), mit, mmv) (by first | rfl | (simp [b_3, b_5, hj_7, hj_9, c_10]; done)) (by
              try dsimp only
              have e9 : copyG (nI j_6) (nI j_8) i j k0 mla msz = (-11) := by
                unfold copyG; rw [nI_clamp (n := j_6) (by omega), nI_clamp (n := j_8) (by omega), if_neg (by simp [b_3, b_5, hj_7, hj_9, c_10]), if_pos (Or.inl c_10)]
              unfold R_copyM; exact Or.inl ⟨by rw [e9]; decide, e9.symm, rfl⟩) (by rfl)
      · skip
        refine V_aload_n (pc := 25) X dX10_copy_25 rfl 0 rfl ?_
        refine V_get (C := RX10) (T := TX10) (N := 30) (ci := 10) (pc := 26) X dX10_copy_26 in10 0 rfl rfl 26 (by decide) (by decide +kernel) rfl rfl ?_
        refine V_iload_n (pc := 29) X dX10_copy_29 rfl 3 rfl ?_
        refine V_iald (v := mla j_8) (pc := 30) X dX10_copy_30 1 rfl (vp_in_nI (by omega) (by omega)) (by rw [nI_clamp (by omega)]) ?_
        refine V_if_ge (tgt := 37) (pc := 31) X dX10_copy_31 (by decide) (fun c_11 => ?_) (fun c_11 => ?_)
        · skip
          refine V_aload_n (pc := 37) X dX10_copy_37 rfl 0 rfl ?_
          refine V_get (C := RX10) (T := TX10) (N := 30) (ci := 10) (pc := 38) X dX10_copy_38 in10 0 rfl rfl 26 (by decide) (by decide +kernel) rfl rfl ?_
          refine V_iload_n (pc := 41) X dX10_copy_41 rfl 1 rfl ?_
          refine V_iald (v := mla j_6) (pc := 42) X dX10_copy_42 1 rfl (vp_in_nI (by omega) (by omega)) (by rw [nI_clamp (by omega)]) ?_
          refine V_aload_n (pc := 43) X dX10_copy_43 rfl 0 rfl ?_
          refine V_get (C := RX10) (T := TX10) (N := 30) (ci := 10) (pc := 44) X dX10_copy_44 in10 0 rfl rfl 26 (by decide) (by decide +kernel) rfl rfl ?_
          refine V_iload_n (pc := 47) X dX10_copy_47 rfl 3 rfl ?_
          refine V_iald (v := mla j_8) (pc := 48) X dX10_copy_48 1 rfl (vp_in_nI (by omega) (by omega)) (by rw [nI_clamp (by omega)]) ?_
          refine V_icmp_eq (tgt := 55) (pc := 49) X dX10_copy_49 (by decide) (fun c_12 => ?_) (fun c_12 => ?_)
          · skip
            refine V_iload (pc := 55) X dX10_copy_55 5 rfl ?_
            refine V_if_lt (tgt := 95) (pc := 57) X dX10_copy_57 (by decide) (fun c_13 => ?_) (fun c_13 => ?_)
            · skip
              refine V_bipush (v := (-13)) (pc := 95) X dX10_copy_95 (by decide) ?_
              exact Ve_iret (pc := 97) X hA9 dX10_copy_97 hr ((-13), mit, mmv) (by first | rfl | (simp [b_3, b_5, hj_7, hj_9, c_10, c_11, c_12, c_13]; done)) (by
                    try dsimp only
                    have e9 : copyG (nI j_6) (nI j_8) i j k0 mla msz = (-13) := by
                      unfold copyG; rw [nI_clamp (n := j_6) (by omega), nI_clamp (n := j_8) (by omega), if_neg (by simp [b_3, b_5, hj_7, hj_9, c_10, c_11, c_12, c_13]), if_neg (fun q => q.elim c_10 (Int32.not_lt.mpr c_11)), if_neg (fun q => q c_12), if_pos (Or.inl c_13)]
                    unfold R_copyM; exact Or.inl ⟨by rw [e9]; decide, e9.symm, rfl⟩) (by rfl)
            · skip
              refine V_aload_n (pc := 60) X dX10_copy_60 rfl 0 rfl ?_
              refine V_iload_n (pc := 61) X dX10_copy_61 rfl 1 rfl ?_
              refine V_aload_n (pc := 62) X dX10_copy_62 rfl 0 rfl ?_
              refine V_get (C := RX10) (T := TX10) (N := 30) (ci := 10) (pc := 63) X dX10_copy_63 in10 0 rfl rfl 26 (by decide) (by decide +kernel) rfl rfl ?_
              refine V_iload_n (pc := 66) X dX10_copy_66 rfl 1 rfl ?_
              refine V_iald (v := mla j_6) (pc := 67) X dX10_copy_67 1 rfl (vp_in_nI (by omega) (by omega)) (by rw [nI_clamp (by omega)]) ?_
              refine V_iload_n (pc := 68) X dX10_copy_68 rfl 2 rfl ?_
              refine V_iload (pc := 69) X dX10_copy_69 5 rfl ?_
              refine V_vg (pc := 71) (nA := 4) (As := [.int (nI j_6), .int (mla j_6), .int i, .int k0]) (rest := []) X (c_X10_why l g (mq := mq) (mf := mf) (mt := mt) (mmq := mmq) (mn := mn) (mkq := mkq) (mcq := mcq) (mhq := mhq) (maq := maq) (mz := mz) (my := my) (mS := mS) (mzq := mzq) (mtq := mtq) (mT := mT) (mA := mA) (mrq := mrq) (muq := muq) (mF := mF) (mZ := mZ) (moq := moq) (mK := mK) (mH := mH) (mgq := mgq) (miq := miq) (mI := mI) (mB := mB) (mlq := mlq) (msq := msq) (meq := meq) (mvq := mvq) (mla := mla) (msz := msz) (s9 := j_6) (l0 := mla j_6) (i := i) (n := k0) (hs := by first | assumption | omega)) gX10_copy_X10_why dX10_copy_71 rfl (by decide +kernel) rfl (qb := 0) rfl rfl rfl ⟨rfl, rfl⟩ ⟨Nat.le_of_ble_eq_true rfl, Nat.le_of_ble_eq_true rfl⟩ ⟨Nat.le_of_ble_eq_true rfl, Nat.le_of_ble_eq_true rfl⟩ [0, 1, 2] (by decide) rfl rfl (Nat.le_of_ble_eq_true rfl) (st' := [.int (whM (mla j_6) (mla j_6) i k0 (msz j_6))]) rfl ?_
              refine V_if_lt (tgt := 95) (pc := 74) X dX10_copy_74 (by decide) (fun c_14 => ?_) (fun c_14 => ?_)
              · skip
                refine V_bipush (v := (-13)) (pc := 95) X dX10_copy_95 (by decide) ?_
                exact Ve_iret (pc := 97) X hA9 dX10_copy_97 hr ((-13), mit, mmv) (by first | rfl | (simp [b_3, b_5, hj_7, hj_9, c_10, c_11, c_12, c_13, c_14]; done)) (by
                      try dsimp only
                      have e9 : copyG (nI j_6) (nI j_8) i j k0 mla msz = (-13) := by
                        unfold copyG; rw [nI_clamp (n := j_6) (by omega), nI_clamp (n := j_8) (by omega), if_neg (by simp [b_3, b_5, hj_7, hj_9, c_10, c_11, c_12, c_13, c_14]), if_neg (fun q => q.elim c_10 (Int32.not_lt.mpr c_11)), if_neg (fun q => q c_12), if_pos (Or.inr (Or.inl c_14))]
                      unfold R_copyM; exact Or.inl ⟨by rw [e9]; decide, e9.symm, rfl⟩) (by rfl)
              · skip
                refine V_aload_n (pc := 77) X dX10_copy_77 rfl 0 rfl ?_
                refine V_iload_n (pc := 78) X dX10_copy_78 rfl 3 rfl ?_
                refine V_aload_n (pc := 79) X dX10_copy_79 rfl 0 rfl ?_
                refine V_get (C := RX10) (T := TX10) (N := 30) (ci := 10) (pc := 80) X dX10_copy_80 in10 0 rfl rfl 26 (by decide) (by decide +kernel) rfl rfl ?_
                refine V_iload_n (pc := 83) X dX10_copy_83 rfl 3 rfl ?_
                refine V_iald (v := mla j_8) (pc := 84) X dX10_copy_84 1 rfl (vp_in_nI (by omega) (by omega)) (by rw [nI_clamp (by omega)]) ?_
                refine V_iload (pc := 85) X dX10_copy_85 4 rfl ?_
                refine V_iload (pc := 87) X dX10_copy_87 5 rfl ?_
                refine V_vg (pc := 89) (nA := 4) (As := [.int (nI j_8), .int (mla j_8), .int j, .int k0]) (rest := []) X (c_X10_why l g (mq := mq) (mf := mf) (mt := mt) (mmq := mmq) (mn := mn) (mkq := mkq) (mcq := mcq) (mhq := mhq) (maq := maq) (mz := mz) (my := my) (mS := mS) (mzq := mzq) (mtq := mtq) (mT := mT) (mA := mA) (mrq := mrq) (muq := muq) (mF := mF) (mZ := mZ) (moq := moq) (mK := mK) (mH := mH) (mgq := mgq) (miq := miq) (mI := mI) (mB := mB) (mlq := mlq) (msq := msq) (meq := meq) (mvq := mvq) (mla := mla) (msz := msz) (s9 := j_8) (l0 := mla j_8) (i := j) (n := k0) (hs := by first | assumption | omega)) gX10_copy_X10_why dX10_copy_89 rfl (by decide +kernel) rfl (qb := 0) rfl rfl rfl ⟨rfl, rfl⟩ ⟨Nat.le_of_ble_eq_true rfl, Nat.le_of_ble_eq_true rfl⟩ ⟨Nat.le_of_ble_eq_true rfl, Nat.le_of_ble_eq_true rfl⟩ [0, 1, 2] (by decide) rfl rfl (Nat.le_of_ble_eq_true rfl) (st' := [.int (whM (mla j_8) (mla j_8) j k0 (msz j_8))]) rfl ?_
                refine V_if_ge (tgt := 98) (pc := 92) X dX10_copy_92 (by decide) (fun c_15 => ?_) (fun c_15 => ?_)
                · skip
                  obtain ⟨k_16, i_17, j_18, rfl, rfl, rfl, h_21, h_22, h_23⟩ := cp_nat c_13 (hsz j_6 (by omega)) (hsz j_8 (by omega)) (Int32.not_lt.mp c_14) c_15
                  refine V_iconst (v := 0) (pc := 98) X dX10_copy_98 (by decide) ?_
                  refine V_istore (lv' := [(6, .int 0), (0, .ref mq), (1, .int (nI j_6)), (2, .int (nI i_17)), (3, .int (nI j_8)), (4, .int (nI j_18)), (5, .int (nI k_16))]) (pc := 99) X dX10_copy_99 (Nat.le_of_ble_eq_true rfl) rfl ?_
                  refine V_loop (pc := 101) (σ := Nat × (Nat → Int64)) (fun v9 => [(0, .ref mq), (1, .int (nI j_6)), (2, .int (nI i_17)), (3, .int (nI j_8)), (4, .int (nI j_18)), (5, .int (nI k_16)), (6, .int (nI v9.1))]) (fun v9 => [ob mq 10 [.long mf, .int (nI mt), .ref mmq, .int (nI mn), .ref mkq, .ref mcq, .ref mhq, .ref maq, .int mz, .int my, .long mS, .ref mzq, .ref mtq, .int (nI mT), .int (nI mA), .ref mrq, .ref muq, .long mF, .int mZ, .ref moq, .int mK, .int mH, .ref mgq, .ref miq, .long mI, .int (bI mB), .ref mlq, .ref msq, .ref meq, .ref mvq], ai g mlq 4 mla, ai g msq 4 msz, al g meq 64 mit, al g mvq 16 v9.2]) (fun v9 => (v9.1 ≤ k_16) ∧ (v9.2 = cpF mmv (fun q => mit (16 * j_6 + i_17 + q)) v9.1)) (fun v9 => 100 - v9.1) (0, mmv) ⟨(by
                        try dsimp only
                        all_goals omega), (by
                        try dsimp only
                        exact cpF_0 _ _)⟩ rfl [1, 2, 3, 4, 5, 6, 0] rfl ?_
                  rintro ⟨k1, z1⟩ ⟨hk1, hz1⟩ ih101
                  try dsimp only at hk1
                  try dsimp only at hz1
                  refine V_eqw (ws2 := [ob mq 10 [.long mf, .int (nI mt), .ref mmq, .int (nI mn), .ref mkq, .ref mcq, .ref mhq, .ref maq, .int mz, .int my, .long mS, .ref mzq, .ref mtq, .int (nI mT), .int (nI mA), .ref mrq, .ref muq, .long mF, .int mZ, .ref moq, .int mK, .int mH, .ref mgq, .ref miq, .long mI, .int (bI mB), .ref mlq, .ref msq, .ref meq, .ref mvq], ai g mlq 4 mla, ai g msq 4 msz, al g meq 64 mit, al g mvq 16 z1]) rfl (V_eql (lv' := [(0, .ref mq), (1, .int (nI j_6)), (2, .int (nI i_17)), (3, .int (nI j_8)), (4, .int (nI j_18)), (5, .int (nI k_16)), (6, .int (nI k1))]) rfl ?_)
                  refine V_iload (pc := 101) X dX10_copy_101 6 rfl ?_
                  refine V_iload (pc := 103) X dX10_copy_103 5 rfl ?_
                  refine V_icmp_ge (tgt := 135) (pc := 105) X dX10_copy_105 (by decide) (fun c_28 => ?_) (fun c_28 => ?_)
                  · skip
                    have n_29 : k_16 ≤ k1 := nJ_le (a := k_16) (b := k1) (by omega) (by omega) c_28
                    refine V_iconst (v := 0) (pc := 135) X dX10_copy_135 (by decide) ?_
                    refine V_istore (lv' := [(6, .int 0), (0, .ref mq), (1, .int (nI j_6)), (2, .int (nI i_17)), (3, .int (nI j_8)), (4, .int (nI j_18)), (5, .int (nI k_16))]) (pc := 136) X dX10_copy_136 (Nat.le_of_ble_eq_true rfl) rfl ?_
                    refine V_loop (pc := 138) (σ := Nat × (Nat → Int64)) (fun v9 => [(0, .ref mq), (1, .int (nI j_6)), (2, .int (nI i_17)), (3, .int (nI j_8)), (4, .int (nI j_18)), (5, .int (nI k_16)), (6, .int (nI v9.1))]) (fun v9 => [ob mq 10 [.long mf, .int (nI mt), .ref mmq, .int (nI mn), .ref mkq, .ref mcq, .ref mhq, .ref maq, .int mz, .int my, .long mS, .ref mzq, .ref mtq, .int (nI mT), .int (nI mA), .ref mrq, .ref muq, .long mF, .int mZ, .ref moq, .int mK, .int mH, .ref mgq, .ref miq, .long mI, .int (bI mB), .ref mlq, .ref msq, .ref meq, .ref mvq], ai g mlq 4 mla, ai g msq 4 msz, al g meq 64 v9.2, al g mvq 16 z1]) (fun v9 => (v9.1 ≤ k_16) ∧ (v9.2 = wrF mit z1 (16 * j_8 + j_18) v9.1)) (fun v9 => 100 - v9.1) (0, mit) ⟨(by
                          try dsimp only
                          all_goals omega), (by
                          try dsimp only
                          exact wrF_0 _ _ _)⟩ rfl [1, 2, 3, 4, 5, 6, 0] rfl ?_
                    rintro ⟨k2, z2⟩ ⟨hk2, hz2⟩ ih138
                    try dsimp only at hk2
                    try dsimp only at hz2
                    refine V_eqw (ws2 := [ob mq 10 [.long mf, .int (nI mt), .ref mmq, .int (nI mn), .ref mkq, .ref mcq, .ref mhq, .ref maq, .int mz, .int my, .long mS, .ref mzq, .ref mtq, .int (nI mT), .int (nI mA), .ref mrq, .ref muq, .long mF, .int mZ, .ref moq, .int mK, .int mH, .ref mgq, .ref miq, .long mI, .int (bI mB), .ref mlq, .ref msq, .ref meq, .ref mvq], ai g mlq 4 mla, ai g msq 4 msz, al g meq 64 z2, al g mvq 16 z1]) rfl (V_eql (lv' := [(0, .ref mq), (1, .int (nI j_6)), (2, .int (nI i_17)), (3, .int (nI j_8)), (4, .int (nI j_18)), (5, .int (nI k_16)), (6, .int (nI k2))]) rfl ?_)
                    refine V_iload (pc := 138) X dX10_copy_138 6 rfl ?_
                    refine V_iload (pc := 140) X dX10_copy_140 5 rfl ?_
                    refine V_icmp_ge (tgt := 173) (pc := 142) X dX10_copy_142 (by decide) (fun c_30 => ?_) (fun c_30 => ?_)
                    · skip
                      have n_31 : k_16 ≤ k2 := nJ_le (a := k_16) (b := k2) (by omega) (by omega) c_30
                      refine V_iload (pc := 173) X dX10_copy_173 5 rfl ?_
                      exact Ve_iret (pc := 175) X hA9 dX10_copy_175 hr (nI k_16, z2, z1) (by first | rfl | (simp [b_3, b_5, hj_7, hj_9, c_10, c_11, c_12, c_13, c_14, c_15, h_21, h_22, hok9, n_29, n_31]; done)) (by
                            try dsimp only
                            (unfold R_copyM; exact Or.inr ⟨copyG_0 (by assumption) (by assumption) (by rw [nI_clamp (n := j_6) (by omega)]; assumption) (by rw [nI_clamp (n := j_8) (by omega)]; exact Int32.not_lt.mpr (by assumption)) (by rw [nI_clamp (n := j_6) (by omega), nI_clamp (n := j_8) (by omega)]; assumption) (by assumption) (by rw [nI_clamp (n := j_6) (by omega)]; assumption) (by rw [nI_clamp (n := j_8) (by omega)]; exact Int32.not_lt.mpr (by assumption)), rfl, by rw [nI_clamp (n := j_6) (by omega), nI_clamp (n := j_8) (by omega), nI_clamp (n := i_17) (by omega), nI_clamp (n := j_18) (by omega), nI_clamp (n := k_16) (by omega), hz2, show k2 = k_16 by omega, hz1, show k1 = k_16 by omega]; exact wrF_mv⟩)) (by rfl)
                    · skip
                      have n_32 : k2 < k_16 := nJ_nle (a := k_16) (b := k2) (by omega) (by omega) c_30
                      refine V_aload_n (pc := 145) X dX10_copy_145 rfl 0 rfl ?_
                      refine V_get (C := RX10) (T := TX10) (N := 30) (ci := 10) (pc := 146) X dX10_copy_146 in10 0 rfl rfl 28 (by decide) (by decide +kernel) rfl rfl ?_
                      refine V_bipush (v := 16) (pc := 149) X dX10_copy_149 (by decide) ?_
                      refine V_iload_n (pc := 151) X dX10_copy_151 rfl 3 rfl ?_
                      refine V_imul (pc := 152) X dX10_copy_152 ?_
                      refine V_seti (y := nI (16 * j_8)) (pk_mul 16 j_8) ?_
                      refine V_iload (pc := 153) X dX10_copy_153 4 rfl ?_
                      refine V_iadd (pc := 155) X dX10_copy_155 ?_
                      refine V_seti (y := nI ((16 * j_8) + j_18)) (nI_add (16 * j_8) j_18) ?_
                      refine V_iload (pc := 156) X dX10_copy_156 6 rfl ?_
                      refine V_iadd (pc := 158) X dX10_copy_158 ?_
                      refine V_seti (y := nI (((16 * j_8) + j_18) + k2)) (nI_add ((16 * j_8) + j_18) k2) ?_
                      refine V_aload_n (pc := 159) X dX10_copy_159 rfl 0 rfl ?_
                      refine V_get (C := RX10) (T := TX10) (N := 30) (ci := 10) (pc := 160) X dX10_copy_160 in10 0 rfl rfl 29 (by decide) (by decide +kernel) rfl rfl ?_
                      refine V_iload (pc := 163) X dX10_copy_163 6 rfl ?_
                      refine V_lald (v := z1 k2) (pc := 165) X dX10_copy_165 4 rfl (vp_in_nI (by omega) (by omega)) (by rw [nI_clamp (by omega)]) ?_
                      refine V_last (f' := vp_updL z2 (((16 * j_8) + j_18) + k2) (z1 k2)) (ws' := [ob mq 10 [.long mf, .int (nI mt), .ref mmq, .int (nI mn), .ref mkq, .ref mcq, .ref mhq, .ref maq, .int mz, .int my, .long mS, .ref mzq, .ref mtq, .int (nI mT), .int (nI mA), .ref mrq, .ref muq, .long mF, .int mZ, .ref moq, .int mK, .int mH, .ref mgq, .ref miq, .long mI, .int (bI mB), .ref mlq, .ref msq, .ref meq, .ref mvq], ai g mlq 4 mla, ai g msq 4 msz, al g meq 64 (vp_updL z2 (((16 * j_8) + j_18) + k2) (z1 k2)), al g mvq 16 z1]) (pc := 166) X dX10_copy_166 3 rfl (vp_in_nI (by omega) (by omega)) (by rw [nI_clamp (by omega)]) rfl ?_
                      refine V_iinc (v := nI (k2 + 1)) (lv' := [(6, .int (nI (k2 + 1))), (0, .ref mq), (1, .int (nI j_6)), (2, .int (nI i_17)), (3, .int (nI j_8)), (4, .int (nI j_18)), (5, .int (nI k_16))]) (pc := 167) X dX10_copy_167 6 rfl (nI_add k2 1) (Nat.le_of_ble_eq_true rfl) rfl ?_
                      refine V_goto (tgt := 138) (pc := 170) X dX10_copy_170 (by decide) ?_
                      refine V_lv [1, 2, 3, 4, 5, 6, 0] rfl ?_
                      exact ih138 (k2 + 1, vp_updL z2 (((16 * j_8) + j_18) + k2) (z1 k2)) ⟨(by
                            try dsimp only
                            all_goals omega), (by
                            try dsimp only
                            rw [hz2]; exact wrF_s _ _ _ _)⟩ (by
                            try dsimp only
                            all_goals omega)
                  · skip
                    have n_33 : k1 < k_16 := nJ_nle (a := k_16) (b := k1) (by omega) (by omega) c_28
                    refine V_aload_n (pc := 108) X dX10_copy_108 rfl 0 rfl ?_
                    refine V_get (C := RX10) (T := TX10) (N := 30) (ci := 10) (pc := 109) X dX10_copy_109 in10 0 rfl rfl 29 (by decide) (by decide +kernel) rfl rfl ?_
                    refine V_iload (pc := 112) X dX10_copy_112 6 rfl ?_
                    refine V_aload_n (pc := 114) X dX10_copy_114 rfl 0 rfl ?_
                    refine V_get (C := RX10) (T := TX10) (N := 30) (ci := 10) (pc := 115) X dX10_copy_115 in10 0 rfl rfl 28 (by decide) (by decide +kernel) rfl rfl ?_
                    refine V_bipush (v := 16) (pc := 118) X dX10_copy_118 (by decide) ?_
                    refine V_iload_n (pc := 120) X dX10_copy_120 rfl 1 rfl ?_
                    refine V_imul (pc := 121) X dX10_copy_121 ?_
                    refine V_seti (y := nI (16 * j_6)) (pk_mul 16 j_6) ?_
                    refine V_iload_n (pc := 122) X dX10_copy_122 rfl 2 rfl ?_
                    refine V_iadd (pc := 123) X dX10_copy_123 ?_
                    refine V_seti (y := nI ((16 * j_6) + i_17)) (nI_add (16 * j_6) i_17) ?_
                    refine V_iload (pc := 124) X dX10_copy_124 6 rfl ?_
                    refine V_iadd (pc := 126) X dX10_copy_126 ?_
                    refine V_seti (y := nI (((16 * j_6) + i_17) + k1)) (nI_add ((16 * j_6) + i_17) k1) ?_
                    refine V_lald (v := mit (((16 * j_6) + i_17) + k1)) (pc := 127) X dX10_copy_127 3 rfl (vp_in_nI (by omega) (by omega)) (by rw [nI_clamp (by omega)]) ?_
                    refine V_last (f' := vp_updL z1 k1 (mit (((16 * j_6) + i_17) + k1))) (ws' := [ob mq 10 [.long mf, .int (nI mt), .ref mmq, .int (nI mn), .ref mkq, .ref mcq, .ref mhq, .ref maq, .int mz, .int my, .long mS, .ref mzq, .ref mtq, .int (nI mT), .int (nI mA), .ref mrq, .ref muq, .long mF, .int mZ, .ref moq, .int mK, .int mH, .ref mgq, .ref miq, .long mI, .int (bI mB), .ref mlq, .ref msq, .ref meq, .ref mvq], ai g mlq 4 mla, ai g msq 4 msz, al g meq 64 mit, al g mvq 16 (vp_updL z1 k1 (mit (((16 * j_6) + i_17) + k1)))]) (pc := 128) X dX10_copy_128 4 rfl (vp_in_nI (by omega) (by omega)) (by rw [nI_clamp (by omega)]) rfl ?_
                    refine V_iinc (v := nI (k1 + 1)) (lv' := [(6, .int (nI (k1 + 1))), (0, .ref mq), (1, .int (nI j_6)), (2, .int (nI i_17)), (3, .int (nI j_8)), (4, .int (nI j_18)), (5, .int (nI k_16))]) (pc := 129) X dX10_copy_129 6 rfl (nI_add k1 1) (Nat.le_of_ble_eq_true rfl) rfl ?_
                    refine V_goto (tgt := 101) (pc := 132) X dX10_copy_132 (by decide) ?_
                    refine V_lv [1, 2, 3, 4, 5, 6, 0] rfl ?_
                    exact ih101 (k1 + 1, vp_updL z1 k1 (mit (((16 * j_6) + i_17) + k1))) ⟨(by
                          try dsimp only
                          all_goals omega), (by
                          try dsimp only
                          rw [hz1]; exact cpF_sL mmv (fun q => mit (16 * j_6 + i_17 + q)) k1)⟩ (by
                          try dsimp only
                          all_goals omega)
                · skip
                  refine V_bipush (v := (-13)) (pc := 95) X dX10_copy_95 (by decide) ?_
                  exact Ve_iret (pc := 97) X hA9 dX10_copy_97 hr ((-13), mit, mmv) (by first | rfl | (simp [b_3, b_5, hj_7, hj_9, c_10, c_11, c_12, c_13, c_14, c_15]; done)) (by
                        try dsimp only
                        have e9 : copyG (nI j_6) (nI j_8) i j k0 mla msz = (-13) := by
                          unfold copyG; rw [nI_clamp (n := j_6) (by omega), nI_clamp (n := j_8) (by omega), if_neg (by simp [b_3, b_5, hj_7, hj_9, c_10, c_11, c_12, c_13, c_14, c_15]), if_neg (fun q => q.elim c_10 (Int32.not_lt.mpr c_11)), if_neg (fun q => q c_12), if_pos (Or.inr (Or.inr (Int32.not_le.mp c_15)))]
                        unfold R_copyM; exact Or.inl ⟨by rw [e9]; decide, e9.symm, rfl⟩) (by rfl)
          · skip
            refine V_bipush (v := (-12)) (pc := 52) X dX10_copy_52 (by decide) ?_
            exact Ve_iret (pc := 54) X hA9 dX10_copy_54 hr ((-12), mit, mmv) (by first | rfl | (simp [b_3, b_5, hj_7, hj_9, c_10, c_11, c_12]; done)) (by
                  try dsimp only
                  have e9 : copyG (nI j_6) (nI j_8) i j k0 mla msz = (-12) := by
                    unfold copyG; rw [nI_clamp (n := j_6) (by omega), nI_clamp (n := j_8) (by omega), if_neg (by simp [b_3, b_5, hj_7, hj_9, c_10, c_11, c_12]), if_neg (fun q => q.elim c_10 (Int32.not_lt.mpr c_11)), if_pos c_12]
                  unfold R_copyM; exact Or.inl ⟨by rw [e9]; decide, e9.symm, rfl⟩) (by rfl)
        · skip
          refine V_bipush (v := (-11)) (pc := 34) X dX10_copy_34 (by decide) ?_
          exact Ve_iret (pc := 36) X hA9 dX10_copy_36 hr ((-11), mit, mmv) (by first | rfl | (simp [b_3, b_5, hj_7, hj_9, c_10, c_11]; done)) (by
                try dsimp only
                have e9 : copyG (nI j_6) (nI j_8) i j k0 mla msz = (-11) := by
                  unfold copyG; rw [nI_clamp (n := j_6) (by omega), nI_clamp (n := j_8) (by omega), if_neg (by simp [b_3, b_5, hj_7, hj_9, c_10, c_11]), if_pos (Or.inr (Int32.not_le.mp c_11))]
                unfold R_copyM; exact Or.inl ⟨by rw [e9]; decide, e9.symm, rfl⟩) (by rfl)
    · skip
      have b_34 : (bel y 4) = false := bI0 c_4
      refine V_iconst (v := (-1)) (pc := 14) X dX10_copy_14 (by decide) ?_
      exact Ve_iret (pc := 15) X hA9 dX10_copy_15 hr ((-1), mit, mmv) (by first | rfl | (simp [b_3, b_34]; done)) (by
            try dsimp only
            (unfold R_copyM; exact Or.inl ⟨by simp [copyG, b_3, b_34], by simp [copyG, b_3, b_34], rfl⟩)) (by rfl)
