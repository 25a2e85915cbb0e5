set_option maxHeartbeats 4000000 in
set_option maxRecDepth 100000 in
theorem c_X10_finds (l : Launch) (g : XG) (mq : Nat) (mf : Int64) (mt : Nat) (mmq : Nat) (mn : Nat) (mkq : Nat) (mcq : Nat) (mhq : Nat) (maq : Nat) (mz : Int32) (my : Int32) (mS : Int64) (mzq : Nat) (mtq : Nat) (mT : Nat) (mA : Nat) (mrq : Nat) (muq : Nat) (mF : Int64) (mZ : Int32) (moq : Nat) (mK : Int32) (mH : Int32) (mgq : Nat) (miq : Nat) (mI : Int64) (mB : Bool) (mlq : Nat) (msq : Nat) (meq : Nat) (mvq : Nat) (mco : Nat → Int32) (y9 : Nat) (W9 : Int64) (hy : y9 < 36) : Ke l g yX10_finds wsX10_finds ({ frames := 2, cells := 0, slots := 0, locals := 48 } : Room) 0 0 [.ref mq, .int (nI y9), .long W9] [ob mq 10 [.long mf, .int (nI mt), .ref mmq, .int (nI mn), .ref mkq, .ref mcq, .ref mhq, .ref maq, .int mz, .int my, .long mS, .ref mzq, .ref mtq, .int (nI mT), .int (nI mA), .ref mrq, .ref muq, .long mF, .int mZ, .ref moq, .int mK, .int mH, .ref mgq, .ref miq, .long mI, .int (bI mB), .ref mlq, .ref msq, .ref meq, .ref mvq], ai g moq 36 mco] (fun u : (Nat → Int32) => none) (fun u => [ob mq 10 [.long mf, .int (nI mt), .ref mmq, .int (nI mn), .ref mkq, .ref mcq, .ref mhq, .ref maq, .int mz, .int my, .long mS, .ref mzq, .ref mtq, .int (nI mT), .int (nI mA), .ref mrq, .ref muq, .long mF, .int mZ, .ref moq, .int mK, .int mH, .ref mgq, .ref miq, .long mI, .int (bI mB), .ref mlq, .ref msq, .ref meq, .ref mvq], ai g moq 36 u]) (fun u => (Enc u (VN W9 (kcX mz mf) y9))) := by
  refine Ke.of (cc := cX10_finds) (maxL := 9) (ret := none) (lv := [(0, .ref mq), (1, .int (nI y9)), (2, .long W9)]) RX10 rfl (by decide) rfl (Nat.le_of_ble_eq_true rfl) rfl ?_
  intro p e s m below meth c A sz hA9 X hr hin2
  have in10 : ∀ w ∈ u_ws RX10 TX10 30, w ∈ wsX10_finds := by decide +kernel
  refine V_iconst (v := 0) (pc := 0) X dX10_finds_0 (by decide) ?_
  refine V_istore (lv' := [(4, .int 0), (0, .ref mq), (1, .int (nI y9)), (2, .long W9)]) (pc := 1) X dX10_finds_1 (Nat.le_of_ble_eq_true rfl) rfl ?_
  refine V_loop (pc := 3) (σ := Nat × (Nat → Int32)) (fun v9 => [(0, .ref mq), (1, .int (nI y9)), (2, .long W9), (4, .int (nI v9.1))]) (fun v9 => [ob mq 10 [.long mf, .int (nI mt), .ref mmq, .int (nI mn), .ref mkq, .ref mcq, .ref mhq, .ref maq, .int mz, .int my, .long mS, .ref mzq, .ref mtq, .int (nI mT), .int (nI mA), .ref mrq, .ref muq, .long mF, .int mZ, .ref moq, .int mK, .int mH, .ref mgq, .ref miq, .long mI, .int (bI mB), .ref mlq, .ref msq, .ref meq, .ref mvq], ai g moq 36 v9.2]) (fun v9 => (v9.1 ≤ 36) ∧ (∀ q, q < v9.1 → v9.2 q = eN (vI W9 y9 q))) (fun v9 => 36 - v9.1) (0, mco) ⟨(by
        try dsimp only
        all_goals omega), (by
        try dsimp only
        exact fun _ h => absurd h (Nat.not_lt_zero _))⟩ rfl [1, 2, 3, 0] rfl ?_
  rintro ⟨j, zc⟩ ⟨hj, hz⟩ ih3
  try dsimp only at hj
  try dsimp only at hz
  refine V_eqw (ws2 := [ob mq 10 [.long mf, .int (nI mt), .ref mmq, .int (nI mn), .ref mkq, .ref mcq, .ref mhq, .ref maq, .int mz, .int my, .long mS, .ref mzq, .ref mtq, .int (nI mT), .int (nI mA), .ref mrq, .ref muq, .long mF, .int mZ, .ref moq, .int mK, .int mH, .ref mgq, .ref miq, .long mI, .int (bI mB), .ref mlq, .ref msq, .ref meq, .ref mvq], ai g moq 36 zc]) rfl (V_eql (lv' := [(0, .ref mq), (1, .int (nI y9)), (2, .long W9), (4, .int (nI j))]) rfl ?_)
  refine V_iload (pc := 3) X dX10_finds_3 3 rfl ?_
  refine V_bipush (v := 36) (pc := 5) X dX10_finds_5 (by decide) ?_
  refine V_icmp_ge (tgt := 43) (pc := 7) X dX10_finds_7 (by decide) (fun c_1 => ?_) (fun c_1 => ?_)
  · skip
    have n_2 : 36 ≤ j := nJ_le (a := 36) (b := j) (by omega) (by omega) c_1
    refine V_iconst (v := 1) (pc := 43) X dX10_finds_43 (by decide) ?_
    refine V_istore (lv' := [(4, .int 1), (0, .ref mq), (1, .int (nI y9)), (2, .long W9)]) (pc := 44) X dX10_finds_44 (Nat.le_of_ble_eq_true rfl) rfl ?_
    refine V_loop (pc := 46) (σ := Nat × Bool × (Nat → Int32)) (fun v9 => [(0, .ref mq), (1, .int (nI y9)), (2, .long W9), (4, .int (bI v9.2.1))]) (fun v9 => [ob mq 10 [.long mf, .int (nI mt), .ref mmq, .int (nI mn), .ref mkq, .ref mcq, .ref mhq, .ref maq, .int mz, .int my, .long mS, .ref mzq, .ref mtq, .int (nI mT), .int (nI mA), .ref mrq, .ref muq, .long mF, .int mZ, .ref moq, .int mK, .int mH, .ref mgq, .ref miq, .long mI, .int (bI mB), .ref mlq, .ref msq, .ref meq, .ref mvq], ai g moq 36 v9.2.2]) (fun v9 => (v9.1 ≤ 36) ∧ (Enc v9.2.2 (vR W9 (kcX mz mf) y9 v9.1).1) ∧ (v9.2.1 = (vR W9 (kcX mz mf) y9 v9.1).2)) (fun v9 => 36 - v9.1) (0, true, zc) ⟨(by
          try dsimp only
          all_goals omega), (by
          try dsimp only
          exact fun q h => hz q (by omega)), (by
          try dsimp only
          all_goals rfl)⟩ rfl [1, 2, 3, 0] rfl ?_
    rintro ⟨r, b, zr⟩ ⟨hr9, hE, hb⟩ ih46
    try dsimp only at hr9
    try dsimp only at hE
    try dsimp only at hb
    refine V_eqw (ws2 := [ob mq 10 [.long mf, .int (nI mt), .ref mmq, .int (nI mn), .ref mkq, .ref mcq, .ref mhq, .ref maq, .int mz, .int my, .long mS, .ref mzq, .ref mtq, .int (nI mT), .int (nI mA), .ref mrq, .ref muq, .long mF, .int mZ, .ref moq, .int mK, .int mH, .ref mgq, .ref miq, .long mI, .int (bI mB), .ref mlq, .ref msq, .ref meq, .ref mvq], ai g moq 36 zr]) rfl (V_eql (lv' := [(0, .ref mq), (1, .int (nI y9)), (2, .long W9), (4, .int (bI b))]) rfl ?_)
    refine V_iload (pc := 46) X dX10_finds_46 3 rfl ?_
    refine V_if_eq (tgt := 219) (pc := 48) X dX10_finds_48 (by decide) (fun c_3 => ?_) (fun c_3 => ?_)
    · skip
      have b_4 : b = false := bI0 c_3
      exact Ve_vret (pc := 219) X hA9 dX10_finds_219 hr zr rfl (by
            try dsimp only
            unfold VN
            rw [← vR_f hr9 (hb.symm.trans b_4)]
            exact hE) (by rfl)
    · skip
      have b_5 : b = true := bI1 c_3
      have hbt := b_5
      refine V_iconst (v := 0) (pc := 51) X dX10_finds_51 (by decide) ?_
      refine V_istore (lv' := [(4, .int 0), (0, .ref mq), (1, .int (nI y9)), (2, .long W9)]) (pc := 52) X dX10_finds_52 (Nat.le_of_ble_eq_true rfl) rfl ?_
      refine V_iconst (v := 0) (pc := 54) X dX10_finds_54 (by decide) ?_
      refine V_istore (lv' := [(5, .int 0), (4, .int 0), (0, .ref mq), (1, .int (nI y9)), (2, .long W9)]) (pc := 55) X dX10_finds_55 (Nat.le_of_ble_eq_true rfl) rfl ?_
      refine V_loop (pc := 57) (σ := Nat × Bool × (Nat → Int32)) (fun v9 => [(0, .ref mq), (1, .int (nI y9)), (2, .long W9), (4, .int (bI v9.2.1)), (5, .int (nI v9.1))]) (fun v9 => [ob mq 10 [.long mf, .int (nI mt), .ref mmq, .int (nI mn), .ref mkq, .ref mcq, .ref mhq, .ref maq, .int mz, .int my, .long mS, .ref mzq, .ref mtq, .int (nI mT), .int (nI mA), .ref mrq, .ref muq, .long mF, .int mZ, .ref moq, .int mK, .int mH, .ref mgq, .ref miq, .long mI, .int (bI mB), .ref mlq, .ref msq, .ref meq, .ref mvq], ai g moq 36 v9.2.2]) (fun v9 => (v9.1 ≤ 36) ∧ (Enc v9.2.2 (kN W9 (kcX mz mf) ((vR W9 (kcX mz mf) y9 r).1, false) v9.1).1) ∧ (v9.2.1 = (kN W9 (kcX mz mf) ((vR W9 (kcX mz mf) y9 r).1, false) v9.1).2)) (fun v9 => 36 - v9.1) (0, false, zr) ⟨(by
            try dsimp only
            all_goals omega), (by
            try dsimp only
            exact hE), (by
            try dsimp only
            all_goals rfl)⟩ rfl [2, 3, 4, 1, 0] rfl ?_
      rintro ⟨i, b2, zk⟩ ⟨hi, hE2, hb2⟩ ih57
      try dsimp only at hi
      try dsimp only at hE2
      try dsimp only at hb2
      refine V_eqw (ws2 := [ob mq 10 [.long mf, .int (nI mt), .ref mmq, .int (nI mn), .ref mkq, .ref mcq, .ref mhq, .ref maq, .int mz, .int my, .long mS, .ref mzq, .ref mtq, .int (nI mT), .int (nI mA), .ref mrq, .ref muq, .long mF, .int mZ, .ref moq, .int mK, .int mH, .ref mgq, .ref miq, .long mI, .int (bI mB), .ref mlq, .ref msq, .ref meq, .ref mvq], ai g moq 36 zk]) rfl (V_eql (lv' := [(0, .ref mq), (1, .int (nI y9)), (2, .long W9), (4, .int (bI b2)), (5, .int (nI i))]) rfl ?_)
      refine V_iload (pc := 57) X dX10_finds_57 4 rfl ?_
      refine V_bipush (v := 36) (pc := 59) X dX10_finds_59 (by decide) ?_
      refine V_icmp_ge (tgt := 216) (pc := 61) X dX10_finds_61 (by decide) (fun c_6 => ?_) (fun c_6 => ?_)
      · skip
        have n_7 : 36 ≤ i := nJ_le (a := 36) (b := i) (by omega) (by omega) c_6
        refine V_goto (tgt := 46) (pc := 216) X dX10_finds_216 (by decide) ?_
        refine V_lv [0, 1, 2, 3] rfl ?_
        exact ih46 (r + 1, b2, zk) ⟨(by
              try dsimp only
              have e9 := vR_t hy hr9 (hb.symm.trans hbt)
              omega), (by
              try dsimp only
              have e9 := hE2
              rw [show i = 36 by omega] at e9
              exact e9), (by
              try dsimp only
              have e9 := hb2
              rw [show i = 36 by omega] at e9
              exact e9)⟩ (by
              try dsimp only
              have e9 := vR_t hy hr9 (hb.symm.trans hbt)
              omega)
      · skip
        have n_8 : i < 36 := nJ_nle (a := 36) (b := i) (by omega) (by omega) c_6
        refine V_iconst (v := 0) (pc := 64) X dX10_finds_64 (by decide) ?_
        refine V_istore (lv' := [(6, .int 0), (0, .ref mq), (1, .int (nI y9)), (2, .long W9), (4, .int (bI b2)), (5, .int (nI i))]) (pc := 65) X dX10_finds_65 (Nat.le_of_ble_eq_true rfl) rfl ?_
        refine V_loop (pc := 67) (σ := Nat × Bool × (Nat → Int32)) (fun v9 => [(0, .ref mq), (1, .int (nI y9)), (2, .long W9), (4, .int (bI v9.2.1)), (5, .int (nI i)), (6, .int (nI v9.1))]) (fun v9 => [ob mq 10 [.long mf, .int (nI mt), .ref mmq, .int (nI mn), .ref mkq, .ref mcq, .ref mhq, .ref maq, .int mz, .int my, .long mS, .ref mzq, .ref mtq, .int (nI mT), .int (nI mA), .ref mrq, .ref muq, .long mF, .int mZ, .ref moq, .int mK, .int mH, .ref mgq, .ref miq, .long mI, .int (bI mB), .ref mlq, .ref msq, .ref meq, .ref mvq], ai g moq 36 v9.2.2]) (fun v9 => (v9.1 ≤ 4) ∧ (Enc v9.2.2 (sN W9 (kcX mz mf) i (kN W9 (kcX mz mf) ((vR W9 (kcX mz mf) y9 r).1, false) i) v9.1).1) ∧ (v9.2.1 = (sN W9 (kcX mz mf) i (kN W9 (kcX mz mf) ((vR W9 (kcX mz mf) y9 r).1, false) i) v9.1).2)) (fun v9 => 4 - v9.1) (0, b2, zk) ⟨(by
              try dsimp only
              all_goals omega), (by
              try dsimp only
              exact hE2), (by
              try dsimp only
              exact hb2)⟩ rfl [1, 2, 3, 4, 5, 0] rfl ?_
        rintro ⟨n, b3, zs⟩ ⟨hn, hE3, hb3⟩ ih67
        try dsimp only at hn
        try dsimp only at hE3
        try dsimp only at hb3
        refine V_eqw (ws2 := [ob mq 10 [.long mf, .int (nI mt), .ref mmq, .int (nI mn), .ref mkq, .ref mcq, .ref mhq, .ref maq, .int mz, .int my, .long mS, .ref mzq, .ref mtq, .int (nI mT), .int (nI mA), .ref mrq, .ref muq, .long mF, .int mZ, .ref moq, .int mK, .int mH, .ref mgq, .ref miq, .long mI, .int (bI mB), .ref mlq, .ref msq, .ref meq, .ref mvq], ai g moq 36 zs]) rfl (V_eql (lv' := [(0, .ref mq), (1, .int (nI y9)), (2, .long W9), (4, .int (bI b3)), (5, .int (nI i)), (6, .int (nI n))]) rfl ?_)
        obtain ⟨vS, hvS⟩ : ∃ v, v = (sN W9 (kcX mz mf) i (kN W9 (kcX mz mf) ((vR W9 (kcX mz mf) y9 r).1, false) i) n).1 := ⟨_, rfl⟩
        have hst : (sN W9 (kcX mz mf) i (kN W9 (kcX mz mf) ((vR W9 (kcX mz mf) y9 r).1, false) i) n) = (vS, b3) := Prod.ext hvS.symm hb3.symm
        have hE4 : Enc zs vS := by rw [hvS]; exact hE3
        have hBd : Bd vS := by rw [hvS]; exact Bd_sN hy (show i < 36 by omega) hn
        refine V_iload (pc := 67) X dX10_finds_67 5 rfl ?_
        refine V_iconst (v := 4) (pc := 69) X dX10_finds_69 (by decide) ?_
        refine V_icmp_ge (tgt := 210) (pc := 70) X dX10_finds_70 (by decide) (fun c_9 => ?_) (fun c_9 => ?_)
        · skip
          have n_10 : 4 ≤ n := nJ_le (a := 4) (b := n) (by omega) (by omega) c_9
          refine V_iinc (v := nI (i + 1)) (lv' := [(5, .int (nI (i + 1))), (0, .ref mq), (1, .int (nI y9)), (2, .long W9), (4, .int (bI b3)), (6, .int (nI n))]) (pc := 210) X dX10_finds_210 4 rfl (nI_add i 1) (Nat.le_of_ble_eq_true rfl) rfl ?_
          refine V_goto (tgt := 57) (pc := 213) X dX10_finds_213 (by decide) ?_
          refine V_lv [1, 2, 3, 4, 0] rfl ?_
          exact ih57 (i + 1, b3, zs) ⟨(by
                try dsimp only
                all_goals omega), (by
                try dsimp only
                have e9 := hE3
                rw [show n = 4 by omega] at e9
                rw [kN]
                exact e9), (by
                try dsimp only
                have e9 := hb3
                rw [show n = 4 by omega] at e9
                rw [kN]
                exact e9)⟩ (by
                try dsimp only
                all_goals omega)
        · skip
          have n_11 : n < 4 := nJ_nle (a := 4) (b := n) (by omega) (by omega) c_9
          refine V_lload_n (pc := 73) X dX10_finds_73 rfl 2 rfl ?_
          refine V_iload (pc := 74) X dX10_finds_74 4 rfl ?_
          refine V_sg (pc := 76) (nA := 2) (As := [.long W9, .int (nI i)]) (rest := []) X (c_X10_has l g (f := W9) (x := nI i) (hx := by exact vp_in_nI (by omega) (by omega))) gX10_finds_X10_has dX10_finds_76 rfl (by decide +kernel) rfl ⟨rfl, rfl⟩ ⟨Nat.le_of_ble_eq_true rfl, Nat.le_of_ble_eq_true rfl⟩ ⟨Nat.le_of_ble_eq_true rfl, Nat.le_of_ble_eq_true rfl⟩ [] (by decide) rfl rfl (Nat.le_of_ble_eq_true rfl) (st' := [.int (bI (firmB W9 (nI i)))]) rfl ?_
          refine V_if_eq (tgt := 210) (pc := 79) X dX10_finds_79 (by decide) (fun c_12 => ?_) (fun c_12 => ?_)
          · skip
            have b_13 : (firmB W9 (nI i)) = false := bI0 c_12
            refine V_iinc (v := nI (i + 1)) (lv' := [(5, .int (nI (i + 1))), (0, .ref mq), (1, .int (nI y9)), (2, .long W9), (4, .int (bI b3)), (6, .int (nI n))]) (pc := 210) X dX10_finds_210 4 rfl (nI_add i 1) (Nat.le_of_ble_eq_true rfl) rfl ?_
            refine V_goto (tgt := 57) (pc := 213) X dX10_finds_213 (by decide) ?_
            refine V_lv [1, 2, 3, 4, 0] rfl ?_
            exact ih57 (i + 1, b3, zs) ⟨(by
                  try dsimp only
                  all_goals omega), (by
                  try dsimp only
                  have e9 := hE3
                  rw [sN_nof b_13] at e9
                  rw [kN, sN_nof b_13]
                  exact e9), (by
                  try dsimp only
                  have e9 := hb3
                  rw [sN_nof b_13] at e9
                  rw [kN, sN_nof b_13]
                  exact e9)⟩ (by
                  try dsimp only
                  all_goals omega)
          · skip
            have b_14 : (firmB W9 (nI i)) = true := bI1 c_12
            have hf9 := b_14
            refine V_iload (pc := 82) X dX10_finds_82 4 rfl ?_
            refine V_iload (pc := 84) X dX10_finds_84 5 rfl ?_
            refine V_sg (pc := 86) (nA := 2) (As := [.int (nI i), .int (nI n)]) (rest := []) X (c_X10_beside l g (i := i) (n := n) (hi := by omega) (hn := by omega)) gX10_finds_X10_beside dX10_finds_86 rfl (by decide +kernel) rfl ⟨rfl, rfl⟩ ⟨Nat.le_of_ble_eq_true rfl, Nat.le_of_ble_eq_true rfl⟩ ⟨Nat.le_of_ble_eq_true rfl, Nat.le_of_ble_eq_true rfl⟩ [] (by decide) rfl rfl (Nat.le_of_ble_eq_true rfl) (st' := [.int (nbr (nI i) (nI n))]) rfl ?_
            refine V_istore (lv' := [(7, .int (nbr (nI i) (nI n))), (0, .ref mq), (1, .int (nI y9)), (2, .long W9), (4, .int (bI b3)), (5, .int (nI i)), (6, .int (nI n))]) (pc := 89) X dX10_finds_89 (Nat.le_of_ble_eq_true rfl) rfl ?_
            refine V_iload (pc := 91) X dX10_finds_91 0 rfl ?_
            refine V_if_lt (tgt := 148) (pc := 93) X dX10_finds_93 (by decide) (fun c_15 => ?_) (fun c_15 => ?_)
            · skip
              refine V_iconst (v := 0) (pc := 148) X dX10_finds_148 (by decide) ?_
              refine V_istore (lv' := [(8, .int 0), (7, .int (nbr (nI i) (nI n))), (0, .ref mq), (1, .int (nI y9)), (2, .long W9), (4, .int (bI b3)), (5, .int (nI i)), (6, .int (nI n))]) (pc := 149) X dX10_finds_149 (Nat.le_of_ble_eq_true rfl) rfl ?_
              refine V_aload_n (pc := 151) X dX10_finds_151 rfl 2 rfl ?_
              refine V_get (C := RX10) (T := TX10) (N := 30) (ci := 10) (pc := 152) X dX10_finds_152 in10 0 rfl rfl 19 (by decide) (by decide +kernel) rfl rfl ?_
              refine V_iload (pc := 155) X dX10_finds_155 6 rfl ?_
              refine V_iload (pc := 157) X dX10_finds_157 0 rfl ?_
              refine V_if_eq (tgt := 179) (pc := 159) X dX10_finds_159 (by decide) (fun c_16 => ?_) (fun c_16 => ?_)
              · skip
                refine V_aload_n (pc := 179) X dX10_finds_179 rfl 2 rfl ?_
                refine V_get (C := RX10) (T := TX10) (N := 30) (ci := 10) (pc := 180) X dX10_finds_180 in10 0 rfl rfl 19 (by decide) (by decide +kernel) rfl rfl ?_
                refine V_iload (pc := 183) X dX10_finds_183 6 rfl ?_
                refine V_iald (v := zs i) (pc := 185) X dX10_finds_185 1 rfl (vp_in_nI (by omega) (by omega)) (by rw [nI_clamp (by omega)]) ?_
                refine V_iast (f' := upd zs i (zs i)) (ws' := [ob mq 10 [.long mf, .int (nI mt), .ref mmq, .int (nI mn), .ref mkq, .ref mcq, .ref mhq, .ref maq, .int mz, .int my, .long mS, .ref mzq, .ref mtq, .int (nI mT), .int (nI mA), .ref mrq, .ref muq, .long mF, .int mZ, .ref moq, .int mK, .int mH, .ref mgq, .ref miq, .long mI, .int (bI mB), .ref mlq, .ref msq, .ref meq, .ref mvq], ai g moq 36 (upd zs i (zs i))]) (pc := 186) X dX10_finds_186 1 rfl (vp_in_nI (by omega) (by omega)) (by rw [nI_clamp (by omega)]) rfl ?_
                refine V_iload (pc := 187) X dX10_finds_187 5 rfl ?_
                refine V_if_ne (tgt := 197) (pc := 189) X dX10_finds_189 (by decide) (fun c_17 => ?_) (fun c_17 => ?_)
                · skip
                  have b_18 : b3 = true := bI1 c_17
                  refine V_iconst (v := 1) (pc := 197) X dX10_finds_197 (by decide) ?_
                  refine V_goto (tgt := 202) (pc := 198) X dX10_finds_198 (by decide) ?_
                  refine V_istore (lv' := [(4, .int 1), (8, .int 0), (7, .int (nbr (nI i) (nI n))), (0, .ref mq), (1, .int (nI y9)), (2, .long W9), (5, .int (nI i)), (6, .int (nI n))]) (pc := 202) X dX10_finds_202 (Nat.le_of_ble_eq_true rfl) rfl ?_
                  refine V_iinc (v := nI (n + 1)) (lv' := [(6, .int (nI (n + 1))), (4, .int 1), (8, .int 0), (7, .int (nbr (nI i) (nI n))), (0, .ref mq), (1, .int (nI y9)), (2, .long W9), (5, .int (nI i))]) (pc := 204) X dX10_finds_204 7 rfl (nI_add n 1) (Nat.le_of_ble_eq_true rfl) rfl ?_
                  refine V_goto (tgt := 67) (pc := 207) X dX10_finds_207 (by decide) ?_
                  refine V_lv [4, 5, 6, 1, 7, 0] rfl ?_
                  exact ih67 (n + 1, true, upd zs i (zs i)) ⟨(by
                        try dsimp only
                        all_goals omega), (by
                        try dsimp only
                        rw [sN, hst]
                        exact (rN_en (b := b3) hE4 (show ¬ bt W9 (kcX mz mf) i n vS from fun q => q.2.1 (by assumption))).1), (by
                        try dsimp only
                        rw [sN, hst, ← (rN_en (b := b3) hE4 (show ¬ bt W9 (kcX mz mf) i n vS from fun q => q.2.1 (by assumption))).2, b_18])⟩ (by
                        try dsimp only
                        all_goals omega)
                · skip
                  have b_19 : b3 = false := bI0 c_17
                  refine V_iload (pc := 192) X dX10_finds_192 0 rfl ?_
                  refine V_if_eq (tgt := 201) (pc := 194) X dX10_finds_194 (by decide) (fun c_20 => ?_) (fun c_20 => ?_)
                  · skip
                    refine V_iconst (v := 0) (pc := 201) X dX10_finds_201 (by decide) ?_
                    refine V_istore (lv' := [(4, .int 0), (8, .int 0), (7, .int (nbr (nI i) (nI n))), (0, .ref mq), (1, .int (nI y9)), (2, .long W9), (5, .int (nI i)), (6, .int (nI n))]) (pc := 202) X dX10_finds_202 (Nat.le_of_ble_eq_true rfl) rfl ?_
                    refine V_iinc (v := nI (n + 1)) (lv' := [(6, .int (nI (n + 1))), (4, .int 0), (8, .int 0), (7, .int (nbr (nI i) (nI n))), (0, .ref mq), (1, .int (nI y9)), (2, .long W9), (5, .int (nI i))]) (pc := 204) X dX10_finds_204 7 rfl (nI_add n 1) (Nat.le_of_ble_eq_true rfl) rfl ?_
                    refine V_goto (tgt := 67) (pc := 207) X dX10_finds_207 (by decide) ?_
                    refine V_lv [4, 5, 6, 1, 7, 0] rfl ?_
                    exact ih67 (n + 1, false, upd zs i (zs i)) ⟨(by
                          try dsimp only
                          all_goals omega), (by
                          try dsimp only
                          rw [sN, hst]
                          exact (rN_en (b := b3) hE4 (show ¬ bt W9 (kcX mz mf) i n vS from fun q => q.2.1 (by assumption))).1), (by
                          try dsimp only
                          rw [sN, hst, ← (rN_en (b := b3) hE4 (show ¬ bt W9 (kcX mz mf) i n vS from fun q => q.2.1 (by assumption))).2, b_19])⟩ (by
                          try dsimp only
                          all_goals omega)
                  · exact absurd (by decide) c_20
              · exact absurd (by decide) c_16
            · skip
              obtain ⟨hb1, hb2⟩ := nb_ok (show i < 36 by omega) (show n < 4 by omega) c_15
              refine V_eql (lv' := [(7, .int (nI (nb i n))), (0, .ref mq), (1, .int (nI y9)), (2, .long W9), (4, .int (bI b3)), (5, .int (nI i)), (6, .int (nI n))]) (by rw [hb2]) ?_
              have hB1 := Bd_s hBd hb1
              have hB2 := Bd_s hBd (show i < 36 by omega)
              have hc9 := csN_12 (kcX mz mf) (nI (nb i n))
              refine V_aload_n (pc := 96) X dX10_finds_96 rfl 1 rfl ?_
              refine V_get (C := RX10) (T := TX10) (N := 30) (ci := 10) (pc := 97) X dX10_finds_97 in10 0 rfl rfl 19 (by decide) (by decide +kernel) rfl rfl ?_
              refine V_iload (pc := 100) X dX10_finds_100 0 rfl ?_
              refine V_iald (v := zs (nb i n)) (pc := 102) X dX10_finds_102 1 rfl (vp_in_nI (by omega) (by omega)) (by rw [nI_clamp (by omega)]) ?_
              refine V_bipush (v := (-4)) (pc := 103) X dX10_finds_103 (by decide) ?_
              refine V_icmp_eq (tgt := 148) (pc := 105) X dX10_finds_105 (by decide) (fun c_21 => ?_) (fun c_21 => ?_)
              · skip
                have hx9 : vS (nb i n) = 1000 := (eN_4 hB1).mp ((hE4 _ hb1).symm.trans c_21)
                refine V_iconst (v := 0) (pc := 148) X dX10_finds_148 (by decide) ?_
                refine V_istore (lv' := [(8, .int 0), (7, .int (nI (nb i n))), (0, .ref mq), (1, .int (nI y9)), (2, .long W9), (4, .int (bI b3)), (5, .int (nI i)), (6, .int (nI n))]) (pc := 149) X dX10_finds_149 (Nat.le_of_ble_eq_true rfl) rfl ?_
                refine V_aload_n (pc := 151) X dX10_finds_151 rfl 2 rfl ?_
                refine V_get (C := RX10) (T := TX10) (N := 30) (ci := 10) (pc := 152) X dX10_finds_152 in10 0 rfl rfl 19 (by decide) (by decide +kernel) rfl rfl ?_
                refine V_iload (pc := 155) X dX10_finds_155 6 rfl ?_
                refine V_iload (pc := 157) X dX10_finds_157 0 rfl ?_
                refine V_if_eq (tgt := 179) (pc := 159) X dX10_finds_159 (by decide) (fun c_22 => ?_) (fun c_22 => ?_)
                · skip
                  refine V_aload_n (pc := 179) X dX10_finds_179 rfl 2 rfl ?_
                  refine V_get (C := RX10) (T := TX10) (N := 30) (ci := 10) (pc := 180) X dX10_finds_180 in10 0 rfl rfl 19 (by decide) (by decide +kernel) rfl rfl ?_
                  refine V_iload (pc := 183) X dX10_finds_183 6 rfl ?_
                  refine V_iald (v := zs i) (pc := 185) X dX10_finds_185 1 rfl (vp_in_nI (by omega) (by omega)) (by rw [nI_clamp (by omega)]) ?_
                  refine V_iast (f' := upd zs i (zs i)) (ws' := [ob mq 10 [.long mf, .int (nI mt), .ref mmq, .int (nI mn), .ref mkq, .ref mcq, .ref mhq, .ref maq, .int mz, .int my, .long mS, .ref mzq, .ref mtq, .int (nI mT), .int (nI mA), .ref mrq, .ref muq, .long mF, .int mZ, .ref moq, .int mK, .int mH, .ref mgq, .ref miq, .long mI, .int (bI mB), .ref mlq, .ref msq, .ref meq, .ref mvq], ai g moq 36 (upd zs i (zs i))]) (pc := 186) X dX10_finds_186 1 rfl (vp_in_nI (by omega) (by omega)) (by rw [nI_clamp (by omega)]) rfl ?_
                  refine V_iload (pc := 187) X dX10_finds_187 5 rfl ?_
                  refine V_if_ne (tgt := 197) (pc := 189) X dX10_finds_189 (by decide) (fun c_23 => ?_) (fun c_23 => ?_)
                  · skip
                    have b_24 : b3 = true := bI1 c_23
                    refine V_iconst (v := 1) (pc := 197) X dX10_finds_197 (by decide) ?_
                    refine V_goto (tgt := 202) (pc := 198) X dX10_finds_198 (by decide) ?_
                    refine V_istore (lv' := [(4, .int 1), (8, .int 0), (7, .int (nI (nb i n))), (0, .ref mq), (1, .int (nI y9)), (2, .long W9), (5, .int (nI i)), (6, .int (nI n))]) (pc := 202) X dX10_finds_202 (Nat.le_of_ble_eq_true rfl) rfl ?_
                    refine V_iinc (v := nI (n + 1)) (lv' := [(6, .int (nI (n + 1))), (4, .int 1), (8, .int 0), (7, .int (nI (nb i n))), (0, .ref mq), (1, .int (nI y9)), (2, .long W9), (5, .int (nI i))]) (pc := 204) X dX10_finds_204 7 rfl (nI_add n 1) (Nat.le_of_ble_eq_true rfl) rfl ?_
                    refine V_goto (tgt := 67) (pc := 207) X dX10_finds_207 (by decide) ?_
                    refine V_lv [4, 5, 6, 1, 7, 0] rfl ?_
                    exact ih67 (n + 1, true, upd zs i (zs i)) ⟨(by
                          try dsimp only
                          all_goals omega), (by
                          try dsimp only
                          rw [sN, hst]
                          exact (rN_en (b := b3) hE4 (show ¬ bt W9 (kcX mz mf) i n vS from fun q => by have q9 := q.2.2; omega)).1), (by
                          try dsimp only
                          rw [sN, hst, ← (rN_en (b := b3) hE4 (show ¬ bt W9 (kcX mz mf) i n vS from fun q => by have q9 := q.2.2; omega)).2, b_24])⟩ (by
                          try dsimp only
                          all_goals omega)
                  · skip
                    have b_25 : b3 = false := bI0 c_23
                    refine V_iload (pc := 192) X dX10_finds_192 0 rfl ?_
                    refine V_if_eq (tgt := 201) (pc := 194) X dX10_finds_194 (by decide) (fun c_26 => ?_) (fun c_26 => ?_)
                    · skip
                      refine V_iconst (v := 0) (pc := 201) X dX10_finds_201 (by decide) ?_
                      refine V_istore (lv' := [(4, .int 0), (8, .int 0), (7, .int (nI (nb i n))), (0, .ref mq), (1, .int (nI y9)), (2, .long W9), (5, .int (nI i)), (6, .int (nI n))]) (pc := 202) X dX10_finds_202 (Nat.le_of_ble_eq_true rfl) rfl ?_
                      refine V_iinc (v := nI (n + 1)) (lv' := [(6, .int (nI (n + 1))), (4, .int 0), (8, .int 0), (7, .int (nI (nb i n))), (0, .ref mq), (1, .int (nI y9)), (2, .long W9), (5, .int (nI i))]) (pc := 204) X dX10_finds_204 7 rfl (nI_add n 1) (Nat.le_of_ble_eq_true rfl) rfl ?_
                      refine V_goto (tgt := 67) (pc := 207) X dX10_finds_207 (by decide) ?_
                      refine V_lv [4, 5, 6, 1, 7, 0] rfl ?_
                      exact ih67 (n + 1, false, upd zs i (zs i)) ⟨(by
                            try dsimp only
                            all_goals omega), (by
                            try dsimp only
                            rw [sN, hst]
                            exact (rN_en (b := b3) hE4 (show ¬ bt W9 (kcX mz mf) i n vS from fun q => by have q9 := q.2.2; omega)).1), (by
                            try dsimp only
                            rw [sN, hst, ← (rN_en (b := b3) hE4 (show ¬ bt W9 (kcX mz mf) i n vS from fun q => by have q9 := q.2.2; omega)).2, b_25])⟩ (by
                            try dsimp only
                            all_goals omega)
                    · exact absurd (by decide) c_26
                · exact absurd (by decide) c_22
              · skip
                have hx9 : ¬ vS (nb i n) = 1000 := fun q => c_21 ((hE4 _ hb1).trans ((eN_4 hB1).mpr q))
                refine V_aload_n (pc := 108) X dX10_finds_108 rfl 1 rfl ?_
                refine V_get (C := RX10) (T := TX10) (N := 30) (ci := 10) (pc := 109) X dX10_finds_109 in10 0 rfl rfl 19 (by decide) (by decide +kernel) rfl rfl ?_
                refine V_iload (pc := 112) X dX10_finds_112 5 rfl ?_
                refine V_iald (v := zs i) (pc := 114) X dX10_finds_114 1 rfl (vp_in_nI (by omega) (by omega)) (by rw [nI_clamp (by omega)]) ?_
                refine V_bipush (v := (-4)) (pc := 115) X dX10_finds_115 (by decide) ?_
                refine V_icmp_eq (tgt := 144) (pc := 117) X dX10_finds_117 (by decide) (fun c_27 => ?_) (fun c_27 => ?_)
                · skip
                  have hi9 : vS i = 1000 := (eN_4 hB2).mp ((hE4 i (by omega)).symm.trans c_27)
                  refine V_iconst (v := 1) (pc := 144) X dX10_finds_144 (by decide) ?_
                  refine V_goto (tgt := 149) (pc := 145) X dX10_finds_145 (by decide) ?_
                  refine V_istore (lv' := [(8, .int 1), (7, .int (nI (nb i n))), (0, .ref mq), (1, .int (nI y9)), (2, .long W9), (4, .int (bI b3)), (5, .int (nI i)), (6, .int (nI n))]) (pc := 149) X dX10_finds_149 (Nat.le_of_ble_eq_true rfl) rfl ?_
                  refine V_aload_n (pc := 151) X dX10_finds_151 rfl 2 rfl ?_
                  refine V_get (C := RX10) (T := TX10) (N := 30) (ci := 10) (pc := 152) X dX10_finds_152 in10 0 rfl rfl 19 (by decide) (by decide +kernel) rfl rfl ?_
                  refine V_iload (pc := 155) X dX10_finds_155 6 rfl ?_
                  refine V_iload (pc := 157) X dX10_finds_157 0 rfl ?_
                  refine V_if_eq (tgt := 179) (pc := 159) X dX10_finds_159 (by decide) (fun c_28 => ?_) (fun c_28 => ?_)
                  · exact absurd c_28 (by decide)
                  · skip
                    refine V_aload_n (pc := 162) X dX10_finds_162 rfl 2 rfl ?_
                    refine V_get (C := RX10) (T := TX10) (N := 30) (ci := 10) (pc := 163) X dX10_finds_163 in10 0 rfl rfl 19 (by decide) (by decide +kernel) rfl rfl ?_
                    refine V_iload (pc := 166) X dX10_finds_166 1 rfl ?_
                    refine V_iald (v := zs (nb i n)) (pc := 168) X dX10_finds_168 1 rfl (vp_in_nI (by omega) (by omega)) (by rw [nI_clamp (by omega)]) ?_
                    refine V_seti (y := nI (vS (nb i n))) (by rw [hE4 _ hb1, eN_n hx9]) ?_
                    refine V_aload_n (pc := 169) X dX10_finds_169 rfl 2 rfl ?_
                    refine V_iload (pc := 170) X dX10_finds_170 1 rfl ?_
                    refine V_vg (pc := 172) (nA := 1) (As := [.int (nI (nb i n))]) (rest := [.int (nI (vS (nb i n))), .int (nI i), .ref moq]) X (c_X10_cost l g (mq := mq) (mf := mf) (mt := mt) (mmq := mmq) (mn := mn) (mkq := mkq) (mcq := mcq) (mhq := mhq) (maq := maq) (mz := mz) (my := my) (mS := mS) (mzq := mzq) (mtq := mtq) (mT := mT) (mA := mA) (mrq := mrq) (muq := muq) (mF := mF) (mZ := mZ) (moq := moq) (mK := mK) (mH := mH) (mgq := mgq) (miq := miq) (mI := mI) (mB := mB) (mlq := mlq) (msq := msq) (meq := meq) (mvq := mvq) (x := nI (nb i n)) (hx := by exact vp_in_nI (by omega) (by omega))) gX10_finds_X10_cost dX10_finds_172 rfl (by decide +kernel) rfl (qb := 0) rfl rfl rfl ⟨rfl, rfl⟩ ⟨Nat.le_of_ble_eq_true rfl, Nat.le_of_ble_eq_true rfl⟩ ⟨Nat.le_of_ble_eq_true rfl, Nat.le_of_ble_eq_true rfl⟩ [0] (by decide) rfl rfl (Nat.le_of_ble_eq_true rfl) (st' := [.int (nI (csN (kcX mz mf) (nI (nb i n)))), .int (nI (vS (nb i n))), .int (nI i), .ref moq]) rfl ?_
                    refine V_iadd (pc := 175) X dX10_finds_175 ?_
                    refine V_seti (y := nI ((vS (nb i n)) + (csN (kcX mz mf) (nI (nb i n))))) (nI_add (vS (nb i n)) (csN (kcX mz mf) (nI (nb i n)))) ?_
                    refine V_goto (tgt := 186) (pc := 176) X dX10_finds_176 (by decide) ?_
                    refine V_iast (f' := upd zs i (nI ((vS (nb i n)) + (csN (kcX mz mf) (nI (nb i n)))))) (ws' := [ob mq 10 [.long mf, .int (nI mt), .ref mmq, .int (nI mn), .ref mkq, .ref mcq, .ref mhq, .ref maq, .int mz, .int my, .long mS, .ref mzq, .ref mtq, .int (nI mT), .int (nI mA), .ref mrq, .ref muq, .long mF, .int mZ, .ref moq, .int mK, .int mH, .ref mgq, .ref miq, .long mI, .int (bI mB), .ref mlq, .ref msq, .ref meq, .ref mvq], ai g moq 36 (upd zs i (nI ((vS (nb i n)) + (csN (kcX mz mf) (nI (nb i n))))))]) (pc := 186) X dX10_finds_186 1 rfl (vp_in_nI (by omega) (by omega)) (by rw [nI_clamp (by omega)]) rfl ?_
                    refine V_iload (pc := 187) X dX10_finds_187 5 rfl ?_
                    refine V_if_ne (tgt := 197) (pc := 189) X dX10_finds_189 (by decide) (fun c_29 => ?_) (fun c_29 => ?_)
                    · skip
                      have b_30 : b3 = true := bI1 c_29
                      refine V_iconst (v := 1) (pc := 197) X dX10_finds_197 (by decide) ?_
                      refine V_goto (tgt := 202) (pc := 198) X dX10_finds_198 (by decide) ?_
                      refine V_istore (lv' := [(4, .int 1), (8, .int 1), (7, .int (nI (nb i n))), (0, .ref mq), (1, .int (nI y9)), (2, .long W9), (5, .int (nI i)), (6, .int (nI n))]) (pc := 202) X dX10_finds_202 (Nat.le_of_ble_eq_true rfl) rfl ?_
                      refine V_iinc (v := nI (n + 1)) (lv' := [(6, .int (nI (n + 1))), (4, .int 1), (8, .int 1), (7, .int (nI (nb i n))), (0, .ref mq), (1, .int (nI y9)), (2, .long W9), (5, .int (nI i))]) (pc := 204) X dX10_finds_204 7 rfl (nI_add n 1) (Nat.le_of_ble_eq_true rfl) rfl ?_
                      refine V_goto (tgt := 67) (pc := 207) X dX10_finds_207 (by decide) ?_
                      refine V_lv [4, 5, 6, 1, 7, 0] rfl ?_
                      exact ih67 (n + 1, true, upd zs i (nI ((vS (nb i n)) + (csN (kcX mz mf) (nI (nb i n)))))) ⟨(by
                            try dsimp only
                            all_goals omega), (by
                            try dsimp only
                            rw [sN, hst]
                            exact (rN_ey (b := b3) hE4 (show bt W9 (kcX mz mf) i n vS from ⟨hf9, by assumption, by omega⟩) (by omega)).1), (by
                            try dsimp only
                            rw [sN, hst]
                            exact (rN_ey (b := b3) hE4 (show bt W9 (kcX mz mf) i n vS from ⟨hf9, by assumption, by omega⟩) (by omega)).2)⟩ (by
                            try dsimp only
                            all_goals omega)
                    · skip
                      have b_31 : b3 = false := bI0 c_29
                      refine V_iload (pc := 192) X dX10_finds_192 0 rfl ?_
                      refine V_if_eq (tgt := 201) (pc := 194) X dX10_finds_194 (by decide) (fun c_32 => ?_) (fun c_32 => ?_)
                      · exact absurd c_32 (by decide)
                      · skip
                        refine V_iconst (v := 1) (pc := 197) X dX10_finds_197 (by decide) ?_
                        refine V_goto (tgt := 202) (pc := 198) X dX10_finds_198 (by decide) ?_
                        refine V_istore (lv' := [(4, .int 1), (8, .int 1), (7, .int (nI (nb i n))), (0, .ref mq), (1, .int (nI y9)), (2, .long W9), (5, .int (nI i)), (6, .int (nI n))]) (pc := 202) X dX10_finds_202 (Nat.le_of_ble_eq_true rfl) rfl ?_
                        refine V_iinc (v := nI (n + 1)) (lv' := [(6, .int (nI (n + 1))), (4, .int 1), (8, .int 1), (7, .int (nI (nb i n))), (0, .ref mq), (1, .int (nI y9)), (2, .long W9), (5, .int (nI i))]) (pc := 204) X dX10_finds_204 7 rfl (nI_add n 1) (Nat.le_of_ble_eq_true rfl) rfl ?_
                        refine V_goto (tgt := 67) (pc := 207) X dX10_finds_207 (by decide) ?_
                        refine V_lv [4, 5, 6, 1, 7, 0] rfl ?_
                        exact ih67 (n + 1, true, upd zs i (nI ((vS (nb i n)) + (csN (kcX mz mf) (nI (nb i n)))))) ⟨(by
                              try dsimp only
                              all_goals omega), (by
                              try dsimp only
                              rw [sN, hst]
                              exact (rN_ey (b := b3) hE4 (show bt W9 (kcX mz mf) i n vS from ⟨hf9, by assumption, by omega⟩) (by omega)).1), (by
                              try dsimp only
                              rw [sN, hst]
                              exact (rN_ey (b := b3) hE4 (show bt W9 (kcX mz mf) i n vS from ⟨hf9, by assumption, by omega⟩) (by omega)).2)⟩ (by
                              try dsimp only
                              all_goals omega)
                · skip
                  have hi9 : ¬ vS i = 1000 := fun q => c_27 ((hE4 i (by omega)).trans ((eN_4 hB2).mpr q))
                  refine V_aload_n (pc := 120) X dX10_finds_120 rfl 1 rfl ?_
                  refine V_get (C := RX10) (T := TX10) (N := 30) (ci := 10) (pc := 121) X dX10_finds_121 in10 0 rfl rfl 19 (by decide) (by decide +kernel) rfl rfl ?_
                  refine V_iload (pc := 124) X dX10_finds_124 0 rfl ?_
                  refine V_iald (v := zs (nb i n)) (pc := 126) X dX10_finds_126 1 rfl (vp_in_nI (by omega) (by omega)) (by rw [nI_clamp (by omega)]) ?_
                  refine V_seti (y := nI (vS (nb i n))) (by rw [hE4 _ hb1, eN_n hx9]) ?_
                  refine V_aload_n (pc := 127) X dX10_finds_127 rfl 1 rfl ?_
                  refine V_iload (pc := 128) X dX10_finds_128 0 rfl ?_
                  refine V_vg (pc := 130) (nA := 1) (As := [.int (nI (nb i n))]) (rest := [.int (nI (vS (nb i n)))]) X (c_X10_cost l g (mq := mq) (mf := mf) (mt := mt) (mmq := mmq) (mn := mn) (mkq := mkq) (mcq := mcq) (mhq := mhq) (maq := maq) (mz := mz) (my := my) (mS := mS) (mzq := mzq) (mtq := mtq) (mT := mT) (mA := mA) (mrq := mrq) (muq := muq) (mF := mF) (mZ := mZ) (moq := moq) (mK := mK) (mH := mH) (mgq := mgq) (miq := miq) (mI := mI) (mB := mB) (mlq := mlq) (msq := msq) (meq := meq) (mvq := mvq) (x := nI (nb i n)) (hx := by exact vp_in_nI (by omega) (by omega))) gX10_finds_X10_cost dX10_finds_130 rfl (by decide +kernel) rfl (qb := 0) rfl rfl rfl ⟨rfl, rfl⟩ ⟨Nat.le_of_ble_eq_true rfl, Nat.le_of_ble_eq_true rfl⟩ ⟨Nat.le_of_ble_eq_true rfl, Nat.le_of_ble_eq_true rfl⟩ [0] (by decide) rfl rfl (Nat.le_of_ble_eq_true rfl) (st' := [.int (nI (csN (kcX mz mf) (nI (nb i n)))), .int (nI (vS (nb i n)))]) rfl ?_
                  refine V_iadd (pc := 133) X dX10_finds_133 ?_
                  refine V_seti (y := nI ((vS (nb i n)) + (csN (kcX mz mf) (nI (nb i n))))) (nI_add (vS (nb i n)) (csN (kcX mz mf) (nI (nb i n)))) ?_
                  refine V_aload_n (pc := 134) X dX10_finds_134 rfl 1 rfl ?_
                  refine V_get (C := RX10) (T := TX10) (N := 30) (ci := 10) (pc := 135) X dX10_finds_135 in10 0 rfl rfl 19 (by decide) (by decide +kernel) rfl rfl ?_
                  refine V_iload (pc := 138) X dX10_finds_138 5 rfl ?_
                  refine V_iald (v := zs i) (pc := 140) X dX10_finds_140 1 rfl (vp_in_nI (by omega) (by omega)) (by rw [nI_clamp (by omega)]) ?_
                  refine V_seti (y := nI (vS i)) (by rw [hE4 i (by omega), eN_n hi9]) ?_
                  refine V_icmp_ge (tgt := 148) (pc := 141) X dX10_finds_141 (by decide) (fun c_33 => ?_) (fun c_33 => ?_)
                  · skip
                    have n_34 : (vS i) ≤ ((vS (nb i n)) + (csN (kcX mz mf) (nI (nb i n)))) := nJ_le (a := vS i) (b := (vS (nb i n)) + (csN (kcX mz mf) (nI (nb i n)))) (by omega) (by omega) c_33
                    refine V_iconst (v := 0) (pc := 148) X dX10_finds_148 (by decide) ?_
                    refine V_istore (lv' := [(8, .int 0), (7, .int (nI (nb i n))), (0, .ref mq), (1, .int (nI y9)), (2, .long W9), (4, .int (bI b3)), (5, .int (nI i)), (6, .int (nI n))]) (pc := 149) X dX10_finds_149 (Nat.le_of_ble_eq_true rfl) rfl ?_
                    refine V_aload_n (pc := 151) X dX10_finds_151 rfl 2 rfl ?_
                    refine V_get (C := RX10) (T := TX10) (N := 30) (ci := 10) (pc := 152) X dX10_finds_152 in10 0 rfl rfl 19 (by decide) (by decide +kernel) rfl rfl ?_
                    refine V_iload (pc := 155) X dX10_finds_155 6 rfl ?_
                    refine V_iload (pc := 157) X dX10_finds_157 0 rfl ?_
                    refine V_if_eq (tgt := 179) (pc := 159) X dX10_finds_159 (by decide) (fun c_35 => ?_) (fun c_35 => ?_)
                    · skip
                      refine V_aload_n (pc := 179) X dX10_finds_179 rfl 2 rfl ?_
                      refine V_get (C := RX10) (T := TX10) (N := 30) (ci := 10) (pc := 180) X dX10_finds_180 in10 0 rfl rfl 19 (by decide) (by decide +kernel) rfl rfl ?_
                      refine V_iload (pc := 183) X dX10_finds_183 6 rfl ?_
                      refine V_iald (v := zs i) (pc := 185) X dX10_finds_185 1 rfl (vp_in_nI (by omega) (by omega)) (by rw [nI_clamp (by omega)]) ?_
                      refine V_iast (f' := upd zs i (zs i)) (ws' := [ob mq 10 [.long mf, .int (nI mt), .ref mmq, .int (nI mn), .ref mkq, .ref mcq, .ref mhq, .ref maq, .int mz, .int my, .long mS, .ref mzq, .ref mtq, .int (nI mT), .int (nI mA), .ref mrq, .ref muq, .long mF, .int mZ, .ref moq, .int mK, .int mH, .ref mgq, .ref miq, .long mI, .int (bI mB), .ref mlq, .ref msq, .ref meq, .ref mvq], ai g moq 36 (upd zs i (zs i))]) (pc := 186) X dX10_finds_186 1 rfl (vp_in_nI (by omega) (by omega)) (by rw [nI_clamp (by omega)]) rfl ?_
                      refine V_iload (pc := 187) X dX10_finds_187 5 rfl ?_
                      refine V_if_ne (tgt := 197) (pc := 189) X dX10_finds_189 (by decide) (fun c_36 => ?_) (fun c_36 => ?_)
                      · skip
                        have b_37 : b3 = true := bI1 c_36
                        refine V_iconst (v := 1) (pc := 197) X dX10_finds_197 (by decide) ?_
                        refine V_goto (tgt := 202) (pc := 198) X dX10_finds_198 (by decide) ?_
                        refine V_istore (lv' := [(4, .int 1), (8, .int 0), (7, .int (nI (nb i n))), (0, .ref mq), (1, .int (nI y9)), (2, .long W9), (5, .int (nI i)), (6, .int (nI n))]) (pc := 202) X dX10_finds_202 (Nat.le_of_ble_eq_true rfl) rfl ?_
                        refine V_iinc (v := nI (n + 1)) (lv' := [(6, .int (nI (n + 1))), (4, .int 1), (8, .int 0), (7, .int (nI (nb i n))), (0, .ref mq), (1, .int (nI y9)), (2, .long W9), (5, .int (nI i))]) (pc := 204) X dX10_finds_204 7 rfl (nI_add n 1) (Nat.le_of_ble_eq_true rfl) rfl ?_
                        refine V_goto (tgt := 67) (pc := 207) X dX10_finds_207 (by decide) ?_
                        refine V_lv [4, 5, 6, 1, 7, 0] rfl ?_
                        exact ih67 (n + 1, true, upd zs i (zs i)) ⟨(by
                              try dsimp only
                              all_goals omega), (by
                              try dsimp only
                              rw [sN, hst]
                              exact (rN_en (b := b3) hE4 (show ¬ bt W9 (kcX mz mf) i n vS from fun q => by have q9 := q.2.2; omega)).1), (by
                              try dsimp only
                              rw [sN, hst, ← (rN_en (b := b3) hE4 (show ¬ bt W9 (kcX mz mf) i n vS from fun q => by have q9 := q.2.2; omega)).2, b_37])⟩ (by
                              try dsimp only
                              all_goals omega)
                      · skip
                        have b_38 : b3 = false := bI0 c_36
                        refine V_iload (pc := 192) X dX10_finds_192 0 rfl ?_
                        refine V_if_eq (tgt := 201) (pc := 194) X dX10_finds_194 (by decide) (fun c_39 => ?_) (fun c_39 => ?_)
                        · skip
                          refine V_iconst (v := 0) (pc := 201) X dX10_finds_201 (by decide) ?_
                          refine V_istore (lv' := [(4, .int 0), (8, .int 0), (7, .int (nI (nb i n))), (0, .ref mq), (1, .int (nI y9)), (2, .long W9), (5, .int (nI i)), (6, .int (nI n))]) (pc := 202) X dX10_finds_202 (Nat.le_of_ble_eq_true rfl) rfl ?_
                          refine V_iinc (v := nI (n + 1)) (lv' := [(6, .int (nI (n + 1))), (4, .int 0), (8, .int 0), (7, .int (nI (nb i n))), (0, .ref mq), (1, .int (nI y9)), (2, .long W9), (5, .int (nI i))]) (pc := 204) X dX10_finds_204 7 rfl (nI_add n 1) (Nat.le_of_ble_eq_true rfl) rfl ?_
                          refine V_goto (tgt := 67) (pc := 207) X dX10_finds_207 (by decide) ?_
                          refine V_lv [4, 5, 6, 1, 7, 0] rfl ?_
                          exact ih67 (n + 1, false, upd zs i (zs i)) ⟨(by
                                try dsimp only
                                all_goals omega), (by
                                try dsimp only
                                rw [sN, hst]
                                exact (rN_en (b := b3) hE4 (show ¬ bt W9 (kcX mz mf) i n vS from fun q => by have q9 := q.2.2; omega)).1), (by
                                try dsimp only
                                rw [sN, hst, ← (rN_en (b := b3) hE4 (show ¬ bt W9 (kcX mz mf) i n vS from fun q => by have q9 := q.2.2; omega)).2, b_38])⟩ (by
                                try dsimp only
                                all_goals omega)
                        · exact absurd (by decide) c_39
                    · exact absurd (by decide) c_35
                  · skip
                    have n_40 : ((vS (nb i n)) + (csN (kcX mz mf) (nI (nb i n)))) < (vS i) := nJ_nle (a := vS i) (b := (vS (nb i n)) + (csN (kcX mz mf) (nI (nb i n)))) (by omega) (by omega) c_33
                    refine V_iconst (v := 1) (pc := 144) X dX10_finds_144 (by decide) ?_
                    refine V_goto (tgt := 149) (pc := 145) X dX10_finds_145 (by decide) ?_
                    refine V_istore (lv' := [(8, .int 1), (7, .int (nI (nb i n))), (0, .ref mq), (1, .int (nI y9)), (2, .long W9), (4, .int (bI b3)), (5, .int (nI i)), (6, .int (nI n))]) (pc := 149) X dX10_finds_149 (Nat.le_of_ble_eq_true rfl) rfl ?_
                    refine V_aload_n (pc := 151) X dX10_finds_151 rfl 2 rfl ?_
                    refine V_get (C := RX10) (T := TX10) (N := 30) (ci := 10) (pc := 152) X dX10_finds_152 in10 0 rfl rfl 19 (by decide) (by decide +kernel) rfl rfl ?_
                    refine V_iload (pc := 155) X dX10_finds_155 6 rfl ?_
                    refine V_iload (pc := 157) X dX10_finds_157 0 rfl ?_
                    refine V_if_eq (tgt := 179) (pc := 159) X dX10_finds_159 (by decide) (fun c_41 => ?_) (fun c_41 => ?_)
                    · exact absurd c_41 (by decide)
                    · skip
                      refine V_aload_n (pc := 162) X dX10_finds_162 rfl 2 rfl ?_
                      refine V_get (C := RX10) (T := TX10) (N := 30) (ci := 10) (pc := 163) X dX10_finds_163 in10 0 rfl rfl 19 (by decide) (by decide +kernel) rfl rfl ?_
                      refine V_iload (pc := 166) X dX10_finds_166 1 rfl ?_
                      refine V_iald (v := zs (nb i n)) (pc := 168) X dX10_finds_168 1 rfl (vp_in_nI (by omega) (by omega)) (by rw [nI_clamp (by omega)]) ?_
                      refine V_seti (y := nI (vS (nb i n))) (by rw [hE4 _ hb1, eN_n hx9]) ?_
                      refine V_aload_n (pc := 169) X dX10_finds_169 rfl 2 rfl ?_
                      refine V_iload (pc := 170) X dX10_finds_170 1 rfl ?_
                      refine V_vg (pc := 172) (nA := 1) (As := [.int (nI (nb i n))]) (rest := [.int (nI (vS (nb i n))), .int (nI i), .ref moq]) X (c_X10_cost l g (mq := mq) (mf := mf) (mt := mt) (mmq := mmq) (mn := mn) (mkq := mkq) (mcq := mcq) (mhq := mhq) (maq := maq) (mz := mz) (my := my) (mS := mS) (mzq := mzq) (mtq := mtq) (mT := mT) (mA := mA) (mrq := mrq) (muq := muq) (mF := mF) (mZ := mZ) (moq := moq) (mK := mK) (mH := mH) (mgq := mgq) (miq := miq) (mI := mI) (mB := mB) (mlq := mlq) (msq := msq) (meq := meq) (mvq := mvq) (x := nI (nb i n)) (hx := by exact vp_in_nI (by omega) (by omega))) gX10_finds_X10_cost dX10_finds_172 rfl (by decide +kernel) rfl (qb := 0) rfl rfl rfl ⟨rfl, rfl⟩ ⟨Nat.le_of_ble_eq_true rfl, Nat.le_of_ble_eq_true rfl⟩ ⟨Nat.le_of_ble_eq_true rfl, Nat.le_of_ble_eq_true rfl⟩ [0] (by decide) rfl rfl (Nat.le_of_ble_eq_true rfl) (st' := [.int (nI (csN (kcX mz mf) (nI (nb i n)))), .int (nI (vS (nb i n))), .int (nI i), .ref moq]) rfl ?_
                      refine V_iadd (pc := 175) X dX10_finds_175 ?_
                      refine V_seti (y := nI ((vS (nb i n)) + (csN (kcX mz mf) (nI (nb i n))))) (nI_add (vS (nb i n)) (csN (kcX mz mf) (nI (nb i n)))) ?_
                      refine V_goto (tgt := 186) (pc := 176) X dX10_finds_176 (by decide) ?_
                      refine V_iast (f' := upd zs i (nI ((vS (nb i n)) + (csN (kcX mz mf) (nI (nb i n)))))) (ws' := [ob mq 10 [.long mf, .int (nI mt), .ref mmq, .int (nI mn), .ref mkq, .ref mcq, .ref mhq, .ref maq, .int mz, .int my, .long mS, .ref mzq, .ref mtq, .int (nI mT), .int (nI mA), .ref mrq, .ref muq, .long mF, .int mZ, .ref moq, .int mK, .int mH, .ref mgq, .ref miq, .long mI, .int (bI mB), .ref mlq, .ref msq, .ref meq, .ref mvq], ai g moq 36 (upd zs i (nI ((vS (nb i n)) + (csN (kcX mz mf) (nI (nb i n))))))]) (pc := 186) X dX10_finds_186 1 rfl (vp_in_nI (by omega) (by omega)) (by rw [nI_clamp (by omega)]) rfl ?_
                      refine V_iload (pc := 187) X dX10_finds_187 5 rfl ?_
                      refine V_if_ne (tgt := 197) (pc := 189) X dX10_finds_189 (by decide) (fun c_42 => ?_) (fun c_42 => ?_)
                      · skip
                        have b_43 : b3 = true := bI1 c_42
                        refine V_iconst (v := 1) (pc := 197) X dX10_finds_197 (by decide) ?_
                        refine V_goto (tgt := 202) (pc := 198) X dX10_finds_198 (by decide) ?_
                        refine V_istore (lv' := [(4, .int 1), (8, .int 1), (7, .int (nI (nb i n))), (0, .ref mq), (1, .int (nI y9)), (2, .long W9), (5, .int (nI i)), (6, .int (nI n))]) (pc := 202) X dX10_finds_202 (Nat.le_of_ble_eq_true rfl) rfl ?_
                        refine V_iinc (v := nI (n + 1)) (lv' := [(6, .int (nI (n + 1))), (4, .int 1), (8, .int 1), (7, .int (nI (nb i n))), (0, .ref mq), (1, .int (nI y9)), (2, .long W9), (5, .int (nI i))]) (pc := 204) X dX10_finds_204 7 rfl (nI_add n 1) (Nat.le_of_ble_eq_true rfl) rfl ?_
                        refine V_goto (tgt := 67) (pc := 207) X dX10_finds_207 (by decide) ?_
                        refine V_lv [4, 5, 6, 1, 7, 0] rfl ?_
                        exact ih67 (n + 1, true, upd zs i (nI ((vS (nb i n)) + (csN (kcX mz mf) (nI (nb i n)))))) ⟨(by
                              try dsimp only
                              all_goals omega), (by
                              try dsimp only
                              rw [sN, hst]
                              exact (rN_ey (b := b3) hE4 (show bt W9 (kcX mz mf) i n vS from ⟨hf9, by assumption, by omega⟩) (by omega)).1), (by
                              try dsimp only
                              rw [sN, hst]
                              exact (rN_ey (b := b3) hE4 (show bt W9 (kcX mz mf) i n vS from ⟨hf9, by assumption, by omega⟩) (by omega)).2)⟩ (by
                              try dsimp only
                              all_goals omega)
                      · skip
                        have b_44 : b3 = false := bI0 c_42
                        refine V_iload (pc := 192) X dX10_finds_192 0 rfl ?_
                        refine V_if_eq (tgt := 201) (pc := 194) X dX10_finds_194 (by decide) (fun c_45 => ?_) (fun c_45 => ?_)
                        · exact absurd c_45 (by decide)
                        · skip
                          refine V_iconst (v := 1) (pc := 197) X dX10_finds_197 (by decide) ?_
                          refine V_goto (tgt := 202) (pc := 198) X dX10_finds_198 (by decide) ?_
                          refine V_istore (lv' := [(4, .int 1), (8, .int 1), (7, .int (nI (nb i n))), (0, .ref mq), (1, .int (nI y9)), (2, .long W9), (5, .int (nI i)), (6, .int (nI n))]) (pc := 202) X dX10_finds_202 (Nat.le_of_ble_eq_true rfl) rfl ?_
                          refine V_iinc (v := nI (n + 1)) (lv' := [(6, .int (nI (n + 1))), (4, .int 1), (8, .int 1), (7, .int (nI (nb i n))), (0, .ref mq), (1, .int (nI y9)), (2, .long W9), (5, .int (nI i))]) (pc := 204) X dX10_finds_204 7 rfl (nI_add n 1) (Nat.le_of_ble_eq_true rfl) rfl ?_
                          refine V_goto (tgt := 67) (pc := 207) X dX10_finds_207 (by decide) ?_
                          refine V_lv [4, 5, 6, 1, 7, 0] rfl ?_
                          exact ih67 (n + 1, true, upd zs i (nI ((vS (nb i n)) + (csN (kcX mz mf) (nI (nb i n)))))) ⟨(by
                                try dsimp only
                                all_goals omega), (by
                                try dsimp only
                                rw [sN, hst]
                                exact (rN_ey (b := b3) hE4 (show bt W9 (kcX mz mf) i n vS from ⟨hf9, by assumption, by omega⟩) (by omega)).1), (by
                                try dsimp only
                                rw [sN, hst]
                                exact (rN_ey (b := b3) hE4 (show bt W9 (kcX mz mf) i n vS from ⟨hf9, by assumption, by omega⟩) (by omega)).2)⟩ (by
                                try dsimp only
                                all_goals omega)
  · skip
    have n_46 : j < 36 := nJ_nle (a := 36) (b := j) (by omega) (by omega) c_1
    refine V_aload_n (pc := 10) X dX10_finds_10 rfl 0 rfl ?_
    refine V_get (C := RX10) (T := TX10) (N := 30) (ci := 10) (pc := 11) X dX10_finds_11 in10 0 rfl rfl 19 (by decide) (by decide +kernel) rfl rfl ?_
    refine V_iload (pc := 14) X dX10_finds_14 3 rfl ?_
    refine V_iload (pc := 16) X dX10_finds_16 3 rfl ?_
    refine V_iload_n (pc := 18) X dX10_finds_18 rfl 1 rfl ?_
    refine V_icmp_ne (tgt := 34) (pc := 19) X dX10_finds_19 (by decide) (fun c_47 => ?_) (fun c_47 => ?_)
    · skip
      have n_48 : j ≠ y9 := nJ_ne (a := j) (b := y9) (by omega) (by omega) c_47
      refine V_bipush (v := (-4)) (pc := 34) X dX10_finds_34 (by decide) ?_
      refine V_iast (f' := upd zc j (-4)) (ws' := [ob mq 10 [.long mf, .int (nI mt), .ref mmq, .int (nI mn), .ref mkq, .ref mcq, .ref mhq, .ref maq, .int mz, .int my, .long mS, .ref mzq, .ref mtq, .int (nI mT), .int (nI mA), .ref mrq, .ref muq, .long mF, .int mZ, .ref moq, .int mK, .int mH, .ref mgq, .ref miq, .long mI, .int (bI mB), .ref mlq, .ref msq, .ref meq, .ref mvq], ai g moq 36 (upd zc j (-4))]) (pc := 36) X dX10_finds_36 1 rfl (vp_in_nI (by omega) (by omega)) (by rw [nI_clamp (by omega)]) rfl ?_
      refine V_iinc (v := nI (j + 1)) (lv' := [(4, .int (nI (j + 1))), (0, .ref mq), (1, .int (nI y9)), (2, .long W9)]) (pc := 37) X dX10_finds_37 3 rfl (nI_add j 1) (Nat.le_of_ble_eq_true rfl) rfl ?_
      refine V_goto (tgt := 3) (pc := 40) X dX10_finds_40 (by decide) ?_
      refine V_lv [1, 2, 3, 0] rfl ?_
      exact ih3 (j + 1, upd zc j (-4)) ⟨(by
            try dsimp only
            all_goals omega), (by
            try dsimp only
            exact ga_step (D := fun q => eN (vI W9 y9 q)) hz (by rw [show vI W9 y9 j = 1000 by unfold vI; rw [if_neg (fun q => by exact absurd q.1 (by assumption))]]; rfl))⟩ (by
            try dsimp only
            all_goals omega)
    · skip
      have n_49 : j = y9 := nJ_eq (a := j) (b := y9) (by omega) (by omega) c_47
      refine V_lload_n (pc := 22) X dX10_finds_22 rfl 2 rfl ?_
      refine V_iload_n (pc := 23) X dX10_finds_23 rfl 1 rfl ?_
      refine V_sg (pc := 24) (nA := 2) (As := [.long W9, .int (nI y9)]) (rest := [.int (nI j), .ref moq]) X (c_X10_has l g (f := W9) (x := nI y9) (hx := by exact vp_in_nI (by omega) (by omega))) gX10_finds_X10_has dX10_finds_24 rfl (by decide +kernel) rfl ⟨rfl, rfl⟩ ⟨Nat.le_of_ble_eq_true rfl, Nat.le_of_ble_eq_true rfl⟩ ⟨Nat.le_of_ble_eq_true rfl, Nat.le_of_ble_eq_true rfl⟩ [] (by decide) rfl rfl (Nat.le_of_ble_eq_true rfl) (st' := [.int (bI (firmB W9 (nI y9))), .int (nI j), .ref moq]) rfl ?_
      refine V_if_eq (tgt := 34) (pc := 27) X dX10_finds_27 (by decide) (fun c_50 => ?_) (fun c_50 => ?_)
      · skip
        have b_51 : (firmB W9 (nI y9)) = false := bI0 c_50
        refine V_bipush (v := (-4)) (pc := 34) X dX10_finds_34 (by decide) ?_
        refine V_iast (f' := upd zc j (-4)) (ws' := [ob mq 10 [.long mf, .int (nI mt), .ref mmq, .int (nI mn), .ref mkq, .ref mcq, .ref mhq, .ref maq, .int mz, .int my, .long mS, .ref mzq, .ref mtq, .int (nI mT), .int (nI mA), .ref mrq, .ref muq, .long mF, .int mZ, .ref moq, .int mK, .int mH, .ref mgq, .ref miq, .long mI, .int (bI mB), .ref mlq, .ref msq, .ref meq, .ref mvq], ai g moq 36 (upd zc j (-4))]) (pc := 36) X dX10_finds_36 1 rfl (vp_in_nI (by omega) (by omega)) (by rw [nI_clamp (by omega)]) rfl ?_
        refine V_iinc (v := nI (j + 1)) (lv' := [(4, .int (nI (j + 1))), (0, .ref mq), (1, .int (nI y9)), (2, .long W9)]) (pc := 37) X dX10_finds_37 3 rfl (nI_add j 1) (Nat.le_of_ble_eq_true rfl) rfl ?_
        refine V_goto (tgt := 3) (pc := 40) X dX10_finds_40 (by decide) ?_
        refine V_lv [1, 2, 3, 0] rfl ?_
        exact ih3 (j + 1, upd zc j (-4)) ⟨(by
              try dsimp only
              all_goals omega), (by
              try dsimp only
              exact ga_step (D := fun q => eN (vI W9 y9 q)) hz (by rw [show vI W9 y9 j = 1000 by unfold vI; rw [if_neg (fun q => by have q2 := q.2; simp_all)]]; rfl))⟩ (by
              try dsimp only
              all_goals omega)
      · skip
        have b_52 : (firmB W9 (nI y9)) = true := bI1 c_50
        refine V_iconst (v := 0) (pc := 30) X dX10_finds_30 (by decide) ?_
        refine V_goto (tgt := 36) (pc := 31) X dX10_finds_31 (by decide) ?_
        refine V_iast (f' := upd zc j 0) (ws' := [ob mq 10 [.long mf, .int (nI mt), .ref mmq, .int (nI mn), .ref mkq, .ref mcq, .ref mhq, .ref maq, .int mz, .int my, .long mS, .ref mzq, .ref mtq, .int (nI mT), .int (nI mA), .ref mrq, .ref muq, .long mF, .int mZ, .ref moq, .int mK, .int mH, .ref mgq, .ref miq, .long mI, .int (bI mB), .ref mlq, .ref msq, .ref meq, .ref mvq], ai g moq 36 (upd zc j 0)]) (pc := 36) X dX10_finds_36 1 rfl (vp_in_nI (by omega) (by omega)) (by rw [nI_clamp (by omega)]) rfl ?_
        refine V_iinc (v := nI (j + 1)) (lv' := [(4, .int (nI (j + 1))), (0, .ref mq), (1, .int (nI y9)), (2, .long W9)]) (pc := 37) X dX10_finds_37 3 rfl (nI_add j 1) (Nat.le_of_ble_eq_true rfl) rfl ?_
        refine V_goto (tgt := 3) (pc := 40) X dX10_finds_40 (by decide) ?_
        refine V_lv [1, 2, 3, 0] rfl ?_
        exact ih3 (j + 1, upd zc j 0) ⟨(by
              try dsimp only
              all_goals omega), (by
              try dsimp only
              exact ga_step (D := fun q => eN (vI W9 y9 q)) hz (by rw [show vI W9 y9 j = 0 by unfold vI; rw [if_pos ⟨by assumption, by assumption⟩]]; rfl))⟩ (by
              try dsimp only
              all_goals omega)
