set_option maxHeartbeats 4000000 in
set_option maxRecDepth 100000 in
theorem c_X10_in (l : Launch) (g : XG) (v : Int64) (v1 : Int64) (v2 : Int64)  : Kg l g yX10_in wsX10_in ({ frames := 0, cells := 0, slots := 0, locals := 0 } : Room) [.long v, .long v1, .long v2] [] (some (.int (bI (inJ v v1 v2)))) := by
  refine Kg.of (cc := cX10_in) (maxL := 6) (ret := (some .boolean)) (lv := [(0, .long v), (2, .long v1), (4, .long v2)]) RX10 rfl (by decide) rfl (Nat.le_of_ble_eq_true rfl) rfl ?_
  intro p e s m below meth c A X hr
  refine V_lload_n (pc := 0) X dX10_in_0 rfl 0 rfl ?_
  refine V_lload_n (pc := 1) X dX10_in_1 rfl 1 rfl ?_
  refine V_lcmp (pc := 2) X dX10_in_2 ?_
  refine V_if_lt (tgt := 17) (pc := 3) X dX10_in_3 (by decide) (fun c_1 => ?_) (fun c_1 => ?_)
  · skip
    have q_2 : v < v1 := cmp_lt_t c_1
    refine V_iconst (v := 0) (pc := 17) X dX10_in_17 (by decide) ?_
    exact Vg_zret (pc := 18) X dX10_in_18 hr (by first | rfl | (simp [bI, inJ, q_2]; done) | (simp_all [bI, Int32.not_le, Int32.not_lt, inJ]; done)) rfl
  · skip
    have q_3 : ¬ v < v1 := cmp_lt_f c_1
    refine V_lload_n (pc := 6) X dX10_in_6 rfl 0 rfl ?_
    refine V_lload (pc := 7) X dX10_in_7 2 rfl ?_
    refine V_lcmp (pc := 9) X dX10_in_9 ?_
    refine V_if_gt (tgt := 17) (pc := 10) X dX10_in_10 (by decide) (fun c_4 => ?_) (fun c_4 => ?_)
    · skip
      have q_5 : v2 < v := cmp_gt_t c_4
      refine V_iconst (v := 0) (pc := 17) X dX10_in_17 (by decide) ?_
      exact Vg_zret (pc := 18) X dX10_in_18 hr (by first | rfl | (simp [bI, inJ, q_3, q_5]; done) | (simp_all [bI, Int32.not_le, Int32.not_lt, inJ]; done)) rfl
    · skip
      have q_6 : ¬ v2 < v := cmp_gt_f c_4
      refine V_iconst (v := 1) (pc := 13) X dX10_in_13 (by decide) ?_
      refine V_goto (tgt := 18) (pc := 14) X dX10_in_14 (by decide) ?_
      exact Vg_zret (pc := 18) X dX10_in_18 hr (by first | rfl | (simp [bI, inJ, q_3, q_6]; done) | (simp_all [bI, Int32.not_le, Int32.not_lt, inJ]; done)) rfl
set_option maxHeartbeats 4000000 in
set_option maxRecDepth 100000 in
theorem c_X10_isCell (l : Launch) (g : XG) (v : Int64)  : Kg l g yX10_isCell wsX10_isCell ({ frames := 1, cells := 0, slots := 0, locals := 25 } : Room) [.long v] [] (some (.int (bI (inJ v 0 35)))) := by
  refine Kg.of (cc := cX10_isCell) (maxL := 2) (ret := (some .boolean)) (lv := [(0, .long v)]) RX10 rfl (by decide) rfl (Nat.le_of_ble_eq_true rfl) rfl ?_
  intro p e s m below meth c A X hr
  refine V_lload_n (pc := 0) X dX10_isCell_0 rfl 0 rfl ?_
  refine V_lconst (v := 0) (pc := 1) X dX10_isCell_1 (by decide) ?_
  refine V_ldc2 (v := 35) (pc := 2) X dX10_isCell_2 (by decide +kernel) ?_
  refine V_sg (pc := 5) (nA := 3) (As := [.long v, .long 0, .long 35]) (rest := []) X (c_X10_in l g (v := v) (v1 := 0) (v2 := 35) ) gX10_isCell_X10_in dX10_isCell_5 rfl (by decide +kernel) rfl ⟨rfl, rfl⟩ ⟨Nat.le_of_ble_eq_true rfl, Nat.le_of_ble_eq_true rfl⟩ ⟨Nat.le_of_ble_eq_true rfl, Nat.le_of_ble_eq_true rfl⟩ [] (by decide) rfl rfl (Nat.le_of_ble_eq_true rfl) (st' := [.int (bI (inJ v 0 35))]) rfl ?_
  exact Vg_zret (pc := 8) X dX10_isCell_8 hr (by first | rfl | (simp []; done)) (bI_n _)
set_option maxHeartbeats 4000000 in
set_option maxRecDepth 100000 in
theorem c_X10_isTuft (l : Launch) (g : XG) (mq : Nat) (mf : Int64) (mt : Nat) (mmq : Nat) (mn : Nat) (mkq : Nat) (mcq : Nat) (mhq : Nat) (maq : Nat) (mz : Int32) (my : Int32) (mS : Int64) (mzq : Nat) (mtq : Nat) (mT : Nat) (mA : Nat) (mrq : Nat) (muq : Nat) (mF : Int64) (mZ : Int32) (moq : Nat) (mK : Int32) (mH : Int32) (mgq : Nat) (miq : Nat) (mI : Int64) (mB : Bool) (mlq : Nat) (msq : Nat) (meq : Nat) (mvq : Nat) (x : Int32) (ht : mt ≤ 6) : Kg l g yX10_isTuft wsX10_isTuft ({ frames := 1, cells := 0, slots := 0, locals := 25 } : Room) [.ref mq, .int x] [ob mq 10 [.long mf, .int (nI mt), .ref mmq, .int (nI mn), .ref mkq, .ref mcq, .ref mhq, .ref maq, .int mz, .int my, .long mS, .ref mzq, .ref mtq, .int (nI mT), .int (nI mA), .ref mrq, .ref muq, .long mF, .int mZ, .ref moq, .int mK, .int mH, .ref mgq, .ref miq, .long mI, .int (bI mB), .ref mlq, .ref msq, .ref meq, .ref mvq]] (some (.int (bI (bel x (nI mt))))) := by
  refine Kg.of (cc := cX10_isTuft) (maxL := 2) (ret := (some .boolean)) (lv := [(0, .ref mq), (1, .int x)]) RX10 rfl (by decide) rfl (Nat.le_of_ble_eq_true rfl) rfl ?_
  intro p e s m below meth c A X hr
  have in10 : ∀ w ∈ u_ws RX10 TX10 30, w ∈ wsX10_isTuft := by decide +kernel
  refine V_iload_n (pc := 0) X dX10_isTuft_0 rfl 1 rfl ?_
  refine V_i2l (pc := 1) X dX10_isTuft_1 ?_
  refine V_lconst (v := 0) (pc := 2) X dX10_isTuft_2 (by decide) ?_
  refine V_aload_n (pc := 3) X dX10_isTuft_3 rfl 0 rfl ?_
  refine V_get (C := RX10) (T := TX10) (N := 30) (ci := 10) (pc := 4) X dX10_isTuft_4 in10 0 rfl rfl 1 (by decide) (by decide +kernel) rfl rfl ?_
  refine V_iconst (v := 1) (pc := 7) X dX10_isTuft_7 (by decide) ?_
  refine V_isub (pc := 8) X dX10_isTuft_8 ?_
  refine V_i2l (pc := 9) X dX10_isTuft_9 ?_
  refine V_sg (pc := 10) (nA := 3) (As := [.long x.toInt64, .long 0, .long (((nI mt) - 1).toInt64)]) (rest := []) X (c_X10_in l g (v := x.toInt64) (v1 := 0) (v2 := ((nI mt) - 1).toInt64) ) gX10_isTuft_X10_in dX10_isTuft_10 rfl (by decide +kernel) rfl ⟨rfl, rfl⟩ ⟨Nat.le_of_ble_eq_true rfl, Nat.le_of_ble_eq_true rfl⟩ ⟨Nat.le_of_ble_eq_true rfl, Nat.le_of_ble_eq_true rfl⟩ [] (by decide) rfl rfl (Nat.le_of_ble_eq_true rfl) (st' := [.int (bI (inJ x.toInt64 0 (((nI mt) - 1).toInt64)))]) rfl ?_
  exact Vg_zret (pc := 13) X dX10_isTuft_13 hr (by exact congrArg bI (inJ_beln (by omega))) (bI_n _)
set_option maxHeartbeats 4000000 in
set_option maxRecDepth 100000 in
theorem c_X10_isOne (l : Launch) (g : XG) (mq : Nat) (mf : Int64) (mt : Nat) (mmq : Nat) (mn : Nat) (mkq : Nat) (mcq : Nat) (mhq : Nat) (maq : Nat) (mz : Int32) (my : Int32) (mS : Int64) (mzq : Nat) (mtq : Nat) (mT : Nat) (mA : Nat) (mrq : Nat) (muq : Nat) (mF : Int64) (mZ : Int32) (moq : Nat) (mK : Int32) (mH : Int32) (mgq : Nat) (miq : Nat) (mI : Int64) (mB : Bool) (mlq : Nat) (msq : Nat) (meq : Nat) (mvq : Nat) (x : Int32) (hn : mn ≤ 6) : Kg l g yX10_isOne wsX10_isOne ({ frames := 1, cells := 0, slots := 0, locals := 25 } : Room) [.ref mq, .int x] [ob mq 10 [.long mf, .int (nI mt), .ref mmq, .int (nI mn), .ref mkq, .ref mcq, .ref mhq, .ref maq, .int mz, .int my, .long mS, .ref mzq, .ref mtq, .int (nI mT), .int (nI mA), .ref mrq, .ref muq, .long mF, .int mZ, .ref moq, .int mK, .int mH, .ref mgq, .ref miq, .long mI, .int (bI mB), .ref mlq, .ref msq, .ref meq, .ref mvq]] (some (.int (bI (bel x (nI mn))))) := by
  refine Kg.of (cc := cX10_isOne) (maxL := 2) (ret := (some .boolean)) (lv := [(0, .ref mq), (1, .int x)]) RX10 rfl (by decide) rfl (Nat.le_of_ble_eq_true rfl) rfl ?_
  intro p e s m below meth c A X hr
  have in10 : ∀ w ∈ u_ws RX10 TX10 30, w ∈ wsX10_isOne := by decide +kernel
  refine V_iload_n (pc := 0) X dX10_isOne_0 rfl 1 rfl ?_
  refine V_i2l (pc := 1) X dX10_isOne_1 ?_
  refine V_lconst (v := 0) (pc := 2) X dX10_isOne_2 (by decide) ?_
  refine V_aload_n (pc := 3) X dX10_isOne_3 rfl 0 rfl ?_
  refine V_get (C := RX10) (T := TX10) (N := 30) (ci := 10) (pc := 4) X dX10_isOne_4 in10 0 rfl rfl 3 (by decide) (by decide +kernel) rfl rfl ?_
  refine V_iconst (v := 1) (pc := 7) X dX10_isOne_7 (by decide) ?_
  refine V_isub (pc := 8) X dX10_isOne_8 ?_
  refine V_i2l (pc := 9) X dX10_isOne_9 ?_
  refine V_sg (pc := 10) (nA := 3) (As := [.long x.toInt64, .long 0, .long (((nI mn) - 1).toInt64)]) (rest := []) X (c_X10_in l g (v := x.toInt64) (v1 := 0) (v2 := ((nI mn) - 1).toInt64) ) gX10_isOne_X10_in dX10_isOne_10 rfl (by decide +kernel) rfl ⟨rfl, rfl⟩ ⟨Nat.le_of_ble_eq_true rfl, Nat.le_of_ble_eq_true rfl⟩ ⟨Nat.le_of_ble_eq_true rfl, Nat.le_of_ble_eq_true rfl⟩ [] (by decide) rfl rfl (Nat.le_of_ble_eq_true rfl) (st' := [.int (bI (inJ x.toInt64 0 (((nI mn) - 1).toInt64)))]) rfl ?_
  exact Vg_zret (pc := 13) X dX10_isOne_13 hr (by exact congrArg bI (inJ_beln (by omega))) (bI_n _)
set_option maxHeartbeats 4000000 in
set_option maxRecDepth 100000 in
theorem c_X10_has (l : Launch) (g : XG) (f : Int64) (x : Int32) (hx : vp_in x 36) : Kg l g yX10_has wsX10_has ({ frames := 0, cells := 0, slots := 0, locals := 0 } : Room) [.long f, .int x] [] (some (.int (bI (firmB f x)))) := by
  refine Kg.of (cc := cX10_has) (maxL := 3) (ret := (some .boolean)) (lv := [(0, .long f), (2, .int x)]) RX10 rfl (by decide) rfl (Nat.le_of_ble_eq_true rfl) rfl ?_
  intro p e s m below meth c A X hr
  refine V_lload_n (pc := 0) X dX10_has_0 rfl 0 rfl ?_
  refine V_iload_n (pc := 1) X dX10_has_1 rfl 1 rfl ?_
  refine V_lshr (pc := 2) X dX10_has_2 ?_
  refine V_lconst (v := 1) (pc := 3) X dX10_has_3 (by decide) ?_
  refine V_land (pc := 4) X dX10_has_4 ?_
  refine V_lconst (v := 1) (pc := 5) X dX10_has_5 (by decide) ?_
  refine V_lcmp (pc := 6) X dX10_has_6 ?_
  refine V_if_ne (tgt := 14) (pc := 7) X dX10_has_7 (by decide) (fun c_1 => ?_) (fun c_1 => ?_)
  · skip
    have q_2 : ¬ ((f >>> (x.toInt64 &&& 63)) &&& 1) = 1 := cmp_ne_t c_1
    refine V_iconst (v := 0) (pc := 14) X dX10_has_14 (by decide) ?_
    exact Vg_zret (pc := 15) X dX10_has_15 hr (by rw [← hasJ_firm hx]; first | rfl | (simp [hasJ, bI, q_2]; done)) rfl
  · skip
    have q_3 : ((f >>> (x.toInt64 &&& 63)) &&& 1) = 1 := cmp_ne_f c_1
    refine V_iconst (v := 1) (pc := 10) X dX10_has_10 (by decide) ?_
    refine V_goto (tgt := 15) (pc := 11) X dX10_has_11 (by decide) ?_
    exact Vg_zret (pc := 15) X dX10_has_15 hr (by rw [← hasJ_firm hx]; first | rfl | (simp [hasJ, bI, q_3]; done)) rfl
set_option maxHeartbeats 4000000 in
set_option maxRecDepth 100000 in
theorem c_X10_drain (l : Launch) (g : XG) (mq : Nat) (mf : Int64) (mt : Nat) (mmq : Nat) (mn : Nat) (mkq : Nat) (mcq : Nat) (mhq : Nat) (maq : Nat) (mz : Int32) (my : Int32) (mS : Int64) (mzq : Nat) (mtq : Nat) (mT : Nat) (mA : Nat) (mrq : Nat) (muq : Nat) (mF : Int64) (mZ : Int32) (moq : Nat) (mK : Int32) (mH : Int32) (mgq : Nat) (miq : Nat) (mI : Int64) (mB : Bool) (mlq : Nat) (msq : Nat) (meq : Nat) (mvq : Nat) (x : Int32) (b9 : Bool)  : Ke l g yX10_drain wsX10_drain ({ frames := 2, cells := 0, slots := 0, locals := 46 } : Room) 0 0 [.ref mq, .int x, .int (bI b9)] [ob mq 10 [.long mf, .int (nI mt), .ref mmq, .int (nI mn), .ref mkq, .ref mcq, .ref mhq, .ref maq, .int mz, .int my, .long mS, .ref mzq, .ref mtq, .int (nI mT), .int (nI mA), .ref mrq, .ref muq, .long mF, .int mZ, .ref moq, .int mK, .int mH, .ref mgq, .ref miq, .long mI, .int (bI mB), .ref mlq, .ref msq, .ref meq, .ref mvq]] (fun u : Int32 × Int64 => some (.int u.1)) (fun u => [ob mq 10 [.long u.2, .int (nI mt), .ref mmq, .int (nI mn), .ref mkq, .ref mcq, .ref mhq, .ref maq, .int mz, .int my, .long mS, .ref mzq, .ref mtq, .int (nI mT), .int (nI mA), .ref mrq, .ref muq, .long mF, .int mZ, .ref moq, .int mK, .int mH, .ref mgq, .ref miq, .long mI, .int (bI mB), .ref mlq, .ref msq, .ref meq, .ref mvq]]) (fun u => (R_drain x b9 mf u.1 u.2)) := by
  refine Ke.of (cc := cX10_drain) (maxL := 4) (ret := (some .int)) (lv := [(0, .ref mq), (1, .int x), (2, .int (bI b9))]) RX10 rfl (by decide) rfl (Nat.le_of_ble_eq_true rfl) rfl ?_
  intro p e s m below meth c A sz hA9 X hr hin2
  have in10 : ∀ w ∈ u_ws RX10 TX10 30, w ∈ wsX10_drain := by decide +kernel
  refine V_iload_n (pc := 0) X dX10_drain_0 rfl 1 rfl ?_
  refine V_i2l (pc := 1) X dX10_drain_1 ?_
  refine V_sg (pc := 2) (nA := 1) (As := [.long x.toInt64]) (rest := []) X (c_X10_isCell l g (v := x.toInt64) ) gX10_drain_X10_isCell dX10_drain_2 rfl (by decide +kernel) rfl ⟨rfl, rfl⟩ ⟨Nat.le_of_ble_eq_true rfl, Nat.le_of_ble_eq_true rfl⟩ ⟨Nat.le_of_ble_eq_true rfl, Nat.le_of_ble_eq_true rfl⟩ [] (by decide) rfl rfl (Nat.le_of_ble_eq_true rfl) (st' := [.int (bI (inJ x.toInt64 0 35))]) rfl ?_
  refine V_seti (y := bI (bel x 36)) (congrArg bI (inJ_bel 35 (by decide) (by decide))) ?_
  refine V_if_ne (tgt := 10) (pc := 5) X dX10_drain_5 (by decide) (fun c_1 => ?_) (fun c_1 => ?_)
  · skip
    have b_2 : (bel x 36) = true := bI1 c_1
    refine V_aload_n (pc := 10) X dX10_drain_10 rfl 0 rfl ?_
    refine V_get (C := RX10) (T := TX10) (N := 30) (ci := 10) (pc := 11) X dX10_drain_11 in10 0 rfl rfl 0 (by decide) (by decide +kernel) rfl rfl ?_
    refine V_iload_n (pc := 14) X dX10_drain_14 rfl 1 rfl ?_
    refine V_sg (pc := 15) (nA := 2) (As := [.long mf, .int x]) (rest := []) X (c_X10_has l g (f := mf) (x := x) (hx := by exact bel_vin (n := 36) (by omega) (by omega) (by omega) (by assumption))) gX10_drain_X10_has dX10_drain_15 rfl (by decide +kernel) rfl ⟨rfl, rfl⟩ ⟨Nat.le_of_ble_eq_true rfl, Nat.le_of_ble_eq_true rfl⟩ ⟨Nat.le_of_ble_eq_true rfl, Nat.le_of_ble_eq_true rfl⟩ [] (by decide) rfl rfl (Nat.le_of_ble_eq_true rfl) (st' := [.int (bI (firmB mf x))]) rfl ?_
    refine V_if_eq (tgt := 25) (pc := 18) X dX10_drain_18 (by decide) (fun c_3 => ?_) (fun c_3 => ?_)
    · skip
      have b_4 : (firmB mf x) = false := bI0 c_3
      refine V_iconst (v := 0) (pc := 25) X dX10_drain_25 (by decide) ?_
      refine V_istore_n (lv' := [(3, .int 0), (0, .ref mq), (1, .int x), (2, .int (bI b9))]) (pc := 26) X dX10_drain_26 rfl (Nat.le_of_ble_eq_true rfl) rfl ?_
      refine V_aload_n (pc := 27) X dX10_drain_27 rfl 1 rfl ?_
      refine V_iload_n (pc := 28) X dX10_drain_28 rfl 3 rfl ?_
      refine V_if_eq (tgt := 43) (pc := 29) X dX10_drain_29 (by decide) (fun c_5 => ?_) (fun c_5 => ?_)
      · skip
        have b_6 : b9 = false := bI0 c_5
        refine V_aload_n (pc := 43) X dX10_drain_43 rfl 1 rfl ?_
        refine V_get (C := RX10) (T := TX10) (N := 30) (ci := 10) (pc := 44) X dX10_drain_44 in10 0 rfl rfl 0 (by decide) (by decide +kernel) rfl rfl ?_
        refine V_lconst (v := 1) (pc := 47) X dX10_drain_47 (by decide) ?_
        refine V_iload_n (pc := 48) X dX10_drain_48 rfl 2 rfl ?_
        refine V_lshl (pc := 49) X dX10_drain_49 ?_
        refine V_setl (y := bitI x) rfl ?_
        refine V_ldc2 (v := (-1)) (pc := 50) X dX10_drain_50 (by decide +kernel) ?_
        refine V_lxor (pc := 53) X dX10_drain_53 ?_
        refine V_land (pc := 54) X dX10_drain_54 ?_
        refine V_put (C := RX10) (T := TX10) (N := 30) (ci := 10) (ws' := [ob mq 10 [.long (mf &&& ((bitI x) ^^^ (-1))), .int (nI mt), .ref mmq, .int (nI mn), .ref mkq, .ref mcq, .ref mhq, .ref maq, .int mz, .int my, .long mS, .ref mzq, .ref mtq, .int (nI mT), .int (nI mA), .ref mrq, .ref muq, .long mF, .int mZ, .ref moq, .int mK, .int mH, .ref mgq, .ref miq, .long mI, .int (bI mB), .ref mlq, .ref msq, .ref meq, .ref mvq]]) (pc := 55) X dX10_drain_55 in10 tyX10 tyX10_ok nmX10 0 rfl rfl 0 (by decide) (by decide +kernel) rfl rfl rfl rfl rfl (Nat.le_of_ble_eq_true rfl) rfl ?_
        refine V_iload_n (pc := 58) X dX10_drain_58 rfl 0 rfl ?_
        exact Ve_iret (pc := 59) X hA9 dX10_drain_59 hr (0, mf &&& ((bitI x) ^^^ (-1))) (by first | rfl | (simp [b_2, b_4, b_6]; done)) (by
              try dsimp only
              (unfold R_drain; first | (refine Or.inl ⟨?_, ?_, ?_⟩ <;> first | rfl | assumption | omega | (simp [b_2, b_4, b_6]; done) | (simp [drF, bI, b_2, b_4, b_6]; done)) | (refine Or.inr (⟨?_, ?_, ?_⟩) <;> first | rfl | assumption | omega | (simp [b_2, b_4, b_6]; done) | (simp [drF, bI, b_2, b_4, b_6]; done)))) (by rfl)
      · skip
        have b_7 : b9 = true := bI1 c_5
        refine V_aload_n (pc := 32) X dX10_drain_32 rfl 1 rfl ?_
        refine V_get (C := RX10) (T := TX10) (N := 30) (ci := 10) (pc := 33) X dX10_drain_33 in10 0 rfl rfl 0 (by decide) (by decide +kernel) rfl rfl ?_
        refine V_lconst (v := 1) (pc := 36) X dX10_drain_36 (by decide) ?_
        refine V_iload_n (pc := 37) X dX10_drain_37 rfl 2 rfl ?_
        refine V_lshl (pc := 38) X dX10_drain_38 ?_
        refine V_setl (y := bitI x) rfl ?_
        refine V_lor (pc := 39) X dX10_drain_39 ?_
        refine V_goto (tgt := 55) (pc := 40) X dX10_drain_40 (by decide) ?_
        refine V_put (C := RX10) (T := TX10) (N := 30) (ci := 10) (ws' := [ob mq 10 [.long (mf ||| (bitI x)), .int (nI mt), .ref mmq, .int (nI mn), .ref mkq, .ref mcq, .ref mhq, .ref maq, .int mz, .int my, .long mS, .ref mzq, .ref mtq, .int (nI mT), .int (nI mA), .ref mrq, .ref muq, .long mF, .int mZ, .ref moq, .int mK, .int mH, .ref mgq, .ref miq, .long mI, .int (bI mB), .ref mlq, .ref msq, .ref meq, .ref mvq]]) (pc := 55) X dX10_drain_55 in10 tyX10 tyX10_ok nmX10 0 rfl rfl 0 (by decide) (by decide +kernel) rfl rfl rfl rfl rfl (Nat.le_of_ble_eq_true rfl) rfl ?_
        refine V_iload_n (pc := 58) X dX10_drain_58 rfl 0 rfl ?_
        exact Ve_iret (pc := 59) X hA9 dX10_drain_59 hr (0, mf ||| (bitI x)) (by first | rfl | (simp [b_2, b_4, b_7]; done)) (by
              try dsimp only
              (unfold R_drain; first | (refine Or.inl ⟨?_, ?_, ?_⟩ <;> first | rfl | assumption | omega | (simp [b_2, b_4, b_7]; done) | (simp [drF, bI, b_2, b_4, b_7]; done)) | (refine Or.inr (⟨?_, ?_, ?_⟩) <;> first | rfl | assumption | omega | (simp [b_2, b_4, b_7]; done) | (simp [drF, bI, b_2, b_4, b_7]; done)))) (by rfl)
    · skip
      have b_8 : (firmB mf x) = true := bI1 c_3
      refine V_iconst (v := 1) (pc := 21) X dX10_drain_21 (by decide) ?_
      refine V_goto (tgt := 26) (pc := 22) X dX10_drain_22 (by decide) ?_
      refine V_istore_n (lv' := [(3, .int 1), (0, .ref mq), (1, .int x), (2, .int (bI b9))]) (pc := 26) X dX10_drain_26 rfl (Nat.le_of_ble_eq_true rfl) rfl ?_
      refine V_aload_n (pc := 27) X dX10_drain_27 rfl 1 rfl ?_
      refine V_iload_n (pc := 28) X dX10_drain_28 rfl 3 rfl ?_
      refine V_if_eq (tgt := 43) (pc := 29) X dX10_drain_29 (by decide) (fun c_9 => ?_) (fun c_9 => ?_)
      · skip
        have b_10 : b9 = false := bI0 c_9
        refine V_aload_n (pc := 43) X dX10_drain_43 rfl 1 rfl ?_
        refine V_get (C := RX10) (T := TX10) (N := 30) (ci := 10) (pc := 44) X dX10_drain_44 in10 0 rfl rfl 0 (by decide) (by decide +kernel) rfl rfl ?_
        refine V_lconst (v := 1) (pc := 47) X dX10_drain_47 (by decide) ?_
        refine V_iload_n (pc := 48) X dX10_drain_48 rfl 2 rfl ?_
        refine V_lshl (pc := 49) X dX10_drain_49 ?_
        refine V_setl (y := bitI x) rfl ?_
        refine V_ldc2 (v := (-1)) (pc := 50) X dX10_drain_50 (by decide +kernel) ?_
        refine V_lxor (pc := 53) X dX10_drain_53 ?_
        refine V_land (pc := 54) X dX10_drain_54 ?_
        refine V_put (C := RX10) (T := TX10) (N := 30) (ci := 10) (ws' := [ob mq 10 [.long (mf &&& ((bitI x) ^^^ (-1))), .int (nI mt), .ref mmq, .int (nI mn), .ref mkq, .ref mcq, .ref mhq, .ref maq, .int mz, .int my, .long mS, .ref mzq, .ref mtq, .int (nI mT), .int (nI mA), .ref mrq, .ref muq, .long mF, .int mZ, .ref moq, .int mK, .int mH, .ref mgq, .ref miq, .long mI, .int (bI mB), .ref mlq, .ref msq, .ref meq, .ref mvq]]) (pc := 55) X dX10_drain_55 in10 tyX10 tyX10_ok nmX10 0 rfl rfl 0 (by decide) (by decide +kernel) rfl rfl rfl rfl rfl (Nat.le_of_ble_eq_true rfl) rfl ?_
        refine V_iload_n (pc := 58) X dX10_drain_58 rfl 0 rfl ?_
        exact Ve_iret (pc := 59) X hA9 dX10_drain_59 hr (1, mf &&& ((bitI x) ^^^ (-1))) (by first | rfl | (simp [b_2, b_8, b_10]; done)) (by
              try dsimp only
              (unfold R_drain; first | (refine Or.inl ⟨?_, ?_, ?_⟩ <;> first | rfl | assumption | omega | (simp [b_2, b_8, b_10]; done) | (simp [drF, bI, b_2, b_8, b_10]; done)) | (refine Or.inr (⟨?_, ?_, ?_⟩) <;> first | rfl | assumption | omega | (simp [b_2, b_8, b_10]; done) | (simp [drF, bI, b_2, b_8, b_10]; done)))) (by rfl)
      · skip
        have b_11 : b9 = true := bI1 c_9
        refine V_aload_n (pc := 32) X dX10_drain_32 rfl 1 rfl ?_
        refine V_get (C := RX10) (T := TX10) (N := 30) (ci := 10) (pc := 33) X dX10_drain_33 in10 0 rfl rfl 0 (by decide) (by decide +kernel) rfl rfl ?_
        refine V_lconst (v := 1) (pc := 36) X dX10_drain_36 (by decide) ?_
        refine V_iload_n (pc := 37) X dX10_drain_37 rfl 2 rfl ?_
        refine V_lshl (pc := 38) X dX10_drain_38 ?_
        refine V_setl (y := bitI x) rfl ?_
        refine V_lor (pc := 39) X dX10_drain_39 ?_
        refine V_goto (tgt := 55) (pc := 40) X dX10_drain_40 (by decide) ?_
        refine V_put (C := RX10) (T := TX10) (N := 30) (ci := 10) (ws' := [ob mq 10 [.long (mf ||| (bitI x)), .int (nI mt), .ref mmq, .int (nI mn), .ref mkq, .ref mcq, .ref mhq, .ref maq, .int mz, .int my, .long mS, .ref mzq, .ref mtq, .int (nI mT), .int (nI mA), .ref mrq, .ref muq, .long mF, .int mZ, .ref moq, .int mK, .int mH, .ref mgq, .ref miq, .long mI, .int (bI mB), .ref mlq, .ref msq, .ref meq, .ref mvq]]) (pc := 55) X dX10_drain_55 in10 tyX10 tyX10_ok nmX10 0 rfl rfl 0 (by decide) (by decide +kernel) rfl rfl rfl rfl rfl (Nat.le_of_ble_eq_true rfl) rfl ?_
        refine V_iload_n (pc := 58) X dX10_drain_58 rfl 0 rfl ?_
        exact Ve_iret (pc := 59) X hA9 dX10_drain_59 hr (1, mf ||| (bitI x)) (by first | rfl | (simp [b_2, b_8, b_11]; done)) (by
              try dsimp only
              (unfold R_drain; first | (refine Or.inl ⟨?_, ?_, ?_⟩ <;> first | rfl | assumption | omega | (simp [b_2, b_8, b_11]; done) | (simp [drF, bI, b_2, b_8, b_11]; done)) | (refine Or.inr (⟨?_, ?_, ?_⟩) <;> first | rfl | assumption | omega | (simp [b_2, b_8, b_11]; done) | (simp [drF, bI, b_2, b_8, b_11]; done)))) (by rfl)
  · skip
    have b_12 : (bel x 36) = false := bI0 c_1
    refine V_iconst (v := (-1)) (pc := 8) X dX10_drain_8 (by decide) ?_
    exact Ve_iret (pc := 9) X hA9 dX10_drain_9 hr ((-1), mf) (by first | rfl | (simp [b_12]; done)) (by
          try dsimp only
          (unfold R_drain; first | (refine Or.inl ⟨?_, ?_, ?_⟩ <;> first | rfl | assumption | omega | (simp [b_12]; done) | (simp [drF, bI, b_12]; done)) | (refine Or.inr (⟨?_, ?_, ?_⟩) <;> first | rfl | assumption | omega | (simp [b_12]; done) | (simp [drF, bI, b_12]; done)))) (by rfl)
set_option maxHeartbeats 4000000 in
set_option maxRecDepth 100000 in
theorem c_X10_tuft (l : Launch) (g : XG) (mq : Nat) (mf : Int64) (mt : Nat) (mmq : Nat) (mn : Nat) (mkq : Nat) (mcq : Nat) (mhq : Nat) (maq : Nat) (mz : Int32) (my : Int32) (mS : Int64) (mzq : Nat) (mtq : Nat) (mT : Nat) (mA : Nat) (mrq : Nat) (muq : Nat) (mF : Int64) (mZ : Int32) (moq : Nat) (mK : Int32) (mH : Int32) (mgq : Nat) (miq : Nat) (mI : Int64) (mB : Bool) (mlq : Nat) (msq : Nat) (meq : Nat) (mvq : Nat) (mm : Nat → Int32) (x : Int32) (ht : mt ≤ 6) : Ke l g yX10_tuft wsX10_tuft ({ frames := 2, cells := 0, slots := 0, locals := 46 } : Room) 0 0 [.ref mq, .int x] [ob mq 10 [.long mf, .int (nI mt), .ref mmq, .int (nI mn), .ref mkq, .ref mcq, .ref mhq, .ref maq, .int mz, .int my, .long mS, .ref mzq, .ref mtq, .int (nI mT), .int (nI mA), .ref mrq, .ref muq, .long mF, .int mZ, .ref moq, .int mK, .int mH, .ref mgq, .ref miq, .long mI, .int (bI mB), .ref mlq, .ref msq, .ref meq, .ref mvq], ai g mmq 6 mm] (fun u : Int32 × Nat × (Nat → Int32) => some (.int u.1)) (fun u => [ob mq 10 [.long mf, .int (nI u.2.1), .ref mmq, .int (nI mn), .ref mkq, .ref mcq, .ref mhq, .ref maq, .int mz, .int my, .long mS, .ref mzq, .ref mtq, .int (nI mT), .int (nI mA), .ref mrq, .ref muq, .long mF, .int mZ, .ref moq, .int mK, .int mH, .ref mgq, .ref miq, .long mI, .int (bI mB), .ref mlq, .ref msq, .ref meq, .ref mvq], ai g mmq 6 u.2.2]) (fun u => (R_tuft x mt mm u.1 u.2.1 u.2.2)) := by
  refine Ke.of (cc := cX10_tuft) (maxL := 2) (ret := (some .int)) (lv := [(0, .ref mq), (1, .int x)]) RX10 rfl (by decide) rfl (Nat.le_of_ble_eq_true rfl) rfl ?_
  intro p e s m below meth c A sz hA9 X hr hin2
  have in10 : ∀ w ∈ u_ws RX10 TX10 30, w ∈ wsX10_tuft := by decide +kernel
  refine V_iload_n (pc := 0) X dX10_tuft_0 rfl 1 rfl ?_
  refine V_i2l (pc := 1) X dX10_tuft_1 ?_
  refine V_sg (pc := 2) (nA := 1) (As := [.long x.toInt64]) (rest := []) X (c_X10_isCell l g (v := x.toInt64) ) gX10_tuft_X10_isCell dX10_tuft_2 rfl (by decide +kernel) rfl ⟨rfl, rfl⟩ ⟨Nat.le_of_ble_eq_true rfl, Nat.le_of_ble_eq_true rfl⟩ ⟨Nat.le_of_ble_eq_true rfl, Nat.le_of_ble_eq_true rfl⟩ [] (by decide) rfl rfl (Nat.le_of_ble_eq_true rfl) (st' := [.int (bI (inJ x.toInt64 0 35))]) rfl ?_
  refine V_seti (y := bI (bel x 36)) (congrArg bI (inJ_bel 35 (by decide) (by decide))) ?_
  refine V_if_ne (tgt := 10) (pc := 5) X dX10_tuft_5 (by decide) (fun c_1 => ?_) (fun c_1 => ?_)
  · skip
    have b_2 : (bel x 36) = true := bI1 c_1
    refine V_aload_n (pc := 10) X dX10_tuft_10 rfl 0 rfl ?_
    refine V_get (C := RX10) (T := TX10) (N := 30) (ci := 10) (pc := 11) X dX10_tuft_11 in10 0 rfl rfl 1 (by decide) (by decide +kernel) rfl rfl ?_
    refine V_bipush (v := 6) (pc := 14) X dX10_tuft_14 (by decide) ?_
    refine V_icmp_ne (tgt := 22) (pc := 16) X dX10_tuft_16 (by decide) (fun c_3 => ?_) (fun c_3 => ?_)
    · skip
      have n_4 : mt ≠ 6 := nJ_ne (a := mt) (b := 6) (by omega) (by omega) c_3
      refine V_aload_n (pc := 22) X dX10_tuft_22 rfl 0 rfl ?_
      refine V_get (C := RX10) (T := TX10) (N := 30) (ci := 10) (pc := 23) X dX10_tuft_23 in10 0 rfl rfl 2 (by decide) (by decide +kernel) rfl rfl ?_
      refine V_aload_n (pc := 26) X dX10_tuft_26 rfl 0 rfl ?_
      refine V_get (C := RX10) (T := TX10) (N := 30) (ci := 10) (pc := 27) X dX10_tuft_27 in10 0 rfl rfl 1 (by decide) (by decide +kernel) rfl rfl ?_
      refine V_iload_n (pc := 30) X dX10_tuft_30 rfl 1 rfl ?_
      refine V_iast (f' := upd mm mt x) (ws' := [ob mq 10 [.long mf, .int (nI mt), .ref mmq, .int (nI mn), .ref mkq, .ref mcq, .ref mhq, .ref maq, .int mz, .int my, .long mS, .ref mzq, .ref mtq, .int (nI mT), .int (nI mA), .ref mrq, .ref muq, .long mF, .int mZ, .ref moq, .int mK, .int mH, .ref mgq, .ref miq, .long mI, .int (bI mB), .ref mlq, .ref msq, .ref meq, .ref mvq], ai g mmq 6 (upd mm mt x)]) (pc := 31) X dX10_tuft_31 1 rfl (vp_in_nI (by omega) (by omega)) (by rw [nI_clamp (by omega)]) rfl ?_
      refine V_aload_n (pc := 32) X dX10_tuft_32 rfl 0 rfl ?_
      refine V_dup (pc := 33) X dX10_tuft_33 rfl ?_
      refine V_get (C := RX10) (T := TX10) (N := 30) (ci := 10) (pc := 34) X dX10_tuft_34 in10 0 rfl rfl 1 (by decide) (by decide +kernel) rfl rfl ?_
      refine V_iconst (v := 1) (pc := 37) X dX10_tuft_37 (by decide) ?_
      refine V_iadd (pc := 38) X dX10_tuft_38 ?_
      refine V_seti (y := nI (mt + 1)) (nI_add mt 1) ?_
      refine V_put (C := RX10) (T := TX10) (N := 30) (ci := 10) (ws' := [ob mq 10 [.long mf, .int (nI (mt + 1)), .ref mmq, .int (nI mn), .ref mkq, .ref mcq, .ref mhq, .ref maq, .int mz, .int my, .long mS, .ref mzq, .ref mtq, .int (nI mT), .int (nI mA), .ref mrq, .ref muq, .long mF, .int mZ, .ref moq, .int mK, .int mH, .ref mgq, .ref miq, .long mI, .int (bI mB), .ref mlq, .ref msq, .ref meq, .ref mvq], ai g mmq 6 (upd mm mt x)]) (pc := 39) X dX10_tuft_39 in10 tyX10 tyX10_ok nmX10 0 rfl rfl 1 (by decide) (by decide +kernel) rfl rfl rfl rfl rfl (Nat.le_of_ble_eq_true rfl) rfl ?_
      refine V_aload_n (pc := 42) X dX10_tuft_42 rfl 0 rfl ?_
      refine V_get (C := RX10) (T := TX10) (N := 30) (ci := 10) (pc := 43) X dX10_tuft_43 in10 0 rfl rfl 1 (by decide) (by decide +kernel) rfl rfl ?_
      refine V_iconst (v := 1) (pc := 46) X dX10_tuft_46 (by decide) ?_
      refine V_isub (pc := 47) X dX10_tuft_47 ?_
      refine V_seti (y := nI ((mt + 1) - 1)) (pk_sub (a := mt + 1) (b := 1) (by omega)) ?_
      exact Ve_iret (pc := 48) X hA9 dX10_tuft_48 hr (nI ((mt + 1) - 1), mt + 1, upd mm mt x) (by first | rfl | (simp [b_2, n_4]; done)) (by
            try dsimp only
            (unfold R_tuft; first | (refine Or.inl ⟨?_, ?_, ?_, ?_⟩ <;> first | rfl | assumption | omega | (simp [b_2, n_4]; done)) | (refine Or.inr (Or.inl ⟨?_, ?_, ?_, ?_, ?_⟩) <;> first | rfl | assumption | omega | (simp [b_2, n_4]; done)) | (refine Or.inr (Or.inr (⟨?_, ?_, ?_, ?_, ?_⟩)) <;> first | rfl | assumption | omega | (simp [b_2, n_4]; done)))) (by rfl)
    · skip
      have n_5 : mt = 6 := nJ_eq (a := mt) (b := 6) (by omega) (by omega) c_3
      refine V_bipush (v := (-3)) (pc := 19) X dX10_tuft_19 (by decide) ?_
      exact Ve_iret (pc := 21) X hA9 dX10_tuft_21 hr ((-3), mt, mm) (by first | rfl | (simp [b_2, n_5]; done)) (by
            try dsimp only
            (unfold R_tuft; first | (refine Or.inl ⟨?_, ?_, ?_, ?_⟩ <;> first | rfl | assumption | omega | (simp [b_2, n_5]; done)) | (refine Or.inr (Or.inl ⟨?_, ?_, ?_, ?_, ?_⟩) <;> first | rfl | assumption | omega | (simp [b_2, n_5]; done)) | (refine Or.inr (Or.inr (⟨?_, ?_, ?_, ?_, ?_⟩)) <;> first | rfl | assumption | omega | (simp [b_2, n_5]; done)))) (by rfl)
  · skip
    have b_6 : (bel x 36) = false := bI0 c_1
    refine V_iconst (v := (-1)) (pc := 8) X dX10_tuft_8 (by decide) ?_
    exact Ve_iret (pc := 9) X hA9 dX10_tuft_9 hr ((-1), mt, mm) (by first | rfl | (simp [b_6]; done)) (by
          try dsimp only
          (unfold R_tuft; first | (refine Or.inl ⟨?_, ?_, ?_, ?_⟩ <;> first | rfl | assumption | omega | (simp [b_6]; done)) | (refine Or.inr (Or.inl ⟨?_, ?_, ?_, ?_, ?_⟩) <;> first | rfl | assumption | omega | (simp [b_6]; done)) | (refine Or.inr (Or.inr (⟨?_, ?_, ?_, ?_, ?_⟩)) <;> first | rfl | assumption | omega | (simp [b_6]; done)))) (by rfl)
set_option maxHeartbeats 4000000 in
set_option maxRecDepth 100000 in
theorem c_X10_plant (l : Launch) (g : XG) (mq : Nat) (mf : Int64) (mt : Nat) (mmq : Nat) (mn : Nat) (mkq : Nat) (mcq : Nat) (mhq : Nat) (maq : Nat) (mz : Int32) (my : Int32) (mS : Int64) (mzq : Nat) (mtq : Nat) (mT : Nat) (mA : Nat) (mrq : Nat) (muq : Nat) (mF : Int64) (mZ : Int32) (moq : Nat) (mK : Int32) (mH : Int32) (mgq : Nat) (miq : Nat) (mI : Int64) (mB : Bool) (mlq : Nat) (msq : Nat) (meq : Nat) (mvq : Nat) (mm : Nat → Int32) (x : Int32) (y : Int32) (ht : mt ≤ 6) : Ke l g yX10_plant wsX10_plant ({ frames := 2, cells := 0, slots := 0, locals := 46 } : Room) 0 0 [.ref mq, .int x, .int y] [ob mq 10 [.long mf, .int (nI mt), .ref mmq, .int (nI mn), .ref mkq, .ref mcq, .ref mhq, .ref maq, .int mz, .int my, .long mS, .ref mzq, .ref mtq, .int (nI mT), .int (nI mA), .ref mrq, .ref muq, .long mF, .int mZ, .ref moq, .int mK, .int mH, .ref mgq, .ref miq, .long mI, .int (bI mB), .ref mlq, .ref msq, .ref meq, .ref mvq], ai g mmq 6 mm] (fun u : Int32 × (Nat → Int32) => some (.int u.1)) (fun u => [ob mq 10 [.long mf, .int (nI mt), .ref mmq, .int (nI mn), .ref mkq, .ref mcq, .ref mhq, .ref maq, .int mz, .int my, .long mS, .ref mzq, .ref mtq, .int (nI mT), .int (nI mA), .ref mrq, .ref muq, .long mF, .int mZ, .ref moq, .int mK, .int mH, .ref mgq, .ref miq, .long mI, .int (bI mB), .ref mlq, .ref msq, .ref meq, .ref mvq], ai g mmq 6 u.2]) (fun u => (R_plant x y mt mm u.1 u.2)) := by
  refine Ke.of (cc := cX10_plant) (maxL := 4) (ret := (some .int)) (lv := [(0, .ref mq), (1, .int x), (2, .int y)]) RX10 rfl (by decide) rfl (Nat.le_of_ble_eq_true rfl) rfl ?_
  intro p e s m below meth c A sz hA9 X hr hin2
  have in10 : ∀ w ∈ u_ws RX10 TX10 30, w ∈ wsX10_plant := by decide +kernel
  refine V_aload_n (pc := 0) X dX10_plant_0 rfl 0 rfl ?_
  refine V_iload_n (pc := 1) X dX10_plant_1 rfl 1 rfl ?_
  refine V_vg (pc := 2) (nA := 1) (As := [.int x]) (rest := []) X (c_X10_isTuft l g (mq := mq) (mf := mf) (mt := mt) (mmq := mmq) (mn := mn) (mkq := mkq) (mcq := mcq) (mhq := mhq) (maq := maq) (mz := mz) (my := my) (mS := mS) (mzq := mzq) (mtq := mtq) (mT := mT) (mA := mA) (mrq := mrq) (muq := muq) (mF := mF) (mZ := mZ) (moq := moq) (mK := mK) (mH := mH) (mgq := mgq) (miq := miq) (mI := mI) (mB := mB) (mlq := mlq) (msq := msq) (meq := meq) (mvq := mvq) (x := x) (ht := by first | assumption | omega)) gX10_plant_X10_isTuft dX10_plant_2 rfl (by decide +kernel) rfl (qb := 0) rfl rfl rfl ⟨rfl, rfl⟩ ⟨Nat.le_of_ble_eq_true rfl, Nat.le_of_ble_eq_true rfl⟩ ⟨Nat.le_of_ble_eq_true rfl, Nat.le_of_ble_eq_true rfl⟩ [0] (by decide) rfl rfl (Nat.le_of_ble_eq_true rfl) (st' := [.int (bI (bel x (nI mt)))]) rfl ?_
  refine V_if_eq (tgt := 16) (pc := 5) X dX10_plant_5 (by decide) (fun c_1 => ?_) (fun c_1 => ?_)
  · skip
    have b_2 : (bel x (nI mt)) = false := bI0 c_1
    refine V_iconst (v := (-1)) (pc := 16) X dX10_plant_16 (by decide) ?_
    exact Ve_iret (pc := 17) X hA9 dX10_plant_17 hr ((-1), mm) (by first | rfl | (simp [b_2]; done)) (by
          try dsimp only
          (unfold R_plant; first | (refine Or.inl ⟨?_, ?_, ?_⟩ <;> first | rfl | assumption | omega | (simp [b_2]; done)) | (refine Or.inr (⟨?_, ?_, ?_⟩) <;> first | rfl | assumption | omega | (simp [b_2]; done)))) (by rfl)
  · skip
    have b_3 : (bel x (nI mt)) = true := bI1 c_1
    refine V_iload_n (pc := 8) X dX10_plant_8 rfl 2 rfl ?_
    refine V_i2l (pc := 9) X dX10_plant_9 ?_
    refine V_sg (pc := 10) (nA := 1) (As := [.long y.toInt64]) (rest := []) X (c_X10_isCell l g (v := y.toInt64) ) gX10_plant_X10_isCell dX10_plant_10 rfl (by decide +kernel) rfl ⟨rfl, rfl⟩ ⟨Nat.le_of_ble_eq_true rfl, Nat.le_of_ble_eq_true rfl⟩ ⟨Nat.le_of_ble_eq_true rfl, Nat.le_of_ble_eq_true rfl⟩ [] (by decide) rfl rfl (Nat.le_of_ble_eq_true rfl) (st' := [.int (bI (inJ y.toInt64 0 35))]) rfl ?_
    refine V_seti (y := bI (bel y 36)) (congrArg bI (inJ_bel 35 (by decide) (by decide))) ?_
    refine V_if_ne (tgt := 18) (pc := 13) X dX10_plant_13 (by decide) (fun c_4 => ?_) (fun c_4 => ?_)
    · skip
      have b_5 : (bel y 36) = true := bI1 c_4
      refine V_aload_n (pc := 18) X dX10_plant_18 rfl 0 rfl ?_
      refine V_get (C := RX10) (T := TX10) (N := 30) (ci := 10) (pc := 19) X dX10_plant_19 in10 0 rfl rfl 2 (by decide) (by decide +kernel) rfl rfl ?_
      refine V_iload_n (pc := 22) X dX10_plant_22 rfl 1 rfl ?_
      refine V_iald (v := mm x.toNatClampNeg) (pc := 23) X dX10_plant_23 1 rfl (by first | assumption | exact bel_vin (n := mt) (by omega) (by omega) (by omega) (by assumption) | exact bel_vin (n := mn) (by omega) (by omega) (by omega) (by assumption) | exact bel_vin (n := 36) (by omega) (by omega) (by omega) (by assumption)) rfl ?_
      refine V_istore_n (lv' := [(3, .int (mm x.toNatClampNeg)), (0, .ref mq), (1, .int x), (2, .int y)]) (pc := 24) X dX10_plant_24 rfl (Nat.le_of_ble_eq_true rfl) rfl ?_
      refine V_aload_n (pc := 25) X dX10_plant_25 rfl 1 rfl ?_
      refine V_get (C := RX10) (T := TX10) (N := 30) (ci := 10) (pc := 26) X dX10_plant_26 in10 0 rfl rfl 2 (by decide) (by decide +kernel) rfl rfl ?_
      refine V_iload_n (pc := 29) X dX10_plant_29 rfl 2 rfl ?_
      refine V_iload_n (pc := 30) X dX10_plant_30 rfl 3 rfl ?_
      refine V_iast (f' := upd mm x.toNatClampNeg y) (ws' := [ob mq 10 [.long mf, .int (nI mt), .ref mmq, .int (nI mn), .ref mkq, .ref mcq, .ref mhq, .ref maq, .int mz, .int my, .long mS, .ref mzq, .ref mtq, .int (nI mT), .int (nI mA), .ref mrq, .ref muq, .long mF, .int mZ, .ref moq, .int mK, .int mH, .ref mgq, .ref miq, .long mI, .int (bI mB), .ref mlq, .ref msq, .ref meq, .ref mvq], ai g mmq 6 (upd mm x.toNatClampNeg y)]) (pc := 31) X dX10_plant_31 1 rfl (by first | assumption | exact bel_vin (n := mt) (by omega) (by omega) (by omega) (by assumption) | exact bel_vin (n := mn) (by omega) (by omega) (by omega) (by assumption) | exact bel_vin (n := 36) (by omega) (by omega) (by omega) (by assumption)) rfl rfl ?_
      refine V_iload_n (pc := 32) X dX10_plant_32 rfl 0 rfl ?_
      exact Ve_iret (pc := 33) X hA9 dX10_plant_33 hr (mm x.toNatClampNeg, upd mm x.toNatClampNeg y) (by first | rfl | (simp [b_3, b_5]; done)) (by
            try dsimp only
            (unfold R_plant; first | (refine Or.inl ⟨?_, ?_, ?_⟩ <;> first | rfl | assumption | omega | (simp [b_3, b_5]; done)) | (refine Or.inr (⟨?_, ?_, ?_⟩) <;> first | rfl | assumption | omega | (simp [b_3, b_5]; done)))) (by rfl)
    · skip
      have b_6 : (bel y 36) = false := bI0 c_4
      refine V_iconst (v := (-1)) (pc := 16) X dX10_plant_16 (by decide) ?_
      exact Ve_iret (pc := 17) X hA9 dX10_plant_17 hr ((-1), mm) (by first | rfl | (simp [b_3, b_6]; done)) (by
            try dsimp only
            (unfold R_plant; first | (refine Or.inl ⟨?_, ?_, ?_⟩ <;> first | rfl | assumption | omega | (simp [b_3, b_6]; done)) | (refine Or.inr (⟨?_, ?_, ?_⟩) <;> first | rfl | assumption | omega | (simp [b_3, b_6]; done)))) (by rfl)
set_option maxHeartbeats 4000000 in
set_option maxRecDepth 100000 in
theorem c_X10_person (l : Launch) (g : XG) (mq : Nat) (mf : Int64) (mt : Nat) (mmq : Nat) (mn : Nat) (mkq : Nat) (mcq : Nat) (mhq : Nat) (maq : Nat) (mz : Int32) (my : Int32) (mS : Int64) (mzq : Nat) (mtq : Nat) (mT : Nat) (mA : Nat) (mrq : Nat) (muq : Nat) (mF : Int64) (mZ : Int32) (moq : Nat) (mK : Int32) (mH : Int32) (mgq : Nat) (miq : Nat) (mI : Int64) (mB : Bool) (mlq : Nat) (msq : Nat) (meq : Nat) (mvq : Nat) (mkd : Nat → Int32) (mce : Nat → Int32) (mho : Nat → Int32) (mac : Nat → Int32) (x : Int32) (hn : mn ≤ 6) : Ke l g yX10_person wsX10_person ({ frames := 1, cells := 0, slots := 0, locals := 25 } : Room) 0 0 [.ref mq, .int x] [ob mq 10 [.long mf, .int (nI mt), .ref mmq, .int (nI mn), .ref mkq, .ref mcq, .ref mhq, .ref maq, .int mz, .int my, .long mS, .ref mzq, .ref mtq, .int (nI mT), .int (nI mA), .ref mrq, .ref muq, .long mF, .int mZ, .ref moq, .int mK, .int mH, .ref mgq, .ref miq, .long mI, .int (bI mB), .ref mlq, .ref msq, .ref meq, .ref mvq], ai g mkq 6 mkd, ai g mcq 6 mce, ai g mhq 6 mho, ai g maq 6 mac] (fun u : Int32 × Nat × (Nat → Int32) × (Nat → Int32) × (Nat → Int32) × (Nat → Int32) => some (.int u.1)) (fun u => [ob mq 10 [.long mf, .int (nI mt), .ref mmq, .int (nI u.2.1), .ref mkq, .ref mcq, .ref mhq, .ref maq, .int mz, .int my, .long mS, .ref mzq, .ref mtq, .int (nI mT), .int (nI mA), .ref mrq, .ref muq, .long mF, .int mZ, .ref moq, .int mK, .int mH, .ref mgq, .ref miq, .long mI, .int (bI mB), .ref mlq, .ref msq, .ref meq, .ref mvq], ai g mkq 6 u.2.2.1, ai g mcq 6 u.2.2.2.1, ai g mhq 6 u.2.2.2.2.1, ai g maq 6 u.2.2.2.2.2]) (fun u => (R_person x mn mkd mce mho mac u.1 u.2.1 u.2.2.1 u.2.2.2.1 u.2.2.2.2.1 u.2.2.2.2.2)) := by
  refine Ke.of (cc := cX10_person) (maxL := 2) (ret := (some .int)) (lv := [(0, .ref mq), (1, .int x)]) RX10 rfl (by decide) rfl (Nat.le_of_ble_eq_true rfl) rfl ?_
  intro p e s m below meth c A sz hA9 X hr hin2
  have in10 : ∀ w ∈ u_ws RX10 TX10 30, w ∈ wsX10_person := by decide +kernel
  refine V_iload_n (pc := 0) X dX10_person_0 rfl 1 rfl ?_
  refine V_i2l (pc := 1) X dX10_person_1 ?_
  refine V_lconst (v := 0) (pc := 2) X dX10_person_2 (by decide) ?_
  refine V_ldc2 (v := 3) (pc := 3) X dX10_person_3 (by decide +kernel) ?_
  refine V_sg (pc := 6) (nA := 3) (As := [.long x.toInt64, .long 0, .long 3]) (rest := []) X (c_X10_in l g (v := x.toInt64) (v1 := 0) (v2 := 3) ) gX10_person_X10_in dX10_person_6 rfl (by decide +kernel) rfl ⟨rfl, rfl⟩ ⟨Nat.le_of_ble_eq_true rfl, Nat.le_of_ble_eq_true rfl⟩ ⟨Nat.le_of_ble_eq_true rfl, Nat.le_of_ble_eq_true rfl⟩ [] (by decide) rfl rfl (Nat.le_of_ble_eq_true rfl) (st' := [.int (bI (inJ x.toInt64 0 3))]) rfl ?_
  refine V_seti (y := bI (bel x 4)) (congrArg bI (inJ_bel 3 (by decide) (by decide))) ?_
  refine V_if_ne (tgt := 14) (pc := 9) X dX10_person_9 (by decide) (fun c_1 => ?_) (fun c_1 => ?_)
  · skip
    have b_2 : (bel x 4) = true := bI1 c_1
    refine V_aload_n (pc := 14) X dX10_person_14 rfl 0 rfl ?_
    refine V_get (C := RX10) (T := TX10) (N := 30) (ci := 10) (pc := 15) X dX10_person_15 in10 0 rfl rfl 3 (by decide) (by decide +kernel) rfl rfl ?_
    refine V_bipush (v := 6) (pc := 18) X dX10_person_18 (by decide) ?_
    refine V_icmp_ne (tgt := 26) (pc := 20) X dX10_person_20 (by decide) (fun c_3 => ?_) (fun c_3 => ?_)
    · skip
      have n_4 : mn ≠ 6 := nJ_ne (a := mn) (b := 6) (by omega) (by omega) c_3
      refine V_aload_n (pc := 26) X dX10_person_26 rfl 0 rfl ?_
      refine V_get (C := RX10) (T := TX10) (N := 30) (ci := 10) (pc := 27) X dX10_person_27 in10 0 rfl rfl 4 (by decide) (by decide +kernel) rfl rfl ?_
      refine V_aload_n (pc := 30) X dX10_person_30 rfl 0 rfl ?_
      refine V_get (C := RX10) (T := TX10) (N := 30) (ci := 10) (pc := 31) X dX10_person_31 in10 0 rfl rfl 3 (by decide) (by decide +kernel) rfl rfl ?_
      refine V_iload_n (pc := 34) X dX10_person_34 rfl 1 rfl ?_
      refine V_iast (f' := upd mkd mn x) (ws' := [ob mq 10 [.long mf, .int (nI mt), .ref mmq, .int (nI mn), .ref mkq, .ref mcq, .ref mhq, .ref maq, .int mz, .int my, .long mS, .ref mzq, .ref mtq, .int (nI mT), .int (nI mA), .ref mrq, .ref muq, .long mF, .int mZ, .ref moq, .int mK, .int mH, .ref mgq, .ref miq, .long mI, .int (bI mB), .ref mlq, .ref msq, .ref meq, .ref mvq], ai g mkq 6 (upd mkd mn x), ai g mcq 6 mce, ai g mhq 6 mho, ai g maq 6 mac]) (pc := 35) X dX10_person_35 1 rfl (vp_in_nI (by omega) (by omega)) (by rw [nI_clamp (by omega)]) rfl ?_
      refine V_aload_n (pc := 36) X dX10_person_36 rfl 0 rfl ?_
      refine V_get (C := RX10) (T := TX10) (N := 30) (ci := 10) (pc := 37) X dX10_person_37 in10 0 rfl rfl 6 (by decide) (by decide +kernel) rfl rfl ?_
      refine V_aload_n (pc := 40) X dX10_person_40 rfl 0 rfl ?_
      refine V_get (C := RX10) (T := TX10) (N := 30) (ci := 10) (pc := 41) X dX10_person_41 in10 0 rfl rfl 3 (by decide) (by decide +kernel) rfl rfl ?_
      refine V_iconst (v := 0) (pc := 44) X dX10_person_44 (by decide) ?_
      refine V_iast (f' := upd mho mn 0) (ws' := [ob mq 10 [.long mf, .int (nI mt), .ref mmq, .int (nI mn), .ref mkq, .ref mcq, .ref mhq, .ref maq, .int mz, .int my, .long mS, .ref mzq, .ref mtq, .int (nI mT), .int (nI mA), .ref mrq, .ref muq, .long mF, .int mZ, .ref moq, .int mK, .int mH, .ref mgq, .ref miq, .long mI, .int (bI mB), .ref mlq, .ref msq, .ref meq, .ref mvq], ai g mkq 6 (upd mkd mn x), ai g mcq 6 mce, ai g mhq 6 (upd mho mn 0), ai g maq 6 mac]) (pc := 45) X dX10_person_45 3 rfl (vp_in_nI (by omega) (by omega)) (by rw [nI_clamp (by omega)]) rfl ?_
      refine V_aload_n (pc := 46) X dX10_person_46 rfl 0 rfl ?_
      refine V_get (C := RX10) (T := TX10) (N := 30) (ci := 10) (pc := 47) X dX10_person_47 in10 0 rfl rfl 5 (by decide) (by decide +kernel) rfl rfl ?_
      refine V_aload_n (pc := 50) X dX10_person_50 rfl 0 rfl ?_
      refine V_get (C := RX10) (T := TX10) (N := 30) (ci := 10) (pc := 51) X dX10_person_51 in10 0 rfl rfl 3 (by decide) (by decide +kernel) rfl rfl ?_
      refine V_iconst (v := 0) (pc := 54) X dX10_person_54 (by decide) ?_
      refine V_iast (f' := upd mce mn 0) (ws' := [ob mq 10 [.long mf, .int (nI mt), .ref mmq, .int (nI mn), .ref mkq, .ref mcq, .ref mhq, .ref maq, .int mz, .int my, .long mS, .ref mzq, .ref mtq, .int (nI mT), .int (nI mA), .ref mrq, .ref muq, .long mF, .int mZ, .ref moq, .int mK, .int mH, .ref mgq, .ref miq, .long mI, .int (bI mB), .ref mlq, .ref msq, .ref meq, .ref mvq], ai g mkq 6 (upd mkd mn x), ai g mcq 6 (upd mce mn 0), ai g mhq 6 (upd mho mn 0), ai g maq 6 mac]) (pc := 55) X dX10_person_55 2 rfl (vp_in_nI (by omega) (by omega)) (by rw [nI_clamp (by omega)]) rfl ?_
      refine V_aload_n (pc := 56) X dX10_person_56 rfl 0 rfl ?_
      refine V_get (C := RX10) (T := TX10) (N := 30) (ci := 10) (pc := 57) X dX10_person_57 in10 0 rfl rfl 7 (by decide) (by decide +kernel) rfl rfl ?_
      refine V_aload_n (pc := 60) X dX10_person_60 rfl 0 rfl ?_
      refine V_get (C := RX10) (T := TX10) (N := 30) (ci := 10) (pc := 61) X dX10_person_61 in10 0 rfl rfl 3 (by decide) (by decide +kernel) rfl rfl ?_
      refine V_iconst (v := 0) (pc := 64) X dX10_person_64 (by decide) ?_
      refine V_iast (f' := upd mac mn 0) (ws' := [ob mq 10 [.long mf, .int (nI mt), .ref mmq, .int (nI mn), .ref mkq, .ref mcq, .ref mhq, .ref maq, .int mz, .int my, .long mS, .ref mzq, .ref mtq, .int (nI mT), .int (nI mA), .ref mrq, .ref muq, .long mF, .int mZ, .ref moq, .int mK, .int mH, .ref mgq, .ref miq, .long mI, .int (bI mB), .ref mlq, .ref msq, .ref meq, .ref mvq], ai g mkq 6 (upd mkd mn x), ai g mcq 6 (upd mce mn 0), ai g mhq 6 (upd mho mn 0), ai g maq 6 (upd mac mn 0)]) (pc := 65) X dX10_person_65 4 rfl (vp_in_nI (by omega) (by omega)) (by rw [nI_clamp (by omega)]) rfl ?_
      refine V_aload_n (pc := 66) X dX10_person_66 rfl 0 rfl ?_
      refine V_dup (pc := 67) X dX10_person_67 rfl ?_
      refine V_get (C := RX10) (T := TX10) (N := 30) (ci := 10) (pc := 68) X dX10_person_68 in10 0 rfl rfl 3 (by decide) (by decide +kernel) rfl rfl ?_
      refine V_iconst (v := 1) (pc := 71) X dX10_person_71 (by decide) ?_
      refine V_iadd (pc := 72) X dX10_person_72 ?_
      refine V_seti (y := nI (mn + 1)) (nI_add mn 1) ?_
      refine V_put (C := RX10) (T := TX10) (N := 30) (ci := 10) (ws' := [ob mq 10 [.long mf, .int (nI mt), .ref mmq, .int (nI (mn + 1)), .ref mkq, .ref mcq, .ref mhq, .ref maq, .int mz, .int my, .long mS, .ref mzq, .ref mtq, .int (nI mT), .int (nI mA), .ref mrq, .ref muq, .long mF, .int mZ, .ref moq, .int mK, .int mH, .ref mgq, .ref miq, .long mI, .int (bI mB), .ref mlq, .ref msq, .ref meq, .ref mvq], ai g mkq 6 (upd mkd mn x), ai g mcq 6 (upd mce mn 0), ai g mhq 6 (upd mho mn 0), ai g maq 6 (upd mac mn 0)]) (pc := 73) X dX10_person_73 in10 tyX10 tyX10_ok nmX10 0 rfl rfl 3 (by decide) (by decide +kernel) rfl rfl rfl rfl rfl (Nat.le_of_ble_eq_true rfl) rfl ?_
      refine V_aload_n (pc := 76) X dX10_person_76 rfl 0 rfl ?_
      refine V_get (C := RX10) (T := TX10) (N := 30) (ci := 10) (pc := 77) X dX10_person_77 in10 0 rfl rfl 3 (by decide) (by decide +kernel) rfl rfl ?_
      refine V_iconst (v := 1) (pc := 80) X dX10_person_80 (by decide) ?_
      refine V_isub (pc := 81) X dX10_person_81 ?_
      refine V_seti (y := nI ((mn + 1) - 1)) (pk_sub (a := mn + 1) (b := 1) (by omega)) ?_
      exact Ve_iret (pc := 82) X hA9 dX10_person_82 hr (nI ((mn + 1) - 1), mn + 1, upd mkd mn x, upd mce mn 0, upd mho mn 0, upd mac mn 0) (by first | rfl | (simp [b_2, n_4]; done)) (by
            try dsimp only
            (unfold R_person; first | (refine Or.inl ⟨?_, ?_, ?_, ?_, ?_, ?_, ?_⟩ <;> first | rfl | assumption | omega | (simp [b_2, n_4]; done)) | (refine Or.inr (Or.inl ⟨?_, ?_, ?_, ?_, ?_, ?_, ?_, ?_⟩) <;> first | rfl | assumption | omega | (simp [b_2, n_4]; done)) | (refine Or.inr (Or.inr (⟨?_, ?_, ?_, ?_, ?_, ?_, ?_, ?_⟩)) <;> first | rfl | assumption | omega | (simp [b_2, n_4]; done)))) (by rfl)
    · skip
      have n_5 : mn = 6 := nJ_eq (a := mn) (b := 6) (by omega) (by omega) c_3
      refine V_bipush (v := (-3)) (pc := 23) X dX10_person_23 (by decide) ?_
      exact Ve_iret (pc := 25) X hA9 dX10_person_25 hr ((-3), mn, mkd, mce, mho, mac) (by first | rfl | (simp [b_2, n_5]; done)) (by
            try dsimp only
            (unfold R_person; first | (refine Or.inl ⟨?_, ?_, ?_, ?_, ?_, ?_, ?_⟩ <;> first | rfl | assumption | omega | (simp [b_2, n_5]; done)) | (refine Or.inr (Or.inl ⟨?_, ?_, ?_, ?_, ?_, ?_, ?_, ?_⟩) <;> first | rfl | assumption | omega | (simp [b_2, n_5]; done)) | (refine Or.inr (Or.inr (⟨?_, ?_, ?_, ?_, ?_, ?_, ?_, ?_⟩)) <;> first | rfl | assumption | omega | (simp [b_2, n_5]; done)))) (by rfl)
  · skip
    have b_6 : (bel x 4) = false := bI0 c_1
    refine V_iconst (v := (-1)) (pc := 12) X dX10_person_12 (by decide) ?_
    exact Ve_iret (pc := 13) X hA9 dX10_person_13 hr ((-1), mn, mkd, mce, mho, mac) (by first | rfl | (simp [b_6]; done)) (by
          try dsimp only
          (unfold R_person; first | (refine Or.inl ⟨?_, ?_, ?_, ?_, ?_, ?_, ?_⟩ <;> first | rfl | assumption | omega | (simp [b_6]; done)) | (refine Or.inr (Or.inl ⟨?_, ?_, ?_, ?_, ?_, ?_, ?_, ?_⟩) <;> first | rfl | assumption | omega | (simp [b_6]; done)) | (refine Or.inr (Or.inr (⟨?_, ?_, ?_, ?_, ?_, ?_, ?_, ?_⟩)) <;> first | rfl | assumption | omega | (simp [b_6]; done)))) (by rfl)
set_option maxHeartbeats 4000000 in
set_option maxRecDepth 100000 in
theorem c_X10_sit (l : Launch) (g : XG) (mq : Nat) (mf : Int64) (mt : Nat) (mmq : Nat) (mn : Nat) (mkq : Nat) (mcq : Nat) (mhq : Nat) (maq : Nat) (mz : Int32) (my : Int32) (mS : Int64) (mzq : Nat) (mtq : Nat) (mT : Nat) (mA : Nat) (mrq : Nat) (muq : Nat) (mF : Int64) (mZ : Int32) (moq : Nat) (mK : Int32) (mH : Int32) (mgq : Nat) (miq : Nat) (mI : Int64) (mB : Bool) (mlq : Nat) (msq : Nat) (meq : Nat) (mvq : Nat) (mce : Nat → Int32) (mho : Nat → Int32) (x : Int32) (y : Int32) (w : Int32) (hn : mn ≤ 6) : Ke l g yX10_sit wsX10_sit ({ frames := 2, cells := 0, slots := 0, locals := 46 } : Room) 0 0 [.ref mq, .int x, .int y, .int w] [ob mq 10 [.long mf, .int (nI mt), .ref mmq, .int (nI mn), .ref mkq, .ref mcq, .ref mhq, .ref maq, .int mz, .int my, .long mS, .ref mzq, .ref mtq, .int (nI mT), .int (nI mA), .ref mrq, .ref muq, .long mF, .int mZ, .ref moq, .int mK, .int mH, .ref mgq, .ref miq, .long mI, .int (bI mB), .ref mlq, .ref msq, .ref meq, .ref mvq], ai g mcq 6 mce, ai g mhq 6 mho] (fun u : Int32 × (Nat → Int32) × (Nat → Int32) => some (.int u.1)) (fun u => [ob mq 10 [.long mf, .int (nI mt), .ref mmq, .int (nI mn), .ref mkq, .ref mcq, .ref mhq, .ref maq, .int mz, .int my, .long mS, .ref mzq, .ref mtq, .int (nI mT), .int (nI mA), .ref mrq, .ref muq, .long mF, .int mZ, .ref moq, .int mK, .int mH, .ref mgq, .ref miq, .long mI, .int (bI mB), .ref mlq, .ref msq, .ref meq, .ref mvq], ai g mcq 6 u.2.1, ai g mhq 6 u.2.2]) (fun u => (R_sit x y w mn mce mho u.1 u.2.1 u.2.2)) := by
  refine Ke.of (cc := cX10_sit) (maxL := 5) (ret := (some .int)) (lv := [(0, .ref mq), (1, .int x), (2, .int y), (3, .int w)]) RX10 rfl (by decide) rfl (Nat.le_of_ble_eq_true rfl) rfl ?_
  intro p e s m below meth c A sz hA9 X hr hin2
  have in10 : ∀ w ∈ u_ws RX10 TX10 30, w ∈ wsX10_sit := by decide +kernel
  refine V_aload_n (pc := 0) X dX10_sit_0 rfl 0 rfl ?_
  refine V_iload_n (pc := 1) X dX10_sit_1 rfl 1 rfl ?_
  refine V_vg (pc := 2) (nA := 1) (As := [.int x]) (rest := []) X (c_X10_isOne l g (mq := mq) (mf := mf) (mt := mt) (mmq := mmq) (mn := mn) (mkq := mkq) (mcq := mcq) (mhq := mhq) (maq := maq) (mz := mz) (my := my) (mS := mS) (mzq := mzq) (mtq := mtq) (mT := mT) (mA := mA) (mrq := mrq) (muq := muq) (mF := mF) (mZ := mZ) (moq := moq) (mK := mK) (mH := mH) (mgq := mgq) (miq := miq) (mI := mI) (mB := mB) (mlq := mlq) (msq := msq) (meq := meq) (mvq := mvq) (x := x) (hn := by first | assumption | omega)) gX10_sit_X10_isOne dX10_sit_2 rfl (by decide +kernel) rfl (qb := 0) rfl rfl rfl ⟨rfl, rfl⟩ ⟨Nat.le_of_ble_eq_true rfl, Nat.le_of_ble_eq_true rfl⟩ ⟨Nat.le_of_ble_eq_true rfl, Nat.le_of_ble_eq_true rfl⟩ [0] (by decide) rfl rfl (Nat.le_of_ble_eq_true rfl) (st' := [.int (bI (bel x (nI mn)))]) rfl ?_
  refine V_if_eq (tgt := 28) (pc := 5) X dX10_sit_5 (by decide) (fun c_1 => ?_) (fun c_1 => ?_)
  · skip
    have b_2 : (bel x (nI mn)) = false := bI0 c_1
    refine V_iconst (v := (-1)) (pc := 28) X dX10_sit_28 (by decide) ?_
    exact Ve_iret (pc := 29) X hA9 dX10_sit_29 hr ((-1), mce, mho) (by first | rfl | (simp [b_2]; done)) (by
          try dsimp only
          (unfold R_sit; first | (refine Or.inl ⟨?_, ?_, ?_, ?_⟩ <;> first | rfl | assumption | omega | (simp [b_2]; done)) | (refine Or.inr (⟨?_, ?_, ?_, ?_⟩) <;> first | rfl | assumption | omega | (simp [b_2]; done)))) (by rfl)
  · skip
    have b_3 : (bel x (nI mn)) = true := bI1 c_1
    refine V_iload_n (pc := 8) X dX10_sit_8 rfl 2 rfl ?_
    refine V_i2l (pc := 9) X dX10_sit_9 ?_
    refine V_sg (pc := 10) (nA := 1) (As := [.long y.toInt64]) (rest := []) X (c_X10_isCell l g (v := y.toInt64) ) gX10_sit_X10_isCell dX10_sit_10 rfl (by decide +kernel) rfl ⟨rfl, rfl⟩ ⟨Nat.le_of_ble_eq_true rfl, Nat.le_of_ble_eq_true rfl⟩ ⟨Nat.le_of_ble_eq_true rfl, Nat.le_of_ble_eq_true rfl⟩ [] (by decide) rfl rfl (Nat.le_of_ble_eq_true rfl) (st' := [.int (bI (inJ y.toInt64 0 35))]) rfl ?_
    refine V_seti (y := bI (bel y 36)) (congrArg bI (inJ_bel 35 (by decide) (by decide))) ?_
    refine V_if_eq (tgt := 28) (pc := 13) X dX10_sit_13 (by decide) (fun c_4 => ?_) (fun c_4 => ?_)
    · skip
      have b_5 : (bel y 36) = false := bI0 c_4
      refine V_iconst (v := (-1)) (pc := 28) X dX10_sit_28 (by decide) ?_
      exact Ve_iret (pc := 29) X hA9 dX10_sit_29 hr ((-1), mce, mho) (by first | rfl | (simp [b_3, b_5]; done)) (by
            try dsimp only
            (unfold R_sit; first | (refine Or.inl ⟨?_, ?_, ?_, ?_⟩ <;> first | rfl | assumption | omega | (simp [b_3, b_5]; done)) | (refine Or.inr (⟨?_, ?_, ?_, ?_⟩) <;> first | rfl | assumption | omega | (simp [b_3, b_5]; done)))) (by rfl)
    · skip
      have b_6 : (bel y 36) = true := bI1 c_4
      refine V_iload_n (pc := 16) X dX10_sit_16 rfl 3 rfl ?_
      refine V_i2l (pc := 17) X dX10_sit_17 ?_
      refine V_lconst (v := 0) (pc := 18) X dX10_sit_18 (by decide) ?_
      refine V_ldc2 (v := 99) (pc := 19) X dX10_sit_19 (by decide +kernel) ?_
      refine V_sg (pc := 22) (nA := 3) (As := [.long w.toInt64, .long 0, .long 99]) (rest := []) X (c_X10_in l g (v := w.toInt64) (v1 := 0) (v2 := 99) ) gX10_sit_X10_in dX10_sit_22 rfl (by decide +kernel) rfl ⟨rfl, rfl⟩ ⟨Nat.le_of_ble_eq_true rfl, Nat.le_of_ble_eq_true rfl⟩ ⟨Nat.le_of_ble_eq_true rfl, Nat.le_of_ble_eq_true rfl⟩ [] (by decide) rfl rfl (Nat.le_of_ble_eq_true rfl) (st' := [.int (bI (inJ w.toInt64 0 99))]) rfl ?_
      refine V_seti (y := bI (bel w 100)) (congrArg bI (inJ_bel 99 (by decide) (by decide))) ?_
      refine V_if_ne (tgt := 30) (pc := 25) X dX10_sit_25 (by decide) (fun c_7 => ?_) (fun c_7 => ?_)
      · skip
        have b_8 : (bel w 100) = true := bI1 c_7
        refine V_aload_n (pc := 30) X dX10_sit_30 rfl 0 rfl ?_
        refine V_get (C := RX10) (T := TX10) (N := 30) (ci := 10) (pc := 31) X dX10_sit_31 in10 0 rfl rfl 6 (by decide) (by decide +kernel) rfl rfl ?_
        refine V_iload_n (pc := 34) X dX10_sit_34 rfl 1 rfl ?_
        refine V_iald (v := mho x.toNatClampNeg) (pc := 35) X dX10_sit_35 2 rfl (by first | assumption | exact bel_vin (n := mt) (by omega) (by omega) (by omega) (by assumption) | exact bel_vin (n := mn) (by omega) (by omega) (by omega) (by assumption) | exact bel_vin (n := 36) (by omega) (by omega) (by omega) (by assumption)) rfl ?_
        refine V_istore (lv' := [(4, .int (mho x.toNatClampNeg)), (0, .ref mq), (1, .int x), (2, .int y), (3, .int w)]) (pc := 36) X dX10_sit_36 (Nat.le_of_ble_eq_true rfl) rfl ?_
        refine V_aload_n (pc := 38) X dX10_sit_38 rfl 1 rfl ?_
        refine V_get (C := RX10) (T := TX10) (N := 30) (ci := 10) (pc := 39) X dX10_sit_39 in10 0 rfl rfl 5 (by decide) (by decide +kernel) rfl rfl ?_
        refine V_iload_n (pc := 42) X dX10_sit_42 rfl 2 rfl ?_
        refine V_iload_n (pc := 43) X dX10_sit_43 rfl 3 rfl ?_
        refine V_iast (f' := upd mce x.toNatClampNeg y) (ws' := [ob mq 10 [.long mf, .int (nI mt), .ref mmq, .int (nI mn), .ref mkq, .ref mcq, .ref mhq, .ref maq, .int mz, .int my, .long mS, .ref mzq, .ref mtq, .int (nI mT), .int (nI mA), .ref mrq, .ref muq, .long mF, .int mZ, .ref moq, .int mK, .int mH, .ref mgq, .ref miq, .long mI, .int (bI mB), .ref mlq, .ref msq, .ref meq, .ref mvq], ai g mcq 6 (upd mce x.toNatClampNeg y), ai g mhq 6 mho]) (pc := 44) X dX10_sit_44 1 rfl (by first | assumption | exact bel_vin (n := mt) (by omega) (by omega) (by omega) (by assumption) | exact bel_vin (n := mn) (by omega) (by omega) (by omega) (by assumption) | exact bel_vin (n := 36) (by omega) (by omega) (by omega) (by assumption)) rfl rfl ?_
        refine V_aload_n (pc := 45) X dX10_sit_45 rfl 1 rfl ?_
        refine V_get (C := RX10) (T := TX10) (N := 30) (ci := 10) (pc := 46) X dX10_sit_46 in10 0 rfl rfl 6 (by decide) (by decide +kernel) rfl rfl ?_
        refine V_iload_n (pc := 49) X dX10_sit_49 rfl 2 rfl ?_
        refine V_iload_n (pc := 50) X dX10_sit_50 rfl 4 rfl ?_
        refine V_iast (f' := upd mho x.toNatClampNeg w) (ws' := [ob mq 10 [.long mf, .int (nI mt), .ref mmq, .int (nI mn), .ref mkq, .ref mcq, .ref mhq, .ref maq, .int mz, .int my, .long mS, .ref mzq, .ref mtq, .int (nI mT), .int (nI mA), .ref mrq, .ref muq, .long mF, .int mZ, .ref moq, .int mK, .int mH, .ref mgq, .ref miq, .long mI, .int (bI mB), .ref mlq, .ref msq, .ref meq, .ref mvq], ai g mcq 6 (upd mce x.toNatClampNeg y), ai g mhq 6 (upd mho x.toNatClampNeg w)]) (pc := 51) X dX10_sit_51 2 rfl (by first | assumption | exact bel_vin (n := mt) (by omega) (by omega) (by omega) (by assumption) | exact bel_vin (n := mn) (by omega) (by omega) (by omega) (by assumption) | exact bel_vin (n := 36) (by omega) (by omega) (by omega) (by assumption)) rfl rfl ?_
        refine V_iload (pc := 52) X dX10_sit_52 0 rfl ?_
        exact Ve_iret (pc := 54) X hA9 dX10_sit_54 hr (mho x.toNatClampNeg, upd mce x.toNatClampNeg y, upd mho x.toNatClampNeg w) (by first | rfl | (simp [b_3, b_6, b_8]; done)) (by
              try dsimp only
              (unfold R_sit; first | (refine Or.inl ⟨?_, ?_, ?_, ?_⟩ <;> first | rfl | assumption | omega | (simp [b_3, b_6, b_8]; done)) | (refine Or.inr (⟨?_, ?_, ?_, ?_⟩) <;> first | rfl | assumption | omega | (simp [b_3, b_6, b_8]; done)))) (by rfl)
      · skip
        have b_9 : (bel w 100) = false := bI0 c_7
        refine V_iconst (v := (-1)) (pc := 28) X dX10_sit_28 (by decide) ?_
        exact Ve_iret (pc := 29) X hA9 dX10_sit_29 hr ((-1), mce, mho) (by first | rfl | (simp [b_3, b_6, b_9]; done)) (by
              try dsimp only
              (unfold R_sit; first | (refine Or.inl ⟨?_, ?_, ?_, ?_⟩ <;> first | rfl | assumption | omega | (simp [b_3, b_6, b_9]; done)) | (refine Or.inr (⟨?_, ?_, ?_, ?_⟩) <;> first | rfl | assumption | omega | (simp [b_3, b_6, b_9]; done)))) (by rfl)
set_option maxHeartbeats 4000000 in
set_option maxRecDepth 100000 in
theorem c_X10_told (l : Launch) (g : XG) (mq : Nat) (mf : Int64) (mt : Nat) (mmq : Nat) (mn : Nat) (mkq : Nat) (mcq : Nat) (mhq : Nat) (maq : Nat) (mz : Int32) (my : Int32) (mS : Int64) (mzq : Nat) (mtq : Nat) (mT : Nat) (mA : Nat) (mrq : Nat) (muq : Nat) (mF : Int64) (mZ : Int32) (moq : Nat) (mK : Int32) (mH : Int32) (mgq : Nat) (miq : Nat) (mI : Int64) (mB : Bool) (mlq : Nat) (msq : Nat) (meq : Nat) (mvq : Nat) (mkd : Nat → Int32) (mce : Nat → Int32) (mho : Nat → Int32) (mac : Nat → Int32) (x : Int32) (w : Int32) (hn : mn ≤ 6) (hho : ∀ j, j < mn → 0 ≤ mho j) : Kg l g yX10_told wsX10_told ({ frames := 2, cells := 0, slots := 0, locals := 46 } : Room) [.ref mq, .int x, .int w] [ob mq 10 [.long mf, .int (nI mt), .ref mmq, .int (nI mn), .ref mkq, .ref mcq, .ref mhq, .ref maq, .int mz, .int my, .long mS, .ref mzq, .ref mtq, .int (nI mT), .int (nI mA), .ref mrq, .ref muq, .long mF, .int mZ, .ref moq, .int mK, .int mH, .ref mgq, .ref miq, .long mI, .int (bI mB), .ref mlq, .ref msq, .ref meq, .ref mvq], ai g mkq 6 mkd, ai g mcq 6 mce, ai g mhq 6 mho, ai g maq 6 mac] (some (.int (toldF x w mn mkd mce mho mac))) := by
  refine Kg.of (cc := cX10_told) (maxL := 3) (ret := (some .int)) (lv := [(0, .ref mq), (1, .int x), (2, .int w)]) RX10 rfl (by decide) rfl (Nat.le_of_ble_eq_true rfl) rfl ?_
  intro p e s m below meth c A X hr
  have in10 : ∀ w ∈ u_ws RX10 TX10 30, w ∈ wsX10_told := by decide +kernel
  refine V_aload_n (pc := 0) X dX10_told_0 rfl 0 rfl ?_
  refine V_iload_n (pc := 1) X dX10_told_1 rfl 1 rfl ?_
  refine V_vg (pc := 2) (nA := 1) (As := [.int x]) (rest := []) X (c_X10_isOne l g (mq := mq) (mf := mf) (mt := mt) (mmq := mmq) (mn := mn) (mkq := mkq) (mcq := mcq) (mhq := mhq) (maq := maq) (mz := mz) (my := my) (mS := mS) (mzq := mzq) (mtq := mtq) (mT := mT) (mA := mA) (mrq := mrq) (muq := muq) (mF := mF) (mZ := mZ) (moq := moq) (mK := mK) (mH := mH) (mgq := mgq) (miq := miq) (mI := mI) (mB := mB) (mlq := mlq) (msq := msq) (meq := meq) (mvq := mvq) (x := x) (hn := by first | assumption | omega)) gX10_told_X10_isOne dX10_told_2 rfl (by decide +kernel) rfl (qb := 0) rfl rfl rfl ⟨rfl, rfl⟩ ⟨Nat.le_of_ble_eq_true rfl, Nat.le_of_ble_eq_true rfl⟩ ⟨Nat.le_of_ble_eq_true rfl, Nat.le_of_ble_eq_true rfl⟩ [0] (by decide) rfl rfl (Nat.le_of_ble_eq_true rfl) (st' := [.int (bI (bel x (nI mn)))]) rfl ?_
  refine V_if_eq (tgt := 20) (pc := 5) X dX10_told_5 (by decide) (fun c_1 => ?_) (fun c_1 => ?_)
  · skip
    have b_2 : (bel x (nI mn)) = false := bI0 c_1
    refine V_iconst (v := (-1)) (pc := 20) X dX10_told_20 (by decide) ?_
    exact Vg_iret (pc := 21) X dX10_told_21 hr (by simp [toldF, b_2])
  · skip
    have b_3 : (bel x (nI mn)) = true := bI1 c_1
    refine V_iload_n (pc := 8) X dX10_told_8 rfl 2 rfl ?_
    refine V_i2l (pc := 9) X dX10_told_9 ?_
    refine V_lconst (v := 0) (pc := 10) X dX10_told_10 (by decide) ?_
    refine V_ldc2 (v := 3) (pc := 11) X dX10_told_11 (by decide +kernel) ?_
    refine V_sg (pc := 14) (nA := 3) (As := [.long w.toInt64, .long 0, .long 3]) (rest := []) X (c_X10_in l g (v := w.toInt64) (v1 := 0) (v2 := 3) ) gX10_told_X10_in dX10_told_14 rfl (by decide +kernel) rfl ⟨rfl, rfl⟩ ⟨Nat.le_of_ble_eq_true rfl, Nat.le_of_ble_eq_true rfl⟩ ⟨Nat.le_of_ble_eq_true rfl, Nat.le_of_ble_eq_true rfl⟩ [] (by decide) rfl rfl (Nat.le_of_ble_eq_true rfl) (st' := [.int (bI (inJ w.toInt64 0 3))]) rfl ?_
    refine V_seti (y := bI (bel w 4)) (congrArg bI (inJ_bel 3 (by decide) (by decide))) ?_
    refine V_if_ne (tgt := 22) (pc := 17) X dX10_told_17 (by decide) (fun c_4 => ?_) (fun c_4 => ?_)
    · skip
      have b_5 : (bel w 4) = true := bI1 c_4
      refine V_iload_n (pc := 22) X dX10_told_22 rfl 2 rfl ?_
      refine V_if_ne (tgt := 35) (pc := 23) X dX10_told_23 (by decide) (fun c_6 => ?_) (fun c_6 => ?_)
      · skip
        refine V_iload_n (pc := 35) X dX10_told_35 rfl 2 rfl ?_
        refine V_iconst (v := 1) (pc := 36) X dX10_told_36 (by decide) ?_
        refine V_icmp_ne (tgt := 63) (pc := 37) X dX10_told_37 (by decide) (fun c_7 => ?_) (fun c_7 => ?_)
        · skip
          refine V_iload_n (pc := 63) X dX10_told_63 rfl 2 rfl ?_
          refine V_iconst (v := 2) (pc := 64) X dX10_told_64 (by decide) ?_
          refine V_icmp_ne (tgt := 77) (pc := 65) X dX10_told_65 (by decide) (fun c_8 => ?_) (fun c_8 => ?_)
          · skip
            refine V_aload_n (pc := 77) X dX10_told_77 rfl 0 rfl ?_
            refine V_get (C := RX10) (T := TX10) (N := 30) (ci := 10) (pc := 78) X dX10_told_78 in10 0 rfl rfl 7 (by decide) (by decide +kernel) rfl rfl ?_
            refine V_iload_n (pc := 81) X dX10_told_81 rfl 1 rfl ?_
            refine V_iald (v := mac x.toNatClampNeg) (pc := 82) X dX10_told_82 4 rfl (by first | assumption | exact bel_vin (n := mt) (by omega) (by omega) (by omega) (by assumption) | exact bel_vin (n := mn) (by omega) (by omega) (by omega) (by assumption) | exact bel_vin (n := 36) (by omega) (by omega) (by omega) (by assumption)) rfl ?_
            exact Vg_iret (pc := 83) X dX10_told_83 hr (by rw [toldF_c b_3, if_neg (by assumption), if_neg (by assumption), if_neg (by assumption), if_pos (bel4 (by assumption) (by assumption) (by assumption) (by assumption))])
          · skip
            refine V_aload_n (pc := 68) X dX10_told_68 rfl 0 rfl ?_
            refine V_get (C := RX10) (T := TX10) (N := 30) (ci := 10) (pc := 69) X dX10_told_69 in10 0 rfl rfl 6 (by decide) (by decide +kernel) rfl rfl ?_
            refine V_iload_n (pc := 72) X dX10_told_72 rfl 1 rfl ?_
            refine V_iald (v := mho x.toNatClampNeg) (pc := 73) X dX10_told_73 3 rfl (by first | assumption | exact bel_vin (n := mt) (by omega) (by omega) (by omega) (by assumption) | exact bel_vin (n := mn) (by omega) (by omega) (by omega) (by assumption) | exact bel_vin (n := 36) (by omega) (by omega) (by omega) (by assumption)) rfl ?_
            refine V_goto (tgt := 83) (pc := 74) X dX10_told_74 (by decide) ?_
            exact Vg_iret (pc := 83) X dX10_told_83 hr (by rw [toldF_c b_3, if_neg (by assumption), if_neg (by assumption), if_pos (by assumption)])
        · skip
          refine V_aload_n (pc := 40) X dX10_told_40 rfl 0 rfl ?_
          refine V_get (C := RX10) (T := TX10) (N := 30) (ci := 10) (pc := 41) X dX10_told_41 in10 0 rfl rfl 6 (by decide) (by decide +kernel) rfl rfl ?_
          refine V_iload_n (pc := 44) X dX10_told_44 rfl 1 rfl ?_
          refine V_iald (v := mho x.toNatClampNeg) (pc := 45) X dX10_told_45 3 rfl (by first | assumption | exact bel_vin (n := mt) (by omega) (by omega) (by omega) (by assumption) | exact bel_vin (n := mn) (by omega) (by omega) (by omega) (by assumption) | exact bel_vin (n := 36) (by omega) (by omega) (by omega) (by assumption)) rfl ?_
          refine V_if_ne (tgt := 54) (pc := 46) X dX10_told_46 (by decide) (fun c_9 => ?_) (fun c_9 => ?_)
          · skip
            refine V_aload_n (pc := 54) X dX10_told_54 rfl 0 rfl ?_
            refine V_get (C := RX10) (T := TX10) (N := 30) (ci := 10) (pc := 55) X dX10_told_55 in10 0 rfl rfl 5 (by decide) (by decide +kernel) rfl rfl ?_
            refine V_iload_n (pc := 58) X dX10_told_58 rfl 1 rfl ?_
            refine V_iald (v := mce x.toNatClampNeg) (pc := 59) X dX10_told_59 2 rfl (by first | assumption | exact bel_vin (n := mt) (by omega) (by omega) (by omega) (by assumption) | exact bel_vin (n := mn) (by omega) (by omega) (by omega) (by assumption) | exact bel_vin (n := 36) (by omega) (by omega) (by omega) (by assumption)) rfl ?_
            refine V_goto (tgt := 83) (pc := 60) X dX10_told_60 (by decide) ?_
            exact Vg_iret (pc := 83) X dX10_told_83 hr (by
                  try dsimp only
                  obtain ⟨j9, hj9, rfl⟩ := bel_nat (n := mn) (by omega) b_3
                  rw [toldF_c b_3, if_neg (by assumption), if_pos (by assumption)]
                  rw [if_pos (by rw [nI_clamp (by omega)] at *; exact seat_pos hho hj9 (by assumption))])
          · skip
            refine V_bipush (v := (-4)) (pc := 49) X dX10_told_49 (by decide) ?_
            refine V_goto (tgt := 83) (pc := 51) X dX10_told_51 (by decide) ?_
            exact Vg_iret (pc := 83) X dX10_told_83 hr (by
                  try dsimp only
                  obtain ⟨j9, hj9, rfl⟩ := bel_nat (n := mn) (by omega) b_3
                  rw [toldF_c b_3, if_neg (by assumption), if_pos (by assumption)]
                  rw [if_neg (by rw [show mho (nI j9).toNatClampNeg = 0 by assumption]; decide)])
      · skip
        refine V_aload_n (pc := 26) X dX10_told_26 rfl 0 rfl ?_
        refine V_get (C := RX10) (T := TX10) (N := 30) (ci := 10) (pc := 27) X dX10_told_27 in10 0 rfl rfl 4 (by decide) (by decide +kernel) rfl rfl ?_
        refine V_iload_n (pc := 30) X dX10_told_30 rfl 1 rfl ?_
        refine V_iald (v := mkd x.toNatClampNeg) (pc := 31) X dX10_told_31 1 rfl (by first | assumption | exact bel_vin (n := mt) (by omega) (by omega) (by omega) (by assumption) | exact bel_vin (n := mn) (by omega) (by omega) (by omega) (by assumption) | exact bel_vin (n := 36) (by omega) (by omega) (by omega) (by assumption)) rfl ?_
        refine V_goto (tgt := 83) (pc := 32) X dX10_told_32 (by decide) ?_
        exact Vg_iret (pc := 83) X dX10_told_83 hr (by rw [toldF_c b_3, if_pos (by assumption)])
    · skip
      have b_10 : (bel w 4) = false := bI0 c_4
      refine V_iconst (v := (-1)) (pc := 20) X dX10_told_20 (by decide) ?_
      exact Vg_iret (pc := 21) X dX10_told_21 hr (by exact toldF_out (by assumption))
set_option maxHeartbeats 4000000 in
set_option maxRecDepth 100000 in
theorem c_X10_counts (l : Launch) (g : XG) (mq : Nat) (mf : Int64) (mt : Nat) (mmq : Nat) (mn : Nat) (mkq : Nat) (mcq : Nat) (mhq : Nat) (maq : Nat) (mz : Int32) (my : Int32) (mS : Int64) (mzq : Nat) (mtq : Nat) (mT : Nat) (mA : Nat) (mrq : Nat) (muq : Nat) (mF : Int64) (mZ : Int32) (moq : Nat) (mK : Int32) (mH : Int32) (mgq : Nat) (miq : Nat) (mI : Int64) (mB : Bool) (mlq : Nat) (msq : Nat) (meq : Nat) (mvq : Nat) (mkd : Nat → Int32) (mho : Nat → Int32) (j : Nat) (hj : j < 6) (hk9 : mkd j = 0 ∨ mkd j = 1 ∨ mkd j = 2 ∨ mkd j = 3) : Kg l g yX10_counts wsX10_counts ({ frames := 0, cells := 0, slots := 0, locals := 0 } : Room) [.ref mq, .int (nI j)] [ob mq 10 [.long mf, .int (nI mt), .ref mmq, .int (nI mn), .ref mkq, .ref mcq, .ref mhq, .ref maq, .int mz, .int my, .long mS, .ref mzq, .ref mtq, .int (nI mT), .int (nI mA), .ref mrq, .ref muq, .long mF, .int mZ, .ref moq, .int mK, .int mH, .ref mgq, .ref miq, .long mI, .int (bI mB), .ref mlq, .ref msq, .ref meq, .ref mvq], ai g mkq 6 mkd, ai g mhq 6 mho] (some (.int (wt (mkd j) (mho j)))) := by
  refine Kg.of (cc := cX10_counts) (maxL := 3) (ret := (some .int)) (lv := [(0, .ref mq), (1, .int (nI j))]) RX10 rfl (by decide) rfl (Nat.le_of_ble_eq_true rfl) rfl ?_
  intro p e s m below meth c A X hr
  have in10 : ∀ w ∈ u_ws RX10 TX10 30, w ∈ wsX10_counts := by decide +kernel
  refine V_aload_n (pc := 0) X dX10_counts_0 rfl 0 rfl ?_
  refine V_get (C := RX10) (T := TX10) (N := 30) (ci := 10) (pc := 1) X dX10_counts_1 in10 0 rfl rfl 6 (by decide) (by decide +kernel) rfl rfl ?_
  refine V_iload_n (pc := 4) X dX10_counts_4 rfl 1 rfl ?_
  refine V_iald (v := mho j) (pc := 5) X dX10_counts_5 2 rfl (vp_in_nI (by omega) (by omega)) (by rw [nI_clamp (by omega)]) ?_
  refine V_istore_n (lv' := [(2, .int (mho j)), (0, .ref mq), (1, .int (nI j))]) (pc := 6) X dX10_counts_6 rfl (Nat.le_of_ble_eq_true rfl) rfl ?_
  refine V_aload_n (pc := 7) X dX10_counts_7 rfl 1 rfl ?_
  refine V_get (C := RX10) (T := TX10) (N := 30) (ci := 10) (pc := 8) X dX10_counts_8 in10 0 rfl rfl 4 (by decide) (by decide +kernel) rfl rfl ?_
  refine V_iload_n (pc := 11) X dX10_counts_11 rfl 2 rfl ?_
  refine V_iald (v := mkd j) (pc := 12) X dX10_counts_12 1 rfl (vp_in_nI (by omega) (by omega)) (by rw [nI_clamp (by omega)]) ?_
  refine V_if_ne (tgt := 20) (pc := 13) X dX10_counts_13 (by decide) (fun c_1 => ?_) (fun c_1 => ?_)
  · skip
    refine V_aload_n (pc := 20) X dX10_counts_20 rfl 1 rfl ?_
    refine V_get (C := RX10) (T := TX10) (N := 30) (ci := 10) (pc := 21) X dX10_counts_21 in10 0 rfl rfl 4 (by decide) (by decide +kernel) rfl rfl ?_
    refine V_iload_n (pc := 24) X dX10_counts_24 rfl 2 rfl ?_
    refine V_iald (v := mkd j) (pc := 25) X dX10_counts_25 1 rfl (vp_in_nI (by omega) (by omega)) (by rw [nI_clamp (by omega)]) ?_
    refine V_iconst (v := 2) (pc := 26) X dX10_counts_26 (by decide) ?_
    refine V_icmp_ne (tgt := 36) (pc := 27) X dX10_counts_27 (by decide) (fun c_2 => ?_) (fun c_2 => ?_)
    · skip
      refine V_iconst (v := 2) (pc := 36) X dX10_counts_36 (by decide) ?_
      refine V_iload_n (pc := 37) X dX10_counts_37 rfl 0 rfl ?_
      refine V_imul (pc := 38) X dX10_counts_38 ?_
      exact Vg_iret (pc := 39) X dX10_counts_39 hr (by rcases hk9 with h9 | h9 | h9 | h9 <;> first | (exfalso; simp_all; done) | (simp [wt, h9]; done) | (exact absurd h9 (by assumption)) | (simp_all [wt]; done))
    · skip
      refine V_iload_n (pc := 30) X dX10_counts_30 rfl 0 rfl ?_
      refine V_iconst (v := 2) (pc := 31) X dX10_counts_31 (by decide) ?_
      refine V_idiv (pc := 32) X dX10_counts_32 (by decide) ?_
      refine V_goto (tgt := 39) (pc := 33) X dX10_counts_33 (by decide) ?_
      exact Vg_iret (pc := 39) X dX10_counts_39 hr (by rcases hk9 with h9 | h9 | h9 | h9 <;> first | (exfalso; simp_all; done) | (simp [wt, h9]; done) | (exact absurd h9 (by assumption)) | (simp_all [wt]; done))
  · skip
    refine V_iload_n (pc := 16) X dX10_counts_16 rfl 0 rfl ?_
    refine V_goto (tgt := 39) (pc := 17) X dX10_counts_17 (by decide) ?_
    exact Vg_iret (pc := 39) X dX10_counts_39 hr (by rcases hk9 with h9 | h9 | h9 | h9 <;> first | (exfalso; simp_all; done) | (simp [wt, h9]; done) | (exact absurd h9 (by assumption)) | (simp_all [wt]; done))
set_option maxHeartbeats 4000000 in
set_option maxRecDepth 100000 in
theorem c_X10_sitsAll (l : Launch) (g : XG) (mq : Nat) (mf : Int64) (mt : Nat) (mmq : Nat) (mn : Nat) (mkq : Nat) (mcq : Nat) (mhq : Nat) (maq : Nat) (mz : Int32) (my : Int32) (mS : Int64) (mzq : Nat) (mtq : Nat) (mT : Nat) (mA : Nat) (mrq : Nat) (muq : Nat) (mF : Int64) (mZ : Int32) (moq : Nat) (mK : Int32) (mH : Int32) (mgq : Nat) (miq : Nat) (mI : Int64) (mB : Bool) (mlq : Nat) (msq : Nat) (meq : Nat) (mvq : Nat) (mkd : Nat → Int32) (mce : Nat → Int32) (mho : Nat → Int32) (msc : Nat → Int32) (hn : mn ≤ 6) (hce : ∀ j, j < mn → vp_in (mce j) 36) (hkd : ∀ j, j < mn → mkd j = 0 ∨ mkd j = 1 ∨ mkd j = 2 ∨ mkd j = 3) : Ke l g yX10_sitsAll wsX10_sitsAll ({ frames := 1, cells := 0, slots := 0, locals := 22 } : Room) 0 0 [.ref mq] [ob mq 10 [.long mf, .int (nI mt), .ref mmq, .int (nI mn), .ref mkq, .ref mcq, .ref mhq, .ref maq, .int mz, .int my, .long mS, .ref mzq, .ref mtq, .int (nI mT), .int (nI mA), .ref mrq, .ref muq, .long mF, .int mZ, .ref moq, .int mK, .int mH, .ref mgq, .ref miq, .long mI, .int (bI mB), .ref mlq, .ref msq, .ref meq, .ref mvq], ai g mkq 6 mkd, ai g mcq 6 mce, ai g mhq 6 mho, ai g mzq 36 msc] (fun u : Int64 × (Nat → Int32) => none) (fun u => [ob mq 10 [.long mf, .int (nI mt), .ref mmq, .int (nI mn), .ref mkq, .ref mcq, .ref mhq, .ref maq, .int mz, .int my, .long u.1, .ref mzq, .ref mtq, .int (nI mT), .int (nI mA), .ref mrq, .ref muq, .long mF, .int mZ, .ref moq, .int mK, .int mH, .ref mgq, .ref miq, .long mI, .int (bI mB), .ref mlq, .ref msq, .ref meq, .ref mvq], ai g mkq 6 mkd, ai g mcq 6 mce, ai g mhq 6 mho, ai g mzq 36 u.2]) (fun u => (SA mkd mce mho mn u.1 u.2)) := by
  refine Ke.of (cc := cX10_sitsAll) (maxL := 2) (ret := none) (lv := [(0, .ref mq)]) RX10 rfl (by decide) rfl (Nat.le_of_ble_eq_true rfl) rfl ?_
  intro p e s m below meth c A sz hA9 X hr hin2
  have in10 : ∀ w ∈ u_ws RX10 TX10 30, w ∈ wsX10_sitsAll := by decide +kernel
  refine V_aload_n (pc := 0) X dX10_sitsAll_0 rfl 0 rfl ?_
  refine V_lconst (v := 0) (pc := 1) X dX10_sitsAll_1 (by decide) ?_
  refine V_put (C := RX10) (T := TX10) (N := 30) (ci := 10) (ws' := [ob mq 10 [.long mf, .int (nI mt), .ref mmq, .int (nI mn), .ref mkq, .ref mcq, .ref mhq, .ref maq, .int mz, .int my, .long 0, .ref mzq, .ref mtq, .int (nI mT), .int (nI mA), .ref mrq, .ref muq, .long mF, .int mZ, .ref moq, .int mK, .int mH, .ref mgq, .ref miq, .long mI, .int (bI mB), .ref mlq, .ref msq, .ref meq, .ref mvq], ai g mkq 6 mkd, ai g mcq 6 mce, ai g mhq 6 mho, ai g mzq 36 msc]) (pc := 2) X dX10_sitsAll_2 in10 tyX10 tyX10_ok nmX10 0 rfl rfl 10 (by decide) (by decide +kernel) rfl rfl rfl rfl rfl (Nat.le_of_ble_eq_true rfl) rfl ?_
  refine V_iconst (v := 0) (pc := 5) X dX10_sitsAll_5 (by decide) ?_
  refine V_istore_n (lv' := [(1, .int 0), (0, .ref mq)]) (pc := 6) X dX10_sitsAll_6 rfl (Nat.le_of_ble_eq_true rfl) rfl ?_
  refine V_loop (pc := 7) (σ := Nat × (Nat → Int32)) (fun v9 => [(0, .ref mq), (1, .int (nI v9.1))]) (fun v9 => [ob mq 10 [.long mf, .int (nI mt), .ref mmq, .int (nI mn), .ref mkq, .ref mcq, .ref mhq, .ref maq, .int mz, .int my, .long 0, .ref mzq, .ref mtq, .int (nI mT), .int (nI mA), .ref mrq, .ref muq, .long mF, .int mZ, .ref moq, .int mK, .int mH, .ref mgq, .ref miq, .long mI, .int (bI mB), .ref mlq, .ref msq, .ref meq, .ref mvq], ai g mkq 6 mkd, ai g mcq 6 mce, ai g mhq 6 mho, ai g mzq 36 v9.2]) (fun v9 => (v9.1 ≤ mn) ∧ (∀ j, j < v9.1 → v9.2 (mce j).toNatClampNeg = 0)) (fun v9 => mn - v9.1) (0, msc) ⟨(by
        try dsimp only
        all_goals omega), (by
        try dsimp only
        exact fun _ h => absurd h (Nat.not_lt_zero _))⟩ rfl [1, 0] rfl ?_
  rintro ⟨k, z⟩ ⟨hk, hz⟩ ih7
  try dsimp only at hk
  try dsimp only at hz
  refine V_eqw (ws2 := [ob mq 10 [.long mf, .int (nI mt), .ref mmq, .int (nI mn), .ref mkq, .ref mcq, .ref mhq, .ref maq, .int mz, .int my, .long 0, .ref mzq, .ref mtq, .int (nI mT), .int (nI mA), .ref mrq, .ref muq, .long mF, .int mZ, .ref moq, .int mK, .int mH, .ref mgq, .ref miq, .long mI, .int (bI mB), .ref mlq, .ref msq, .ref meq, .ref mvq], ai g mkq 6 mkd, ai g mcq 6 mce, ai g mhq 6 mho, ai g mzq 36 z]) rfl (V_eql (lv' := [(0, .ref mq), (1, .int (nI k))]) rfl ?_)
  refine V_iload_n (pc := 7) X dX10_sitsAll_7 rfl 1 rfl ?_
  refine V_aload_n (pc := 8) X dX10_sitsAll_8 rfl 0 rfl ?_
  refine V_get (C := RX10) (T := TX10) (N := 30) (ci := 10) (pc := 9) X dX10_sitsAll_9 in10 0 rfl rfl 3 (by decide) (by decide +kernel) rfl rfl ?_
  refine V_icmp_ge (tgt := 33) (pc := 12) X dX10_sitsAll_12 (by decide) (fun c_1 => ?_) (fun c_1 => ?_)
  · skip
    have n_2 : mn ≤ k := nJ_le (a := mn) (b := k) (by omega) (by omega) c_1
    refine V_iconst (v := 0) (pc := 33) X dX10_sitsAll_33 (by decide) ?_
    refine V_istore_n (lv' := [(1, .int 0), (0, .ref mq)]) (pc := 34) X dX10_sitsAll_34 rfl (Nat.le_of_ble_eq_true rfl) rfl ?_
    refine V_loop (pc := 35) (σ := Nat × Int64 × (Nat → Int32)) (fun v9 => [(0, .ref mq), (1, .int (nI v9.1))]) (fun v9 => [ob mq 10 [.long mf, .int (nI mt), .ref mmq, .int (nI mn), .ref mkq, .ref mcq, .ref mhq, .ref maq, .int mz, .int my, .long v9.2.1, .ref mzq, .ref mtq, .int (nI mT), .int (nI mA), .ref mrq, .ref muq, .long mF, .int mZ, .ref moq, .int mK, .int mH, .ref mgq, .ref miq, .long mI, .int (bI mB), .ref mlq, .ref msq, .ref meq, .ref mvq], ai g mkq 6 mkd, ai g mcq 6 mce, ai g mhq 6 mho, ai g mzq 36 v9.2.2]) (fun v9 => (v9.1 ≤ mn) ∧ (SB mkd mce mho mn v9.1 v9.2.1 v9.2.2)) (fun v9 => mn - v9.1) (0, 0, z) ⟨(by
          try dsimp only
          all_goals omega), (by
          try dsimp only
          exact SB_0 (fun j hj => hz j (by omega)))⟩ rfl [1, 0] rfl ?_
    rintro ⟨k2, w2, z2⟩ ⟨hk2, hs⟩ ih35
    try dsimp only at hk2
    try dsimp only at hs
    refine V_eqw (ws2 := [ob mq 10 [.long mf, .int (nI mt), .ref mmq, .int (nI mn), .ref mkq, .ref mcq, .ref mhq, .ref maq, .int mz, .int my, .long w2, .ref mzq, .ref mtq, .int (nI mT), .int (nI mA), .ref mrq, .ref muq, .long mF, .int mZ, .ref moq, .int mK, .int mH, .ref mgq, .ref miq, .long mI, .int (bI mB), .ref mlq, .ref msq, .ref meq, .ref mvq], ai g mkq 6 mkd, ai g mcq 6 mce, ai g mhq 6 mho, ai g mzq 36 z2]) rfl (V_eql (lv' := [(0, .ref mq), (1, .int (nI k2))]) rfl ?_)
    refine V_iload_n (pc := 35) X dX10_sitsAll_35 rfl 1 rfl ?_
    refine V_aload_n (pc := 36) X dX10_sitsAll_36 rfl 0 rfl ?_
    refine V_get (C := RX10) (T := TX10) (N := 30) (ci := 10) (pc := 37) X dX10_sitsAll_37 in10 0 rfl rfl 3 (by decide) (by decide +kernel) rfl rfl ?_
    refine V_icmp_ge (tgt := 94) (pc := 40) X dX10_sitsAll_40 (by decide) (fun c_3 => ?_) (fun c_3 => ?_)
    · skip
      have n_4 : mn ≤ k2 := nJ_le (a := mn) (b := k2) (by omega) (by omega) c_3
      exact Ve_vret (pc := 94) X hA9 dX10_sitsAll_94 hr (w2, z2) rfl (by
            try dsimp only
            exact SB_SA (by rw [show k2 = mn by omega] at hs; exact hs)) (by rfl)
    · skip
      have n_5 : k2 < mn := nJ_nle (a := mn) (b := k2) (by omega) (by omega) c_3
      refine V_aload_n (pc := 43) X dX10_sitsAll_43 rfl 0 rfl ?_
      refine V_get (C := RX10) (T := TX10) (N := 30) (ci := 10) (pc := 44) X dX10_sitsAll_44 in10 0 rfl rfl 6 (by decide) (by decide +kernel) rfl rfl ?_
      refine V_iload_n (pc := 47) X dX10_sitsAll_47 rfl 1 rfl ?_
      refine V_iald (v := mho k2) (pc := 48) X dX10_sitsAll_48 3 rfl (vp_in_nI (by omega) (by omega)) (by rw [nI_clamp (by omega)]) ?_
      refine V_if_le (tgt := 88) (pc := 49) X dX10_sitsAll_49 (by decide) (fun c_6 => ?_) (fun c_6 => ?_)
      · skip
        refine V_iinc (v := nI (k2 + 1)) (lv' := [(1, .int (nI (k2 + 1))), (0, .ref mq)]) (pc := 88) X dX10_sitsAll_88 1 rfl (nI_add k2 1) (Nat.le_of_ble_eq_true rfl) rfl ?_
        refine V_goto (tgt := 35) (pc := 91) X dX10_sitsAll_91 (by decide) ?_
        refine V_lv [1, 0] rfl ?_
        exact ih35 (k2 + 1, w2, z2) ⟨(by
              try dsimp only
              all_goals omega), (by
              try dsimp only
              first | exact SB_a hs (by assumption) | exact SB_c hs (by omega) (hce _ (by omega)) (by assumption))⟩ (by
              try dsimp only
              all_goals omega)
      · skip
        refine V_aload_n (pc := 52) X dX10_sitsAll_52 rfl 0 rfl ?_
        refine V_dup (pc := 53) X dX10_sitsAll_53 rfl ?_
        refine V_get (C := RX10) (T := TX10) (N := 30) (ci := 10) (pc := 54) X dX10_sitsAll_54 in10 0 rfl rfl 10 (by decide) (by decide +kernel) rfl rfl ?_
        refine V_lconst (v := 1) (pc := 57) X dX10_sitsAll_57 (by decide) ?_
        refine V_aload_n (pc := 58) X dX10_sitsAll_58 rfl 0 rfl ?_
        refine V_get (C := RX10) (T := TX10) (N := 30) (ci := 10) (pc := 59) X dX10_sitsAll_59 in10 0 rfl rfl 5 (by decide) (by decide +kernel) rfl rfl ?_
        refine V_iload_n (pc := 62) X dX10_sitsAll_62 rfl 1 rfl ?_
        refine V_iald (v := mce k2) (pc := 63) X dX10_sitsAll_63 2 rfl (vp_in_nI (by omega) (by omega)) (by rw [nI_clamp (by omega)]) ?_
        refine V_lshl (pc := 64) X dX10_sitsAll_64 ?_
        refine V_setl (y := bitI (mce k2)) rfl ?_
        refine V_lor (pc := 65) X dX10_sitsAll_65 ?_
        refine V_put (C := RX10) (T := TX10) (N := 30) (ci := 10) (ws' := [ob mq 10 [.long mf, .int (nI mt), .ref mmq, .int (nI mn), .ref mkq, .ref mcq, .ref mhq, .ref maq, .int mz, .int my, .long (w2 ||| (bitI (mce k2))), .ref mzq, .ref mtq, .int (nI mT), .int (nI mA), .ref mrq, .ref muq, .long mF, .int mZ, .ref moq, .int mK, .int mH, .ref mgq, .ref miq, .long mI, .int (bI mB), .ref mlq, .ref msq, .ref meq, .ref mvq], ai g mkq 6 mkd, ai g mcq 6 mce, ai g mhq 6 mho, ai g mzq 36 z2]) (pc := 66) X dX10_sitsAll_66 in10 tyX10 tyX10_ok nmX10 0 rfl rfl 10 (by decide) (by decide +kernel) rfl rfl rfl rfl rfl (Nat.le_of_ble_eq_true rfl) rfl ?_
        refine V_aload_n (pc := 69) X dX10_sitsAll_69 rfl 0 rfl ?_
        refine V_get (C := RX10) (T := TX10) (N := 30) (ci := 10) (pc := 70) X dX10_sitsAll_70 in10 0 rfl rfl 11 (by decide) (by decide +kernel) rfl rfl ?_
        refine V_aload_n (pc := 73) X dX10_sitsAll_73 rfl 0 rfl ?_
        refine V_get (C := RX10) (T := TX10) (N := 30) (ci := 10) (pc := 74) X dX10_sitsAll_74 in10 0 rfl rfl 5 (by decide) (by decide +kernel) rfl rfl ?_
        refine V_iload_n (pc := 77) X dX10_sitsAll_77 rfl 1 rfl ?_
        refine V_iald (v := mce k2) (pc := 78) X dX10_sitsAll_78 2 rfl (vp_in_nI (by omega) (by omega)) (by rw [nI_clamp (by omega)]) ?_
        refine V_dup2 (pc := 79) X dX10_sitsAll_79 rfl rfl ?_
        refine V_iald (v := z2 (mce k2).toNatClampNeg) (pc := 80) X dX10_sitsAll_80 4 rfl (by first | assumption | exact hce _ (by omega)) rfl ?_
        refine V_aload_n (pc := 81) X dX10_sitsAll_81 rfl 0 rfl ?_
        refine V_iload_n (pc := 82) X dX10_sitsAll_82 rfl 1 rfl ?_
        refine V_vg (pc := 83) (nA := 1) (As := [.int (nI k2)]) (rest := [.int (z2 (mce k2).toNatClampNeg), .int (mce k2), .ref mzq]) X (c_X10_counts l g (mq := mq) (mf := mf) (mt := mt) (mmq := mmq) (mn := mn) (mkq := mkq) (mcq := mcq) (mhq := mhq) (maq := maq) (mz := mz) (my := my) (mS := w2 ||| (bitI (mce k2))) (mzq := mzq) (mtq := mtq) (mT := mT) (mA := mA) (mrq := mrq) (muq := muq) (mF := mF) (mZ := mZ) (moq := moq) (mK := mK) (mH := mH) (mgq := mgq) (miq := miq) (mI := mI) (mB := mB) (mlq := mlq) (msq := msq) (meq := meq) (mvq := mvq) (mkd := mkd) (mho := mho) (j := k2) (hj := by first | assumption | omega) (hk9 := by exact hkd _ (by omega))) gX10_sitsAll_X10_counts dX10_sitsAll_83 rfl (by decide +kernel) rfl (qb := 0) rfl rfl rfl ⟨rfl, rfl⟩ ⟨Nat.le_of_ble_eq_true rfl, Nat.le_of_ble_eq_true rfl⟩ ⟨Nat.le_of_ble_eq_true rfl, Nat.le_of_ble_eq_true rfl⟩ [0, 1, 3] (by decide) rfl rfl (Nat.le_of_ble_eq_true rfl) (st' := [.int (wt (mkd k2) (mho k2)), .int (z2 (mce k2).toNatClampNeg), .int (mce k2), .ref mzq]) rfl ?_
        refine V_iadd (pc := 86) X dX10_sitsAll_86 ?_
        refine V_iast (f' := upd z2 (mce k2).toNatClampNeg ((z2 (mce k2).toNatClampNeg) + (wt (mkd k2) (mho k2)))) (ws' := [ob mq 10 [.long mf, .int (nI mt), .ref mmq, .int (nI mn), .ref mkq, .ref mcq, .ref mhq, .ref maq, .int mz, .int my, .long (w2 ||| (bitI (mce k2))), .ref mzq, .ref mtq, .int (nI mT), .int (nI mA), .ref mrq, .ref muq, .long mF, .int mZ, .ref moq, .int mK, .int mH, .ref mgq, .ref miq, .long mI, .int (bI mB), .ref mlq, .ref msq, .ref meq, .ref mvq], ai g mkq 6 mkd, ai g mcq 6 mce, ai g mhq 6 mho, ai g mzq 36 (upd z2 (mce k2).toNatClampNeg ((z2 (mce k2).toNatClampNeg) + (wt (mkd k2) (mho k2))))]) (pc := 87) X dX10_sitsAll_87 4 rfl (by first | assumption | exact hce _ (by omega)) rfl rfl ?_
        refine V_iinc (v := nI (k2 + 1)) (lv' := [(1, .int (nI (k2 + 1))), (0, .ref mq)]) (pc := 88) X dX10_sitsAll_88 1 rfl (nI_add k2 1) (Nat.le_of_ble_eq_true rfl) rfl ?_
        refine V_goto (tgt := 35) (pc := 91) X dX10_sitsAll_91 (by decide) ?_
        refine V_lv [1, 0] rfl ?_
        exact ih35 (k2 + 1, w2 ||| (bitI (mce k2)), upd z2 (mce k2).toNatClampNeg ((z2 (mce k2).toNatClampNeg) + (wt (mkd k2) (mho k2)))) ⟨(by
              try dsimp only
              all_goals omega), (by
              try dsimp only
              first | exact SB_a hs (by assumption) | exact SB_c hs (by omega) (hce _ (by omega)) (by assumption))⟩ (by
              try dsimp only
              all_goals omega)
  · skip
    have n_7 : k < mn := nJ_nle (a := mn) (b := k) (by omega) (by omega) c_1
    refine V_aload_n (pc := 15) X dX10_sitsAll_15 rfl 0 rfl ?_
    refine V_get (C := RX10) (T := TX10) (N := 30) (ci := 10) (pc := 16) X dX10_sitsAll_16 in10 0 rfl rfl 11 (by decide) (by decide +kernel) rfl rfl ?_
    refine V_aload_n (pc := 19) X dX10_sitsAll_19 rfl 0 rfl ?_
    refine V_get (C := RX10) (T := TX10) (N := 30) (ci := 10) (pc := 20) X dX10_sitsAll_20 in10 0 rfl rfl 5 (by decide) (by decide +kernel) rfl rfl ?_
    refine V_iload_n (pc := 23) X dX10_sitsAll_23 rfl 1 rfl ?_
    refine V_iald (v := mce k) (pc := 24) X dX10_sitsAll_24 2 rfl (vp_in_nI (by omega) (by omega)) (by rw [nI_clamp (by omega)]) ?_
    refine V_iconst (v := 0) (pc := 25) X dX10_sitsAll_25 (by decide) ?_
    refine V_iast (f' := upd z (mce k).toNatClampNeg 0) (ws' := [ob mq 10 [.long mf, .int (nI mt), .ref mmq, .int (nI mn), .ref mkq, .ref mcq, .ref mhq, .ref maq, .int mz, .int my, .long 0, .ref mzq, .ref mtq, .int (nI mT), .int (nI mA), .ref mrq, .ref muq, .long mF, .int mZ, .ref moq, .int mK, .int mH, .ref mgq, .ref miq, .long mI, .int (bI mB), .ref mlq, .ref msq, .ref meq, .ref mvq], ai g mkq 6 mkd, ai g mcq 6 mce, ai g mhq 6 mho, ai g mzq 36 (upd z (mce k).toNatClampNeg 0)]) (pc := 26) X dX10_sitsAll_26 4 rfl (by first | assumption | exact hce _ (by omega)) rfl rfl ?_
    refine V_iinc (v := nI (k + 1)) (lv' := [(1, .int (nI (k + 1))), (0, .ref mq)]) (pc := 27) X dX10_sitsAll_27 1 rfl (nI_add k 1) (Nat.le_of_ble_eq_true rfl) rfl ?_
    refine V_goto (tgt := 7) (pc := 30) X dX10_sitsAll_30 (by decide) ?_
    refine V_lv [1, 0] rfl ?_
    exact ih7 (k + 1, upd z (mce k).toNatClampNeg 0) ⟨(by
          try dsimp only
          all_goals omega), (by
          try dsimp only
          intro j hj
          simp only [upd]
          split
          · rfl
          · rename_i q9
            rcases Nat.lt_succ_iff_lt_or_eq.mp hj with q | q
            · exact hz j q
            · subst q; exact absurd rfl q9)⟩ (by
          try dsimp only
          all_goals omega)
set_option maxHeartbeats 4000000 in
set_option maxRecDepth 100000 in
theorem c_X10_apart (l : Launch) (g : XG) (x : Int32) (y : Int32)  : Kg l g yX10_apart wsX10_apart ({ frames := 0, cells := 0, slots := 0, locals := 0 } : Room) [.int x, .int y] [] (some (.int (aprt x y))) := by
  refine Kg.of (cc := cX10_apart) (maxL := 4) (ret := (some .int)) (lv := [(0, .int x), (1, .int y)]) RX10 rfl (by decide) rfl (Nat.le_of_ble_eq_true rfl) rfl ?_
  intro p e s m below meth c A X hr
  refine V_iload_n (pc := 0) X dX10_apart_0 rfl 0 rfl ?_
  refine V_bipush (v := 6) (pc := 1) X dX10_apart_1 (by decide) ?_
  refine V_idiv (pc := 3) X dX10_apart_3 (by decide) ?_
  refine V_iload_n (pc := 4) X dX10_apart_4 rfl 1 rfl ?_
  refine V_bipush (v := 6) (pc := 5) X dX10_apart_5 (by decide) ?_
  refine V_idiv (pc := 7) X dX10_apart_7 (by decide) ?_
  refine V_isub (pc := 8) X dX10_apart_8 ?_
  refine V_istore_n (lv' := [(2, .int ((x / 6) - (y / 6))), (0, .int x), (1, .int y)]) (pc := 9) X dX10_apart_9 rfl (Nat.le_of_ble_eq_true rfl) rfl ?_
  refine V_iload_n (pc := 10) X dX10_apart_10 rfl 1 rfl ?_
  refine V_bipush (v := 6) (pc := 11) X dX10_apart_11 (by decide) ?_
  refine V_irem (pc := 13) X dX10_apart_13 (by decide) ?_
  refine V_iload_n (pc := 14) X dX10_apart_14 rfl 2 rfl ?_
  refine V_bipush (v := 6) (pc := 15) X dX10_apart_15 (by decide) ?_
  refine V_irem (pc := 17) X dX10_apart_17 (by decide) ?_
  refine V_isub (pc := 18) X dX10_apart_18 ?_
  refine V_istore_n (lv' := [(3, .int ((x - x / 6 * 6) - (y - y / 6 * 6))), (2, .int ((x / 6) - (y / 6))), (0, .int x), (1, .int y)]) (pc := 19) X dX10_apart_19 rfl (Nat.le_of_ble_eq_true rfl) rfl ?_
  refine V_iload_n (pc := 20) X dX10_apart_20 rfl 1 rfl ?_
  refine V_if_ge (tgt := 29) (pc := 21) X dX10_apart_21 (by decide) (fun c_1 => ?_) (fun c_1 => ?_)
  · skip
    refine V_iload_n (pc := 29) X dX10_apart_29 rfl 1 rfl ?_
    refine V_iload_n (pc := 30) X dX10_apart_30 rfl 0 rfl ?_
    refine V_if_ge (tgt := 39) (pc := 31) X dX10_apart_31 (by decide) (fun c_2 => ?_) (fun c_2 => ?_)
    · skip
      refine V_iload_n (pc := 39) X dX10_apart_39 rfl 0 rfl ?_
      refine V_iadd (pc := 40) X dX10_apart_40 ?_
      exact Vg_iret (pc := 41) X dX10_apart_41 hr (by first | rfl | (simp [bI, aprt, rem6, c_1, c_2]; done) | (simp_all [bI, Int32.not_le, Int32.not_lt, aprt, rem6]; done))
    · skip
      refine V_iload_n (pc := 34) X dX10_apart_34 rfl 0 rfl ?_
      refine V_ineg (pc := 35) X dX10_apart_35 ?_
      refine V_goto (tgt := 40) (pc := 36) X dX10_apart_36 (by decide) ?_
      refine V_iadd (pc := 40) X dX10_apart_40 ?_
      exact Vg_iret (pc := 41) X dX10_apart_41 hr (by first | rfl | (simp [bI, aprt, rem6, c_1, c_2]; done) | (simp_all [bI, Int32.not_le, Int32.not_lt, aprt, rem6]; done))
  · skip
    refine V_iload_n (pc := 24) X dX10_apart_24 rfl 1 rfl ?_
    refine V_ineg (pc := 25) X dX10_apart_25 ?_
    refine V_goto (tgt := 30) (pc := 26) X dX10_apart_26 (by decide) ?_
    refine V_iload_n (pc := 30) X dX10_apart_30 rfl 0 rfl ?_
    refine V_if_ge (tgt := 39) (pc := 31) X dX10_apart_31 (by decide) (fun c_3 => ?_) (fun c_3 => ?_)
    · skip
      refine V_iload_n (pc := 39) X dX10_apart_39 rfl 0 rfl ?_
      refine V_iadd (pc := 40) X dX10_apart_40 ?_
      exact Vg_iret (pc := 41) X dX10_apart_41 hr (by first | rfl | (simp [bI, aprt, rem6, c_1, c_3]; done) | (simp_all [bI, Int32.not_le, Int32.not_lt, aprt, rem6]; done))
    · skip
      refine V_iload_n (pc := 34) X dX10_apart_34 rfl 0 rfl ?_
      refine V_ineg (pc := 35) X dX10_apart_35 ?_
      refine V_goto (tgt := 40) (pc := 36) X dX10_apart_36 (by decide) ?_
      refine V_iadd (pc := 40) X dX10_apart_40 ?_
      exact Vg_iret (pc := 41) X dX10_apart_41 hr (by first | rfl | (simp [bI, aprt, rem6, c_1, c_3]; done) | (simp_all [bI, Int32.not_le, Int32.not_lt, aprt, rem6]; done))
set_option maxHeartbeats 4000000 in
set_option maxRecDepth 100000 in
theorem c_X10_frost (l : Launch) (g : XG) (mq : Nat) (mf : Int64) (mt : Nat) (mmq : Nat) (mn : Nat) (mkq : Nat) (mcq : Nat) (mhq : Nat) (maq : Nat) (mz : Int32) (my : Int32) (mS : Int64) (mzq : Nat) (mtq : Nat) (mT : Nat) (mA : Nat) (mrq : Nat) (muq : Nat) (mF : Int64) (mZ : Int32) (moq : Nat) (mK : Int32) (mH : Int32) (mgq : Nat) (miq : Nat) (mI : Int64) (mB : Bool) (mlq : Nat) (msq : Nat) (meq : Nat) (mvq : Nat) (x : Int32)  : Ke l g yX10_frost wsX10_frost ({ frames := 1, cells := 0, slots := 0, locals := 25 } : Room) 0 0 [.ref mq, .int x] [ob mq 10 [.long mf, .int (nI mt), .ref mmq, .int (nI mn), .ref mkq, .ref mcq, .ref mhq, .ref maq, .int mz, .int my, .long mS, .ref mzq, .ref mtq, .int (nI mT), .int (nI mA), .ref mrq, .ref muq, .long mF, .int mZ, .ref moq, .int mK, .int mH, .ref mgq, .ref miq, .long mI, .int (bI mB), .ref mlq, .ref msq, .ref meq, .ref mvq]] (fun u : Int32 × Int32 => some (.int u.1)) (fun u => [ob mq 10 [.long mf, .int (nI mt), .ref mmq, .int (nI mn), .ref mkq, .ref mcq, .ref mhq, .ref maq, .int u.2, .int my, .long mS, .ref mzq, .ref mtq, .int (nI mT), .int (nI mA), .ref mrq, .ref muq, .long mF, .int mZ, .ref moq, .int mK, .int mH, .ref mgq, .ref miq, .long mI, .int (bI mB), .ref mlq, .ref msq, .ref meq, .ref mvq]]) (fun u => (R_frost x mz u.1 u.2)) := by
  refine Ke.of (cc := cX10_frost) (maxL := 3) (ret := (some .int)) (lv := [(0, .ref mq), (1, .int x)]) RX10 rfl (by decide) rfl (Nat.le_of_ble_eq_true rfl) rfl ?_
  intro p e s m below meth c A sz hA9 X hr hin2
  have in10 : ∀ w ∈ u_ws RX10 TX10 30, w ∈ wsX10_frost := by decide +kernel
  refine V_iload_n (pc := 0) X dX10_frost_0 rfl 1 rfl ?_
  refine V_i2l (pc := 1) X dX10_frost_1 ?_
  refine V_lconst (v := 0) (pc := 2) X dX10_frost_2 (by decide) ?_
  refine V_ldc2 (v := 9) (pc := 3) X dX10_frost_3 (by decide +kernel) ?_
  refine V_sg (pc := 6) (nA := 3) (As := [.long x.toInt64, .long 0, .long 9]) (rest := []) X (c_X10_in l g (v := x.toInt64) (v1 := 0) (v2 := 9) ) gX10_frost_X10_in dX10_frost_6 rfl (by decide +kernel) rfl ⟨rfl, rfl⟩ ⟨Nat.le_of_ble_eq_true rfl, Nat.le_of_ble_eq_true rfl⟩ ⟨Nat.le_of_ble_eq_true rfl, Nat.le_of_ble_eq_true rfl⟩ [] (by decide) rfl rfl (Nat.le_of_ble_eq_true rfl) (st' := [.int (bI (inJ x.toInt64 0 9))]) rfl ?_
  refine V_seti (y := bI (bel x 10)) (congrArg bI (inJ_bel 9 (by decide) (by decide))) ?_
  refine V_if_ne (tgt := 14) (pc := 9) X dX10_frost_9 (by decide) (fun c_1 => ?_) (fun c_1 => ?_)
  · skip
    have b_2 : (bel x 10) = true := bI1 c_1
    refine V_aload_n (pc := 14) X dX10_frost_14 rfl 0 rfl ?_
    refine V_get (C := RX10) (T := TX10) (N := 30) (ci := 10) (pc := 15) X dX10_frost_15 in10 0 rfl rfl 8 (by decide) (by decide +kernel) rfl rfl ?_
    refine V_istore_n (lv' := [(2, .int mz), (0, .ref mq), (1, .int x)]) (pc := 18) X dX10_frost_18 rfl (Nat.le_of_ble_eq_true rfl) rfl ?_
    refine V_aload_n (pc := 19) X dX10_frost_19 rfl 1 rfl ?_
    refine V_iload_n (pc := 20) X dX10_frost_20 rfl 2 rfl ?_
    refine V_put (C := RX10) (T := TX10) (N := 30) (ci := 10) (ws' := [ob mq 10 [.long mf, .int (nI mt), .ref mmq, .int (nI mn), .ref mkq, .ref mcq, .ref mhq, .ref maq, .int x, .int my, .long mS, .ref mzq, .ref mtq, .int (nI mT), .int (nI mA), .ref mrq, .ref muq, .long mF, .int mZ, .ref moq, .int mK, .int mH, .ref mgq, .ref miq, .long mI, .int (bI mB), .ref mlq, .ref msq, .ref meq, .ref mvq]]) (pc := 21) X dX10_frost_21 in10 tyX10 tyX10_ok nmX10 0 rfl rfl 8 (by decide) (by decide +kernel) rfl rfl rfl rfl rfl (Nat.le_of_ble_eq_true rfl) rfl ?_
    refine V_iload_n (pc := 24) X dX10_frost_24 rfl 0 rfl ?_
    exact Ve_iret (pc := 25) X hA9 dX10_frost_25 hr (mz, x) (by first | rfl | (simp [b_2]; done)) (by
          try dsimp only
          (unfold R_frost; first | (refine Or.inl ⟨?_, ?_, ?_⟩ <;> first | rfl | assumption | omega | (simp [b_2]; done)) | (refine Or.inr (⟨?_, ?_, ?_⟩) <;> first | rfl | assumption | omega | (simp [b_2]; done)))) (by rfl)
  · skip
    have b_3 : (bel x 10) = false := bI0 c_1
    refine V_iconst (v := (-1)) (pc := 12) X dX10_frost_12 (by decide) ?_
    exact Ve_iret (pc := 13) X hA9 dX10_frost_13 hr ((-1), mz) (by first | rfl | (simp [b_3]; done)) (by
          try dsimp only
          (unfold R_frost; first | (refine Or.inl ⟨?_, ?_, ?_⟩ <;> first | rfl | assumption | omega | (simp [b_3]; done)) | (refine Or.inr (⟨?_, ?_, ?_⟩) <;> first | rfl | assumption | omega | (simp [b_3]; done)))) (by rfl)
set_option maxHeartbeats 4000000 in
set_option maxRecDepth 100000 in
theorem c_X10_count (l : Launch) (g : XG) (mq : Nat) (mf : Int64) (mt : Nat) (mmq : Nat) (mn : Nat) (mkq : Nat) (mcq : Nat) (mhq : Nat) (maq : Nat) (mz : Int32) (my : Int32) (mS : Int64) (mzq : Nat) (mtq : Nat) (mT : Nat) (mA : Nat) (mrq : Nat) (muq : Nat) (mF : Int64) (mZ : Int32) (moq : Nat) (mK : Int32) (mH : Int32) (mgq : Nat) (miq : Nat) (mI : Int64) (mB : Bool) (mlq : Nat) (msq : Nat) (meq : Nat) (mvq : Nat) (mac : Nat → Int32) (w : Int32) (hn : mn ≤ 6) : Kg l g yX10_count wsX10_count ({ frames := 1, cells := 0, slots := 0, locals := 22 } : Room) [.ref mq, .int w] [ob mq 10 [.long mf, .int (nI mt), .ref mmq, .int (nI mn), .ref mkq, .ref mcq, .ref mhq, .ref maq, .int mz, .int my, .long mS, .ref mzq, .ref mtq, .int (nI mT), .int (nI mA), .ref mrq, .ref muq, .long mF, .int mZ, .ref moq, .int mK, .int mH, .ref mgq, .ref miq, .long mI, .int (bI mB), .ref mlq, .ref msq, .ref meq, .ref mvq], ai g maq 6 mac] (some (.int (countF w mt mn (nI (mcF mf 36)) my mz mac))) := by
  refine Kg.of (cc := cX10_count) (maxL := 5) (ret := (some .int)) (lv := [(0, .ref mq), (1, .int w)]) RX10 rfl (by decide) rfl (Nat.le_of_ble_eq_true rfl) rfl ?_
  intro p e s m below meth c A X hr
  have in10 : ∀ w ∈ u_ws RX10 TX10 30, w ∈ wsX10_count := by decide +kernel
  refine V_iconst (v := 0) (pc := 0) X dX10_count_0 (by decide) ?_
  refine V_istore_n (lv' := [(2, .int 0), (0, .ref mq), (1, .int w)]) (pc := 1) X dX10_count_1 rfl (Nat.le_of_ble_eq_true rfl) rfl ?_
  refine V_iconst (v := 0) (pc := 2) X dX10_count_2 (by decide) ?_
  refine V_istore_n (lv' := [(3, .int 0), (2, .int 0), (0, .ref mq), (1, .int w)]) (pc := 3) X dX10_count_3 rfl (Nat.le_of_ble_eq_true rfl) rfl ?_
  refine V_iconst (v := 0) (pc := 4) X dX10_count_4 (by decide) ?_
  refine V_istore (lv' := [(4, .int 0), (3, .int 0), (2, .int 0), (0, .ref mq), (1, .int w)]) (pc := 5) X dX10_count_5 (Nat.le_of_ble_eq_true rfl) rfl ?_
  refine V_loop (pc := 7) (σ := Nat × Nat) (fun v9 => [(0, .ref mq), (1, .int w), (2, .int (nI v9.2)), (3, .int 0), (4, .int (nI v9.1))]) (fun v9 => [ob mq 10 [.long mf, .int (nI mt), .ref mmq, .int (nI mn), .ref mkq, .ref mcq, .ref mhq, .ref maq, .int mz, .int my, .long mS, .ref mzq, .ref mtq, .int (nI mT), .int (nI mA), .ref mrq, .ref muq, .long mF, .int mZ, .ref moq, .int mK, .int mH, .ref mgq, .ref miq, .long mI, .int (bI mB), .ref mlq, .ref msq, .ref meq, .ref mvq], ai g maq 6 mac]) (fun v9 => (v9.1 ≤ 36) ∧ (v9.2 = mcF mf v9.1)) (fun v9 => 36 - v9.1) (0, 0) ⟨(by
        try dsimp only
        all_goals omega), (by
        try dsimp only
        all_goals rfl)⟩ rfl [3, 4, 2, 1, 0] rfl ?_
  rintro ⟨k, z⟩ ⟨hk, hz⟩ ih7
  try dsimp only at hk
  try dsimp only at hz
  refine V_eqw (ws2 := [ob mq 10 [.long mf, .int (nI mt), .ref mmq, .int (nI mn), .ref mkq, .ref mcq, .ref mhq, .ref maq, .int mz, .int my, .long mS, .ref mzq, .ref mtq, .int (nI mT), .int (nI mA), .ref mrq, .ref muq, .long mF, .int mZ, .ref moq, .int mK, .int mH, .ref mgq, .ref miq, .long mI, .int (bI mB), .ref mlq, .ref msq, .ref meq, .ref mvq], ai g maq 6 mac]) rfl (V_eql (lv' := [(0, .ref mq), (1, .int w), (2, .int (nI z)), (3, .int 0), (4, .int (nI k))]) rfl ?_)
  refine V_iload (pc := 7) X dX10_count_7 4 rfl ?_
  refine V_bipush (v := 36) (pc := 9) X dX10_count_9 (by decide) ?_
  refine V_icmp_ge (tgt := 40) (pc := 11) X dX10_count_11 (by decide) (fun c_1 => ?_) (fun c_1 => ?_)
  · skip
    have n_2 : 36 ≤ k := nJ_le (a := 36) (b := k) (by omega) (by omega) c_1
    refine V_iconst (v := 0) (pc := 40) X dX10_count_40 (by decide) ?_
    refine V_istore (lv' := [(4, .int 0), (0, .ref mq), (1, .int w), (2, .int (nI z)), (3, .int 0)]) (pc := 41) X dX10_count_41 (Nat.le_of_ble_eq_true rfl) rfl ?_
    refine V_loop (pc := 43) (σ := Nat × Int32) (fun v9 => [(0, .ref mq), (1, .int w), (2, .int (nI z)), (3, .int v9.2), (4, .int (nI v9.1))]) (fun v9 => [ob mq 10 [.long mf, .int (nI mt), .ref mmq, .int (nI mn), .ref mkq, .ref mcq, .ref mhq, .ref maq, .int mz, .int my, .long mS, .ref mzq, .ref mtq, .int (nI mT), .int (nI mA), .ref mrq, .ref muq, .long mF, .int mZ, .ref moq, .int mK, .int mH, .ref mgq, .ref miq, .long mI, .int (bI mB), .ref mlq, .ref msq, .ref meq, .ref mvq], ai g maq 6 mac]) (fun v9 => (v9.1 ≤ mn) ∧ (v9.2 = achF mac v9.1)) (fun v9 => mn - v9.1) (0, 0) ⟨(by
          try dsimp only
          all_goals omega), (by
          try dsimp only
          all_goals rfl)⟩ rfl [1, 2, 3, 4, 0] rfl ?_
    rintro ⟨k2, z2⟩ ⟨hk2, hz2⟩ ih43
    try dsimp only at hk2
    try dsimp only at hz2
    refine V_eqw (ws2 := [ob mq 10 [.long mf, .int (nI mt), .ref mmq, .int (nI mn), .ref mkq, .ref mcq, .ref mhq, .ref maq, .int mz, .int my, .long mS, .ref mzq, .ref mtq, .int (nI mT), .int (nI mA), .ref mrq, .ref muq, .long mF, .int mZ, .ref moq, .int mK, .int mH, .ref mgq, .ref miq, .long mI, .int (bI mB), .ref mlq, .ref msq, .ref meq, .ref mvq], ai g maq 6 mac]) rfl (V_eql (lv' := [(0, .ref mq), (1, .int w), (2, .int (nI z)), (3, .int z2), (4, .int (nI k2))]) rfl ?_)
    refine V_iload (pc := 43) X dX10_count_43 4 rfl ?_
    refine V_aload_n (pc := 45) X dX10_count_45 rfl 0 rfl ?_
    refine V_get (C := RX10) (T := TX10) (N := 30) (ci := 10) (pc := 46) X dX10_count_46 in10 0 rfl rfl 3 (by decide) (by decide +kernel) rfl rfl ?_
    refine V_icmp_ge (tgt := 79) (pc := 49) X dX10_count_49 (by decide) (fun c_3 => ?_) (fun c_3 => ?_)
    · skip
      have n_4 : mn ≤ k2 := nJ_le (a := mn) (b := k2) (by omega) (by omega) c_3
      refine V_iload_n (pc := 79) X dX10_count_79 rfl 1 rfl ?_
      by_cases w_5 : w = 0
      · refine V_tableIn (off := 40) (tgt := 120) (pc := 80) X dX10_count_80 (by rw [w_5]; decide) (by rw [w_5]; decide) (by rw [w_5]; rfl) (by decide) ?_
        refine V_aload_n (pc := 120) X dX10_count_120 rfl 0 rfl ?_
        refine V_get (C := RX10) (T := TX10) (N := 30) (ci := 10) (pc := 121) X dX10_count_121 in10 0 rfl rfl 1 (by decide) (by decide +kernel) rfl rfl ?_
        exact Vg_iret (pc := 124) X dX10_count_124 hr (by first | (simp [countF, n_2, n_4, w_5]; done) | (rw [show z = mcF mf 36 by rw [hz, show k = 36 by omega]]; simp [countF, n_2, n_4, w_5]; done) | (rw [hz2, show k2 = mn by omega]; simp [countF, n_2, n_4, w_5]; done))
      by_cases w_6 : w = 1
      · refine V_tableIn (off := 45) (tgt := 125) (pc := 80) X dX10_count_80 (by rw [w_6]; decide) (by rw [w_6]; decide) (by rw [w_6]; rfl) (by decide) ?_
        refine V_aload_n (pc := 125) X dX10_count_125 rfl 0 rfl ?_
        refine V_get (C := RX10) (T := TX10) (N := 30) (ci := 10) (pc := 126) X dX10_count_126 in10 0 rfl rfl 3 (by decide) (by decide +kernel) rfl rfl ?_
        exact Vg_iret (pc := 129) X dX10_count_129 hr (by first | (simp [countF, n_2, n_4, w_6]; done) | (rw [show z = mcF mf 36 by rw [hz, show k = 36 by omega]]; simp [countF, n_2, n_4, w_6]; done) | (rw [hz2, show k2 = mn by omega]; simp [countF, n_2, n_4, w_6]; done))
      by_cases w_7 : w = 2
      · refine V_tableIn (off := 50) (tgt := 130) (pc := 80) X dX10_count_80 (by rw [w_7]; decide) (by rw [w_7]; decide) (by rw [w_7]; rfl) (by decide) ?_
        refine V_iload_n (pc := 130) X dX10_count_130 rfl 2 rfl ?_
        exact Vg_iret (pc := 131) X dX10_count_131 hr (by first | (simp [countF, n_2, n_4, w_7]; done) | (rw [show z = mcF mf 36 by rw [hz, show k = 36 by omega]]; simp [countF, n_2, n_4, w_7]; done) | (rw [hz2, show k2 = mn by omega]; simp [countF, n_2, n_4, w_7]; done))
      by_cases w_8 : w = 3
      · refine V_tableIn (off := 52) (tgt := 132) (pc := 80) X dX10_count_80 (by rw [w_8]; decide) (by rw [w_8]; decide) (by rw [w_8]; rfl) (by decide) ?_
        refine V_aload_n (pc := 132) X dX10_count_132 rfl 0 rfl ?_
        refine V_get (C := RX10) (T := TX10) (N := 30) (ci := 10) (pc := 133) X dX10_count_133 in10 0 rfl rfl 9 (by decide) (by decide +kernel) rfl rfl ?_
        exact Vg_iret (pc := 136) X dX10_count_136 hr (by first | (simp [countF, n_2, n_4, w_8]; done) | (rw [show z = mcF mf 36 by rw [hz, show k = 36 by omega]]; simp [countF, n_2, n_4, w_8]; done) | (rw [hz2, show k2 = mn by omega]; simp [countF, n_2, n_4, w_8]; done))
      by_cases w_9 : w = 4
      · refine V_tableIn (off := 57) (tgt := 137) (pc := 80) X dX10_count_80 (by rw [w_9]; decide) (by rw [w_9]; decide) (by rw [w_9]; rfl) (by decide) ?_
        refine V_aload_n (pc := 137) X dX10_count_137 rfl 0 rfl ?_
        refine V_get (C := RX10) (T := TX10) (N := 30) (ci := 10) (pc := 138) X dX10_count_138 in10 0 rfl rfl 8 (by decide) (by decide +kernel) rfl rfl ?_
        exact Vg_iret (pc := 141) X dX10_count_141 hr (by first | (simp [countF, n_2, n_4, w_9]; done) | (rw [show z = mcF mf 36 by rw [hz, show k = 36 by omega]]; simp [countF, n_2, n_4, w_9]; done) | (rw [hz2, show k2 = mn by omega]; simp [countF, n_2, n_4, w_9]; done))
      by_cases w_10 : w = 5
      · refine V_tableIn (off := 62) (tgt := 142) (pc := 80) X dX10_count_80 (by rw [w_10]; decide) (by rw [w_10]; decide) (by rw [w_10]; rfl) (by decide) ?_
        refine V_iload_n (pc := 142) X dX10_count_142 rfl 3 rfl ?_
        exact Vg_iret (pc := 143) X dX10_count_143 hr (by first | (simp [countF, n_2, n_4, w_10]; done) | (rw [show z = mcF mf 36 by rw [hz, show k = 36 by omega]]; simp [countF, n_2, n_4, w_10]; done) | (rw [hz2, show k2 = mn by omega]; simp [countF, n_2, n_4, w_10]; done))
      refine V_tableOut (tgt := 144) (pc := 80) X dX10_count_80 (tb_out 0 5 (by decide) (by decide) (fun k h1 h2 q => by
          rcases (show k = 0 ∨ k = 1 ∨ k = 2 ∨ k = 3 ∨ k = 4 ∨ k = 5 by omega) with rfl | rfl | rfl | rfl | rfl | rfl <;> first | exact absurd q w_5 | exact absurd q w_6 | exact absurd q w_7 | exact absurd q w_8 | exact absurd q w_9 | exact absurd q w_10)) (by decide) ?_
      refine V_iconst (v := (-1)) (pc := 144) X dX10_count_144 (by decide) ?_
      exact Vg_iret (pc := 145) X dX10_count_145 hr (by first | (simp [countF, n_2, n_4, w_5, w_6, w_7, w_8, w_9, w_10]; done) | (rw [show z = mcF mf 36 by rw [hz, show k = 36 by omega]]; simp [countF, n_2, n_4, w_5, w_6, w_7, w_8, w_9, w_10]; done) | (rw [hz2, show k2 = mn by omega]; simp [countF, n_2, n_4, w_5, w_6, w_7, w_8, w_9, w_10]; done))
    · skip
      have n_11 : k2 < mn := nJ_nle (a := mn) (b := k2) (by omega) (by omega) c_3
      refine V_iload_n (pc := 52) X dX10_count_52 rfl 3 rfl ?_
      refine V_aload_n (pc := 53) X dX10_count_53 rfl 0 rfl ?_
      refine V_get (C := RX10) (T := TX10) (N := 30) (ci := 10) (pc := 54) X dX10_count_54 in10 0 rfl rfl 7 (by decide) (by decide +kernel) rfl rfl ?_
      refine V_iload (pc := 57) X dX10_count_57 4 rfl ?_
      refine V_iald (v := mac k2) (pc := 59) X dX10_count_59 1 rfl (vp_in_nI (by omega) (by omega)) (by rw [nI_clamp (by omega)]) ?_
      refine V_if_le (tgt := 70) (pc := 60) X dX10_count_60 (by decide) (fun c_12 => ?_) (fun c_12 => ?_)
      · skip
        refine V_iconst (v := 0) (pc := 70) X dX10_count_70 (by decide) ?_
        refine V_ior (pc := 71) X dX10_count_71 ?_
        refine V_istore_n (lv' := [(3, .int (z2 ||| 0)), (0, .ref mq), (1, .int w), (2, .int (nI z)), (4, .int (nI k2))]) (pc := 72) X dX10_count_72 rfl (Nat.le_of_ble_eq_true rfl) rfl ?_
        refine V_iinc (v := nI (k2 + 1)) (lv' := [(4, .int (nI (k2 + 1))), (3, .int (z2 ||| 0)), (0, .ref mq), (1, .int w), (2, .int (nI z))]) (pc := 73) X dX10_count_73 4 rfl (nI_add k2 1) (Nat.le_of_ble_eq_true rfl) rfl ?_
        refine V_goto (tgt := 43) (pc := 76) X dX10_count_76 (by decide) ?_
        refine V_lv [2, 3, 4, 1, 0] rfl ?_
        exact ih43 (k2 + 1, z2 ||| 0) ⟨(by
              try dsimp only
              all_goals omega), (by
              try dsimp only
              first | exact (or32_0 _).trans (hz2.trans (achF_a (by assumption))) | (rw [hz2]; exact achF_c (by assumption)))⟩ (by
              try dsimp only
              all_goals omega)
      · skip
        refine V_iconst (v := 1) (pc := 63) X dX10_count_63 (by decide) ?_
        refine V_iload (pc := 64) X dX10_count_64 4 rfl ?_
        refine V_ishl (pc := 66) X dX10_count_66 ?_
        refine V_goto (tgt := 71) (pc := 67) X dX10_count_67 (by decide) ?_
        refine V_ior (pc := 71) X dX10_count_71 ?_
        refine V_istore_n (lv' := [(3, .int (z2 ||| (1 <<< ((nI k2) &&& 31)))), (0, .ref mq), (1, .int w), (2, .int (nI z)), (4, .int (nI k2))]) (pc := 72) X dX10_count_72 rfl (Nat.le_of_ble_eq_true rfl) rfl ?_
        refine V_iinc (v := nI (k2 + 1)) (lv' := [(4, .int (nI (k2 + 1))), (3, .int (z2 ||| (1 <<< ((nI k2) &&& 31)))), (0, .ref mq), (1, .int w), (2, .int (nI z))]) (pc := 73) X dX10_count_73 4 rfl (nI_add k2 1) (Nat.le_of_ble_eq_true rfl) rfl ?_
        refine V_goto (tgt := 43) (pc := 76) X dX10_count_76 (by decide) ?_
        refine V_lv [2, 3, 4, 1, 0] rfl ?_
        exact ih43 (k2 + 1, z2 ||| (1 <<< ((nI k2) &&& 31))) ⟨(by
              try dsimp only
              all_goals omega), (by
              try dsimp only
              first | exact (or32_0 _).trans (hz2.trans (achF_a (by assumption))) | (rw [hz2]; exact achF_c (by assumption)))⟩ (by
              try dsimp only
              all_goals omega)
  · skip
    have n_13 : k < 36 := nJ_nle (a := 36) (b := k) (by omega) (by omega) c_1
    refine V_iload_n (pc := 14) X dX10_count_14 rfl 2 rfl ?_
    refine V_aload_n (pc := 15) X dX10_count_15 rfl 0 rfl ?_
    refine V_get (C := RX10) (T := TX10) (N := 30) (ci := 10) (pc := 16) X dX10_count_16 in10 0 rfl rfl 0 (by decide) (by decide +kernel) rfl rfl ?_
    refine V_iload (pc := 19) X dX10_count_19 4 rfl ?_
    refine V_sg (pc := 21) (nA := 2) (As := [.long mf, .int (nI k)]) (rest := [.int (nI z)]) X (c_X10_has l g (f := mf) (x := nI k) (hx := by exact vp_in_nI (by omega) (by omega))) gX10_count_X10_has dX10_count_21 rfl (by decide +kernel) rfl ⟨rfl, rfl⟩ ⟨Nat.le_of_ble_eq_true rfl, Nat.le_of_ble_eq_true rfl⟩ ⟨Nat.le_of_ble_eq_true rfl, Nat.le_of_ble_eq_true rfl⟩ [] (by decide) rfl rfl (Nat.le_of_ble_eq_true rfl) (st' := [.int (bI (firmB mf (nI k))), .int (nI z)]) rfl ?_
    refine V_if_eq (tgt := 31) (pc := 24) X dX10_count_24 (by decide) (fun c_14 => ?_) (fun c_14 => ?_)
    · skip
      have b_15 : (firmB mf (nI k)) = false := bI0 c_14
      refine V_iconst (v := 0) (pc := 31) X dX10_count_31 (by decide) ?_
      refine V_iadd (pc := 32) X dX10_count_32 ?_
      refine V_seti (y := nI (z + 0)) (nI_add z 0) ?_
      refine V_istore_n (lv' := [(2, .int (nI (z + 0))), (0, .ref mq), (1, .int w), (3, .int 0), (4, .int (nI k))]) (pc := 33) X dX10_count_33 rfl (Nat.le_of_ble_eq_true rfl) rfl ?_
      refine V_iinc (v := nI (k + 1)) (lv' := [(4, .int (nI (k + 1))), (2, .int (nI (z + 0))), (0, .ref mq), (1, .int w), (3, .int 0)]) (pc := 34) X dX10_count_34 4 rfl (nI_add k 1) (Nat.le_of_ble_eq_true rfl) rfl ?_
      refine V_goto (tgt := 7) (pc := 37) X dX10_count_37 (by decide) ?_
      refine V_lv [2, 3, 1, 4, 0] rfl ?_
      exact ih7 (k + 1, z + 0) ⟨(by
            try dsimp only
            all_goals omega), (by
            try dsimp only
            rw [hz]; first | exact mcF_a (by assumption) | exact mcF_c (by assumption))⟩ (by
            try dsimp only
            all_goals omega)
    · skip
      have b_16 : (firmB mf (nI k)) = true := bI1 c_14
      refine V_iconst (v := 1) (pc := 27) X dX10_count_27 (by decide) ?_
      refine V_goto (tgt := 32) (pc := 28) X dX10_count_28 (by decide) ?_
      refine V_iadd (pc := 32) X dX10_count_32 ?_
      refine V_seti (y := nI (z + 1)) (nI_add z 1) ?_
      refine V_istore_n (lv' := [(2, .int (nI (z + 1))), (0, .ref mq), (1, .int w), (3, .int 0), (4, .int (nI k))]) (pc := 33) X dX10_count_33 rfl (Nat.le_of_ble_eq_true rfl) rfl ?_
      refine V_iinc (v := nI (k + 1)) (lv' := [(4, .int (nI (k + 1))), (2, .int (nI (z + 1))), (0, .ref mq), (1, .int w), (3, .int 0)]) (pc := 34) X dX10_count_34 4 rfl (nI_add k 1) (Nat.le_of_ble_eq_true rfl) rfl ?_
      refine V_goto (tgt := 7) (pc := 37) X dX10_count_37 (by decide) ?_
      refine V_lv [2, 3, 1, 4, 0] rfl ?_
      exact ih7 (k + 1, z + 1) ⟨(by
            try dsimp only
            all_goals omega), (by
            try dsimp only
            rw [hz]; first | exact mcF_a (by assumption) | exact mcF_c (by assumption))⟩ (by
            try dsimp only
            all_goals omega)
set_option maxHeartbeats 4000000 in
set_option maxRecDepth 100000 in
theorem c_X10_moss (l : Launch) (g : XG) (mq : Nat) (mf : Int64) (mt : Nat) (mmq : Nat) (mn : Nat) (mkq : Nat) (mcq : Nat) (mhq : Nat) (maq : Nat) (mz : Int32) (my : Int32) (mS : Int64) (mzq : Nat) (mtq : Nat) (mT : Nat) (mA : Nat) (mrq : Nat) (muq : Nat) (mF : Int64) (mZ : Int32) (moq : Nat) (mK : Int32) (mH : Int32) (mgq : Nat) (miq : Nat) (mI : Int64) (mB : Bool) (mlq : Nat) (msq : Nat) (meq : Nat) (mvq : Nat) (mm : Nat → Int32) (x : Int32) (ht : mt ≤ 6) : Kg l g yX10_moss wsX10_moss ({ frames := 2, cells := 0, slots := 0, locals := 46 } : Room) [.ref mq, .int x] [ob mq 10 [.long mf, .int (nI mt), .ref mmq, .int (nI mn), .ref mkq, .ref mcq, .ref mhq, .ref maq, .int mz, .int my, .long mS, .ref mzq, .ref mtq, .int (nI mT), .int (nI mA), .ref mrq, .ref muq, .long mF, .int mZ, .ref moq, .int mK, .int mH, .ref mgq, .ref miq, .long mI, .int (bI mB), .ref mlq, .ref msq, .ref meq, .ref mvq], ai g mmq 6 mm] (some (.int (mossF x mt mm))) := by
  refine Kg.of (cc := cX10_moss) (maxL := 2) (ret := (some .int)) (lv := [(0, .ref mq), (1, .int x)]) RX10 rfl (by decide) rfl (Nat.le_of_ble_eq_true rfl) rfl ?_
  intro p e s m below meth c A X hr
  have in10 : ∀ w ∈ u_ws RX10 TX10 30, w ∈ wsX10_moss := by decide +kernel
  refine V_aload_n (pc := 0) X dX10_moss_0 rfl 0 rfl ?_
  refine V_iload_n (pc := 1) X dX10_moss_1 rfl 1 rfl ?_
  refine V_vg (pc := 2) (nA := 1) (As := [.int x]) (rest := []) X (c_X10_isTuft l g (mq := mq) (mf := mf) (mt := mt) (mmq := mmq) (mn := mn) (mkq := mkq) (mcq := mcq) (mhq := mhq) (maq := maq) (mz := mz) (my := my) (mS := mS) (mzq := mzq) (mtq := mtq) (mT := mT) (mA := mA) (mrq := mrq) (muq := muq) (mF := mF) (mZ := mZ) (moq := moq) (mK := mK) (mH := mH) (mgq := mgq) (miq := miq) (mI := mI) (mB := mB) (mlq := mlq) (msq := msq) (meq := meq) (mvq := mvq) (x := x) (ht := by first | assumption | omega)) gX10_moss_X10_isTuft dX10_moss_2 rfl (by decide +kernel) rfl (qb := 0) rfl rfl rfl ⟨rfl, rfl⟩ ⟨Nat.le_of_ble_eq_true rfl, Nat.le_of_ble_eq_true rfl⟩ ⟨Nat.le_of_ble_eq_true rfl, Nat.le_of_ble_eq_true rfl⟩ [0] (by decide) rfl rfl (Nat.le_of_ble_eq_true rfl) (st' := [.int (bI (bel x (nI mt)))]) rfl ?_
  refine V_if_eq (tgt := 17) (pc := 5) X dX10_moss_5 (by decide) (fun c_1 => ?_) (fun c_1 => ?_)
  · skip
    have b_2 : (bel x (nI mt)) = false := bI0 c_1
    refine V_iconst (v := (-1)) (pc := 17) X dX10_moss_17 (by decide) ?_
    exact Vg_iret (pc := 18) X dX10_moss_18 hr (by simp [mossF, b_2])
  · skip
    have b_3 : (bel x (nI mt)) = true := bI1 c_1
    refine V_aload_n (pc := 8) X dX10_moss_8 rfl 0 rfl ?_
    refine V_get (C := RX10) (T := TX10) (N := 30) (ci := 10) (pc := 9) X dX10_moss_9 in10 0 rfl rfl 2 (by decide) (by decide +kernel) rfl rfl ?_
    refine V_iload_n (pc := 12) X dX10_moss_12 rfl 1 rfl ?_
    refine V_iald (v := mm x.toNatClampNeg) (pc := 13) X dX10_moss_13 1 rfl (by first | assumption | exact bel_vin (n := mt) (by omega) (by omega) (by omega) (by assumption) | exact bel_vin (n := mn) (by omega) (by omega) (by omega) (by assumption) | exact bel_vin (n := 36) (by omega) (by omega) (by omega) (by assumption)) rfl ?_
    refine V_goto (tgt := 18) (pc := 14) X dX10_moss_14 (by decide) ?_
    exact Vg_iret (pc := 18) X dX10_moss_18 hr (by simp [mossF, b_3])
set_option maxHeartbeats 4000000 in
set_option maxRecDepth 100000 in
theorem c_X10_pulls (l : Launch) (g : XG) (mq : Nat) (mf : Int64) (mt : Nat) (mmq : Nat) (mn : Nat) (mkq : Nat) (mcq : Nat) (mhq : Nat) (maq : Nat) (mz : Int32) (my : Int32) (mS : Int64) (mzq : Nat) (mtq : Nat) (mT : Nat) (mA : Nat) (mrq : Nat) (muq : Nat) (mF : Int64) (mZ : Int32) (moq : Nat) (mK : Int32) (mH : Int32) (mgq : Nat) (miq : Nat) (mI : Int64) (mB : Bool) (mlq : Nat) (msq : Nat) (meq : Nat) (mvq : Nat) (mm : Nat → Int32) (msc : Nat → Int32) (x : Int32) (y : Int32) (hx : vp_in x 36) (hy : vp_in y 6) : Kg l g yX10_pulls wsX10_pulls ({ frames := 1, cells := 0, slots := 0, locals := 23 } : Room) [.ref mq, .int x, .int y] [ob mq 10 [.long mf, .int (nI mt), .ref mmq, .int (nI mn), .ref mkq, .ref mcq, .ref mhq, .ref maq, .int mz, .int my, .long mS, .ref mzq, .ref mtq, .int (nI mT), .int (nI mA), .ref mrq, .ref muq, .long mF, .int mZ, .ref moq, .int mK, .int mH, .ref mgq, .ref miq, .long mI, .int (bI mB), .ref mlq, .ref msq, .ref meq, .ref mvq], ai g mmq 6 mm, ai g mzq 36 msc] (some (.int (msc x.toNatClampNeg - 3 * aprt x (mm y.toNatClampNeg)))) := by
  refine Kg.of (cc := cX10_pulls) (maxL := 3) (ret := (some .int)) (lv := [(0, .ref mq), (1, .int x), (2, .int y)]) RX10 rfl (by decide) rfl (Nat.le_of_ble_eq_true rfl) rfl ?_
  intro p e s m below meth c A X hr
  have in10 : ∀ w ∈ u_ws RX10 TX10 30, w ∈ wsX10_pulls := by decide +kernel
  refine V_aload_n (pc := 0) X dX10_pulls_0 rfl 0 rfl ?_
  refine V_get (C := RX10) (T := TX10) (N := 30) (ci := 10) (pc := 1) X dX10_pulls_1 in10 0 rfl rfl 11 (by decide) (by decide +kernel) rfl rfl ?_
  refine V_iload_n (pc := 4) X dX10_pulls_4 rfl 1 rfl ?_
  refine V_iald (v := msc x.toNatClampNeg) (pc := 5) X dX10_pulls_5 2 rfl (by first | assumption) rfl ?_
  refine V_iconst (v := 3) (pc := 6) X dX10_pulls_6 (by decide) ?_
  refine V_iload_n (pc := 7) X dX10_pulls_7 rfl 1 rfl ?_
  refine V_aload_n (pc := 8) X dX10_pulls_8 rfl 0 rfl ?_
  refine V_get (C := RX10) (T := TX10) (N := 30) (ci := 10) (pc := 9) X dX10_pulls_9 in10 0 rfl rfl 2 (by decide) (by decide +kernel) rfl rfl ?_
  refine V_iload_n (pc := 12) X dX10_pulls_12 rfl 2 rfl ?_
  refine V_iald (v := mm y.toNatClampNeg) (pc := 13) X dX10_pulls_13 1 rfl (by first | assumption) rfl ?_
  refine V_sg (pc := 14) (nA := 2) (As := [.int x, .int (mm y.toNatClampNeg)]) (rest := [.int 3, .int (msc x.toNatClampNeg)]) X (c_X10_apart l g (x := x) (y := mm y.toNatClampNeg) ) gX10_pulls_X10_apart dX10_pulls_14 rfl (by decide +kernel) rfl ⟨rfl, rfl⟩ ⟨Nat.le_of_ble_eq_true rfl, Nat.le_of_ble_eq_true rfl⟩ ⟨Nat.le_of_ble_eq_true rfl, Nat.le_of_ble_eq_true rfl⟩ [] (by decide) rfl rfl (Nat.le_of_ble_eq_true rfl) (st' := [.int (aprt x (mm y.toNatClampNeg)), .int 3, .int (msc x.toNatClampNeg)]) rfl ?_
  refine V_imul (pc := 17) X dX10_pulls_17 ?_
  refine V_isub (pc := 18) X dX10_pulls_18 ?_
  exact Vg_iret (pc := 19) X dX10_pulls_19 hr (by first | rfl | (simp []; done))
set_option maxHeartbeats 4000000 in
set_option maxRecDepth 100000 in
theorem c_X10_nearer (l : Launch) (g : XG) (x : Int32) (y : Int32) (hne : ¬ x = y) : Kg l g yX10_nearer wsX10_nearer ({ frames := 0, cells := 0, slots := 0, locals := 0 } : Room) [.int x, .int y] [] (some (.int (ocl x y))) := by
  refine Kg.of (cc := cX10_nearer) (maxL := 2) (ret := (some .int)) (lv := [(0, .int x), (1, .int y)]) RX10 rfl (by decide) rfl (Nat.le_of_ble_eq_true rfl) rfl ?_
  intro p e s m below meth c A X hr
  refine V_iload_n (pc := 0) X dX10_nearer_0 rfl 0 rfl ?_
  refine V_bipush (v := 6) (pc := 1) X dX10_nearer_1 (by decide) ?_
  refine V_idiv (pc := 3) X dX10_nearer_3 (by decide) ?_
  refine V_iload_n (pc := 4) X dX10_nearer_4 rfl 1 rfl ?_
  refine V_bipush (v := 6) (pc := 5) X dX10_nearer_5 (by decide) ?_
  refine V_idiv (pc := 7) X dX10_nearer_7 (by decide) ?_
  refine V_icmp_eq (tgt := 28) (pc := 8) X dX10_nearer_8 (by decide) (fun c_1 => ?_) (fun c_1 => ?_)
  · skip
    refine V_iload_n (pc := 28) X dX10_nearer_28 rfl 0 rfl ?_
    refine V_iload_n (pc := 29) X dX10_nearer_29 rfl 1 rfl ?_
    refine V_icmp_le (tgt := 39) (pc := 30) X dX10_nearer_30 (by decide) (fun c_2 => ?_) (fun c_2 => ?_)
    · skip
      refine V_iload_n (pc := 39) X dX10_nearer_39 rfl 0 rfl ?_
      refine V_iconst (v := 1) (pc := 40) X dX10_nearer_40 (by decide) ?_
      refine V_iadd (pc := 41) X dX10_nearer_41 ?_
      exact Vg_iret (pc := 42) X dX10_nearer_42 hr (by rw [← near_ocl hne]; simp [c_1, c_2])
    · skip
      refine V_iload_n (pc := 33) X dX10_nearer_33 rfl 0 rfl ?_
      refine V_iconst (v := 1) (pc := 34) X dX10_nearer_34 (by decide) ?_
      refine V_isub (pc := 35) X dX10_nearer_35 ?_
      refine V_goto (tgt := 42) (pc := 36) X dX10_nearer_36 (by decide) ?_
      exact Vg_iret (pc := 42) X dX10_nearer_42 hr (by rw [← near_ocl hne]; simp [c_1, c_2])
  · skip
    refine V_iload_n (pc := 11) X dX10_nearer_11 rfl 0 rfl ?_
    refine V_iload_n (pc := 12) X dX10_nearer_12 rfl 1 rfl ?_
    refine V_icmp_le (tgt := 23) (pc := 13) X dX10_nearer_13 (by decide) (fun c_3 => ?_) (fun c_3 => ?_)
    · skip
      refine V_iload_n (pc := 23) X dX10_nearer_23 rfl 0 rfl ?_
      refine V_bipush (v := 6) (pc := 24) X dX10_nearer_24 (by decide) ?_
      refine V_iadd (pc := 26) X dX10_nearer_26 ?_
      exact Vg_iret (pc := 27) X dX10_nearer_27 hr (by rw [← near_ocl hne]; simp [c_1, c_3])
    · skip
      refine V_iload_n (pc := 16) X dX10_nearer_16 rfl 0 rfl ?_
      refine V_bipush (v := 6) (pc := 17) X dX10_nearer_17 (by decide) ?_
      refine V_isub (pc := 19) X dX10_nearer_19 ?_
      refine V_goto (tgt := 27) (pc := 20) X dX10_nearer_20 (by decide) ?_
      exact Vg_iret (pc := 27) X dX10_nearer_27 hr (by rw [← near_ocl hne]; simp [c_1, c_3])
set_option maxHeartbeats 4000000 in
set_option maxRecDepth 100000 in
theorem c_X10_walks (l : Launch) (g : XG) (mq : Nat) (mf : Int64) (mt : Nat) (mmq : Nat) (mn : Nat) (mkq : Nat) (mcq : Nat) (mhq : Nat) (maq : Nat) (mz : Int32) (my : Int32) (mS : Int64) (mzq : Nat) (mtq : Nat) (mT : Nat) (mA : Nat) (mrq : Nat) (muq : Nat) (mF : Int64) (mZ : Int32) (moq : Nat) (mK : Int32) (mH : Int32) (mgq : Nat) (miq : Nat) (mI : Int64) (mB : Bool) (mlq : Nat) (msq : Nat) (meq : Nat) (mvq : Nat) (aq9 : Nat) (a9 : Nat → Int32) (f : Int64) (z : Int32) (x : Int32) (ht : mt ≤ 6) : Kg l g yX10_walks wsX10_walks ({ frames := 0, cells := 0, slots := 0, locals := 0 } : Room) [.ref mq, .long f, .int z, .ref aq9, .int x] [ob mq 10 [.long mf, .int (nI mt), .ref mmq, .int (nI mn), .ref mkq, .ref mcq, .ref mhq, .ref maq, .int mz, .int my, .long mS, .ref mzq, .ref mtq, .int (nI mT), .int (nI mA), .ref mrq, .ref muq, .long mF, .int mZ, .ref moq, .int mK, .int mH, .ref mgq, .ref miq, .long mI, .int (bI mB), .ref mlq, .ref msq, .ref meq, .ref mvq], ai g aq9 6 a9] (some (.long (wkX z f a9 mt x))) := by
  refine Kg.of (cc := cX10_walks) (maxL := 9) (ret := (some .long)) (lv := [(0, .ref mq), (1, .long f), (3, .int z), (4, .ref aq9), (5, .int x)]) RX10 rfl (by decide) rfl (Nat.le_of_ble_eq_true rfl) rfl ?_
  intro p e s m below meth c A X hr
  have in10 : ∀ w ∈ u_ws RX10 TX10 30, w ∈ wsX10_walks := by decide +kernel
  refine V_lload_n (pc := 0) X dX10_walks_0 rfl 1 rfl ?_
  refine V_lstore (lv' := [(6, .long f), (0, .ref mq), (1, .long f), (3, .int z), (4, .ref aq9), (5, .int x)]) (pc := 1) X dX10_walks_1 (Nat.le_of_ble_eq_true rfl) rfl ?_
  refine V_iconst (v := 0) (pc := 3) X dX10_walks_3 (by decide) ?_
  refine V_istore (lv' := [(8, .int 0), (6, .long f), (0, .ref mq), (1, .long f), (3, .int z), (4, .ref aq9), (5, .int x)]) (pc := 4) X dX10_walks_4 (Nat.le_of_ble_eq_true rfl) rfl ?_
  refine V_loop (pc := 6) (σ := Nat × Int64) (fun v9 => [(0, .ref mq), (3, .int z), (4, .ref aq9), (5, .int x), (6, .long v9.2), (8, .int (nI v9.1))]) (fun v9 => [ob mq 10 [.long mf, .int (nI mt), .ref mmq, .int (nI mn), .ref mkq, .ref mcq, .ref mhq, .ref maq, .int mz, .int my, .long mS, .ref mzq, .ref mtq, .int (nI mT), .int (nI mA), .ref mrq, .ref muq, .long mF, .int mZ, .ref moq, .int mK, .int mH, .ref mgq, .ref miq, .long mI, .int (bI mB), .ref mlq, .ref msq, .ref meq, .ref mvq], ai g aq9 6 a9]) (fun v9 => (v9.1 ≤ mt) ∧ (v9.2 = wkF f a9 x v9.1)) (fun v9 => mt - v9.1) (0, f) ⟨(by
        try dsimp only
        all_goals omega), (by
        try dsimp only
        all_goals rfl)⟩ rfl [2, 4, 5, 6, 1, 0] rfl ?_
  rintro ⟨k, v⟩ ⟨hk, hv⟩ ih6
  try dsimp only at hk
  try dsimp only at hv
  refine V_eqw (ws2 := [ob mq 10 [.long mf, .int (nI mt), .ref mmq, .int (nI mn), .ref mkq, .ref mcq, .ref mhq, .ref maq, .int mz, .int my, .long mS, .ref mzq, .ref mtq, .int (nI mT), .int (nI mA), .ref mrq, .ref muq, .long mF, .int mZ, .ref moq, .int mK, .int mH, .ref mgq, .ref miq, .long mI, .int (bI mB), .ref mlq, .ref msq, .ref meq, .ref mvq], ai g aq9 6 a9]) rfl (V_eql (lv' := [(0, .ref mq), (3, .int z), (4, .ref aq9), (5, .int x), (6, .long v), (8, .int (nI k))]) rfl ?_)
  refine V_iload (pc := 6) X dX10_walks_6 5 rfl ?_
  refine V_aload_n (pc := 8) X dX10_walks_8 rfl 0 rfl ?_
  refine V_get (C := RX10) (T := TX10) (N := 30) (ci := 10) (pc := 9) X dX10_walks_9 in10 0 rfl rfl 1 (by decide) (by decide +kernel) rfl rfl ?_
  refine V_icmp_ge (tgt := 44) (pc := 12) X dX10_walks_12 (by decide) (fun c_1 => ?_) (fun c_1 => ?_)
  · skip
    have n_2 : mt ≤ k := nJ_le (a := mt) (b := k) (by omega) (by omega) c_1
    refine V_iload_n (pc := 44) X dX10_walks_44 rfl 1 rfl ?_
    refine V_if_le (tgt := 54) (pc := 45) X dX10_walks_45 (by decide) (fun c_3 => ?_) (fun c_3 => ?_)
    · skip
      refine V_lload (pc := 54) X dX10_walks_54 4 rfl ?_
      exact Vg_lret (pc := 56) X dX10_walks_56 hr (by first | (rw [hv, show k = mt by omega]; simp [wkX, *]; done) | (simp [wkX, *]; done))
    · skip
      refine V_ldc2 (v := 68719476735) (pc := 48) X dX10_walks_48 (by decide +kernel) ?_
      refine V_goto (tgt := 56) (pc := 51) X dX10_walks_51 (by decide) ?_
      exact Vg_lret (pc := 56) X dX10_walks_56 hr (by first | (rw [hv, show k = mt by omega]; simp [wkX, *]; done) | (simp [wkX, *]; done))
  · skip
    have n_4 : k < mt := nJ_nle (a := mt) (b := k) (by omega) (by omega) c_1
    refine V_lload (pc := 15) X dX10_walks_15 4 rfl ?_
    refine V_iload (pc := 17) X dX10_walks_17 5 rfl ?_
    refine V_iload (pc := 19) X dX10_walks_19 3 rfl ?_
    refine V_icmp_ne (tgt := 28) (pc := 21) X dX10_walks_21 (by decide) (fun c_5 => ?_) (fun c_5 => ?_)
    · skip
      refine V_lconst (v := 1) (pc := 28) X dX10_walks_28 (by decide) ?_
      refine V_aload (pc := 29) X dX10_walks_29 2 rfl ?_
      refine V_iload (pc := 31) X dX10_walks_31 5 rfl ?_
      refine V_iald (v := a9 k) (pc := 33) X dX10_walks_33 1 rfl (vp_in_nI (by omega) (by omega)) (by rw [nI_clamp (by omega)]) ?_
      refine V_lshl (pc := 34) X dX10_walks_34 ?_
      refine V_setl (y := bitI (a9 k)) rfl ?_
      refine V_lor (pc := 35) X dX10_walks_35 ?_
      refine V_lstore (lv' := [(6, .long (v ||| (bitI (a9 k)))), (0, .ref mq), (3, .int z), (4, .ref aq9), (5, .int x), (8, .int (nI k))]) (pc := 36) X dX10_walks_36 (Nat.le_of_ble_eq_true rfl) rfl ?_
      refine V_iinc (v := nI (k + 1)) (lv' := [(8, .int (nI (k + 1))), (6, .long (v ||| (bitI (a9 k)))), (0, .ref mq), (3, .int z), (4, .ref aq9), (5, .int x)]) (pc := 38) X dX10_walks_38 5 rfl (nI_add k 1) (Nat.le_of_ble_eq_true rfl) rfl ?_
      refine V_goto (tgt := 6) (pc := 41) X dX10_walks_41 (by decide) ?_
      refine V_lv [2, 3, 4, 5, 1, 0] rfl ?_
      exact ih6 (k + 1, v ||| (bitI (a9 k))) ⟨(by
            try dsimp only
            all_goals omega), (by
            try dsimp only
            first | exact (or64_0 _).trans (hv.trans (wkF_a (by assumption))) | (rw [hv]; exact wkF_c (by assumption)))⟩ (by
            try dsimp only
            all_goals omega)
    · skip
      refine V_lconst (v := 0) (pc := 24) X dX10_walks_24 (by decide) ?_
      refine V_goto (tgt := 35) (pc := 25) X dX10_walks_25 (by decide) ?_
      refine V_lor (pc := 35) X dX10_walks_35 ?_
      refine V_lstore (lv' := [(6, .long (v ||| 0)), (0, .ref mq), (3, .int z), (4, .ref aq9), (5, .int x), (8, .int (nI k))]) (pc := 36) X dX10_walks_36 (Nat.le_of_ble_eq_true rfl) rfl ?_
      refine V_iinc (v := nI (k + 1)) (lv' := [(8, .int (nI (k + 1))), (6, .long (v ||| 0)), (0, .ref mq), (3, .int z), (4, .ref aq9), (5, .int x)]) (pc := 38) X dX10_walks_38 5 rfl (nI_add k 1) (Nat.le_of_ble_eq_true rfl) rfl ?_
      refine V_goto (tgt := 6) (pc := 41) X dX10_walks_41 (by decide) ?_
      refine V_lv [2, 3, 4, 5, 1, 0] rfl ?_
      exact ih6 (k + 1, v ||| 0) ⟨(by
            try dsimp only
            all_goals omega), (by
            try dsimp only
            first | exact (or64_0 _).trans (hv.trans (wkF_a (by assumption))) | (rw [hv]; exact wkF_c (by assumption)))⟩ (by
            try dsimp only
            all_goals omega)
set_option maxHeartbeats 4000000 in
set_option maxRecDepth 100000 in
theorem c_X10_spreads (l : Launch) (g : XG) (w : Int64)  : Kg l g yX10_spreads wsX10_spreads ({ frames := 0, cells := 0, slots := 0, locals := 0 } : Room) [.long w] [] (some (.long (sprF w))) := by
  refine Kg.of (cc := cX10_spreads) (maxL := 2) (ret := (some .long)) (lv := [(0, .long w)]) RX10 rfl (by decide) rfl (Nat.le_of_ble_eq_true rfl) rfl ?_
  intro p e s m below meth c A X hr
  refine V_lload_n (pc := 0) X dX10_spreads_0 rfl 0 rfl ?_
  refine V_lload_n (pc := 1) X dX10_spreads_1 rfl 0 rfl ?_
  refine V_bipush (v := 6) (pc := 2) X dX10_spreads_2 (by decide) ?_
  refine V_lshl (pc := 4) X dX10_spreads_4 ?_
  refine V_lor (pc := 5) X dX10_spreads_5 ?_
  refine V_lload_n (pc := 6) X dX10_spreads_6 rfl 0 rfl ?_
  refine V_bipush (v := 6) (pc := 7) X dX10_spreads_7 (by decide) ?_
  refine V_lshr (pc := 9) X dX10_spreads_9 ?_
  refine V_lor (pc := 10) X dX10_spreads_10 ?_
  refine V_lload_n (pc := 11) X dX10_spreads_11 rfl 0 rfl ?_
  refine V_ldc2 (v := (-34905131041)) (pc := 12) X dX10_spreads_12 (by decide +kernel) ?_
  refine V_land (pc := 15) X dX10_spreads_15 ?_
  refine V_iconst (v := 1) (pc := 16) X dX10_spreads_16 (by decide) ?_
  refine V_lshl (pc := 17) X dX10_spreads_17 ?_
  refine V_lor (pc := 18) X dX10_spreads_18 ?_
  refine V_lload_n (pc := 19) X dX10_spreads_19 rfl 0 rfl ?_
  refine V_ldc2 (v := (-1090785346)) (pc := 20) X dX10_spreads_20 (by decide +kernel) ?_
  refine V_land (pc := 23) X dX10_spreads_23 ?_
  refine V_iconst (v := 1) (pc := 24) X dX10_spreads_24 (by decide) ?_
  refine V_lshr (pc := 25) X dX10_spreads_25 ?_
  refine V_lor (pc := 26) X dX10_spreads_26 ?_
  refine V_ldc2 (v := 68719476735) (pc := 27) X dX10_spreads_27 (by decide +kernel) ?_
  refine V_land (pc := 30) X dX10_spreads_30 ?_
  exact Vg_lret (pc := 31) X dX10_spreads_31 hr (by rfl)
set_option maxHeartbeats 4000000 in
set_option maxRecDepth 100000 in
theorem c_X10_steps (l : Launch) (g : XG) (w : Int64) (x : Int32) (y : Int32) (hx : vp_in x 36) (hy : vp_in y 36) : Kg l g yX10_steps wsX10_steps ({ frames := 1, cells := 0, slots := 0, locals := 22 } : Room) [.long w, .int x, .int y] [] (some (.int (stX w x y))) := by
  refine Kg.of (cc := cX10_steps) (maxL := 7) (ret := (some .int)) (lv := [(0, .long w), (2, .int x), (3, .int y)]) RX10 rfl (by decide) rfl (Nat.le_of_ble_eq_true rfl) rfl ?_
  intro p e s m below meth c A X hr
  refine V_lload_n (pc := 0) X dX10_steps_0 rfl 0 rfl ?_
  refine V_iload_n (pc := 1) X dX10_steps_1 rfl 1 rfl ?_
  refine V_sg (pc := 2) (nA := 2) (As := [.long w, .int x]) (rest := []) X (c_X10_has l g (f := w) (x := x) (hx := by first | assumption | omega)) gX10_steps_X10_has dX10_steps_2 rfl (by decide +kernel) rfl ⟨rfl, rfl⟩ ⟨Nat.le_of_ble_eq_true rfl, Nat.le_of_ble_eq_true rfl⟩ ⟨Nat.le_of_ble_eq_true rfl, Nat.le_of_ble_eq_true rfl⟩ [] (by decide) rfl rfl (Nat.le_of_ble_eq_true rfl) (st' := [.int (bI (firmB w x))]) rfl ?_
  refine V_if_eq (tgt := 16) (pc := 5) X dX10_steps_5 (by decide) (fun c_1 => ?_) (fun c_1 => ?_)
  · skip
    have b_2 : (firmB w x) = false := bI0 c_1
    refine V_bipush (v := (-4)) (pc := 16) X dX10_steps_16 (by decide) ?_
    exact Vg_iret (pc := 18) X dX10_steps_18 hr (by rw [← stM_eq hx]; simp [stM, b_2])
  · skip
    have b_3 : (firmB w x) = true := bI1 c_1
    refine V_lload_n (pc := 8) X dX10_steps_8 rfl 0 rfl ?_
    refine V_iload_n (pc := 9) X dX10_steps_9 rfl 2 rfl ?_
    refine V_sg (pc := 10) (nA := 2) (As := [.long w, .int y]) (rest := []) X (c_X10_has l g (f := w) (x := y) (hx := by first | assumption | omega)) gX10_steps_X10_has dX10_steps_10 rfl (by decide +kernel) rfl ⟨rfl, rfl⟩ ⟨Nat.le_of_ble_eq_true rfl, Nat.le_of_ble_eq_true rfl⟩ ⟨Nat.le_of_ble_eq_true rfl, Nat.le_of_ble_eq_true rfl⟩ [] (by decide) rfl rfl (Nat.le_of_ble_eq_true rfl) (st' := [.int (bI (firmB w y))]) rfl ?_
    refine V_if_ne (tgt := 19) (pc := 13) X dX10_steps_13 (by decide) (fun c_4 => ?_) (fun c_4 => ?_)
    · skip
      have b_5 : (firmB w y) = true := bI1 c_4
      refine V_lconst (v := 1) (pc := 19) X dX10_steps_19 (by decide) ?_
      refine V_iload_n (pc := 20) X dX10_steps_20 rfl 1 rfl ?_
      refine V_lshl (pc := 21) X dX10_steps_21 ?_
      refine V_setl (y := bitI x) rfl ?_
      refine V_lstore (lv' := [(4, .long (bitI x)), (0, .long w), (2, .int x), (3, .int y)]) (pc := 22) X dX10_steps_22 (Nat.le_of_ble_eq_true rfl) rfl ?_
      refine V_iconst (v := 0) (pc := 24) X dX10_steps_24 (by decide) ?_
      refine V_istore (lv' := [(6, .int 0), (4, .long (bitI x)), (0, .long w), (2, .int x), (3, .int y)]) (pc := 25) X dX10_steps_25 (Nat.le_of_ble_eq_true rfl) rfl ?_
      refine V_loop (pc := 27) (σ := Nat × Int64) (fun v9 => [(0, .long w), (2, .int x), (3, .int y), (4, .long v9.2), (6, .int (nI v9.1))]) (fun v9 => []) (fun v9 => (v9.1 ≤ 36) ∧ (smF w y (36 - v9.1) v9.1 v9.2 = stX w x y)) (fun v9 => 36 - v9.1) (0, bitI x) ⟨(by
            try dsimp only
            all_goals omega), (by
            try dsimp only
            rw [← stM_eq hx]; simp [stM, b_3, b_5])⟩ rfl [2, 3, 4, 1, 0] rfl ?_
      rintro ⟨k, z⟩ ⟨hk, hz⟩ ih27
      try dsimp only at hk
      try dsimp only at hz
      refine V_eqw (ws2 := []) rfl (V_eql (lv' := [(0, .long w), (2, .int x), (3, .int y), (4, .long z), (6, .int (nI k))]) rfl ?_)
      refine V_iload (pc := 27) X dX10_steps_27 4 rfl ?_
      refine V_bipush (v := 36) (pc := 29) X dX10_steps_29 (by decide) ?_
      refine V_icmp_ge (tgt := 61) (pc := 31) X dX10_steps_31 (by decide) (fun c_6 => ?_) (fun c_6 => ?_)
      · skip
        have n_7 : 36 ≤ k := nJ_le (a := 36) (b := k) (by omega) (by omega) c_6
        refine V_bipush (v := (-4)) (pc := 61) X dX10_steps_61 (by decide) ?_
        exact Vg_iret (pc := 63) X dX10_steps_63 hr (by (rw [← hz, show 36 - k = 0 by omega]; rfl))
      · skip
        have n_8 : k < 36 := nJ_nle (a := 36) (b := k) (by omega) (by omega) c_6
        refine V_lload (pc := 34) X dX10_steps_34 3 rfl ?_
        refine V_iload_n (pc := 36) X dX10_steps_36 rfl 2 rfl ?_
        refine V_sg (pc := 37) (nA := 2) (As := [.long z, .int y]) (rest := []) X (c_X10_has l g (f := z) (x := y) (hx := by first | assumption | omega)) gX10_steps_X10_has dX10_steps_37 rfl (by decide +kernel) rfl ⟨rfl, rfl⟩ ⟨Nat.le_of_ble_eq_true rfl, Nat.le_of_ble_eq_true rfl⟩ ⟨Nat.le_of_ble_eq_true rfl, Nat.le_of_ble_eq_true rfl⟩ [] (by decide) rfl rfl (Nat.le_of_ble_eq_true rfl) (st' := [.int (bI (firmB z y))]) rfl ?_
        refine V_if_eq (tgt := 46) (pc := 40) X dX10_steps_40 (by decide) (fun c_9 => ?_) (fun c_9 => ?_)
        · skip
          have b_10 : (firmB z y) = false := bI0 c_9
          refine V_lload (pc := 46) X dX10_steps_46 3 rfl ?_
          refine V_sg (pc := 48) (nA := 1) (As := [.long z]) (rest := []) X (c_X10_spreads l g (w := z) ) gX10_steps_X10_spreads dX10_steps_48 rfl (by decide +kernel) rfl ⟨rfl, rfl⟩ ⟨Nat.le_of_ble_eq_true rfl, Nat.le_of_ble_eq_true rfl⟩ ⟨Nat.le_of_ble_eq_true rfl, Nat.le_of_ble_eq_true rfl⟩ [] (by decide) rfl rfl (Nat.le_of_ble_eq_true rfl) (st' := [.long (sprF z)]) rfl ?_
          refine V_lload_n (pc := 51) X dX10_steps_51 rfl 0 rfl ?_
          refine V_land (pc := 52) X dX10_steps_52 ?_
          refine V_lstore (lv' := [(4, .long ((sprF z) &&& w)), (0, .long w), (2, .int x), (3, .int y), (6, .int (nI k))]) (pc := 53) X dX10_steps_53 (Nat.le_of_ble_eq_true rfl) rfl ?_
          refine V_iinc (v := nI (k + 1)) (lv' := [(6, .int (nI (k + 1))), (4, .long ((sprF z) &&& w)), (0, .long w), (2, .int x), (3, .int y)]) (pc := 55) X dX10_steps_55 4 rfl (nI_add k 1) (Nat.le_of_ble_eq_true rfl) rfl ?_
          refine V_goto (tgt := 27) (pc := 58) X dX10_steps_58 (by decide) ?_
          refine V_lv [2, 3, 4, 1, 0] rfl ?_
          exact ih27 (k + 1, (sprF z) &&& w) ⟨(by
                try dsimp only
                all_goals omega), (by
                try dsimp only
                rw [← hz, show 36 - k = (36 - (k + 1)) + 1 by omega, smF, if_neg (by rw [show firmB z y = false by assumption]; decide)])⟩ (by
                try dsimp only
                all_goals omega)
        · skip
          have b_11 : (firmB z y) = true := bI1 c_9
          refine V_iload (pc := 43) X dX10_steps_43 4 rfl ?_
          exact Vg_iret (pc := 45) X dX10_steps_45 hr (by rw [← hz, show 36 - k = (36 - (k + 1)) + 1 by omega, smF, if_pos (by assumption)])
    · skip
      have b_12 : (firmB w y) = false := bI0 c_4
      refine V_bipush (v := (-4)) (pc := 16) X dX10_steps_16 (by decide) ?_
      exact Vg_iret (pc := 18) X dX10_steps_18 hr (by rw [← stM_eq hx]; simp [stM, b_3, b_12])
set_option maxHeartbeats 4000000 in
set_option maxRecDepth 100000 in
theorem c_X10_now (l : Launch) (g : XG) (mq : Nat) (mf : Int64) (mt : Nat) (mmq : Nat) (mn : Nat) (mkq : Nat) (mcq : Nat) (mhq : Nat) (maq : Nat) (mz : Int32) (my : Int32) (mS : Int64) (mzq : Nat) (mtq : Nat) (mT : Nat) (mA : Nat) (mrq : Nat) (muq : Nat) (mF : Int64) (mZ : Int32) (moq : Nat) (mK : Int32) (mH : Int32) (mgq : Nat) (miq : Nat) (mI : Int64) (mB : Bool) (mlq : Nat) (msq : Nat) (meq : Nat) (mvq : Nat) (mm : Nat → Int32) (ht : mt ≤ 6) : Kg l g yX10_now wsX10_now ({ frames := 1, cells := 0, slots := 0, locals := 28 } : Room) [.ref mq] [ob mq 10 [.long mf, .int (nI mt), .ref mmq, .int (nI mn), .ref mkq, .ref mcq, .ref mhq, .ref maq, .int mz, .int my, .long mS, .ref mzq, .ref mtq, .int (nI mT), .int (nI mA), .ref mrq, .ref muq, .long mF, .int mZ, .ref moq, .int mK, .int mH, .ref mgq, .ref miq, .long mI, .int (bI mB), .ref mlq, .ref msq, .ref meq, .ref mvq], ai g mmq 6 mm] (some (.long (wkX mz mf mm mt (-1)))) := by
  refine Kg.of (cc := cX10_now) (maxL := 1) (ret := (some .long)) (lv := [(0, .ref mq)]) RX10 rfl (by decide) rfl (Nat.le_of_ble_eq_true rfl) rfl ?_
  intro p e s m below meth c A X hr
  have in10 : ∀ w ∈ u_ws RX10 TX10 30, w ∈ wsX10_now := by decide +kernel
  refine V_aload_n (pc := 0) X dX10_now_0 rfl 0 rfl ?_
  refine V_aload_n (pc := 1) X dX10_now_1 rfl 0 rfl ?_
  refine V_get (C := RX10) (T := TX10) (N := 30) (ci := 10) (pc := 2) X dX10_now_2 in10 0 rfl rfl 0 (by decide) (by decide +kernel) rfl rfl ?_
  refine V_aload_n (pc := 5) X dX10_now_5 rfl 0 rfl ?_
  refine V_get (C := RX10) (T := TX10) (N := 30) (ci := 10) (pc := 6) X dX10_now_6 in10 0 rfl rfl 8 (by decide) (by decide +kernel) rfl rfl ?_
  refine V_aload_n (pc := 9) X dX10_now_9 rfl 0 rfl ?_
  refine V_get (C := RX10) (T := TX10) (N := 30) (ci := 10) (pc := 10) X dX10_now_10 in10 0 rfl rfl 2 (by decide) (by decide +kernel) rfl rfl ?_
  refine V_iconst (v := (-1)) (pc := 13) X dX10_now_13 (by decide) ?_
  refine V_vg (pc := 14) (nA := 4) (As := [.long mf, .int mz, .ref mmq, .int (-1)]) (rest := []) X (c_X10_walks l g (mq := mq) (mf := mf) (mt := mt) (mmq := mmq) (mn := mn) (mkq := mkq) (mcq := mcq) (mhq := mhq) (maq := maq) (mz := mz) (my := my) (mS := mS) (mzq := mzq) (mtq := mtq) (mT := mT) (mA := mA) (mrq := mrq) (muq := muq) (mF := mF) (mZ := mZ) (moq := moq) (mK := mK) (mH := mH) (mgq := mgq) (miq := miq) (mI := mI) (mB := mB) (mlq := mlq) (msq := msq) (meq := meq) (mvq := mvq) (aq9 := mmq) (a9 := mm) (f := mf) (z := mz) (x := (-1)) (ht := by first | assumption | omega)) gX10_now_X10_walks dX10_now_14 rfl (by decide +kernel) rfl (qb := 0) rfl rfl rfl ⟨rfl, rfl⟩ ⟨Nat.le_of_ble_eq_true rfl, Nat.le_of_ble_eq_true rfl⟩ ⟨Nat.le_of_ble_eq_true rfl, Nat.le_of_ble_eq_true rfl⟩ [0, 1] (by decide) rfl rfl (Nat.le_of_ble_eq_true rfl) (st' := [.long (wkX mz mf mm mt (-1))]) rfl ?_
  exact Vg_lret (pc := 17) X dX10_now_17 hr (by first | rfl | (simp []; done))
set_option maxHeartbeats 4000000 in
set_option maxRecDepth 100000 in
theorem c_X10_way (l : Launch) (g : XG) (mq : Nat) (mf : Int64) (mt : Nat) (mmq : Nat) (mn : Nat) (mkq : Nat) (mcq : Nat) (mhq : Nat) (maq : Nat) (mz : Int32) (my : Int32) (mS : Int64) (mzq : Nat) (mtq : Nat) (mT : Nat) (mA : Nat) (mrq : Nat) (muq : Nat) (mF : Int64) (mZ : Int32) (moq : Nat) (mK : Int32) (mH : Int32) (mgq : Nat) (miq : Nat) (mI : Int64) (mB : Bool) (mlq : Nat) (msq : Nat) (meq : Nat) (mvq : Nat) (mm : Nat → Int32) (x : Int32) (y : Int32) (ht : mt ≤ 6) : Kg l g yX10_way wsX10_way ({ frames := 2, cells := 0, slots := 0, locals := 48 } : Room) [.ref mq, .int x, .int y] [ob mq 10 [.long mf, .int (nI mt), .ref mmq, .int (nI mn), .ref mkq, .ref mcq, .ref mhq, .ref maq, .int mz, .int my, .long mS, .ref mzq, .ref mtq, .int (nI mT), .int (nI mA), .ref mrq, .ref muq, .long mF, .int mZ, .ref moq, .int mK, .int mH, .ref mgq, .ref miq, .long mI, .int (bI mB), .ref mlq, .ref msq, .ref meq, .ref mvq], ai g mmq 6 mm] (some (.int (wayF x y (wkX mz mf mm mt (-1))))) := by
  refine Kg.of (cc := cX10_way) (maxL := 3) (ret := (some .int)) (lv := [(0, .ref mq), (1, .int x), (2, .int y)]) RX10 rfl (by decide) rfl (Nat.le_of_ble_eq_true rfl) rfl ?_
  intro p e s m below meth c A X hr
  refine V_iload_n (pc := 0) X dX10_way_0 rfl 1 rfl ?_
  refine V_i2l (pc := 1) X dX10_way_1 ?_
  refine V_sg (pc := 2) (nA := 1) (As := [.long x.toInt64]) (rest := []) X (c_X10_isCell l g (v := x.toInt64) ) gX10_way_X10_isCell dX10_way_2 rfl (by decide +kernel) rfl ⟨rfl, rfl⟩ ⟨Nat.le_of_ble_eq_true rfl, Nat.le_of_ble_eq_true rfl⟩ ⟨Nat.le_of_ble_eq_true rfl, Nat.le_of_ble_eq_true rfl⟩ [] (by decide) rfl rfl (Nat.le_of_ble_eq_true rfl) (st' := [.int (bI (inJ x.toInt64 0 35))]) rfl ?_
  refine V_seti (y := bI (bel x 36)) (congrArg bI (inJ_bel 35 (by decide) (by decide))) ?_
  refine V_if_eq (tgt := 28) (pc := 5) X dX10_way_5 (by decide) (fun c_1 => ?_) (fun c_1 => ?_)
  · skip
    have b_2 : (bel x 36) = false := bI0 c_1
    refine V_iconst (v := (-1)) (pc := 28) X dX10_way_28 (by decide) ?_
    exact Vg_iret (pc := 29) X dX10_way_29 hr (by simp [wayF, b_2])
  · skip
    have b_3 : (bel x 36) = true := bI1 c_1
    refine V_iload_n (pc := 8) X dX10_way_8 rfl 2 rfl ?_
    refine V_i2l (pc := 9) X dX10_way_9 ?_
    refine V_sg (pc := 10) (nA := 1) (As := [.long y.toInt64]) (rest := []) X (c_X10_isCell l g (v := y.toInt64) ) gX10_way_X10_isCell dX10_way_10 rfl (by decide +kernel) rfl ⟨rfl, rfl⟩ ⟨Nat.le_of_ble_eq_true rfl, Nat.le_of_ble_eq_true rfl⟩ ⟨Nat.le_of_ble_eq_true rfl, Nat.le_of_ble_eq_true rfl⟩ [] (by decide) rfl rfl (Nat.le_of_ble_eq_true rfl) (st' := [.int (bI (inJ y.toInt64 0 35))]) rfl ?_
    refine V_seti (y := bI (bel y 36)) (congrArg bI (inJ_bel 35 (by decide) (by decide))) ?_
    refine V_if_eq (tgt := 28) (pc := 13) X dX10_way_13 (by decide) (fun c_4 => ?_) (fun c_4 => ?_)
    · skip
      have b_5 : (bel y 36) = false := bI0 c_4
      refine V_iconst (v := (-1)) (pc := 28) X dX10_way_28 (by decide) ?_
      exact Vg_iret (pc := 29) X dX10_way_29 hr (by simp [wayF, b_3, b_5])
    · skip
      have b_6 : (bel y 36) = true := bI1 c_4
      refine V_aload_n (pc := 16) X dX10_way_16 rfl 0 rfl ?_
      refine V_vg (pc := 17) (nA := 0) (As := []) (rest := []) X (c_X10_now l g (mq := mq) (mf := mf) (mt := mt) (mmq := mmq) (mn := mn) (mkq := mkq) (mcq := mcq) (mhq := mhq) (maq := maq) (mz := mz) (my := my) (mS := mS) (mzq := mzq) (mtq := mtq) (mT := mT) (mA := mA) (mrq := mrq) (muq := muq) (mF := mF) (mZ := mZ) (moq := moq) (mK := mK) (mH := mH) (mgq := mgq) (miq := miq) (mI := mI) (mB := mB) (mlq := mlq) (msq := msq) (meq := meq) (mvq := mvq) (mm := mm) (ht := by first | assumption | omega)) gX10_way_X10_now dX10_way_17 rfl (by decide +kernel) rfl (qb := 0) rfl rfl rfl ⟨rfl, rfl⟩ ⟨Nat.le_of_ble_eq_true rfl, Nat.le_of_ble_eq_true rfl⟩ ⟨Nat.le_of_ble_eq_true rfl, Nat.le_of_ble_eq_true rfl⟩ [0, 1] (by decide) rfl rfl (Nat.le_of_ble_eq_true rfl) (st' := [.long (wkX mz mf mm mt (-1))]) rfl ?_
      refine V_iload_n (pc := 20) X dX10_way_20 rfl 1 rfl ?_
      refine V_iload_n (pc := 21) X dX10_way_21 rfl 2 rfl ?_
      refine V_sg (pc := 22) (nA := 3) (As := [.long (wkX mz mf mm mt (-1)), .int x, .int y]) (rest := []) X (c_X10_steps l g (w := wkX mz mf mm mt (-1)) (x := x) (y := y) (hx := by exact bel_vin (n := 36) (by omega) (by omega) (by omega) (by assumption)) (hy := by exact bel_vin (n := 36) (by omega) (by omega) (by omega) (by assumption))) gX10_way_X10_steps dX10_way_22 rfl (by decide +kernel) rfl ⟨rfl, rfl⟩ ⟨Nat.le_of_ble_eq_true rfl, Nat.le_of_ble_eq_true rfl⟩ ⟨Nat.le_of_ble_eq_true rfl, Nat.le_of_ble_eq_true rfl⟩ [] (by decide) rfl rfl (Nat.le_of_ble_eq_true rfl) (st' := [.int (stX (wkX mz mf mm mt (-1)) x y)]) rfl ?_
      refine V_goto (tgt := 29) (pc := 25) X dX10_way_25 (by decide) ?_
      exact Vg_iret (pc := 29) X dX10_way_29 hr (by simp [wayF, b_3, b_6])
