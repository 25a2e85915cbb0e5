set_option maxHeartbeats 4000000 in
set_option maxRecDepth 100000 in
theorem c_X9_isTuft (l : Launch) (g : XG) (xq : Nat) (tq : Nat) (wq : Nat) (vq : Nat) (xi : Bool) (fq : Nat) (dq : Nat) (kq : Nat) (xsq : Nat) (wbq : Nat) (waq : Nat) (wy : Int32) (wbf : Int64) (wbt : Nat) (wbz : Int32) (wbmq : Nat) (wbm : Nat → Int32) (x : Int32)  : Kg l g yX9_isTuft wsX9_isTuft ({ frames := 1, cells := 0, slots := 0, locals := 21 } : Room) [.ref xq, .int x] [ob xq 9 [.ref tq, .ref wq, .ref vq, .int (bI xi), .ref fq, .ref dq, .ref kq, .ref xsq], ob wq 8 [.ref wbq, .ref waq, .int wy], ob wbq 4 [.long wbf, .int (nI wbt), .int wbz, .ref wbmq], ai g wbmq 6 wbm] (some (.int (bI (bel x (nI wbt))))) := by
  refine Kg.of (cc := cX9_isTuft) (maxL := 2) (ret := (some .boolean)) (lv := [(0, .ref xq), (1, .int x)]) RX9 rfl (by decide) rfl (Nat.le_of_ble_eq_true rfl) rfl ?_
  intro p e s m below meth c A X hr
  have in4 : ∀ w ∈ u_ws RX4 TX4 4, w ∈ wsX9_isTuft := by decide +kernel
  have in8 : ∀ w ∈ u_ws RX8 TX8 3, w ∈ wsX9_isTuft := by decide +kernel
  have in9 : ∀ w ∈ u_ws RX9 TX9 8, w ∈ wsX9_isTuft := by decide +kernel
  refine V_iload_n (pc := 0) X dX9_isTuft_0 rfl 1 rfl ?_
  refine V_aload_n (pc := 1) X dX9_isTuft_1 rfl 0 rfl ?_
  refine V_get (C := RX9) (T := TX9) (N := 8) (ci := 9) (pc := 2) X dX9_isTuft_2 in9 0 rfl rfl 1 (by decide) (by decide +kernel) rfl rfl ?_
  refine V_get (C := RX8) (T := TX8) (N := 3) (ci := 8) (pc := 5) X dX9_isTuft_5 in8 1 rfl rfl 0 (by decide) (by decide +kernel) rfl rfl ?_
  refine V_get (C := RX4) (T := TX4) (N := 4) (ci := 4) (pc := 8) X dX9_isTuft_8 in4 2 rfl rfl 1 (by decide) (by decide +kernel) rfl rfl ?_
  refine V_sg (pc := 11) (nA := 2) (As := [.int x, .int (nI wbt)]) (rest := []) X (c_X9_isBelow l g (x := x) (b := nI wbt) ) gX9_isTuft_X9_isBelow dX9_isTuft_11 rfl (by decide +kernel) rfl ⟨rfl, rfl⟩ ⟨Nat.le_of_ble_eq_true rfl, Nat.le_of_ble_eq_true rfl⟩ ⟨Nat.le_of_ble_eq_true rfl, Nat.le_of_ble_eq_true rfl⟩ [] (by decide) rfl rfl (Nat.le_of_ble_eq_true rfl) (st' := [.int (bI (bel x (nI wbt)))]) rfl ?_
  exact Vg_zret (pc := 14) X dX9_isTuft_14 hr (by first | rfl | (simp []; done)) (bI_n _)
set_option maxHeartbeats 4000000 in
set_option maxRecDepth 100000 in
theorem c_X9_isPerson (l : Launch) (g : XG) (xq : Nat) (tq : Nat) (wq : Nat) (vq : Nat) (xi : Bool) (fq : Nat) (dq : Nat) (kq : Nat) (xsq : Nat) (wbq : Nat) (waq : Nat) (wy : Int32) (wan : Nat) (wakq : Nat) (wacq : Nat) (wahq : Nat) (waaq : Nat) (wakd : Nat → Int32) (wace : Nat → Int32) (waho : Nat → Int32) (waac : Nat → Int32) (x : Int32)  : Kg l g yX9_isPerson wsX9_isPerson ({ frames := 1, cells := 0, slots := 0, locals := 21 } : Room) [.ref xq, .int x] [ob xq 9 [.ref tq, .ref wq, .ref vq, .int (bI xi), .ref fq, .ref dq, .ref kq, .ref xsq], ob wq 8 [.ref wbq, .ref waq, .int wy], ob waq 1 [.int (nI wan), .ref wakq, .ref wacq, .ref wahq, .ref waaq], ai g wakq 6 wakd, ai g wacq 6 wace, ai g wahq 6 waho, ai g waaq 6 waac] (some (.int (bI (bel x (nI wan))))) := by
  refine Kg.of (cc := cX9_isPerson) (maxL := 2) (ret := (some .boolean)) (lv := [(0, .ref xq), (1, .int x)]) RX9 rfl (by decide) rfl (Nat.le_of_ble_eq_true rfl) rfl ?_
  intro p e s m below meth c A X hr
  have in1 : ∀ w ∈ u_ws RX1 TX1 5, w ∈ wsX9_isPerson := by decide +kernel
  have in8 : ∀ w ∈ u_ws RX8 TX8 3, w ∈ wsX9_isPerson := by decide +kernel
  have in9 : ∀ w ∈ u_ws RX9 TX9 8, w ∈ wsX9_isPerson := by decide +kernel
  refine V_iload_n (pc := 0) X dX9_isPerson_0 rfl 1 rfl ?_
  refine V_aload_n (pc := 1) X dX9_isPerson_1 rfl 0 rfl ?_
  refine V_get (C := RX9) (T := TX9) (N := 8) (ci := 9) (pc := 2) X dX9_isPerson_2 in9 0 rfl rfl 1 (by decide) (by decide +kernel) rfl rfl ?_
  refine V_get (C := RX8) (T := TX8) (N := 3) (ci := 8) (pc := 5) X dX9_isPerson_5 in8 1 rfl rfl 1 (by decide) (by decide +kernel) rfl rfl ?_
  refine V_get (C := RX1) (T := TX1) (N := 5) (ci := 1) (pc := 8) X dX9_isPerson_8 in1 2 rfl rfl 0 (by decide) (by decide +kernel) rfl rfl ?_
  refine V_sg (pc := 11) (nA := 2) (As := [.int x, .int (nI wan)]) (rest := []) X (c_X9_isBelow l g (x := x) (b := nI wan) ) gX9_isPerson_X9_isBelow dX9_isPerson_11 rfl (by decide +kernel) rfl ⟨rfl, rfl⟩ ⟨Nat.le_of_ble_eq_true rfl, Nat.le_of_ble_eq_true rfl⟩ ⟨Nat.le_of_ble_eq_true rfl, Nat.le_of_ble_eq_true rfl⟩ [] (by decide) rfl rfl (Nat.le_of_ble_eq_true rfl) (st' := [.int (bI (bel x (nI wan)))]) rfl ?_
  exact Vg_zret (pc := 14) X dX9_isPerson_14 hr (by first | rfl | (simp []; done)) (bI_n _)
set_option maxHeartbeats 4000000 in
set_option maxRecDepth 100000 in
theorem c_X9_drain (l : Launch) (g : XG) (xq : Nat) (tq : Nat) (wq : Nat) (vq : Nat) (xi : Bool) (fq : Nat) (dq : Nat) (kq : Nat) (xsq : Nat) (wbq : Nat) (waq : Nat) (wy : Int32) (wbf : Int64) (wbt : Nat) (wbz : Int32) (wbmq : Nat) (wbm : Nat → Int32) (x : Int32) (b9 : Bool)  : Ke l g yX9_drain wsX9_drain ({ frames := 2, cells := 0, slots := 0, locals := 41 } : Room) 0 0 [.ref xq, .int x, .int (bI b9)] [ob xq 9 [.ref tq, .ref wq, .ref vq, .int (bI xi), .ref fq, .ref dq, .ref kq, .ref xsq], ob wq 8 [.ref wbq, .ref waq, .int wy], ob wbq 4 [.long wbf, .int (nI wbt), .int wbz, .ref wbmq], ai g wbmq 6 wbm] (fun u : Int32 × Int64 => some (.int u.1)) (fun u => [ob xq 9 [.ref tq, .ref wq, .ref vq, .int (bI xi), .ref fq, .ref dq, .ref kq, .ref xsq], ob wq 8 [.ref wbq, .ref waq, .int wy], ob wbq 4 [.long u.2, .int (nI wbt), .int wbz, .ref wbmq], ai g wbmq 6 wbm]) (fun u => (R_drain x b9 wbf u.1 u.2)) := by
  refine Ke.of (cc := cX9_drain) (maxL := 5) (ret := (some .int)) (lv := [(0, .ref xq), (1, .int x), (2, .int (bI b9))]) RX9 rfl (by decide) rfl (Nat.le_of_ble_eq_true rfl) rfl ?_
  intro p e s m below meth c A sz hA9 X hr hin2
  have in4 : ∀ w ∈ u_ws RX4 TX4 4, w ∈ wsX9_drain := by decide +kernel
  have in8 : ∀ w ∈ u_ws RX8 TX8 3, w ∈ wsX9_drain := by decide +kernel
  have in9 : ∀ w ∈ u_ws RX9 TX9 8, w ∈ wsX9_drain := by decide +kernel
  refine V_iload_n (pc := 0) X dX9_drain_0 rfl 1 rfl ?_
  refine V_sg (pc := 1) (nA := 1) (As := [.int x]) (rest := []) X (c_X9_isCell l g (x := x) ) gX9_drain_X9_isCell dX9_drain_1 rfl (by decide +kernel) rfl ⟨rfl, rfl⟩ ⟨Nat.le_of_ble_eq_true rfl, Nat.le_of_ble_eq_true rfl⟩ ⟨Nat.le_of_ble_eq_true rfl, Nat.le_of_ble_eq_true rfl⟩ [] (by decide) rfl rfl (Nat.le_of_ble_eq_true rfl) (st' := [.int (bI (bel x 36))]) rfl ?_
  refine V_if_ne (tgt := 9) (pc := 4) X dX9_drain_4 (by decide) (fun c_1 => ?_) (fun c_1 => ?_)
  · skip
    have b_2 : bel x 36 = true := bI1 c_1
    refine V_aload_n (pc := 9) X dX9_drain_9 rfl 0 rfl ?_
    refine V_get (C := RX9) (T := TX9) (N := 8) (ci := 9) (pc := 10) X dX9_drain_10 in9 0 rfl rfl 1 (by decide) (by decide +kernel) rfl rfl ?_
    refine V_get (C := RX8) (T := TX8) (N := 3) (ci := 8) (pc := 13) X dX9_drain_13 in8 1 rfl rfl 0 (by decide) (by decide +kernel) rfl rfl ?_
    refine V_astore_n (lv' := [(3, .ref wbq), (0, .ref xq), (1, .int x), (2, .int (bI b9))]) (pc := 16) X dX9_drain_16 rfl (Nat.le_of_ble_eq_true rfl) rfl ?_
    refine V_aload_n (pc := 17) X dX9_drain_17 rfl 0 rfl ?_
    refine V_iload_n (pc := 18) X dX9_drain_18 rfl 2 rfl ?_
    refine V_vg (pc := 19) (nA := 1) (As := [.int x]) (rest := []) X (c_X4_isFirm l g (bq := wbq) (bmq := wbmq) (bf := wbf) (bt := wbt) (bz := wbz) (bm := wbm) (x := x) ) gX9_drain_X4_isFirm dX9_drain_19 rfl (by decide +kernel) rfl (qb := 2) rfl rfl rfl ⟨rfl, rfl⟩ ⟨Nat.le_of_ble_eq_true rfl, Nat.le_of_ble_eq_true rfl⟩ ⟨Nat.le_of_ble_eq_true rfl, Nat.le_of_ble_eq_true rfl⟩ [2, 3] (by decide) rfl rfl (Nat.le_of_ble_eq_true rfl) (st' := [.int (bI (firmB wbf x))]) rfl ?_
    refine V_if_eq (tgt := 29) (pc := 22) X dX9_drain_22 (by decide) (fun c_3 => ?_) (fun c_3 => ?_)
    · skip
      have b_4 : firmB wbf x = false := bI0 c_3
      refine V_iconst (v := 0) (pc := 29) X dX9_drain_29 (by decide) ?_
      refine V_istore (lv' := [(4, .int 0), (3, .ref wbq), (0, .ref xq), (1, .int x), (2, .int (bI b9))]) (pc := 30) X dX9_drain_30 (Nat.le_of_ble_eq_true rfl) rfl ?_
      refine V_aload_n (pc := 32) X dX9_drain_32 rfl 1 rfl ?_
      refine V_iload_n (pc := 33) X dX9_drain_33 rfl 4 rfl ?_
      refine V_if_eq (tgt := 49) (pc := 34) X dX9_drain_34 (by decide) (fun c_5 => ?_) (fun c_5 => ?_)
      · skip
        have b_6 : b9 = false := bI0 c_5
        refine V_aload_n (pc := 49) X dX9_drain_49 rfl 1 rfl ?_
        refine V_get (C := RX4) (T := TX4) (N := 4) (ci := 4) (pc := 50) X dX9_drain_50 in4 2 rfl rfl 0 (by decide) (by decide +kernel) rfl rfl ?_
        refine V_iload_n (pc := 53) X dX9_drain_53 rfl 3 rfl ?_
        refine V_sg (pc := 54) (nA := 1) (As := [.int x]) (rest := [.long wbf, .ref wbq]) X (c_X9_bit l g (x := x) ) gX9_drain_X9_bit dX9_drain_54 rfl (by decide +kernel) rfl ⟨rfl, rfl⟩ ⟨Nat.le_of_ble_eq_true rfl, Nat.le_of_ble_eq_true rfl⟩ ⟨Nat.le_of_ble_eq_true rfl, Nat.le_of_ble_eq_true rfl⟩ [] (by decide) rfl rfl (Nat.le_of_ble_eq_true rfl) (st' := [.long (bitI x), .long wbf, .ref wbq]) rfl ?_
        refine V_ldc2 (v := (-1)) (pc := 57) X dX9_drain_57 (by decide +kernel) ?_
        refine V_lxor (pc := 60) X dX9_drain_60 ?_
        refine V_land (pc := 61) X dX9_drain_61 ?_
        refine V_put (C := RX4) (T := TX4) (N := 4) (ci := 4) (ws' := [ob xq 9 [.ref tq, .ref wq, .ref vq, .int (bI xi), .ref fq, .ref dq, .ref kq, .ref xsq], ob wq 8 [.ref wbq, .ref waq, .int wy], ob wbq 4 [.long (wbf &&& ((bitI x) ^^^ (-1))), .int (nI wbt), .int wbz, .ref wbmq], ai g wbmq 6 wbm]) (pc := 62) X dX9_drain_62 in4 tyX4 tyX4_ok nmX4 2 rfl rfl 0 (by decide) (by decide +kernel) rfl rfl rfl rfl rfl (Nat.le_of_ble_eq_true rfl) rfl ?_
        refine V_iload (pc := 65) X dX9_drain_65 0 rfl ?_
        exact Ve_iret (pc := 67) X hA9 dX9_drain_67 hr (0, wbf &&& ((bitI x) ^^^ (-1))) (by first | rfl | (simp [b_2, b_4, b_6]; done)) (by
              try dsimp only
              (unfold R_drain; first | (refine Or.inl ⟨?_, ?_, ?_⟩ <;> first | rfl | assumption | omega | (simp [b_2, b_4, b_6]; done) | (simp [drF, bI, b_2, b_4, b_6]; done)) | (refine Or.inr (⟨?_, ?_, ?_⟩) <;> first | rfl | assumption | omega | (simp [b_2, b_4, b_6]; done) | (simp [drF, bI, b_2, b_4, b_6]; done)))) (by rfl)
      · skip
        have b_7 : b9 = true := bI1 c_5
        refine V_aload_n (pc := 37) X dX9_drain_37 rfl 1 rfl ?_
        refine V_get (C := RX4) (T := TX4) (N := 4) (ci := 4) (pc := 38) X dX9_drain_38 in4 2 rfl rfl 0 (by decide) (by decide +kernel) rfl rfl ?_
        refine V_iload_n (pc := 41) X dX9_drain_41 rfl 3 rfl ?_
        refine V_sg (pc := 42) (nA := 1) (As := [.int x]) (rest := [.long wbf, .ref wbq]) X (c_X9_bit l g (x := x) ) gX9_drain_X9_bit dX9_drain_42 rfl (by decide +kernel) rfl ⟨rfl, rfl⟩ ⟨Nat.le_of_ble_eq_true rfl, Nat.le_of_ble_eq_true rfl⟩ ⟨Nat.le_of_ble_eq_true rfl, Nat.le_of_ble_eq_true rfl⟩ [] (by decide) rfl rfl (Nat.le_of_ble_eq_true rfl) (st' := [.long (bitI x), .long wbf, .ref wbq]) rfl ?_
        refine V_lor (pc := 45) X dX9_drain_45 ?_
        refine V_goto (tgt := 62) (pc := 46) X dX9_drain_46 (by decide) ?_
        refine V_put (C := RX4) (T := TX4) (N := 4) (ci := 4) (ws' := [ob xq 9 [.ref tq, .ref wq, .ref vq, .int (bI xi), .ref fq, .ref dq, .ref kq, .ref xsq], ob wq 8 [.ref wbq, .ref waq, .int wy], ob wbq 4 [.long (wbf ||| (bitI x)), .int (nI wbt), .int wbz, .ref wbmq], ai g wbmq 6 wbm]) (pc := 62) X dX9_drain_62 in4 tyX4 tyX4_ok nmX4 2 rfl rfl 0 (by decide) (by decide +kernel) rfl rfl rfl rfl rfl (Nat.le_of_ble_eq_true rfl) rfl ?_
        refine V_iload (pc := 65) X dX9_drain_65 0 rfl ?_
        exact Ve_iret (pc := 67) X hA9 dX9_drain_67 hr (0, wbf ||| (bitI x)) (by first | rfl | (simp [b_2, b_4, b_7]; done)) (by
              try dsimp only
              (unfold R_drain; first | (refine Or.inl ⟨?_, ?_, ?_⟩ <;> first | rfl | assumption | omega | (simp [b_2, b_4, b_7]; done) | (simp [drF, bI, b_2, b_4, b_7]; done)) | (refine Or.inr (⟨?_, ?_, ?_⟩) <;> first | rfl | assumption | omega | (simp [b_2, b_4, b_7]; done) | (simp [drF, bI, b_2, b_4, b_7]; done)))) (by rfl)
    · skip
      have b_8 : firmB wbf x = true := bI1 c_3
      refine V_iconst (v := 1) (pc := 25) X dX9_drain_25 (by decide) ?_
      refine V_goto (tgt := 30) (pc := 26) X dX9_drain_26 (by decide) ?_
      refine V_istore (lv' := [(4, .int 1), (3, .ref wbq), (0, .ref xq), (1, .int x), (2, .int (bI b9))]) (pc := 30) X dX9_drain_30 (Nat.le_of_ble_eq_true rfl) rfl ?_
      refine V_aload_n (pc := 32) X dX9_drain_32 rfl 1 rfl ?_
      refine V_iload_n (pc := 33) X dX9_drain_33 rfl 4 rfl ?_
      refine V_if_eq (tgt := 49) (pc := 34) X dX9_drain_34 (by decide) (fun c_9 => ?_) (fun c_9 => ?_)
      · skip
        have b_10 : b9 = false := bI0 c_9
        refine V_aload_n (pc := 49) X dX9_drain_49 rfl 1 rfl ?_
        refine V_get (C := RX4) (T := TX4) (N := 4) (ci := 4) (pc := 50) X dX9_drain_50 in4 2 rfl rfl 0 (by decide) (by decide +kernel) rfl rfl ?_
        refine V_iload_n (pc := 53) X dX9_drain_53 rfl 3 rfl ?_
        refine V_sg (pc := 54) (nA := 1) (As := [.int x]) (rest := [.long wbf, .ref wbq]) X (c_X9_bit l g (x := x) ) gX9_drain_X9_bit dX9_drain_54 rfl (by decide +kernel) rfl ⟨rfl, rfl⟩ ⟨Nat.le_of_ble_eq_true rfl, Nat.le_of_ble_eq_true rfl⟩ ⟨Nat.le_of_ble_eq_true rfl, Nat.le_of_ble_eq_true rfl⟩ [] (by decide) rfl rfl (Nat.le_of_ble_eq_true rfl) (st' := [.long (bitI x), .long wbf, .ref wbq]) rfl ?_
        refine V_ldc2 (v := (-1)) (pc := 57) X dX9_drain_57 (by decide +kernel) ?_
        refine V_lxor (pc := 60) X dX9_drain_60 ?_
        refine V_land (pc := 61) X dX9_drain_61 ?_
        refine V_put (C := RX4) (T := TX4) (N := 4) (ci := 4) (ws' := [ob xq 9 [.ref tq, .ref wq, .ref vq, .int (bI xi), .ref fq, .ref dq, .ref kq, .ref xsq], ob wq 8 [.ref wbq, .ref waq, .int wy], ob wbq 4 [.long (wbf &&& ((bitI x) ^^^ (-1))), .int (nI wbt), .int wbz, .ref wbmq], ai g wbmq 6 wbm]) (pc := 62) X dX9_drain_62 in4 tyX4 tyX4_ok nmX4 2 rfl rfl 0 (by decide) (by decide +kernel) rfl rfl rfl rfl rfl (Nat.le_of_ble_eq_true rfl) rfl ?_
        refine V_iload (pc := 65) X dX9_drain_65 0 rfl ?_
        exact Ve_iret (pc := 67) X hA9 dX9_drain_67 hr (1, wbf &&& ((bitI x) ^^^ (-1))) (by first | rfl | (simp [b_2, b_8, b_10]; done)) (by
              try dsimp only
              (unfold R_drain; first | (refine Or.inl ⟨?_, ?_, ?_⟩ <;> first | rfl | assumption | omega | (simp [b_2, b_8, b_10]; done) | (simp [drF, bI, b_2, b_8, b_10]; done)) | (refine Or.inr (⟨?_, ?_, ?_⟩) <;> first | rfl | assumption | omega | (simp [b_2, b_8, b_10]; done) | (simp [drF, bI, b_2, b_8, b_10]; done)))) (by rfl)
      · skip
        have b_11 : b9 = true := bI1 c_9
        refine V_aload_n (pc := 37) X dX9_drain_37 rfl 1 rfl ?_
        refine V_get (C := RX4) (T := TX4) (N := 4) (ci := 4) (pc := 38) X dX9_drain_38 in4 2 rfl rfl 0 (by decide) (by decide +kernel) rfl rfl ?_
        refine V_iload_n (pc := 41) X dX9_drain_41 rfl 3 rfl ?_
        refine V_sg (pc := 42) (nA := 1) (As := [.int x]) (rest := [.long wbf, .ref wbq]) X (c_X9_bit l g (x := x) ) gX9_drain_X9_bit dX9_drain_42 rfl (by decide +kernel) rfl ⟨rfl, rfl⟩ ⟨Nat.le_of_ble_eq_true rfl, Nat.le_of_ble_eq_true rfl⟩ ⟨Nat.le_of_ble_eq_true rfl, Nat.le_of_ble_eq_true rfl⟩ [] (by decide) rfl rfl (Nat.le_of_ble_eq_true rfl) (st' := [.long (bitI x), .long wbf, .ref wbq]) rfl ?_
        refine V_lor (pc := 45) X dX9_drain_45 ?_
        refine V_goto (tgt := 62) (pc := 46) X dX9_drain_46 (by decide) ?_
        refine V_put (C := RX4) (T := TX4) (N := 4) (ci := 4) (ws' := [ob xq 9 [.ref tq, .ref wq, .ref vq, .int (bI xi), .ref fq, .ref dq, .ref kq, .ref xsq], ob wq 8 [.ref wbq, .ref waq, .int wy], ob wbq 4 [.long (wbf ||| (bitI x)), .int (nI wbt), .int wbz, .ref wbmq], ai g wbmq 6 wbm]) (pc := 62) X dX9_drain_62 in4 tyX4 tyX4_ok nmX4 2 rfl rfl 0 (by decide) (by decide +kernel) rfl rfl rfl rfl rfl (Nat.le_of_ble_eq_true rfl) rfl ?_
        refine V_iload (pc := 65) X dX9_drain_65 0 rfl ?_
        exact Ve_iret (pc := 67) X hA9 dX9_drain_67 hr (1, wbf ||| (bitI x)) (by first | rfl | (simp [b_2, b_8, b_11]; done)) (by
              try dsimp only
              (unfold R_drain; first | (refine Or.inl ⟨?_, ?_, ?_⟩ <;> first | rfl | assumption | omega | (simp [b_2, b_8, b_11]; done) | (simp [drF, bI, b_2, b_8, b_11]; done)) | (refine Or.inr (⟨?_, ?_, ?_⟩) <;> first | rfl | assumption | omega | (simp [b_2, b_8, b_11]; done) | (simp [drF, bI, b_2, b_8, b_11]; done)))) (by rfl)
  · skip
    have b_12 : bel x 36 = false := bI0 c_1
    refine V_iconst (v := (-1)) (pc := 7) X dX9_drain_7 (by decide) ?_
    exact Ve_iret (pc := 8) X hA9 dX9_drain_8 hr ((-1), wbf) (by first | rfl | (simp [b_12]; done)) (by
          try dsimp only
          (unfold R_drain; first | (refine Or.inl ⟨?_, ?_, ?_⟩ <;> first | rfl | assumption | omega | (simp [b_12]; done) | (simp [drF, bI, b_12]; done)) | (refine Or.inr (⟨?_, ?_, ?_⟩) <;> first | rfl | assumption | omega | (simp [b_12]; done) | (simp [drF, bI, b_12]; done)))) (by rfl)
set_option maxHeartbeats 4000000 in
set_option maxRecDepth 100000 in
theorem c_X9_tuft (l : Launch) (g : XG) (xq : Nat) (tq : Nat) (wq : Nat) (vq : Nat) (xi : Bool) (fq : Nat) (dq : Nat) (kq : Nat) (xsq : Nat) (wbq : Nat) (waq : Nat) (wy : Int32) (wbf : Int64) (wbt : Nat) (wbz : Int32) (wbmq : Nat) (wbm : Nat → Int32) (x : Int32) (ht : wbt ≤ 6) : Ke l g yX9_tuft wsX9_tuft ({ frames := 2, cells := 0, slots := 0, locals := 41 } : Room) 0 0 [.ref xq, .int x] [ob xq 9 [.ref tq, .ref wq, .ref vq, .int (bI xi), .ref fq, .ref dq, .ref kq, .ref xsq], ob wq 8 [.ref wbq, .ref waq, .int wy], ob wbq 4 [.long wbf, .int (nI wbt), .int wbz, .ref wbmq], ai g wbmq 6 wbm] (fun u : Int32 × Nat × (Nat → Int32) => some (.int u.1)) (fun u => [ob xq 9 [.ref tq, .ref wq, .ref vq, .int (bI xi), .ref fq, .ref dq, .ref kq, .ref xsq], ob wq 8 [.ref wbq, .ref waq, .int wy], ob wbq 4 [.long wbf, .int (nI u.2.1), .int wbz, .ref wbmq], ai g wbmq 6 u.2.2]) (fun u => (R_tuft x wbt wbm u.1 u.2.1 u.2.2)) := by
  refine Ke.of (cc := cX9_tuft) (maxL := 4) (ret := (some .int)) (lv := [(0, .ref xq), (1, .int x)]) RX9 rfl (by decide) rfl (Nat.le_of_ble_eq_true rfl) rfl ?_
  intro p e s m below meth c A sz hA9 X hr hin2
  have in4 : ∀ w ∈ u_ws RX4 TX4 4, w ∈ wsX9_tuft := by decide +kernel
  have in8 : ∀ w ∈ u_ws RX8 TX8 3, w ∈ wsX9_tuft := by decide +kernel
  have in9 : ∀ w ∈ u_ws RX9 TX9 8, w ∈ wsX9_tuft := by decide +kernel
  refine V_iload_n (pc := 0) X dX9_tuft_0 rfl 1 rfl ?_
  refine V_sg (pc := 1) (nA := 1) (As := [.int x]) (rest := []) X (c_X9_isCell l g (x := x) ) gX9_tuft_X9_isCell dX9_tuft_1 rfl (by decide +kernel) rfl ⟨rfl, rfl⟩ ⟨Nat.le_of_ble_eq_true rfl, Nat.le_of_ble_eq_true rfl⟩ ⟨Nat.le_of_ble_eq_true rfl, Nat.le_of_ble_eq_true rfl⟩ [] (by decide) rfl rfl (Nat.le_of_ble_eq_true rfl) (st' := [.int (bI (bel x 36))]) rfl ?_
  refine V_if_ne (tgt := 9) (pc := 4) X dX9_tuft_4 (by decide) (fun c_1 => ?_) (fun c_1 => ?_)
  · skip
    have b_2 : bel x 36 = true := bI1 c_1
    refine V_aload_n (pc := 9) X dX9_tuft_9 rfl 0 rfl ?_
    refine V_get (C := RX9) (T := TX9) (N := 8) (ci := 9) (pc := 10) X dX9_tuft_10 in9 0 rfl rfl 1 (by decide) (by decide +kernel) rfl rfl ?_
    refine V_get (C := RX8) (T := TX8) (N := 3) (ci := 8) (pc := 13) X dX9_tuft_13 in8 1 rfl rfl 0 (by decide) (by decide +kernel) rfl rfl ?_
    refine V_astore_n (lv' := [(2, .ref wbq), (0, .ref xq), (1, .int x)]) (pc := 16) X dX9_tuft_16 rfl (Nat.le_of_ble_eq_true rfl) rfl ?_
    refine V_aload_n (pc := 17) X dX9_tuft_17 rfl 0 rfl ?_
    refine V_get (C := RX4) (T := TX4) (N := 4) (ci := 4) (pc := 18) X dX9_tuft_18 in4 2 rfl rfl 1 (by decide) (by decide +kernel) rfl rfl ?_
    refine V_bipush (v := 6) (pc := 21) X dX9_tuft_21 (by decide) ?_
    refine V_icmp_lt (tgt := 29) (pc := 23) X dX9_tuft_23 (by decide) (fun c_3 => ?_) (fun c_3 => ?_)
    · skip
      have n_4 : wbt < 6 := nJ_lt (a := wbt) (b := 6) (by omega) (by omega) c_3
      refine V_aload_n (pc := 29) X dX9_tuft_29 rfl 0 rfl ?_
      refine V_get (C := RX4) (T := TX4) (N := 4) (ci := 4) (pc := 30) X dX9_tuft_30 in4 2 rfl rfl 1 (by decide) (by decide +kernel) rfl rfl ?_
      refine V_istore_n (lv' := [(3, .int (nI wbt)), (2, .ref wbq), (0, .ref xq), (1, .int x)]) (pc := 33) X dX9_tuft_33 rfl (Nat.le_of_ble_eq_true rfl) rfl ?_
      refine V_aload_n (pc := 34) X dX9_tuft_34 rfl 1 rfl ?_
      refine V_get (C := RX4) (T := TX4) (N := 4) (ci := 4) (pc := 35) X dX9_tuft_35 in4 2 rfl rfl 3 (by decide) (by decide +kernel) rfl rfl ?_
      refine V_iload_n (pc := 38) X dX9_tuft_38 rfl 0 rfl ?_
      refine V_iload_n (pc := 39) X dX9_tuft_39 rfl 3 rfl ?_
      refine V_iast (f' := upd wbm wbt x) (ws' := [ob xq 9 [.ref tq, .ref wq, .ref vq, .int (bI xi), .ref fq, .ref dq, .ref kq, .ref xsq], ob wq 8 [.ref wbq, .ref waq, .int wy], ob wbq 4 [.long wbf, .int (nI wbt), .int wbz, .ref wbmq], ai g wbmq 6 (upd wbm wbt x)]) (pc := 40) X dX9_tuft_40 3 rfl (vp_in_nI (by omega) (by omega)) (by rw [nI_clamp (by omega)]) rfl ?_
      refine V_aload_n (pc := 41) X dX9_tuft_41 rfl 1 rfl ?_
      refine V_iload_n (pc := 42) X dX9_tuft_42 rfl 0 rfl ?_
      refine V_iconst (v := 1) (pc := 43) X dX9_tuft_43 (by decide) ?_
      refine V_iadd (pc := 44) X dX9_tuft_44 ?_
      refine V_seti (y := nI (wbt + 1)) (nI_add wbt 1) ?_
      refine V_put (C := RX4) (T := TX4) (N := 4) (ci := 4) (ws' := [ob xq 9 [.ref tq, .ref wq, .ref vq, .int (bI xi), .ref fq, .ref dq, .ref kq, .ref xsq], ob wq 8 [.ref wbq, .ref waq, .int wy], ob wbq 4 [.long wbf, .int (nI (wbt + 1)), .int wbz, .ref wbmq], ai g wbmq 6 (upd wbm wbt x)]) (pc := 45) X dX9_tuft_45 in4 tyX4 tyX4_ok nmX4 2 rfl rfl 1 (by decide) (by decide +kernel) rfl rfl rfl rfl rfl (Nat.le_of_ble_eq_true rfl) rfl ?_
      refine V_iload_n (pc := 48) X dX9_tuft_48 rfl 0 rfl ?_
      exact Ve_iret (pc := 49) X hA9 dX9_tuft_49 hr (nI wbt, wbt + 1, upd wbm wbt x) (by first | rfl | (simp [b_2, n_4]; done)) (by
            try dsimp only
            (unfold R_tuft; first | (refine Or.inl ⟨?_, ?_, ?_, ?_⟩ <;> first | rfl | assumption | omega | (simp [b_2, n_4]; done)) | (refine Or.inr (Or.inl ⟨?_, ?_, ?_, ?_, ?_⟩) <;> first | rfl | assumption | omega | (simp [b_2, n_4]; done)) | (refine Or.inr (Or.inr (⟨?_, ?_, ?_, ?_, ?_⟩)) <;> first | rfl | assumption | omega | (simp [b_2, n_4]; done)))) (by rfl)
    · skip
      have n_5 : 6 ≤ wbt := nJ_nlt (a := wbt) (b := 6) (by omega) (by omega) c_3
      refine V_bipush (v := (-3)) (pc := 26) X dX9_tuft_26 (by decide) ?_
      exact Ve_iret (pc := 28) X hA9 dX9_tuft_28 hr ((-3), wbt, wbm) (by first | rfl | (simp [b_2, n_5]; done)) (by
            try dsimp only
            (unfold R_tuft; first | (refine Or.inl ⟨?_, ?_, ?_, ?_⟩ <;> first | rfl | assumption | omega | (simp [b_2, n_5]; done)) | (refine Or.inr (Or.inl ⟨?_, ?_, ?_, ?_, ?_⟩) <;> first | rfl | assumption | omega | (simp [b_2, n_5]; done)) | (refine Or.inr (Or.inr (⟨?_, ?_, ?_, ?_, ?_⟩)) <;> first | rfl | assumption | omega | (simp [b_2, n_5]; done)))) (by rfl)
  · skip
    have b_6 : bel x 36 = false := bI0 c_1
    refine V_iconst (v := (-1)) (pc := 7) X dX9_tuft_7 (by decide) ?_
    exact Ve_iret (pc := 8) X hA9 dX9_tuft_8 hr ((-1), wbt, wbm) (by first | rfl | (simp [b_6]; done)) (by
          try dsimp only
          (unfold R_tuft; first | (refine Or.inl ⟨?_, ?_, ?_, ?_⟩ <;> first | rfl | assumption | omega | (simp [b_6]; done)) | (refine Or.inr (Or.inl ⟨?_, ?_, ?_, ?_, ?_⟩) <;> first | rfl | assumption | omega | (simp [b_6]; done)) | (refine Or.inr (Or.inr (⟨?_, ?_, ?_, ?_, ?_⟩)) <;> first | rfl | assumption | omega | (simp [b_6]; done)))) (by rfl)
set_option maxHeartbeats 4000000 in
set_option maxRecDepth 100000 in
theorem c_X9_plant (l : Launch) (g : XG) (xq : Nat) (tq : Nat) (wq : Nat) (vq : Nat) (xi : Bool) (fq : Nat) (dq : Nat) (kq : Nat) (xsq : Nat) (wbq : Nat) (waq : Nat) (wy : Int32) (wbf : Int64) (wbt : Nat) (wbz : Int32) (wbmq : Nat) (wbm : Nat → Int32) (x : Int32) (y : Int32) (ht : wbt ≤ 6) : Ke l g yX9_plant wsX9_plant ({ frames := 2, cells := 0, slots := 0, locals := 42 } : Room) 0 0 [.ref xq, .int x, .int y] [ob xq 9 [.ref tq, .ref wq, .ref vq, .int (bI xi), .ref fq, .ref dq, .ref kq, .ref xsq], ob wq 8 [.ref wbq, .ref waq, .int wy], ob wbq 4 [.long wbf, .int (nI wbt), .int wbz, .ref wbmq], ai g wbmq 6 wbm] (fun u : Int32 × (Nat → Int32) => some (.int u.1)) (fun u => [ob xq 9 [.ref tq, .ref wq, .ref vq, .int (bI xi), .ref fq, .ref dq, .ref kq, .ref xsq], ob wq 8 [.ref wbq, .ref waq, .int wy], ob wbq 4 [.long wbf, .int (nI wbt), .int wbz, .ref wbmq], ai g wbmq 6 u.2]) (fun u => (R_plant x y wbt wbm u.1 u.2)) := by
  refine Ke.of (cc := cX9_plant) (maxL := 4) (ret := (some .int)) (lv := [(0, .ref xq), (1, .int x), (2, .int y)]) RX9 rfl (by decide) rfl (Nat.le_of_ble_eq_true rfl) rfl ?_
  intro p e s m below meth c A sz hA9 X hr hin2
  have in4 : ∀ w ∈ u_ws RX4 TX4 4, w ∈ wsX9_plant := by decide +kernel
  have in8 : ∀ w ∈ u_ws RX8 TX8 3, w ∈ wsX9_plant := by decide +kernel
  have in9 : ∀ w ∈ u_ws RX9 TX9 8, w ∈ wsX9_plant := by decide +kernel
  refine V_aload_n (pc := 0) X dX9_plant_0 rfl 0 rfl ?_
  refine V_iload_n (pc := 1) X dX9_plant_1 rfl 1 rfl ?_
  refine V_vg (pc := 2) (nA := 1) (As := [.int x]) (rest := []) X (c_X9_isTuft l g (xq := xq) (tq := tq) (wq := wq) (vq := vq) (xi := xi) (fq := fq) (dq := dq) (kq := kq) (xsq := xsq) (wbq := wbq) (waq := waq) (wy := wy) (wbf := wbf) (wbt := wbt) (wbz := wbz) (wbmq := wbmq) (wbm := wbm) (x := x) ) gX9_plant_X9_isTuft dX9_plant_2 rfl (by decide +kernel) rfl (qb := 0) rfl rfl rfl ⟨rfl, rfl⟩ ⟨Nat.le_of_ble_eq_true rfl, Nat.le_of_ble_eq_true rfl⟩ ⟨Nat.le_of_ble_eq_true rfl, Nat.le_of_ble_eq_true rfl⟩ [0, 1, 2, 3] (by decide) rfl rfl (Nat.le_of_ble_eq_true rfl) (st' := [.int (bI (bel x (nI wbt)))]) rfl ?_
  refine V_if_eq (tgt := 15) (pc := 5) X dX9_plant_5 (by decide) (fun c_1 => ?_) (fun c_1 => ?_)
  · skip
    have b_2 : bel x (nI wbt) = false := bI0 c_1
    refine V_iconst (v := (-1)) (pc := 15) X dX9_plant_15 (by decide) ?_
    exact Ve_iret (pc := 16) X hA9 dX9_plant_16 hr ((-1), wbm) (by first | rfl | (simp [b_2]; done)) (by
          try dsimp only
          (unfold R_plant; first | (refine Or.inl ⟨?_, ?_, ?_⟩ <;> first | rfl | assumption | omega | (simp [b_2]; done)) | (refine Or.inr (⟨?_, ?_, ?_⟩) <;> first | rfl | assumption | omega | (simp [b_2]; done)))) (by rfl)
  · skip
    have b_3 : bel x (nI wbt) = true := bI1 c_1
    refine V_iload_n (pc := 8) X dX9_plant_8 rfl 2 rfl ?_
    refine V_sg (pc := 9) (nA := 1) (As := [.int y]) (rest := []) X (c_X9_isCell l g (x := y) ) gX9_plant_X9_isCell dX9_plant_9 rfl (by decide +kernel) rfl ⟨rfl, rfl⟩ ⟨Nat.le_of_ble_eq_true rfl, Nat.le_of_ble_eq_true rfl⟩ ⟨Nat.le_of_ble_eq_true rfl, Nat.le_of_ble_eq_true rfl⟩ [] (by decide) rfl rfl (Nat.le_of_ble_eq_true rfl) (st' := [.int (bI (bel y 36))]) rfl ?_
    refine V_if_ne (tgt := 17) (pc := 12) X dX9_plant_12 (by decide) (fun c_4 => ?_) (fun c_4 => ?_)
    · skip
      have b_5 : bel y 36 = true := bI1 c_4
      refine V_aload_n (pc := 17) X dX9_plant_17 rfl 0 rfl ?_
      refine V_get (C := RX9) (T := TX9) (N := 8) (ci := 9) (pc := 18) X dX9_plant_18 in9 0 rfl rfl 1 (by decide) (by decide +kernel) rfl rfl ?_
      refine V_get (C := RX8) (T := TX8) (N := 3) (ci := 8) (pc := 21) X dX9_plant_21 in8 1 rfl rfl 0 (by decide) (by decide +kernel) rfl rfl ?_
      refine V_get (C := RX4) (T := TX4) (N := 4) (ci := 4) (pc := 24) X dX9_plant_24 in4 2 rfl rfl 3 (by decide) (by decide +kernel) rfl rfl ?_
      refine V_iload_n (pc := 27) X dX9_plant_27 rfl 1 rfl ?_
      refine V_iald (v := wbm x.toNatClampNeg) (pc := 28) X dX9_plant_28 3 rfl (by first | assumption | exact bel_vin (n := wbt) (by omega) (by omega) (by omega) (by assumption)) rfl ?_
      refine V_istore_n (lv' := [(3, .int (wbm x.toNatClampNeg)), (0, .ref xq), (1, .int x), (2, .int y)]) (pc := 29) X dX9_plant_29 rfl (Nat.le_of_ble_eq_true rfl) rfl ?_
      refine V_aload_n (pc := 30) X dX9_plant_30 rfl 1 rfl ?_
      refine V_get (C := RX9) (T := TX9) (N := 8) (ci := 9) (pc := 31) X dX9_plant_31 in9 0 rfl rfl 1 (by decide) (by decide +kernel) rfl rfl ?_
      refine V_get (C := RX8) (T := TX8) (N := 3) (ci := 8) (pc := 34) X dX9_plant_34 in8 1 rfl rfl 0 (by decide) (by decide +kernel) rfl rfl ?_
      refine V_get (C := RX4) (T := TX4) (N := 4) (ci := 4) (pc := 37) X dX9_plant_37 in4 2 rfl rfl 3 (by decide) (by decide +kernel) rfl rfl ?_
      refine V_iload_n (pc := 40) X dX9_plant_40 rfl 2 rfl ?_
      refine V_iload_n (pc := 41) X dX9_plant_41 rfl 3 rfl ?_
      refine V_iast (f' := upd wbm x.toNatClampNeg y) (ws' := [ob xq 9 [.ref tq, .ref wq, .ref vq, .int (bI xi), .ref fq, .ref dq, .ref kq, .ref xsq], ob wq 8 [.ref wbq, .ref waq, .int wy], ob wbq 4 [.long wbf, .int (nI wbt), .int wbz, .ref wbmq], ai g wbmq 6 (upd wbm x.toNatClampNeg y)]) (pc := 42) X dX9_plant_42 3 rfl (by first | assumption | exact bel_vin (n := wbt) (by omega) (by omega) (by omega) (by assumption)) rfl rfl ?_
      refine V_iload_n (pc := 43) X dX9_plant_43 rfl 0 rfl ?_
      exact Ve_iret (pc := 44) X hA9 dX9_plant_44 hr (wbm x.toNatClampNeg, upd wbm x.toNatClampNeg y) (by first | rfl | (simp [b_3, b_5]; done)) (by
            try dsimp only
            (unfold R_plant; first | (refine Or.inl ⟨?_, ?_, ?_⟩ <;> first | rfl | assumption | omega | (simp [b_3, b_5]; done)) | (refine Or.inr (⟨?_, ?_, ?_⟩) <;> first | rfl | assumption | omega | (simp [b_3, b_5]; done)))) (by rfl)
    · skip
      have b_6 : bel y 36 = false := bI0 c_4
      refine V_iconst (v := (-1)) (pc := 15) X dX9_plant_15 (by decide) ?_
      exact Ve_iret (pc := 16) X hA9 dX9_plant_16 hr ((-1), wbm) (by first | rfl | (simp [b_3, b_6]; done)) (by
            try dsimp only
            (unfold R_plant; first | (refine Or.inl ⟨?_, ?_, ?_⟩ <;> first | rfl | assumption | omega | (simp [b_3, b_6]; done)) | (refine Or.inr (⟨?_, ?_, ?_⟩) <;> first | rfl | assumption | omega | (simp [b_3, b_6]; done)))) (by rfl)
set_option maxHeartbeats 4000000 in
set_option maxRecDepth 100000 in
theorem c_X9_person (l : Launch) (g : XG) (xq : Nat) (tq : Nat) (wq : Nat) (vq : Nat) (xi : Bool) (fq : Nat) (dq : Nat) (kq : Nat) (xsq : Nat) (wbq : Nat) (waq : Nat) (wy : Int32) (wan : Nat) (wakq : Nat) (wacq : Nat) (wahq : Nat) (waaq : Nat) (wakd : Nat → Int32) (wace : Nat → Int32) (waho : Nat → Int32) (waac : Nat → Int32) (x : Int32) (hn : wan ≤ 6) : Ke l g yX9_person wsX9_person ({ frames := 2, cells := 0, slots := 0, locals := 45 } : Room) 0 0 [.ref xq, .int x] [ob xq 9 [.ref tq, .ref wq, .ref vq, .int (bI xi), .ref fq, .ref dq, .ref kq, .ref xsq], ob wq 8 [.ref wbq, .ref waq, .int wy], ob waq 1 [.int (nI wan), .ref wakq, .ref wacq, .ref wahq, .ref waaq], ai g wakq 6 wakd, ai g wacq 6 wace, ai g wahq 6 waho, ai g waaq 6 waac] (fun u : Int32 × Nat × (Nat → Int32) × (Nat → Int32) × (Nat → Int32) × (Nat → Int32) => some (.int u.1)) (fun u => [ob xq 9 [.ref tq, .ref wq, .ref vq, .int (bI xi), .ref fq, .ref dq, .ref kq, .ref xsq], ob wq 8 [.ref wbq, .ref waq, .int wy], ob waq 1 [.int (nI u.2.1), .ref wakq, .ref wacq, .ref wahq, .ref waaq], ai g wakq 6 u.2.2.1, ai g wacq 6 u.2.2.2.1, ai g wahq 6 u.2.2.2.2.1, ai g waaq 6 u.2.2.2.2.2]) (fun u => (R_person x wan wakd wace waho waac u.1 u.2.1 u.2.2.1 u.2.2.2.1 u.2.2.2.2.1 u.2.2.2.2.2)) := by
  refine Ke.of (cc := cX9_person) (maxL := 3) (ret := (some .int)) (lv := [(0, .ref xq), (1, .int x)]) RX9 rfl (by decide) rfl (Nat.le_of_ble_eq_true rfl) rfl ?_
  intro p e s m below meth c A sz hA9 X hr hin2
  have in1 : ∀ w ∈ u_ws RX1 TX1 5, w ∈ wsX9_person := by decide +kernel
  have in8 : ∀ w ∈ u_ws RX8 TX8 3, w ∈ wsX9_person := by decide +kernel
  have in9 : ∀ w ∈ u_ws RX9 TX9 8, w ∈ wsX9_person := by decide +kernel
  refine V_iload_n (pc := 0) X dX9_person_0 rfl 1 rfl ?_
  refine V_iconst (v := 4) (pc := 1) X dX9_person_1 (by decide) ?_
  refine V_sg (pc := 2) (nA := 2) (As := [.int x, .int 4]) (rest := []) X (c_X9_isBelow l g (x := x) (b := 4) ) gX9_person_X9_isBelow dX9_person_2 rfl (by decide +kernel) rfl ⟨rfl, rfl⟩ ⟨Nat.le_of_ble_eq_true rfl, Nat.le_of_ble_eq_true rfl⟩ ⟨Nat.le_of_ble_eq_true rfl, Nat.le_of_ble_eq_true rfl⟩ [] (by decide) rfl rfl (Nat.le_of_ble_eq_true rfl) (st' := [.int (bI (bel x 4))]) rfl ?_
  refine V_if_ne (tgt := 10) (pc := 5) X dX9_person_5 (by decide) (fun c_1 => ?_) (fun c_1 => ?_)
  · skip
    have b_2 : bel x 4 = true := bI1 c_1
    refine V_aload_n (pc := 10) X dX9_person_10 rfl 0 rfl ?_
    refine V_get (C := RX9) (T := TX9) (N := 8) (ci := 9) (pc := 11) X dX9_person_11 in9 0 rfl rfl 1 (by decide) (by decide +kernel) rfl rfl ?_
    refine V_get (C := RX8) (T := TX8) (N := 3) (ci := 8) (pc := 14) X dX9_person_14 in8 1 rfl rfl 1 (by decide) (by decide +kernel) rfl rfl ?_
    refine V_astore_n (lv' := [(2, .ref waq), (0, .ref xq), (1, .int x)]) (pc := 17) X dX9_person_17 rfl (Nat.le_of_ble_eq_true rfl) rfl ?_
    refine V_aload_n (pc := 18) X dX9_person_18 rfl 0 rfl ?_
    refine V_get (C := RX1) (T := TX1) (N := 5) (ci := 1) (pc := 19) X dX9_person_19 in1 2 rfl rfl 0 (by decide) (by decide +kernel) rfl rfl ?_
    refine V_bipush (v := 6) (pc := 22) X dX9_person_22 (by decide) ?_
    refine V_icmp_lt (tgt := 30) (pc := 24) X dX9_person_24 (by decide) (fun c_3 => ?_) (fun c_3 => ?_)
    · skip
      have n_4 : wan < 6 := nJ_lt (a := wan) (b := 6) (by omega) (by omega) c_3
      refine V_aload_n (pc := 30) X dX9_person_30 rfl 0 rfl ?_
      refine V_iload_n (pc := 31) X dX9_person_31 rfl 2 rfl ?_
      refine V_ve (pc := 32) (nA := 1) (As := [.int x]) (rest := []) X (c_X1_add l g (aq := waq) (akq := wakq) (acq := wacq) (ahq := wahq) (aaq := waaq) (an := wan) (akd := wakd) (ace := wace) (aho := waho) (aac := waac) (x := x) (hn := by first | assumption | omega)) gX9_person_X1_add dX9_person_32 rfl (by decide +kernel) rfl (qb := 2) rfl rfl rfl ⟨rfl, rfl⟩ ⟨Nat.le_of_ble_eq_true rfl, Nat.le_of_ble_eq_true rfl⟩ ⟨Nat.le_of_ble_eq_true rfl, Nat.le_of_ble_eq_true rfl⟩ [2, 3, 4, 5, 6] (by decide) rfl [0, 1] (by decide) (by decide) [ob xq 9 [.ref tq, .ref wq, .ref vq, .int (bI xi), .ref fq, .ref dq, .ref kq, .ref xsq], ob wq 8 [.ref wbq, .ref waq, .int wy]] rfl [0, 1, 2, 3, 4, 5, 6] (by decide) (fun u => [ob xq 9 [.ref tq, .ref wq, .ref vq, .int (bI xi), .ref fq, .ref dq, .ref kq, .ref xsq], ob wq 8 [.ref wbq, .ref waq, .int wy], ob waq 1 [.int (nI (wan + 1)), .ref wakq, .ref wacq, .ref wahq, .ref waaq], ai g wakq 6 (upd wakd wan x), ai g wacq 6 (upd wace wan 0), ai g wahq 6 (upd waho wan 0), ai g waaq 6 (upd waac wan 0)]) (fun _ => rfl) rfl (Nat.le_of_ble_eq_true rfl) (fun u => [.int (nI wan)]) (fun _ => rfl) (fun u hu_5 => ?_)
      refine V_eqw (ws2 := [ob xq 9 [.ref tq, .ref wq, .ref vq, .int (bI xi), .ref fq, .ref dq, .ref kq, .ref xsq], ob wq 8 [.ref wbq, .ref waq, .int wy], ob waq 1 [.int (nI (wan + 1)), .ref wakq, .ref wacq, .ref wahq, .ref waaq], ai g wakq 6 (upd wakd wan x), ai g wacq 6 (upd wace wan 0), ai g wahq 6 (upd waho wan 0), ai g waaq 6 (upd waac wan 0)]) rfl (V_eqs (st2 := [.int (nI wan)]) rfl ?_)
      exact Ve_iret (pc := 35) X hA9 dX9_person_35 hr (nI wan, wan + 1, upd wakd wan x, upd wace wan 0, upd waho wan 0, upd waac wan 0) (by first | rfl | (simp [b_2, n_4]; done)) (by
            try dsimp only
            (unfold R_person; first | (refine Or.inl ⟨?_, ?_, ?_, ?_, ?_, ?_, ?_⟩ <;> first | rfl | assumption | omega | (simp [b_2, n_4]; done)) | (refine Or.inr (Or.inl ⟨?_, ?_, ?_, ?_, ?_, ?_, ?_, ?_⟩) <;> first | rfl | assumption | omega | (simp [b_2, n_4]; done)) | (refine Or.inr (Or.inr (⟨?_, ?_, ?_, ?_, ?_, ?_, ?_, ?_⟩)) <;> first | rfl | assumption | omega | (simp [b_2, n_4]; done)))) (by rfl)
    · skip
      have n_6 : 6 ≤ wan := nJ_nlt (a := wan) (b := 6) (by omega) (by omega) c_3
      refine V_bipush (v := (-3)) (pc := 27) X dX9_person_27 (by decide) ?_
      exact Ve_iret (pc := 29) X hA9 dX9_person_29 hr ((-3), wan, wakd, wace, waho, waac) (by first | rfl | (simp [b_2, n_6]; done)) (by
            try dsimp only
            (unfold R_person; first | (refine Or.inl ⟨?_, ?_, ?_, ?_, ?_, ?_, ?_⟩ <;> first | rfl | assumption | omega | (simp [b_2, n_6]; done)) | (refine Or.inr (Or.inl ⟨?_, ?_, ?_, ?_, ?_, ?_, ?_, ?_⟩) <;> first | rfl | assumption | omega | (simp [b_2, n_6]; done)) | (refine Or.inr (Or.inr (⟨?_, ?_, ?_, ?_, ?_, ?_, ?_, ?_⟩)) <;> first | rfl | assumption | omega | (simp [b_2, n_6]; done)))) (by rfl)
  · skip
    have b_7 : bel x 4 = false := bI0 c_1
    refine V_iconst (v := (-1)) (pc := 8) X dX9_person_8 (by decide) ?_
    exact Ve_iret (pc := 9) X hA9 dX9_person_9 hr ((-1), wan, wakd, wace, waho, waac) (by first | rfl | (simp [b_7]; done)) (by
          try dsimp only
          (unfold R_person; first | (refine Or.inl ⟨?_, ?_, ?_, ?_, ?_, ?_, ?_⟩ <;> first | rfl | assumption | omega | (simp [b_7]; done)) | (refine Or.inr (Or.inl ⟨?_, ?_, ?_, ?_, ?_, ?_, ?_, ?_⟩) <;> first | rfl | assumption | omega | (simp [b_7]; done)) | (refine Or.inr (Or.inr (⟨?_, ?_, ?_, ?_, ?_, ?_, ?_, ?_⟩)) <;> first | rfl | assumption | omega | (simp [b_7]; done)))) (by rfl)
set_option maxHeartbeats 4000000 in
set_option maxRecDepth 100000 in
theorem c_X9_sit (l : Launch) (g : XG) (xq : Nat) (tq : Nat) (wq : Nat) (vq : Nat) (xi : Bool) (fq : Nat) (dq : Nat) (kq : Nat) (xsq : Nat) (wbq : Nat) (waq : Nat) (wy : Int32) (wan : Nat) (wakq : Nat) (wacq : Nat) (wahq : Nat) (waaq : Nat) (wakd : Nat → Int32) (wace : Nat → Int32) (waho : Nat → Int32) (waac : Nat → Int32) (x : Int32) (y : Int32) (w : Int32) (hn : wan ≤ 6) : Ke l g yX9_sit wsX9_sit ({ frames := 2, cells := 0, slots := 0, locals := 42 } : Room) 0 0 [.ref xq, .int x, .int y, .int w] [ob xq 9 [.ref tq, .ref wq, .ref vq, .int (bI xi), .ref fq, .ref dq, .ref kq, .ref xsq], ob wq 8 [.ref wbq, .ref waq, .int wy], ob waq 1 [.int (nI wan), .ref wakq, .ref wacq, .ref wahq, .ref waaq], ai g wakq 6 wakd, ai g wacq 6 wace, ai g wahq 6 waho, ai g waaq 6 waac] (fun u : Int32 × (Nat → Int32) × (Nat → Int32) => some (.int u.1)) (fun u => [ob xq 9 [.ref tq, .ref wq, .ref vq, .int (bI xi), .ref fq, .ref dq, .ref kq, .ref xsq], ob wq 8 [.ref wbq, .ref waq, .int wy], ob waq 1 [.int (nI wan), .ref wakq, .ref wacq, .ref wahq, .ref waaq], ai g wakq 6 wakd, ai g wacq 6 u.2.1, ai g wahq 6 u.2.2, ai g waaq 6 waac]) (fun u => (R_sit x y w wan wace waho u.1 u.2.1 u.2.2)) := by
  refine Ke.of (cc := cX9_sit) (maxL := 5) (ret := (some .int)) (lv := [(0, .ref xq), (1, .int x), (2, .int y), (3, .int w)]) RX9 rfl (by decide) rfl (Nat.le_of_ble_eq_true rfl) rfl ?_
  intro p e s m below meth c A sz hA9 X hr hin2
  have in1 : ∀ w ∈ u_ws RX1 TX1 5, w ∈ wsX9_sit := by decide +kernel
  have in8 : ∀ w ∈ u_ws RX8 TX8 3, w ∈ wsX9_sit := by decide +kernel
  have in9 : ∀ w ∈ u_ws RX9 TX9 8, w ∈ wsX9_sit := by decide +kernel
  refine V_aload_n (pc := 0) X dX9_sit_0 rfl 0 rfl ?_
  refine V_iload_n (pc := 1) X dX9_sit_1 rfl 1 rfl ?_
  refine V_vg (pc := 2) (nA := 1) (As := [.int x]) (rest := []) X (c_X9_isPerson l g (xq := xq) (tq := tq) (wq := wq) (vq := vq) (xi := xi) (fq := fq) (dq := dq) (kq := kq) (xsq := xsq) (wbq := wbq) (waq := waq) (wy := wy) (wan := wan) (wakq := wakq) (wacq := wacq) (wahq := wahq) (waaq := waaq) (wakd := wakd) (wace := wace) (waho := waho) (waac := waac) (x := x) ) gX9_sit_X9_isPerson dX9_sit_2 rfl (by decide +kernel) rfl (qb := 0) rfl rfl rfl ⟨rfl, rfl⟩ ⟨Nat.le_of_ble_eq_true rfl, Nat.le_of_ble_eq_true rfl⟩ ⟨Nat.le_of_ble_eq_true rfl, Nat.le_of_ble_eq_true rfl⟩ [0, 1, 2, 3, 4, 5, 6] (by decide) rfl rfl (Nat.le_of_ble_eq_true rfl) (st' := [.int (bI (bel x (nI wan)))]) rfl ?_
  refine V_if_eq (tgt := 24) (pc := 5) X dX9_sit_5 (by decide) (fun c_1 => ?_) (fun c_1 => ?_)
  · skip
    have b_2 : bel x (nI wan) = false := bI0 c_1
    refine V_iconst (v := (-1)) (pc := 24) X dX9_sit_24 (by decide) ?_
    exact Ve_iret (pc := 25) X hA9 dX9_sit_25 hr ((-1), wace, waho) (by first | rfl | (simp [b_2]; done)) (by
          try dsimp only
          (unfold R_sit; first | (refine Or.inl ⟨?_, ?_, ?_, ?_⟩ <;> first | rfl | assumption | omega | (simp [b_2]; done) | (rw [nI_clamp (by omega)])) | (refine Or.inr (⟨?_, ?_, ?_, ?_⟩) <;> first | rfl | assumption | omega | (simp [b_2]; done) | (rw [nI_clamp (by omega)])))) (by rfl)
  · skip
    have b_3 : bel x (nI wan) = true := bI1 c_1
    refine V_iload_n (pc := 8) X dX9_sit_8 rfl 2 rfl ?_
    refine V_sg (pc := 9) (nA := 1) (As := [.int y]) (rest := []) X (c_X9_isCell l g (x := y) ) gX9_sit_X9_isCell dX9_sit_9 rfl (by decide +kernel) rfl ⟨rfl, rfl⟩ ⟨Nat.le_of_ble_eq_true rfl, Nat.le_of_ble_eq_true rfl⟩ ⟨Nat.le_of_ble_eq_true rfl, Nat.le_of_ble_eq_true rfl⟩ [] (by decide) rfl rfl (Nat.le_of_ble_eq_true rfl) (st' := [.int (bI (bel y 36))]) rfl ?_
    refine V_if_eq (tgt := 24) (pc := 12) X dX9_sit_12 (by decide) (fun c_4 => ?_) (fun c_4 => ?_)
    · skip
      have b_5 : bel y 36 = false := bI0 c_4
      refine V_iconst (v := (-1)) (pc := 24) X dX9_sit_24 (by decide) ?_
      exact Ve_iret (pc := 25) X hA9 dX9_sit_25 hr ((-1), wace, waho) (by first | rfl | (simp [b_3, b_5]; done)) (by
            try dsimp only
            (unfold R_sit; first | (refine Or.inl ⟨?_, ?_, ?_, ?_⟩ <;> first | rfl | assumption | omega | (simp [b_3, b_5]; done) | (rw [nI_clamp (by omega)])) | (refine Or.inr (⟨?_, ?_, ?_, ?_⟩) <;> first | rfl | assumption | omega | (simp [b_3, b_5]; done) | (rw [nI_clamp (by omega)])))) (by rfl)
    · skip
      have b_6 : bel y 36 = true := bI1 c_4
      refine V_iload_n (pc := 15) X dX9_sit_15 rfl 3 rfl ?_
      refine V_bipush (v := 100) (pc := 16) X dX9_sit_16 (by decide) ?_
      refine V_sg (pc := 18) (nA := 2) (As := [.int w, .int 100]) (rest := []) X (c_X9_isBelow l g (x := w) (b := 100) ) gX9_sit_X9_isBelow dX9_sit_18 rfl (by decide +kernel) rfl ⟨rfl, rfl⟩ ⟨Nat.le_of_ble_eq_true rfl, Nat.le_of_ble_eq_true rfl⟩ ⟨Nat.le_of_ble_eq_true rfl, Nat.le_of_ble_eq_true rfl⟩ [] (by decide) rfl rfl (Nat.le_of_ble_eq_true rfl) (st' := [.int (bI (bel w 100))]) rfl ?_
      refine V_if_ne (tgt := 26) (pc := 21) X dX9_sit_21 (by decide) (fun c_7 => ?_) (fun c_7 => ?_)
      · skip
        have b_8 : bel w 100 = true := bI1 c_7
        obtain ⟨j_9, hj_10, rfl⟩ := bel_nat (n := wan) (by omega) b_3
        refine V_aload_n (pc := 26) X dX9_sit_26 rfl 0 rfl ?_
        refine V_get (C := RX9) (T := TX9) (N := 8) (ci := 9) (pc := 27) X dX9_sit_27 in9 0 rfl rfl 1 (by decide) (by decide +kernel) rfl rfl ?_
        refine V_get (C := RX8) (T := TX8) (N := 3) (ci := 8) (pc := 30) X dX9_sit_30 in8 1 rfl rfl 1 (by decide) (by decide +kernel) rfl rfl ?_
        refine V_get (C := RX1) (T := TX1) (N := 5) (ci := 1) (pc := 33) X dX9_sit_33 in1 2 rfl rfl 3 (by decide) (by decide +kernel) rfl rfl ?_
        refine V_iload_n (pc := 36) X dX9_sit_36 rfl 1 rfl ?_
        refine V_iald (v := waho j_9) (pc := 37) X dX9_sit_37 5 rfl (vp_in_nI (by omega) (by omega)) (by rw [nI_clamp (by omega)]) ?_
        refine V_istore (lv' := [(4, .int (waho j_9)), (0, .ref xq), (1, .int (nI j_9)), (2, .int y), (3, .int w)]) (pc := 38) X dX9_sit_38 (Nat.le_of_ble_eq_true rfl) rfl ?_
        refine V_aload_n (pc := 40) X dX9_sit_40 rfl 1 rfl ?_
        refine V_get (C := RX9) (T := TX9) (N := 8) (ci := 9) (pc := 41) X dX9_sit_41 in9 0 rfl rfl 1 (by decide) (by decide +kernel) rfl rfl ?_
        refine V_get (C := RX8) (T := TX8) (N := 3) (ci := 8) (pc := 44) X dX9_sit_44 in8 1 rfl rfl 1 (by decide) (by decide +kernel) rfl rfl ?_
        refine V_iload_n (pc := 47) X dX9_sit_47 rfl 2 rfl ?_
        refine V_iload_n (pc := 48) X dX9_sit_48 rfl 3 rfl ?_
        refine V_iload_n (pc := 49) X dX9_sit_49 rfl 4 rfl ?_
        refine V_ve (pc := 50) (nA := 3) (As := [.int (nI j_9), .int y, .int w]) (rest := []) X (c_X1_seat l g (aq := waq) (akq := wakq) (acq := wacq) (ahq := wahq) (aaq := waaq) (an := wan) (akd := wakd) (ace := wace) (aho := waho) (aac := waac) (j := j_9) (w := y) (h := w) (hj := by first | assumption | omega)) gX9_sit_X1_seat dX9_sit_50 rfl (by decide +kernel) rfl (qb := 2) rfl rfl rfl ⟨rfl, rfl⟩ ⟨Nat.le_of_ble_eq_true rfl, Nat.le_of_ble_eq_true rfl⟩ ⟨Nat.le_of_ble_eq_true rfl, Nat.le_of_ble_eq_true rfl⟩ [2, 3, 4, 5, 6] (by decide) rfl [0, 1] (by decide) (by decide) [ob xq 9 [.ref tq, .ref wq, .ref vq, .int (bI xi), .ref fq, .ref dq, .ref kq, .ref xsq], ob wq 8 [.ref wbq, .ref waq, .int wy]] rfl [0, 1, 2, 3, 4, 5, 6] (by decide) (fun u => [ob xq 9 [.ref tq, .ref wq, .ref vq, .int (bI xi), .ref fq, .ref dq, .ref kq, .ref xsq], ob wq 8 [.ref wbq, .ref waq, .int wy], ob waq 1 [.int (nI wan), .ref wakq, .ref wacq, .ref wahq, .ref waaq], ai g wakq 6 wakd, ai g wacq 6 (upd wace j_9 y), ai g wahq 6 (upd waho j_9 w), ai g waaq 6 waac]) (fun _ => rfl) rfl (Nat.le_of_ble_eq_true rfl) (fun u => []) (fun _ => rfl) (fun u hu_11 => ?_)
        refine V_eqw (ws2 := [ob xq 9 [.ref tq, .ref wq, .ref vq, .int (bI xi), .ref fq, .ref dq, .ref kq, .ref xsq], ob wq 8 [.ref wbq, .ref waq, .int wy], ob waq 1 [.int (nI wan), .ref wakq, .ref wacq, .ref wahq, .ref waaq], ai g wakq 6 wakd, ai g wacq 6 (upd wace j_9 y), ai g wahq 6 (upd waho j_9 w), ai g waaq 6 waac]) rfl (V_eqs (st2 := []) rfl ?_)
        refine V_iload (pc := 53) X dX9_sit_53 0 rfl ?_
        exact Ve_iret (pc := 55) X hA9 dX9_sit_55 hr (waho j_9, upd wace j_9 y, upd waho j_9 w) (by first | rfl | (simp [b_3, b_6, b_8, hj_10]; done)) (by
              try dsimp only
              (unfold R_sit; first | (refine Or.inl ⟨?_, ?_, ?_, ?_⟩ <;> first | rfl | assumption | omega | (simp [b_3, b_6, b_8, hj_10]; done) | (rw [nI_clamp (by omega)])) | (refine Or.inr (⟨?_, ?_, ?_, ?_⟩) <;> first | rfl | assumption | omega | (simp [b_3, b_6, b_8, hj_10]; done) | (rw [nI_clamp (by omega)])))) (by rfl)
      · skip
        have b_12 : bel w 100 = false := bI0 c_7
        refine V_iconst (v := (-1)) (pc := 24) X dX9_sit_24 (by decide) ?_
        exact Ve_iret (pc := 25) X hA9 dX9_sit_25 hr ((-1), wace, waho) (by first | rfl | (simp [b_3, b_6, b_12]; done)) (by
              try dsimp only
              (unfold R_sit; first | (refine Or.inl ⟨?_, ?_, ?_, ?_⟩ <;> first | rfl | assumption | omega | (simp [b_3, b_6, b_12]; done) | (rw [nI_clamp (by omega)])) | (refine Or.inr (⟨?_, ?_, ?_, ?_⟩) <;> first | rfl | assumption | omega | (simp [b_3, b_6, b_12]; done) | (rw [nI_clamp (by omega)])))) (by rfl)
set_option maxHeartbeats 4000000 in
set_option maxRecDepth 100000 in
theorem c_X9_told (l : Launch) (g : XG) (xq : Nat) (tq : Nat) (wq : Nat) (vq : Nat) (xi : Bool) (fq : Nat) (dq : Nat) (kq : Nat) (xsq : Nat) (wbq : Nat) (waq : Nat) (wy : Int32) (wan : Nat) (wakq : Nat) (wacq : Nat) (wahq : Nat) (waaq : Nat) (wakd : Nat → Int32) (wace : Nat → Int32) (waho : Nat → Int32) (waac : Nat → Int32) (x : Int32) (w : Int32) (hn : wan ≤ 6) : Kg l g yX9_told wsX9_told ({ frames := 2, cells := 0, slots := 0, locals := 42 } : Room) [.ref xq, .int x, .int w] [ob xq 9 [.ref tq, .ref wq, .ref vq, .int (bI xi), .ref fq, .ref dq, .ref kq, .ref xsq], ob wq 8 [.ref wbq, .ref waq, .int wy], ob waq 1 [.int (nI wan), .ref wakq, .ref wacq, .ref wahq, .ref waaq], ai g wakq 6 wakd, ai g wacq 6 wace, ai g wahq 6 waho, ai g waaq 6 waac] (some (.int (toldF x w wan wakd wace waho waac))) := by
  refine Kg.of (cc := cX9_told) (maxL := 4) (ret := (some .int)) (lv := [(0, .ref xq), (1, .int x), (2, .int w)]) RX9 rfl (by decide) rfl (Nat.le_of_ble_eq_true rfl) rfl ?_
  intro p e s m below meth c A X hr
  have in1 : ∀ w ∈ u_ws RX1 TX1 5, w ∈ wsX9_told := by decide +kernel
  have in8 : ∀ w ∈ u_ws RX8 TX8 3, w ∈ wsX9_told := by decide +kernel
  have in9 : ∀ w ∈ u_ws RX9 TX9 8, w ∈ wsX9_told := by decide +kernel
  refine V_aload_n (pc := 0) X dX9_told_0 rfl 0 rfl ?_
  refine V_iload_n (pc := 1) X dX9_told_1 rfl 1 rfl ?_
  refine V_vg (pc := 2) (nA := 1) (As := [.int x]) (rest := []) X (c_X9_isPerson l g (xq := xq) (tq := tq) (wq := wq) (vq := vq) (xi := xi) (fq := fq) (dq := dq) (kq := kq) (xsq := xsq) (wbq := wbq) (waq := waq) (wy := wy) (wan := wan) (wakq := wakq) (wacq := wacq) (wahq := wahq) (waaq := waaq) (wakd := wakd) (wace := wace) (waho := waho) (waac := waac) (x := x) ) gX9_told_X9_isPerson dX9_told_2 rfl (by decide +kernel) rfl (qb := 0) rfl rfl rfl ⟨rfl, rfl⟩ ⟨Nat.le_of_ble_eq_true rfl, Nat.le_of_ble_eq_true rfl⟩ ⟨Nat.le_of_ble_eq_true rfl, Nat.le_of_ble_eq_true rfl⟩ [0, 1, 2, 3, 4, 5, 6] (by decide) rfl rfl (Nat.le_of_ble_eq_true rfl) (st' := [.int (bI (bel x (nI wan)))]) rfl ?_
  refine V_if_ne (tgt := 10) (pc := 5) X dX9_told_5 (by decide) (fun c_1 => ?_) (fun c_1 => ?_)
  · skip
    have b_2 : bel x (nI wan) = true := bI1 c_1
    obtain ⟨j_3, hj_4, rfl⟩ := bel_nat (n := wan) (by omega) b_2
    refine V_aload_n (pc := 10) X dX9_told_10 rfl 0 rfl ?_
    refine V_get (C := RX9) (T := TX9) (N := 8) (ci := 9) (pc := 11) X dX9_told_11 in9 0 rfl rfl 1 (by decide) (by decide +kernel) rfl rfl ?_
    refine V_get (C := RX8) (T := TX8) (N := 3) (ci := 8) (pc := 14) X dX9_told_14 in8 1 rfl rfl 1 (by decide) (by decide +kernel) rfl rfl ?_
    refine V_astore_n (lv' := [(3, .ref waq), (0, .ref xq), (1, .int (nI j_3)), (2, .int w)]) (pc := 17) X dX9_told_17 rfl (Nat.le_of_ble_eq_true rfl) rfl ?_
    refine V_iload_n (pc := 18) X dX9_told_18 rfl 3 rfl ?_
    by_cases w_5 : w = 0
    · refine V_tableIn (off := 29) (tgt := 48) (pc := 19) X dX9_told_19 (by rw [w_5]; decide) (by rw [w_5]; decide) (by rw [w_5]; rfl) (by decide) ?_
      refine V_aload_n (pc := 48) X dX9_told_48 rfl 0 rfl ?_
      refine V_get (C := RX1) (T := TX1) (N := 5) (ci := 1) (pc := 49) X dX9_told_49 in1 2 rfl rfl 1 (by decide) (by decide +kernel) rfl rfl ?_
      refine V_iload_n (pc := 52) X dX9_told_52 rfl 2 rfl ?_
      refine V_iald (v := wakd j_3) (pc := 53) X dX9_told_53 3 rfl (vp_in_nI (by omega) (by omega)) (by rw [nI_clamp (by omega)]) ?_
      exact Vg_iret (pc := 54) X dX9_told_54 hr (by first | (simp [toldF, b_2, hj_4, w_5]; done) | (have q9 := nI_clamp (n := j_3) (by omega); first | (simp [toldF, q9, b_2, hj_4, w_5]; done) | (simp_all [toldF]; done) | (simp_all [toldF]; intro h9; exact absurd h9 (Int32.not_lt.mpr (by assumption)))))
    by_cases w_6 : w = 1
    · refine V_tableIn (off := 36) (tgt := 55) (pc := 19) X dX9_told_19 (by rw [w_6]; decide) (by rw [w_6]; decide) (by rw [w_6]; rfl) (by decide) ?_
      refine V_aload_n (pc := 55) X dX9_told_55 rfl 0 rfl ?_
      refine V_iload_n (pc := 56) X dX9_told_56 rfl 2 rfl ?_
      refine V_vg (pc := 57) (nA := 1) (As := [.int (nI j_3)]) (rest := []) X (c_X1_sits l g (aq := waq) (akq := wakq) (acq := wacq) (ahq := wahq) (aaq := waaq) (an := wan) (akd := wakd) (ace := wace) (aho := waho) (aac := waac) (j := j_3) (hj := by first | assumption | omega)) gX9_told_X1_sits dX9_told_57 rfl (by decide +kernel) rfl (qb := 2) rfl rfl rfl ⟨rfl, rfl⟩ ⟨Nat.le_of_ble_eq_true rfl, Nat.le_of_ble_eq_true rfl⟩ ⟨Nat.le_of_ble_eq_true rfl, Nat.le_of_ble_eq_true rfl⟩ [2, 3, 4, 5, 6] (by decide) rfl rfl (Nat.le_of_ble_eq_true rfl) (st' := [.int (bI (decide (0 < waho j_3)))]) rfl ?_
      refine V_if_eq (tgt := 72) (pc := 60) X dX9_told_60 (by decide) (fun c_7 => ?_) (fun c_7 => ?_)
      · skip
        have b_8 : decide (0 < waho j_3) = false := bI0 c_7
        refine V_bipush (v := (-4)) (pc := 72) X dX9_told_72 (by decide) ?_
        exact Vg_iret (pc := 74) X dX9_told_74 hr (by first | (simp [toldF, b_2, hj_4, w_6, b_8]; done) | (have q9 := nI_clamp (n := j_3) (by omega); first | (simp [toldF, q9, b_2, hj_4, w_6, b_8]; done) | (simp_all [toldF]; done) | (simp_all [toldF]; intro h9; exact absurd h9 (Int32.not_lt.mpr (by assumption)))))
      · skip
        have b_9 : decide (0 < waho j_3) = true := bI1 c_7
        refine V_aload_n (pc := 63) X dX9_told_63 rfl 0 rfl ?_
        refine V_get (C := RX1) (T := TX1) (N := 5) (ci := 1) (pc := 64) X dX9_told_64 in1 2 rfl rfl 2 (by decide) (by decide +kernel) rfl rfl ?_
        refine V_iload_n (pc := 67) X dX9_told_67 rfl 2 rfl ?_
        refine V_iald (v := wace j_3) (pc := 68) X dX9_told_68 4 rfl (vp_in_nI (by omega) (by omega)) (by rw [nI_clamp (by omega)]) ?_
        refine V_goto (tgt := 74) (pc := 69) X dX9_told_69 (by decide) ?_
        exact Vg_iret (pc := 74) X dX9_told_74 hr (by first | (simp [toldF, b_2, hj_4, w_6, b_9]; done) | (have q9 := nI_clamp (n := j_3) (by omega); first | (simp [toldF, q9, b_2, hj_4, w_6, b_9]; done) | (simp_all [toldF]; done) | (simp_all [toldF]; intro h9; exact absurd h9 (Int32.not_lt.mpr (by assumption)))))
    by_cases w_10 : w = 2
    · refine V_tableIn (off := 56) (tgt := 75) (pc := 19) X dX9_told_19 (by rw [w_10]; decide) (by rw [w_10]; decide) (by rw [w_10]; rfl) (by decide) ?_
      refine V_aload_n (pc := 75) X dX9_told_75 rfl 0 rfl ?_
      refine V_get (C := RX1) (T := TX1) (N := 5) (ci := 1) (pc := 76) X dX9_told_76 in1 2 rfl rfl 3 (by decide) (by decide +kernel) rfl rfl ?_
      refine V_iload_n (pc := 79) X dX9_told_79 rfl 2 rfl ?_
      refine V_iald (v := waho j_3) (pc := 80) X dX9_told_80 5 rfl (vp_in_nI (by omega) (by omega)) (by rw [nI_clamp (by omega)]) ?_
      exact Vg_iret (pc := 81) X dX9_told_81 hr (by first | (simp [toldF, b_2, hj_4, w_10]; done) | (have q9 := nI_clamp (n := j_3) (by omega); first | (simp [toldF, q9, b_2, hj_4, w_10]; done) | (simp_all [toldF]; done) | (simp_all [toldF]; intro h9; exact absurd h9 (Int32.not_lt.mpr (by assumption)))))
    by_cases w_11 : w = 3
    · refine V_tableIn (off := 63) (tgt := 82) (pc := 19) X dX9_told_19 (by rw [w_11]; decide) (by rw [w_11]; decide) (by rw [w_11]; rfl) (by decide) ?_
      refine V_aload_n (pc := 82) X dX9_told_82 rfl 0 rfl ?_
      refine V_get (C := RX1) (T := TX1) (N := 5) (ci := 1) (pc := 83) X dX9_told_83 in1 2 rfl rfl 4 (by decide) (by decide +kernel) rfl rfl ?_
      refine V_iload_n (pc := 86) X dX9_told_86 rfl 2 rfl ?_
      refine V_iald (v := waac j_3) (pc := 87) X dX9_told_87 6 rfl (vp_in_nI (by omega) (by omega)) (by rw [nI_clamp (by omega)]) ?_
      exact Vg_iret (pc := 88) X dX9_told_88 hr (by first | (simp [toldF, b_2, hj_4, w_11]; done) | (have q9 := nI_clamp (n := j_3) (by omega); first | (simp [toldF, q9, b_2, hj_4, w_11]; done) | (simp_all [toldF]; done) | (simp_all [toldF]; intro h9; exact absurd h9 (Int32.not_lt.mpr (by assumption)))))
    refine V_tableOut (tgt := 89) (pc := 19) X dX9_told_19 (tb_out 0 3 (by decide) (by decide) (fun k h1 h2 q => by
        rcases (show k = 0 ∨ k = 1 ∨ k = 2 ∨ k = 3 by omega) with rfl | rfl | rfl | rfl <;> first | exact absurd q w_5 | exact absurd q w_6 | exact absurd q w_10 | exact absurd q w_11)) (by decide) ?_
    refine V_iconst (v := (-1)) (pc := 89) X dX9_told_89 (by decide) ?_
    exact Vg_iret (pc := 90) X dX9_told_90 hr (by first | (simp [toldF, b_2, hj_4, w_5, w_6, w_10, w_11]; done) | (have q9 := nI_clamp (n := j_3) (by omega); first | (simp [toldF, q9, b_2, hj_4, w_5, w_6, w_10, w_11]; done) | (simp_all [toldF]; done) | (simp_all [toldF]; intro h9; exact absurd h9 (Int32.not_lt.mpr (by assumption)))))
  · skip
    have b_12 : bel x (nI wan) = false := bI0 c_1
    refine V_iconst (v := (-1)) (pc := 8) X dX9_told_8 (by decide) ?_
    exact Vg_iret (pc := 9) X dX9_told_9 hr (by simp [toldF, b_12])
set_option maxHeartbeats 4000000 in
set_option maxRecDepth 100000 in
theorem c_X9_of (l : Launch) (g : XG) (xq : Nat) (tq : Nat) (wq : Nat) (vq : Nat) (xi : Bool) (fq : Nat) (dq : Nat) (kq : Nat) (xsq : Nat) (wbq : Nat) (waq : Nat) (wy : Int32) (wbf : Int64) (wbt : Nat) (wbz : Int32) (wbmq : Nat) (wbm : Nat → Int32) (wan : Nat) (wakq : Nat) (wacq : Nat) (wahq : Nat) (waaq : Nat) (wakd : Nat → Int32) (wace : Nat → Int32) (waho : Nat → Int32) (waac : Nat → Int32) (x : Int32) (w : Int32) (ht : wbt ≤ 6) (hn : wan ≤ 6) : Kg l g yX9_of wsX9_of ({ frames := 3, cells := 0, slots := 0, locals := 64 } : Room) [.ref xq, .int x, .int w] [ob xq 9 [.ref tq, .ref wq, .ref vq, .int (bI xi), .ref fq, .ref dq, .ref kq, .ref xsq], ob wq 8 [.ref wbq, .ref waq, .int wy], ob wbq 4 [.long wbf, .int (nI wbt), .int wbz, .ref wbmq], ai g wbmq 6 wbm, ob waq 1 [.int (nI wan), .ref wakq, .ref wacq, .ref wahq, .ref waaq], ai g wakq 6 wakd, ai g wacq 6 wace, ai g wahq 6 waho, ai g waaq 6 waac] (some (.int (ofF x w wbf wbt wbm wbz wan wakd wace waho))) := by
  refine Kg.of (cc := cX9_of) (maxL := 4) (ret := (some .int)) (lv := [(0, .ref xq), (1, .int x), (2, .int w)]) RX9 rfl (by decide) rfl (Nat.le_of_ble_eq_true rfl) rfl ?_
  intro p e s m below meth c A X hr
  have in8 : ∀ w ∈ u_ws RX8 TX8 3, w ∈ wsX9_of := by decide +kernel
  have in9 : ∀ w ∈ u_ws RX9 TX9 8, w ∈ wsX9_of := by decide +kernel
  refine V_iload_n (pc := 0) X dX9_of_0 rfl 1 rfl ?_
  refine V_sg (pc := 1) (nA := 1) (As := [.int x]) (rest := []) X (c_X9_isCell l g (x := x) ) gX9_of_X9_isCell dX9_of_1 rfl (by decide +kernel) rfl ⟨rfl, rfl⟩ ⟨Nat.le_of_ble_eq_true rfl, Nat.le_of_ble_eq_true rfl⟩ ⟨Nat.le_of_ble_eq_true rfl, Nat.le_of_ble_eq_true rfl⟩ [] (by decide) rfl rfl (Nat.le_of_ble_eq_true rfl) (st' := [.int (bI (bel x 36))]) rfl ?_
  refine V_if_ne (tgt := 9) (pc := 4) X dX9_of_4 (by decide) (fun c_1 => ?_) (fun c_1 => ?_)
  · skip
    have b_2 : bel x 36 = true := bI1 c_1
    refine V_aload_n (pc := 9) X dX9_of_9 rfl 0 rfl ?_
    refine V_get (C := RX9) (T := TX9) (N := 8) (ci := 9) (pc := 10) X dX9_of_10 in9 0 rfl rfl 1 (by decide) (by decide +kernel) rfl rfl ?_
    refine V_get (C := RX8) (T := TX8) (N := 3) (ci := 8) (pc := 13) X dX9_of_13 in8 1 rfl rfl 0 (by decide) (by decide +kernel) rfl rfl ?_
    refine V_astore_n (lv' := [(3, .ref wbq), (0, .ref xq), (1, .int x), (2, .int w)]) (pc := 16) X dX9_of_16 rfl (Nat.le_of_ble_eq_true rfl) rfl ?_
    refine V_iload_n (pc := 17) X dX9_of_17 rfl 3 rfl ?_
    by_cases w_3 : w = 0
    · refine V_tableIn (off := 30) (tgt := 48) (pc := 18) X dX9_of_18 (by rw [w_3]; decide) (by rw [w_3]; decide) (by rw [w_3]; rfl) (by decide) ?_
      refine V_aload_n (pc := 48) X dX9_of_48 rfl 0 rfl ?_
      refine V_iload_n (pc := 49) X dX9_of_49 rfl 2 rfl ?_
      refine V_vg (pc := 50) (nA := 1) (As := [.int x]) (rest := []) X (c_X4_isFirm l g (bq := wbq) (bmq := wbmq) (bf := wbf) (bt := wbt) (bz := wbz) (bm := wbm) (x := x) ) gX9_of_X4_isFirm dX9_of_50 rfl (by decide +kernel) rfl (qb := 2) rfl rfl rfl ⟨rfl, rfl⟩ ⟨Nat.le_of_ble_eq_true rfl, Nat.le_of_ble_eq_true rfl⟩ ⟨Nat.le_of_ble_eq_true rfl, Nat.le_of_ble_eq_true rfl⟩ [2, 3] (by decide) rfl rfl (Nat.le_of_ble_eq_true rfl) (st' := [.int (bI (firmB wbf x))]) rfl ?_
      refine V_if_eq (tgt := 60) (pc := 53) X dX9_of_53 (by decide) (fun c_4 => ?_) (fun c_4 => ?_)
      · skip
        have b_5 : firmB wbf x = false := bI0 c_4
        refine V_iconst (v := 0) (pc := 60) X dX9_of_60 (by decide) ?_
        exact Vg_iret (pc := 61) X dX9_of_61 hr (by first | (simp [ofF, bI, b_2, w_3, b_5]; done) | (simp [ofF, bI, firmB, b_2, w_3, b_5]; done))
      · skip
        have b_6 : firmB wbf x = true := bI1 c_4
        refine V_iconst (v := 1) (pc := 56) X dX9_of_56 (by decide) ?_
        refine V_goto (tgt := 61) (pc := 57) X dX9_of_57 (by decide) ?_
        exact Vg_iret (pc := 61) X dX9_of_61 hr (by first | (simp [ofF, bI, b_2, w_3, b_6]; done) | (simp [ofF, bI, firmB, b_2, w_3, b_6]; done))
    by_cases w_7 : w = 1
    · refine V_tableIn (off := 44) (tgt := 62) (pc := 18) X dX9_of_18 (by rw [w_7]; decide) (by rw [w_7]; decide) (by rw [w_7]; rfl) (by decide) ?_
      refine V_aload_n (pc := 62) X dX9_of_62 rfl 0 rfl ?_
      refine V_iload_n (pc := 63) X dX9_of_63 rfl 2 rfl ?_
      refine V_vg (pc := 64) (nA := 1) (As := [.int x]) (rest := []) X (c_X4_tuftsIn l g (bq := wbq) (bmq := wbmq) (bf := wbf) (bt := wbt) (bz := wbz) (bm := wbm) (x := x) (ht := by first | assumption | omega)) gX9_of_X4_tuftsIn dX9_of_64 rfl (by decide +kernel) rfl (qb := 2) rfl rfl rfl ⟨rfl, rfl⟩ ⟨Nat.le_of_ble_eq_true rfl, Nat.le_of_ble_eq_true rfl⟩ ⟨Nat.le_of_ble_eq_true rfl, Nat.le_of_ble_eq_true rfl⟩ [2, 3] (by decide) rfl rfl (Nat.le_of_ble_eq_true rfl) (st' := [.int (nI (tiF wbm x wbt))]) rfl ?_
      exact Vg_iret (pc := 67) X dX9_of_67 hr (by first | (simp [ofF, bI, b_2, w_7]; done) | (simp [ofF, bI, firmB, b_2, w_7]; done))
    by_cases w_8 : w = 2
    · refine V_tableIn (off := 50) (tgt := 68) (pc := 18) X dX9_of_18 (by rw [w_8]; decide) (by rw [w_8]; decide) (by rw [w_8]; rfl) (by decide) ?_
      refine V_aload_n (pc := 68) X dX9_of_68 rfl 0 rfl ?_
      refine V_vg (pc := 69) (nA := 0) (As := []) (rest := []) X (c_X4_walkable l g (bq := wbq) (bmq := wbmq) (bf := wbf) (bt := wbt) (bz := wbz) (bm := wbm) (ht := by first | assumption | omega)) gX9_of_X4_walkable dX9_of_69 rfl (by decide +kernel) rfl (qb := 2) rfl rfl rfl ⟨rfl, rfl⟩ ⟨Nat.le_of_ble_eq_true rfl, Nat.le_of_ble_eq_true rfl⟩ ⟨Nat.le_of_ble_eq_true rfl, Nat.le_of_ble_eq_true rfl⟩ [2, 3] (by decide) rfl rfl (Nat.le_of_ble_eq_true rfl) (st' := [.long (wkX wbz wbf wbm wbt (-1))]) rfl ?_
      refine V_iload_n (pc := 72) X dX9_of_72 rfl 2 rfl ?_
      refine V_sg (pc := 73) (nA := 1) (As := [.int x]) (rest := [.long (wkX wbz wbf wbm wbt (-1))]) X (c_X9_bit l g (x := x) ) gX9_of_X9_bit dX9_of_73 rfl (by decide +kernel) rfl ⟨rfl, rfl⟩ ⟨Nat.le_of_ble_eq_true rfl, Nat.le_of_ble_eq_true rfl⟩ ⟨Nat.le_of_ble_eq_true rfl, Nat.le_of_ble_eq_true rfl⟩ [] (by decide) rfl rfl (Nat.le_of_ble_eq_true rfl) (st' := [.long (bitI x), .long (wkX wbz wbf wbm wbt (-1))]) rfl ?_
      refine V_land (pc := 76) X dX9_of_76 ?_
      refine V_lconst (v := 0) (pc := 77) X dX9_of_77 (by decide) ?_
      refine V_lcmp (pc := 78) X dX9_of_78 ?_
      refine V_if_eq (tgt := 86) (pc := 79) X dX9_of_79 (by decide) (fun c_9 => ?_) (fun c_9 => ?_)
      · skip
        have q_10 : ((wkX wbz wbf wbm wbt (-1)) &&& (bitI x)) = 0 := cmp_eq_t c_9
        refine V_iconst (v := 0) (pc := 86) X dX9_of_86 (by decide) ?_
        exact Vg_iret (pc := 87) X dX9_of_87 hr (by first | (simp [ofF, bI, b_2, w_8, q_10]; done) | (simp [ofF, bI, firmB, b_2, w_8, q_10]; done))
      · skip
        have q_11 : ¬ ((wkX wbz wbf wbm wbt (-1)) &&& (bitI x)) = 0 := cmp_eq_f c_9
        refine V_iconst (v := 1) (pc := 82) X dX9_of_82 (by decide) ?_
        refine V_goto (tgt := 87) (pc := 83) X dX9_of_83 (by decide) ?_
        exact Vg_iret (pc := 87) X dX9_of_87 hr (by first | (simp [ofF, bI, b_2, w_8, q_11]; done) | (simp [ofF, bI, firmB, b_2, w_8, q_11]; done))
    by_cases w_12 : w = 3
    · refine V_tableIn (off := 70) (tgt := 88) (pc := 18) X dX9_of_18 (by rw [w_12]; decide) (by rw [w_12]; decide) (by rw [w_12]; rfl) (by decide) ?_
      refine V_aload_n (pc := 88) X dX9_of_88 rfl 1 rfl ?_
      refine V_get (C := RX9) (T := TX9) (N := 8) (ci := 9) (pc := 89) X dX9_of_89 in9 0 rfl rfl 1 (by decide) (by decide +kernel) rfl rfl ?_
      refine V_get (C := RX8) (T := TX8) (N := 3) (ci := 8) (pc := 92) X dX9_of_92 in8 1 rfl rfl 1 (by decide) (by decide +kernel) rfl rfl ?_
      refine V_iload_n (pc := 95) X dX9_of_95 rfl 2 rfl ?_
      refine V_vg (pc := 96) (nA := 1) (As := [.int x]) (rest := []) X (c_X1_weightIn l g (aq := waq) (akq := wakq) (acq := wacq) (ahq := wahq) (aaq := waaq) (an := wan) (akd := wakd) (ace := wace) (aho := waho) (aac := waac) (w := x) (hn := by first | assumption | omega)) gX9_of_X1_weightIn dX9_of_96 rfl (by decide +kernel) rfl (qb := 4) rfl rfl rfl ⟨rfl, rfl⟩ ⟨Nat.le_of_ble_eq_true rfl, Nat.le_of_ble_eq_true rfl⟩ ⟨Nat.le_of_ble_eq_true rfl, Nat.le_of_ble_eq_true rfl⟩ [4, 5, 6, 7, 8] (by decide) rfl rfl (Nat.le_of_ble_eq_true rfl) (st' := [.int (wInF wakd wace waho x wan)]) rfl ?_
      exact Vg_iret (pc := 99) X dX9_of_99 hr (by first | (simp [ofF, bI, b_2, w_12]; done) | (simp [ofF, bI, firmB, b_2, w_12]; done))
    refine V_tableOut (tgt := 100) (pc := 18) X dX9_of_18 (tb_out 0 3 (by decide) (by decide) (fun k h1 h2 q => by
        rcases (show k = 0 ∨ k = 1 ∨ k = 2 ∨ k = 3 by omega) with rfl | rfl | rfl | rfl <;> first | exact absurd q w_3 | exact absurd q w_7 | exact absurd q w_8 | exact absurd q w_12)) (by decide) ?_
    refine V_iconst (v := (-1)) (pc := 100) X dX9_of_100 (by decide) ?_
    exact Vg_iret (pc := 101) X dX9_of_101 hr (by first | (simp [ofF, bI, b_2, w_3, w_7, w_8, w_12]; done) | (simp [ofF, bI, firmB, b_2, w_3, w_7, w_8, w_12]; done))
  · skip
    have b_13 : bel x 36 = false := bI0 c_1
    refine V_iconst (v := (-1)) (pc := 7) X dX9_of_7 (by decide) ?_
    exact Vg_iret (pc := 8) X dX9_of_8 hr (by first | (simp [ofF, bI, b_13]; done) | (simp [ofF, bI, firmB, b_13]; done))
set_option maxHeartbeats 4000000 in
set_option maxRecDepth 100000 in
theorem c_X9_frost (l : Launch) (g : XG) (xq : Nat) (tq : Nat) (wq : Nat) (vq : Nat) (xi : Bool) (fq : Nat) (dq : Nat) (kq : Nat) (xsq : Nat) (wbq : Nat) (waq : Nat) (wy : Int32) (wbf : Int64) (wbt : Nat) (wbz : Int32) (wbmq : Nat) (wbm : Nat → Int32) (x : Int32)  : Ke l g yX9_frost wsX9_frost ({ frames := 1, cells := 0, slots := 0, locals := 21 } : Room) 0 0 [.ref xq, .int x] [ob xq 9 [.ref tq, .ref wq, .ref vq, .int (bI xi), .ref fq, .ref dq, .ref kq, .ref xsq], ob wq 8 [.ref wbq, .ref waq, .int wy], ob wbq 4 [.long wbf, .int (nI wbt), .int wbz, .ref wbmq], ai g wbmq 6 wbm] (fun u : Int32 × Int32 => some (.int u.1)) (fun u => [ob xq 9 [.ref tq, .ref wq, .ref vq, .int (bI xi), .ref fq, .ref dq, .ref kq, .ref xsq], ob wq 8 [.ref wbq, .ref waq, .int wy], ob wbq 4 [.long wbf, .int (nI wbt), .int u.2, .ref wbmq], ai g wbmq 6 wbm]) (fun u => (R_frost x wbz u.1 u.2)) := by
  refine Ke.of (cc := cX9_frost) (maxL := 3) (ret := (some .int)) (lv := [(0, .ref xq), (1, .int x)]) RX9 rfl (by decide) rfl (Nat.le_of_ble_eq_true rfl) rfl ?_
  intro p e s m below meth c A sz hA9 X hr hin2
  have in4 : ∀ w ∈ u_ws RX4 TX4 4, w ∈ wsX9_frost := by decide +kernel
  have in8 : ∀ w ∈ u_ws RX8 TX8 3, w ∈ wsX9_frost := by decide +kernel
  have in9 : ∀ w ∈ u_ws RX9 TX9 8, w ∈ wsX9_frost := by decide +kernel
  refine V_iload_n (pc := 0) X dX9_frost_0 rfl 1 rfl ?_
  refine V_bipush (v := 10) (pc := 1) X dX9_frost_1 (by decide) ?_
  refine V_sg (pc := 3) (nA := 2) (As := [.int x, .int 10]) (rest := []) X (c_X9_isBelow l g (x := x) (b := 10) ) gX9_frost_X9_isBelow dX9_frost_3 rfl (by decide +kernel) rfl ⟨rfl, rfl⟩ ⟨Nat.le_of_ble_eq_true rfl, Nat.le_of_ble_eq_true rfl⟩ ⟨Nat.le_of_ble_eq_true rfl, Nat.le_of_ble_eq_true rfl⟩ [] (by decide) rfl rfl (Nat.le_of_ble_eq_true rfl) (st' := [.int (bI (bel x 10))]) rfl ?_
  refine V_if_ne (tgt := 11) (pc := 6) X dX9_frost_6 (by decide) (fun c_1 => ?_) (fun c_1 => ?_)
  · skip
    have b_2 : bel x 10 = true := bI1 c_1
    refine V_aload_n (pc := 11) X dX9_frost_11 rfl 0 rfl ?_
    refine V_get (C := RX9) (T := TX9) (N := 8) (ci := 9) (pc := 12) X dX9_frost_12 in9 0 rfl rfl 1 (by decide) (by decide +kernel) rfl rfl ?_
    refine V_get (C := RX8) (T := TX8) (N := 3) (ci := 8) (pc := 15) X dX9_frost_15 in8 1 rfl rfl 0 (by decide) (by decide +kernel) rfl rfl ?_
    refine V_get (C := RX4) (T := TX4) (N := 4) (ci := 4) (pc := 18) X dX9_frost_18 in4 2 rfl rfl 2 (by decide) (by decide +kernel) rfl rfl ?_
    refine V_istore_n (lv' := [(2, .int wbz), (0, .ref xq), (1, .int x)]) (pc := 21) X dX9_frost_21 rfl (Nat.le_of_ble_eq_true rfl) rfl ?_
    refine V_aload_n (pc := 22) X dX9_frost_22 rfl 1 rfl ?_
    refine V_get (C := RX9) (T := TX9) (N := 8) (ci := 9) (pc := 23) X dX9_frost_23 in9 0 rfl rfl 1 (by decide) (by decide +kernel) rfl rfl ?_
    refine V_get (C := RX8) (T := TX8) (N := 3) (ci := 8) (pc := 26) X dX9_frost_26 in8 1 rfl rfl 0 (by decide) (by decide +kernel) rfl rfl ?_
    refine V_iload_n (pc := 29) X dX9_frost_29 rfl 2 rfl ?_
    refine V_put (C := RX4) (T := TX4) (N := 4) (ci := 4) (ws' := [ob xq 9 [.ref tq, .ref wq, .ref vq, .int (bI xi), .ref fq, .ref dq, .ref kq, .ref xsq], ob wq 8 [.ref wbq, .ref waq, .int wy], ob wbq 4 [.long wbf, .int (nI wbt), .int x, .ref wbmq], ai g wbmq 6 wbm]) (pc := 30) X dX9_frost_30 in4 tyX4 tyX4_ok nmX4 2 rfl rfl 2 (by decide) (by decide +kernel) rfl rfl rfl rfl rfl (Nat.le_of_ble_eq_true rfl) rfl ?_
    refine V_iload_n (pc := 33) X dX9_frost_33 rfl 0 rfl ?_
    exact Ve_iret (pc := 34) X hA9 dX9_frost_34 hr (wbz, x) (by first | rfl | (simp [b_2]; done)) (by
          try dsimp only
          (unfold R_frost; first | (refine Or.inl ⟨?_, ?_, ?_⟩ <;> first | rfl | assumption | omega | (simp [b_2]; done)) | (refine Or.inr (⟨?_, ?_, ?_⟩) <;> first | rfl | assumption | omega | (simp [b_2]; done)))) (by rfl)
  · skip
    have b_3 : bel x 10 = false := bI0 c_1
    refine V_iconst (v := (-1)) (pc := 9) X dX9_frost_9 (by decide) ?_
    exact Ve_iret (pc := 10) X hA9 dX9_frost_10 hr ((-1), wbz) (by first | rfl | (simp [b_3]; done)) (by
          try dsimp only
          (unfold R_frost; first | (refine Or.inl ⟨?_, ?_, ?_⟩ <;> first | rfl | assumption | omega | (simp [b_3]; done)) | (refine Or.inr (⟨?_, ?_, ?_⟩) <;> first | rfl | assumption | omega | (simp [b_3]; done)))) (by rfl)
set_option maxHeartbeats 4000000 in
set_option maxRecDepth 100000 in
theorem c_J13_bitCount_95d88 (l : Launch) (g : XG) (w : Int64)  : Kg l g yJ13_bitCount_95d88 wsJ13_bitCount_95d88 ({ frames := 0, cells := 0, slots := 0, locals := 0 } : Room) [.long w] [] (some (.int (bcF w))) := by
  refine Kg.of (cc := cJ13_bitCount_95d88) (maxL := 2) (ret := (some .int)) (lv := [(0, .long w)]) RJ13 rfl (by decide) rfl (Nat.le_of_ble_eq_true rfl) rfl ?_
  intro p e s m below meth c A X hr
  refine V_lload_n (pc := 0) X dJ13_bitCount_95d88_0 rfl 0 rfl ?_
  refine V_lload_n (pc := 1) X dJ13_bitCount_95d88_1 rfl 0 rfl ?_
  refine V_iconst (v := 1) (pc := 2) X dJ13_bitCount_95d88_2 (by decide) ?_
  refine V_lushr (pc := 3) X dJ13_bitCount_95d88_3 ?_
  refine V_ldc2 (v := 6148914691236517205) (pc := 4) X dJ13_bitCount_95d88_4 (by decide +kernel) ?_
  refine V_land (pc := 7) X dJ13_bitCount_95d88_7 ?_
  refine V_lsub (pc := 8) X dJ13_bitCount_95d88_8 ?_
  refine V_lstore_n (lv' := [(0, .long (w - (((w.toUInt64 >>> ((1 : Int32).toInt64.toUInt64 &&& Int64.toUInt64 63)).toInt64) &&& 6148914691236517205)))]) (pc := 9) X dJ13_bitCount_95d88_9 rfl (Nat.le_of_ble_eq_true rfl) rfl ?_
  refine V_lload_n (pc := 10) X dJ13_bitCount_95d88_10 rfl 0 rfl ?_
  refine V_ldc2 (v := 3689348814741910323) (pc := 11) X dJ13_bitCount_95d88_11 (by decide +kernel) ?_
  refine V_land (pc := 14) X dJ13_bitCount_95d88_14 ?_
  refine V_lload_n (pc := 15) X dJ13_bitCount_95d88_15 rfl 0 rfl ?_
  refine V_iconst (v := 2) (pc := 16) X dJ13_bitCount_95d88_16 (by decide) ?_
  refine V_lushr (pc := 17) X dJ13_bitCount_95d88_17 ?_
  refine V_ldc2 (v := 3689348814741910323) (pc := 18) X dJ13_bitCount_95d88_18 (by decide +kernel) ?_
  refine V_land (pc := 21) X dJ13_bitCount_95d88_21 ?_
  refine V_ladd (pc := 22) X dJ13_bitCount_95d88_22 ?_
  refine V_lstore_n (lv' := [(0, .long (((w - (((w.toUInt64 >>> ((1 : Int32).toInt64.toUInt64 &&& Int64.toUInt64 63)).toInt64) &&& 6148914691236517205)) &&& 3689348814741910323) + ((((w - (((w.toUInt64 >>> ((1 : Int32).toInt64.toUInt64 &&& Int64.toUInt64 63)).toInt64) &&& 6148914691236517205)).toUInt64 >>> ((2 : Int32).toInt64.toUInt64 &&& Int64.toUInt64 63)).toInt64) &&& 3689348814741910323)))]) (pc := 23) X dJ13_bitCount_95d88_23 rfl (Nat.le_of_ble_eq_true rfl) rfl ?_
  refine V_lload_n (pc := 24) X dJ13_bitCount_95d88_24 rfl 0 rfl ?_
  refine V_lload_n (pc := 25) X dJ13_bitCount_95d88_25 rfl 0 rfl ?_
  refine V_iconst (v := 4) (pc := 26) X dJ13_bitCount_95d88_26 (by decide) ?_
  refine V_lushr (pc := 27) X dJ13_bitCount_95d88_27 ?_
  refine V_ladd (pc := 28) X dJ13_bitCount_95d88_28 ?_
  refine V_ldc2 (v := 1085102592571150095) (pc := 29) X dJ13_bitCount_95d88_29 (by decide +kernel) ?_
  refine V_land (pc := 32) X dJ13_bitCount_95d88_32 ?_
  refine V_lstore_n (lv' := [(0, .long (((((w - (((w.toUInt64 >>> ((1 : Int32).toInt64.toUInt64 &&& Int64.toUInt64 63)).toInt64) &&& 6148914691236517205)) &&& 3689348814741910323) + ((((w - (((w.toUInt64 >>> ((1 : Int32).toInt64.toUInt64 &&& Int64.toUInt64 63)).toInt64) &&& 6148914691236517205)).toUInt64 >>> ((2 : Int32).toInt64.toUInt64 &&& Int64.toUInt64 63)).toInt64) &&& 3689348814741910323)) + (((((w - (((w.toUInt64 >>> ((1 : Int32).toInt64.toUInt64 &&& Int64.toUInt64 63)).toInt64) &&& 6148914691236517205)) &&& 3689348814741910323) + ((((w - (((w.toUInt64 >>> ((1 : Int32).toInt64.toUInt64 &&& Int64.toUInt64 63)).toInt64) &&& 6148914691236517205)).toUInt64 >>> ((2 : Int32).toInt64.toUInt64 &&& Int64.toUInt64 63)).toInt64) &&& 3689348814741910323)).toUInt64 >>> ((4 : Int32).toInt64.toUInt64 &&& Int64.toUInt64 63)).toInt64)) &&& 1085102592571150095))]) (pc := 33) X dJ13_bitCount_95d88_33 rfl (Nat.le_of_ble_eq_true rfl) rfl ?_
  refine V_lload_n (pc := 34) X dJ13_bitCount_95d88_34 rfl 0 rfl ?_
  refine V_lload_n (pc := 35) X dJ13_bitCount_95d88_35 rfl 0 rfl ?_
  refine V_bipush (v := 8) (pc := 36) X dJ13_bitCount_95d88_36 (by decide) ?_
  refine V_lushr (pc := 38) X dJ13_bitCount_95d88_38 ?_
  refine V_ladd (pc := 39) X dJ13_bitCount_95d88_39 ?_
  refine V_lstore_n (lv' := [(0, .long ((((((w - (((w.toUInt64 >>> ((1 : Int32).toInt64.toUInt64 &&& Int64.toUInt64 63)).toInt64) &&& 6148914691236517205)) &&& 3689348814741910323) + ((((w - (((w.toUInt64 >>> ((1 : Int32).toInt64.toUInt64 &&& Int64.toUInt64 63)).toInt64) &&& 6148914691236517205)).toUInt64 >>> ((2 : Int32).toInt64.toUInt64 &&& Int64.toUInt64 63)).toInt64) &&& 3689348814741910323)) + (((((w - (((w.toUInt64 >>> ((1 : Int32).toInt64.toUInt64 &&& Int64.toUInt64 63)).toInt64) &&& 6148914691236517205)) &&& 3689348814741910323) + ((((w - (((w.toUInt64 >>> ((1 : Int32).toInt64.toUInt64 &&& Int64.toUInt64 63)).toInt64) &&& 6148914691236517205)).toUInt64 >>> ((2 : Int32).toInt64.toUInt64 &&& Int64.toUInt64 63)).toInt64) &&& 3689348814741910323)).toUInt64 >>> ((4 : Int32).toInt64.toUInt64 &&& Int64.toUInt64 63)).toInt64)) &&& 1085102592571150095) + (((((((w - (((w.toUInt64 >>> ((1 : Int32).toInt64.toUInt64 &&& Int64.toUInt64 63)).toInt64) &&& 6148914691236517205)) &&& 3689348814741910323) + ((((w - (((w.toUInt64 >>> ((1 : Int32).toInt64.toUInt64 &&& Int64.toUInt64 63)).toInt64) &&& 6148914691236517205)).toUInt64 >>> ((2 : Int32).toInt64.toUInt64 &&& Int64.toUInt64 63)).toInt64) &&& 3689348814741910323)) + (((((w - (((w.toUInt64 >>> ((1 : Int32).toInt64.toUInt64 &&& Int64.toUInt64 63)).toInt64) &&& 6148914691236517205)) &&& 3689348814741910323) + ((((w - (((w.toUInt64 >>> ((1 : Int32).toInt64.toUInt64 &&& Int64.toUInt64 63)).toInt64) &&& 6148914691236517205)).toUInt64 >>> ((2 : Int32).toInt64.toUInt64 &&& Int64.toUInt64 63)).toInt64) &&& 3689348814741910323)).toUInt64 >>> ((4 : Int32).toInt64.toUInt64 &&& Int64.toUInt64 63)).toInt64)) &&& 1085102592571150095).toUInt64 >>> ((8 : Int32).toInt64.toUInt64 &&& Int64.toUInt64 63)).toInt64)))]) (pc := 40) X dJ13_bitCount_95d88_40 rfl (Nat.le_of_ble_eq_true rfl) rfl ?_
  refine V_lload_n (pc := 41) X dJ13_bitCount_95d88_41 rfl 0 rfl ?_
  refine V_lload_n (pc := 42) X dJ13_bitCount_95d88_42 rfl 0 rfl ?_
  refine V_bipush (v := 16) (pc := 43) X dJ13_bitCount_95d88_43 (by decide) ?_
  refine V_lushr (pc := 45) X dJ13_bitCount_95d88_45 ?_
  refine V_ladd (pc := 46) X dJ13_bitCount_95d88_46 ?_
  refine V_lstore_n (lv' := [(0, .long (((((((w - (((w.toUInt64 >>> ((1 : Int32).toInt64.toUInt64 &&& Int64.toUInt64 63)).toInt64) &&& 6148914691236517205)) &&& 3689348814741910323) + ((((w - (((w.toUInt64 >>> ((1 : Int32).toInt64.toUInt64 &&& Int64.toUInt64 63)).toInt64) &&& 6148914691236517205)).toUInt64 >>> ((2 : Int32).toInt64.toUInt64 &&& Int64.toUInt64 63)).toInt64) &&& 3689348814741910323)) + (((((w - (((w.toUInt64 >>> ((1 : Int32).toInt64.toUInt64 &&& Int64.toUInt64 63)).toInt64) &&& 6148914691236517205)) &&& 3689348814741910323) + ((((w - (((w.toUInt64 >>> ((1 : Int32).toInt64.toUInt64 &&& Int64.toUInt64 63)).toInt64) &&& 6148914691236517205)).toUInt64 >>> ((2 : Int32).toInt64.toUInt64 &&& Int64.toUInt64 63)).toInt64) &&& 3689348814741910323)).toUInt64 >>> ((4 : Int32).toInt64.toUInt64 &&& Int64.toUInt64 63)).toInt64)) &&& 1085102592571150095) + (((((((w - (((w.toUInt64 >>> ((1 : Int32).toInt64.toUInt64 &&& Int64.toUInt64 63)).toInt64) &&& 6148914691236517205)) &&& 3689348814741910323) + ((((w - (((w.toUInt64 >>> ((1 : Int32).toInt64.toUInt64 &&& Int64.toUInt64 63)).toInt64) &&& 6148914691236517205)).toUInt64 >>> ((2 : Int32).toInt64.toUInt64 &&& Int64.toUInt64 63)).toInt64) &&& 3689348814741910323)) + (((((w - (((w.toUInt64 >>> ((1 : Int32).toInt64.toUInt64 &&& Int64.toUInt64 63)).toInt64) &&& 6148914691236517205)) &&& 3689348814741910323) + ((((w - (((w.toUInt64 >>> ((1 : Int32).toInt64.toUInt64 &&& Int64.toUInt64 63)).toInt64) &&& 6148914691236517205)).toUInt64 >>> ((2 : Int32).toInt64.toUInt64 &&& Int64.toUInt64 63)).toInt64) &&& 3689348814741910323)).toUInt64 >>> ((4 : Int32).toInt64.toUInt64 &&& Int64.toUInt64 63)).toInt64)) &&& 1085102592571150095).toUInt64 >>> ((8 : Int32).toInt64.toUInt64 &&& Int64.toUInt64 63)).toInt64)) + ((((((((w - (((w.toUInt64 >>> ((1 : Int32).toInt64.toUInt64 &&& Int64.toUInt64 63)).toInt64) &&& 6148914691236517205)) &&& 3689348814741910323) + ((((w - (((w.toUInt64 >>> ((1 : Int32).toInt64.toUInt64 &&& Int64.toUInt64 63)).toInt64) &&& 6148914691236517205)).toUInt64 >>> ((2 : Int32).toInt64.toUInt64 &&& Int64.toUInt64 63)).toInt64) &&& 3689348814741910323)) + (((((w - (((w.toUInt64 >>> ((1 : Int32).toInt64.toUInt64 &&& Int64.toUInt64 63)).toInt64) &&& 6148914691236517205)) &&& 3689348814741910323) + ((((w - (((w.toUInt64 >>> ((1 : Int32).toInt64.toUInt64 &&& Int64.toUInt64 63)).toInt64) &&& 6148914691236517205)).toUInt64 >>> ((2 : Int32).toInt64.toUInt64 &&& Int64.toUInt64 63)).toInt64) &&& 3689348814741910323)).toUInt64 >>> ((4 : Int32).toInt64.toUInt64 &&& Int64.toUInt64 63)).toInt64)) &&& 1085102592571150095) + (((((((w - (((w.toUInt64 >>> ((1 : Int32).toInt64.toUInt64 &&& Int64.toUInt64 63)).toInt64) &&& 6148914691236517205)) &&& 3689348814741910323) + ((((w - (((w.toUInt64 >>> ((1 : Int32).toInt64.toUInt64 &&& Int64.toUInt64 63)).toInt64) &&& 6148914691236517205)).toUInt64 >>> ((2 : Int32).toInt64.toUInt64 &&& Int64.toUInt64 63)).toInt64) &&& 3689348814741910323)) + (((((w - (((w.toUInt64 >>> ((1 : Int32).toInt64.toUInt64 &&& Int64.toUInt64 63)).toInt64) &&& 6148914691236517205)) &&& 3689348814741910323) + ((((w - (((w.toUInt64 >>> ((1 : Int32).toInt64.toUInt64 &&& Int64.toUInt64 63)).toInt64) &&& 6148914691236517205)).toUInt64 >>> ((2 : Int32).toInt64.toUInt64 &&& Int64.toUInt64 63)).toInt64) &&& 3689348814741910323)).toUInt64 >>> ((4 : Int32).toInt64.toUInt64 &&& Int64.toUInt64 63)).toInt64)) &&& 1085102592571150095).toUInt64 >>> ((8 : Int32).toInt64.toUInt64 &&& Int64.toUInt64 63)).toInt64)).toUInt64 >>> ((16 : Int32).toInt64.toUInt64 &&& Int64.toUInt64 63)).toInt64)))]) (pc := 47) X dJ13_bitCount_95d88_47 rfl (Nat.le_of_ble_eq_true rfl) rfl ?_
  refine V_lload_n (pc := 48) X dJ13_bitCount_95d88_48 rfl 0 rfl ?_
  refine V_lload_n (pc := 49) X dJ13_bitCount_95d88_49 rfl 0 rfl ?_
  refine V_bipush (v := 32) (pc := 50) X dJ13_bitCount_95d88_50 (by decide) ?_
  refine V_lushr (pc := 52) X dJ13_bitCount_95d88_52 ?_
  refine V_ladd (pc := 53) X dJ13_bitCount_95d88_53 ?_
  refine V_lstore_n (lv' := [(0, .long ((((((((w - (((w.toUInt64 >>> ((1 : Int32).toInt64.toUInt64 &&& Int64.toUInt64 63)).toInt64) &&& 6148914691236517205)) &&& 3689348814741910323) + ((((w - (((w.toUInt64 >>> ((1 : Int32).toInt64.toUInt64 &&& Int64.toUInt64 63)).toInt64) &&& 6148914691236517205)).toUInt64 >>> ((2 : Int32).toInt64.toUInt64 &&& Int64.toUInt64 63)).toInt64) &&& 3689348814741910323)) + (((((w - (((w.toUInt64 >>> ((1 : Int32).toInt64.toUInt64 &&& Int64.toUInt64 63)).toInt64) &&& 6148914691236517205)) &&& 3689348814741910323) + ((((w - (((w.toUInt64 >>> ((1 : Int32).toInt64.toUInt64 &&& Int64.toUInt64 63)).toInt64) &&& 6148914691236517205)).toUInt64 >>> ((2 : Int32).toInt64.toUInt64 &&& Int64.toUInt64 63)).toInt64) &&& 3689348814741910323)).toUInt64 >>> ((4 : Int32).toInt64.toUInt64 &&& Int64.toUInt64 63)).toInt64)) &&& 1085102592571150095) + (((((((w - (((w.toUInt64 >>> ((1 : Int32).toInt64.toUInt64 &&& Int64.toUInt64 63)).toInt64) &&& 6148914691236517205)) &&& 3689348814741910323) + ((((w - (((w.toUInt64 >>> ((1 : Int32).toInt64.toUInt64 &&& Int64.toUInt64 63)).toInt64) &&& 6148914691236517205)).toUInt64 >>> ((2 : Int32).toInt64.toUInt64 &&& Int64.toUInt64 63)).toInt64) &&& 3689348814741910323)) + (((((w - (((w.toUInt64 >>> ((1 : Int32).toInt64.toUInt64 &&& Int64.toUInt64 63)).toInt64) &&& 6148914691236517205)) &&& 3689348814741910323) + ((((w - (((w.toUInt64 >>> ((1 : Int32).toInt64.toUInt64 &&& Int64.toUInt64 63)).toInt64) &&& 6148914691236517205)).toUInt64 >>> ((2 : Int32).toInt64.toUInt64 &&& Int64.toUInt64 63)).toInt64) &&& 3689348814741910323)).toUInt64 >>> ((4 : Int32).toInt64.toUInt64 &&& Int64.toUInt64 63)).toInt64)) &&& 1085102592571150095).toUInt64 >>> ((8 : Int32).toInt64.toUInt64 &&& Int64.toUInt64 63)).toInt64)) + ((((((((w - (((w.toUInt64 >>> ((1 : Int32).toInt64.toUInt64 &&& Int64.toUInt64 63)).toInt64) &&& 6148914691236517205)) &&& 3689348814741910323) + ((((w - (((w.toUInt64 >>> ((1 : Int32).toInt64.toUInt64 &&& Int64.toUInt64 63)).toInt64) &&& 6148914691236517205)).toUInt64 >>> ((2 : Int32).toInt64.toUInt64 &&& Int64.toUInt64 63)).toInt64) &&& 3689348814741910323)) + (((((w - (((w.toUInt64 >>> ((1 : Int32).toInt64.toUInt64 &&& Int64.toUInt64 63)).toInt64) &&& 6148914691236517205)) &&& 3689348814741910323) + ((((w - (((w.toUInt64 >>> ((1 : Int32).toInt64.toUInt64 &&& Int64.toUInt64 63)).toInt64) &&& 6148914691236517205)).toUInt64 >>> ((2 : Int32).toInt64.toUInt64 &&& Int64.toUInt64 63)).toInt64) &&& 3689348814741910323)).toUInt64 >>> ((4 : Int32).toInt64.toUInt64 &&& Int64.toUInt64 63)).toInt64)) &&& 1085102592571150095) + (((((((w - (((w.toUInt64 >>> ((1 : Int32).toInt64.toUInt64 &&& Int64.toUInt64 63)).toInt64) &&& 6148914691236517205)) &&& 3689348814741910323) + ((((w - (((w.toUInt64 >>> ((1 : Int32).toInt64.toUInt64 &&& Int64.toUInt64 63)).toInt64) &&& 6148914691236517205)).toUInt64 >>> ((2 : Int32).toInt64.toUInt64 &&& Int64.toUInt64 63)).toInt64) &&& 3689348814741910323)) + (((((w - (((w.toUInt64 >>> ((1 : Int32).toInt64.toUInt64 &&& Int64.toUInt64 63)).toInt64) &&& 6148914691236517205)) &&& 3689348814741910323) + ((((w - (((w.toUInt64 >>> ((1 : Int32).toInt64.toUInt64 &&& Int64.toUInt64 63)).toInt64) &&& 6148914691236517205)).toUInt64 >>> ((2 : Int32).toInt64.toUInt64 &&& Int64.toUInt64 63)).toInt64) &&& 3689348814741910323)).toUInt64 >>> ((4 : Int32).toInt64.toUInt64 &&& Int64.toUInt64 63)).toInt64)) &&& 1085102592571150095).toUInt64 >>> ((8 : Int32).toInt64.toUInt64 &&& Int64.toUInt64 63)).toInt64)).toUInt64 >>> ((16 : Int32).toInt64.toUInt64 &&& Int64.toUInt64 63)).toInt64)) + (((((((((w - (((w.toUInt64 >>> ((1 : Int32).toInt64.toUInt64 &&& Int64.toUInt64 63)).toInt64) &&& 6148914691236517205)) &&& 3689348814741910323) + ((((w - (((w.toUInt64 >>> ((1 : Int32).toInt64.toUInt64 &&& Int64.toUInt64 63)).toInt64) &&& 6148914691236517205)).toUInt64 >>> ((2 : Int32).toInt64.toUInt64 &&& Int64.toUInt64 63)).toInt64) &&& 3689348814741910323)) + (((((w - (((w.toUInt64 >>> ((1 : Int32).toInt64.toUInt64 &&& Int64.toUInt64 63)).toInt64) &&& 6148914691236517205)) &&& 3689348814741910323) + ((((w - (((w.toUInt64 >>> ((1 : Int32).toInt64.toUInt64 &&& Int64.toUInt64 63)).toInt64) &&& 6148914691236517205)).toUInt64 >>> ((2 : Int32).toInt64.toUInt64 &&& Int64.toUInt64 63)).toInt64) &&& 3689348814741910323)).toUInt64 >>> ((4 : Int32).toInt64.toUInt64 &&& Int64.toUInt64 63)).toInt64)) &&& 1085102592571150095) + (((((((w - (((w.toUInt64 >>> ((1 : Int32).toInt64.toUInt64 &&& Int64.toUInt64 63)).toInt64) &&& 6148914691236517205)) &&& 3689348814741910323) + ((((w - (((w.toUInt64 >>> ((1 : Int32).toInt64.toUInt64 &&& Int64.toUInt64 63)).toInt64) &&& 6148914691236517205)).toUInt64 >>> ((2 : Int32).toInt64.toUInt64 &&& Int64.toUInt64 63)).toInt64) &&& 3689348814741910323)) + (((((w - (((w.toUInt64 >>> ((1 : Int32).toInt64.toUInt64 &&& Int64.toUInt64 63)).toInt64) &&& 6148914691236517205)) &&& 3689348814741910323) + ((((w - (((w.toUInt64 >>> ((1 : Int32).toInt64.toUInt64 &&& Int64.toUInt64 63)).toInt64) &&& 6148914691236517205)).toUInt64 >>> ((2 : Int32).toInt64.toUInt64 &&& Int64.toUInt64 63)).toInt64) &&& 3689348814741910323)).toUInt64 >>> ((4 : Int32).toInt64.toUInt64 &&& Int64.toUInt64 63)).toInt64)) &&& 1085102592571150095).toUInt64 >>> ((8 : Int32).toInt64.toUInt64 &&& Int64.toUInt64 63)).toInt64)) + ((((((((w - (((w.toUInt64 >>> ((1 : Int32).toInt64.toUInt64 &&& Int64.toUInt64 63)).toInt64) &&& 6148914691236517205)) &&& 3689348814741910323) + ((((w - (((w.toUInt64 >>> ((1 : Int32).toInt64.toUInt64 &&& Int64.toUInt64 63)).toInt64) &&& 6148914691236517205)).toUInt64 >>> ((2 : Int32).toInt64.toUInt64 &&& Int64.toUInt64 63)).toInt64) &&& 3689348814741910323)) + (((((w - (((w.toUInt64 >>> ((1 : Int32).toInt64.toUInt64 &&& Int64.toUInt64 63)).toInt64) &&& 6148914691236517205)) &&& 3689348814741910323) + ((((w - (((w.toUInt64 >>> ((1 : Int32).toInt64.toUInt64 &&& Int64.toUInt64 63)).toInt64) &&& 6148914691236517205)).toUInt64 >>> ((2 : Int32).toInt64.toUInt64 &&& Int64.toUInt64 63)).toInt64) &&& 3689348814741910323)).toUInt64 >>> ((4 : Int32).toInt64.toUInt64 &&& Int64.toUInt64 63)).toInt64)) &&& 1085102592571150095) + (((((((w - (((w.toUInt64 >>> ((1 : Int32).toInt64.toUInt64 &&& Int64.toUInt64 63)).toInt64) &&& 6148914691236517205)) &&& 3689348814741910323) + ((((w - (((w.toUInt64 >>> ((1 : Int32).toInt64.toUInt64 &&& Int64.toUInt64 63)).toInt64) &&& 6148914691236517205)).toUInt64 >>> ((2 : Int32).toInt64.toUInt64 &&& Int64.toUInt64 63)).toInt64) &&& 3689348814741910323)) + (((((w - (((w.toUInt64 >>> ((1 : Int32).toInt64.toUInt64 &&& Int64.toUInt64 63)).toInt64) &&& 6148914691236517205)) &&& 3689348814741910323) + ((((w - (((w.toUInt64 >>> ((1 : Int32).toInt64.toUInt64 &&& Int64.toUInt64 63)).toInt64) &&& 6148914691236517205)).toUInt64 >>> ((2 : Int32).toInt64.toUInt64 &&& Int64.toUInt64 63)).toInt64) &&& 3689348814741910323)).toUInt64 >>> ((4 : Int32).toInt64.toUInt64 &&& Int64.toUInt64 63)).toInt64)) &&& 1085102592571150095).toUInt64 >>> ((8 : Int32).toInt64.toUInt64 &&& Int64.toUInt64 63)).toInt64)).toUInt64 >>> ((16 : Int32).toInt64.toUInt64 &&& Int64.toUInt64 63)).toInt64)).toUInt64 >>> ((32 : Int32).toInt64.toUInt64 &&& Int64.toUInt64 63)).toInt64)))]) (pc := 54) X dJ13_bitCount_95d88_54 rfl (Nat.le_of_ble_eq_true rfl) rfl ?_
  refine V_lload_n (pc := 55) X dJ13_bitCount_95d88_55 rfl 0 rfl ?_
  refine V_l2i (pc := 56) X dJ13_bitCount_95d88_56 ?_
  refine V_bipush (v := 127) (pc := 57) X dJ13_bitCount_95d88_57 (by decide) ?_
  refine V_iand (pc := 59) X dJ13_bitCount_95d88_59 ?_
  exact Vg_iret (pc := 60) X dJ13_bitCount_95d88_60 hr (by rfl)
set_option maxHeartbeats 4000000 in
set_option maxRecDepth 100000 in
theorem c_X9_count (l : Launch) (g : XG) (xq : Nat) (tq : Nat) (wq : Nat) (vq : Nat) (xi : Bool) (fq : Nat) (dq : Nat) (kq : Nat) (xsq : Nat) (wbq : Nat) (waq : Nat) (wy : Int32) (wbf : Int64) (wbt : Nat) (wbz : Int32) (wbmq : Nat) (wbm : Nat → Int32) (wan : Nat) (wakq : Nat) (wacq : Nat) (wahq : Nat) (waaq : Nat) (wakd : Nat → Int32) (wace : Nat → Int32) (waho : Nat → Int32) (waac : Nat → Int32) (w : Int32) (hn : wan ≤ 6) : Kg l g yX9_count wsX9_count ({ frames := 1, cells := 0, slots := 0, locals := 22 } : Room) [.ref xq, .int w] [ob xq 9 [.ref tq, .ref wq, .ref vq, .int (bI xi), .ref fq, .ref dq, .ref kq, .ref xsq], ob wq 8 [.ref wbq, .ref waq, .int wy], ob wbq 4 [.long wbf, .int (nI wbt), .int wbz, .ref wbmq], ai g wbmq 6 wbm, ob waq 1 [.int (nI wan), .ref wakq, .ref wacq, .ref wahq, .ref waaq], ai g wakq 6 wakd, ai g wacq 6 wace, ai g wahq 6 waho, ai g waaq 6 waac] (some (.int (countF w wbt wan (bcF wbf) wy wbz waac))) := by
  refine Kg.of (cc := cX9_count) (maxL := 2) (ret := (some .int)) (lv := [(0, .ref xq), (1, .int w)]) RX9 rfl (by decide) rfl (Nat.le_of_ble_eq_true rfl) rfl ?_
  intro p e s m below meth c A X hr
  have in1 : ∀ w ∈ u_ws RX1 TX1 5, w ∈ wsX9_count := by decide +kernel
  have in4 : ∀ w ∈ u_ws RX4 TX4 4, w ∈ wsX9_count := by decide +kernel
  have in8 : ∀ w ∈ u_ws RX8 TX8 3, w ∈ wsX9_count := by decide +kernel
  have in9 : ∀ w ∈ u_ws RX9 TX9 8, w ∈ wsX9_count := by decide +kernel
  refine V_iload_n (pc := 0) X dX9_count_0 rfl 1 rfl ?_
  by_cases w_1 : w = 0
  · refine V_tableIn (off := 39) (tgt := 40) (pc := 1) X dX9_count_1 (by rw [w_1]; decide) (by rw [w_1]; decide) (by rw [w_1]; rfl) (by decide) ?_
    refine V_aload_n (pc := 40) X dX9_count_40 rfl 0 rfl ?_
    refine V_get (C := RX9) (T := TX9) (N := 8) (ci := 9) (pc := 41) X dX9_count_41 in9 0 rfl rfl 1 (by decide) (by decide +kernel) rfl rfl ?_
    refine V_get (C := RX8) (T := TX8) (N := 3) (ci := 8) (pc := 44) X dX9_count_44 in8 1 rfl rfl 0 (by decide) (by decide +kernel) rfl rfl ?_
    refine V_get (C := RX4) (T := TX4) (N := 4) (ci := 4) (pc := 47) X dX9_count_47 in4 2 rfl rfl 1 (by decide) (by decide +kernel) rfl rfl ?_
    exact Vg_iret (pc := 50) X dX9_count_50 hr (by simp [countF, w_1])
  by_cases w_2 : w = 1
  · refine V_tableIn (off := 50) (tgt := 51) (pc := 1) X dX9_count_1 (by rw [w_2]; decide) (by rw [w_2]; decide) (by rw [w_2]; rfl) (by decide) ?_
    refine V_aload_n (pc := 51) X dX9_count_51 rfl 0 rfl ?_
    refine V_get (C := RX9) (T := TX9) (N := 8) (ci := 9) (pc := 52) X dX9_count_52 in9 0 rfl rfl 1 (by decide) (by decide +kernel) rfl rfl ?_
    refine V_get (C := RX8) (T := TX8) (N := 3) (ci := 8) (pc := 55) X dX9_count_55 in8 1 rfl rfl 1 (by decide) (by decide +kernel) rfl rfl ?_
    refine V_get (C := RX1) (T := TX1) (N := 5) (ci := 1) (pc := 58) X dX9_count_58 in1 4 rfl rfl 0 (by decide) (by decide +kernel) rfl rfl ?_
    exact Vg_iret (pc := 61) X dX9_count_61 hr (by simp [countF, w_2])
  by_cases w_3 : w = 2
  · refine V_tableIn (off := 61) (tgt := 62) (pc := 1) X dX9_count_1 (by rw [w_3]; decide) (by rw [w_3]; decide) (by rw [w_3]; rfl) (by decide) ?_
    refine V_aload_n (pc := 62) X dX9_count_62 rfl 0 rfl ?_
    refine V_get (C := RX9) (T := TX9) (N := 8) (ci := 9) (pc := 63) X dX9_count_63 in9 0 rfl rfl 1 (by decide) (by decide +kernel) rfl rfl ?_
    refine V_get (C := RX8) (T := TX8) (N := 3) (ci := 8) (pc := 66) X dX9_count_66 in8 1 rfl rfl 0 (by decide) (by decide +kernel) rfl rfl ?_
    refine V_get (C := RX4) (T := TX4) (N := 4) (ci := 4) (pc := 69) X dX9_count_69 in4 2 rfl rfl 0 (by decide) (by decide +kernel) rfl rfl ?_
    refine V_sg (pc := 72) (nA := 1) (As := [.long wbf]) (rest := []) X (c_J13_bitCount_95d88 l g (w := wbf) ) gX9_count_J13_bitCount_95d88 dX9_count_72 rfl (by decide +kernel) rfl ⟨rfl, rfl⟩ ⟨Nat.le_of_ble_eq_true rfl, Nat.le_of_ble_eq_true rfl⟩ ⟨Nat.le_of_ble_eq_true rfl, Nat.le_of_ble_eq_true rfl⟩ [] (by decide) rfl rfl (Nat.le_of_ble_eq_true rfl) (st' := [.int (bcF wbf)]) rfl ?_
    exact Vg_iret (pc := 75) X dX9_count_75 hr (by simp [countF, w_3])
  by_cases w_4 : w = 3
  · refine V_tableIn (off := 75) (tgt := 76) (pc := 1) X dX9_count_1 (by rw [w_4]; decide) (by rw [w_4]; decide) (by rw [w_4]; rfl) (by decide) ?_
    refine V_aload_n (pc := 76) X dX9_count_76 rfl 0 rfl ?_
    refine V_get (C := RX9) (T := TX9) (N := 8) (ci := 9) (pc := 77) X dX9_count_77 in9 0 rfl rfl 1 (by decide) (by decide +kernel) rfl rfl ?_
    refine V_get (C := RX8) (T := TX8) (N := 3) (ci := 8) (pc := 80) X dX9_count_80 in8 1 rfl rfl 2 (by decide) (by decide +kernel) rfl rfl ?_
    exact Vg_iret (pc := 83) X dX9_count_83 hr (by simp [countF, w_4])
  by_cases w_5 : w = 4
  · refine V_tableIn (off := 83) (tgt := 84) (pc := 1) X dX9_count_1 (by rw [w_5]; decide) (by rw [w_5]; decide) (by rw [w_5]; rfl) (by decide) ?_
    refine V_aload_n (pc := 84) X dX9_count_84 rfl 0 rfl ?_
    refine V_get (C := RX9) (T := TX9) (N := 8) (ci := 9) (pc := 85) X dX9_count_85 in9 0 rfl rfl 1 (by decide) (by decide +kernel) rfl rfl ?_
    refine V_get (C := RX8) (T := TX8) (N := 3) (ci := 8) (pc := 88) X dX9_count_88 in8 1 rfl rfl 0 (by decide) (by decide +kernel) rfl rfl ?_
    refine V_get (C := RX4) (T := TX4) (N := 4) (ci := 4) (pc := 91) X dX9_count_91 in4 2 rfl rfl 2 (by decide) (by decide +kernel) rfl rfl ?_
    exact Vg_iret (pc := 94) X dX9_count_94 hr (by simp [countF, w_5])
  by_cases w_6 : w = 5
  · refine V_tableIn (off := 94) (tgt := 95) (pc := 1) X dX9_count_1 (by rw [w_6]; decide) (by rw [w_6]; decide) (by rw [w_6]; rfl) (by decide) ?_
    refine V_aload_n (pc := 95) X dX9_count_95 rfl 0 rfl ?_
    refine V_get (C := RX9) (T := TX9) (N := 8) (ci := 9) (pc := 96) X dX9_count_96 in9 0 rfl rfl 1 (by decide) (by decide +kernel) rfl rfl ?_
    refine V_get (C := RX8) (T := TX8) (N := 3) (ci := 8) (pc := 99) X dX9_count_99 in8 1 rfl rfl 1 (by decide) (by decide +kernel) rfl rfl ?_
    refine V_vg (pc := 102) (nA := 0) (As := []) (rest := []) X (c_X1_aching l g (aq := waq) (akq := wakq) (acq := wacq) (ahq := wahq) (aaq := waaq) (an := wan) (akd := wakd) (ace := wace) (aho := waho) (aac := waac) (hn := by first | assumption | omega)) gX9_count_X1_aching dX9_count_102 rfl (by decide +kernel) rfl (qb := 4) rfl rfl rfl ⟨rfl, rfl⟩ ⟨Nat.le_of_ble_eq_true rfl, Nat.le_of_ble_eq_true rfl⟩ ⟨Nat.le_of_ble_eq_true rfl, Nat.le_of_ble_eq_true rfl⟩ [4, 5, 6, 7, 8] (by decide) rfl rfl (Nat.le_of_ble_eq_true rfl) (st' := [.int (achF waac wan)]) rfl ?_
    exact Vg_iret (pc := 105) X dX9_count_105 hr (by simp [countF, w_6])
  refine V_tableOut (tgt := 106) (pc := 1) X dX9_count_1 (tb_out 0 5 (by decide) (by decide) (fun k h1 h2 q => by
      rcases (show k = 0 ∨ k = 1 ∨ k = 2 ∨ k = 3 ∨ k = 4 ∨ k = 5 by omega) with rfl | rfl | rfl | rfl | rfl | rfl <;> first | exact absurd q w_1 | exact absurd q w_2 | exact absurd q w_3 | exact absurd q w_4 | exact absurd q w_5 | exact absurd q w_6)) (by decide) ?_
  refine V_iconst (v := (-1)) (pc := 106) X dX9_count_106 (by decide) ?_
  exact Vg_iret (pc := 107) X dX9_count_107 hr (by simp [countF, w_1, w_2, w_3, w_4, w_5, w_6])
set_option maxHeartbeats 4000000 in
set_option maxRecDepth 100000 in
theorem c_X9_moss (l : Launch) (g : XG) (xq : Nat) (tq : Nat) (wq : Nat) (vq : Nat) (xi : Bool) (fq : Nat) (dq : Nat) (kq : Nat) (xsq : Nat) (wbq : Nat) (waq : Nat) (wy : Int32) (wbf : Int64) (wbt : Nat) (wbz : Int32) (wbmq : Nat) (wbm : Nat → Int32) (x : Int32) (ht : wbt ≤ 6) : Kg l g yX9_moss wsX9_moss ({ frames := 2, cells := 0, slots := 0, locals := 42 } : Room) [.ref xq, .int x] [ob xq 9 [.ref tq, .ref wq, .ref vq, .int (bI xi), .ref fq, .ref dq, .ref kq, .ref xsq], ob wq 8 [.ref wbq, .ref waq, .int wy], ob wbq 4 [.long wbf, .int (nI wbt), .int wbz, .ref wbmq], ai g wbmq 6 wbm] (some (.int (mossF x wbt wbm))) := by
  refine Kg.of (cc := cX9_moss) (maxL := 2) (ret := (some .int)) (lv := [(0, .ref xq), (1, .int x)]) RX9 rfl (by decide) rfl (Nat.le_of_ble_eq_true rfl) rfl ?_
  intro p e s m below meth c A X hr
  have in4 : ∀ w ∈ u_ws RX4 TX4 4, w ∈ wsX9_moss := by decide +kernel
  have in8 : ∀ w ∈ u_ws RX8 TX8 3, w ∈ wsX9_moss := by decide +kernel
  have in9 : ∀ w ∈ u_ws RX9 TX9 8, w ∈ wsX9_moss := by decide +kernel
  refine V_aload_n (pc := 0) X dX9_moss_0 rfl 0 rfl ?_
  refine V_iload_n (pc := 1) X dX9_moss_1 rfl 1 rfl ?_
  refine V_vg (pc := 2) (nA := 1) (As := [.int x]) (rest := []) X (c_X9_isTuft l g (xq := xq) (tq := tq) (wq := wq) (vq := vq) (xi := xi) (fq := fq) (dq := dq) (kq := kq) (xsq := xsq) (wbq := wbq) (waq := waq) (wy := wy) (wbf := wbf) (wbt := wbt) (wbz := wbz) (wbmq := wbmq) (wbm := wbm) (x := x) ) gX9_moss_X9_isTuft dX9_moss_2 rfl (by decide +kernel) rfl (qb := 0) rfl rfl rfl ⟨rfl, rfl⟩ ⟨Nat.le_of_ble_eq_true rfl, Nat.le_of_ble_eq_true rfl⟩ ⟨Nat.le_of_ble_eq_true rfl, Nat.le_of_ble_eq_true rfl⟩ [0, 1, 2, 3] (by decide) rfl rfl (Nat.le_of_ble_eq_true rfl) (st' := [.int (bI (bel x (nI wbt)))]) rfl ?_
  refine V_if_eq (tgt := 23) (pc := 5) X dX9_moss_5 (by decide) (fun c_1 => ?_) (fun c_1 => ?_)
  · skip
    have b_2 : bel x (nI wbt) = false := bI0 c_1
    refine V_iconst (v := (-1)) (pc := 23) X dX9_moss_23 (by decide) ?_
    exact Vg_iret (pc := 24) X dX9_moss_24 hr (by simp [mossF, b_2])
  · skip
    have b_3 : bel x (nI wbt) = true := bI1 c_1
    refine V_aload_n (pc := 8) X dX9_moss_8 rfl 0 rfl ?_
    refine V_get (C := RX9) (T := TX9) (N := 8) (ci := 9) (pc := 9) X dX9_moss_9 in9 0 rfl rfl 1 (by decide) (by decide +kernel) rfl rfl ?_
    refine V_get (C := RX8) (T := TX8) (N := 3) (ci := 8) (pc := 12) X dX9_moss_12 in8 1 rfl rfl 0 (by decide) (by decide +kernel) rfl rfl ?_
    refine V_get (C := RX4) (T := TX4) (N := 4) (ci := 4) (pc := 15) X dX9_moss_15 in4 2 rfl rfl 3 (by decide) (by decide +kernel) rfl rfl ?_
    refine V_iload_n (pc := 18) X dX9_moss_18 rfl 1 rfl ?_
    refine V_iald (v := wbm x.toNatClampNeg) (pc := 19) X dX9_moss_19 3 rfl (by first | assumption | exact bel_vin (n := wbt) (by omega) (by omega) (by omega) (by assumption)) rfl ?_
    refine V_goto (tgt := 24) (pc := 20) X dX9_moss_20 (by decide) ?_
    exact Vg_iret (pc := 24) X dX9_moss_24 hr (by simp [mossF, b_3])
set_option maxHeartbeats 4000000 in
set_option maxRecDepth 100000 in
theorem c_X9_pull (l : Launch) (g : XG) (xq : Nat) (tq : Nat) (wq : Nat) (vq : Nat) (xi : Bool) (fq : Nat) (dq : Nat) (kq : Nat) (xsq : Nat) (wbq : Nat) (waq : Nat) (wy : Int32) (wbf : Int64) (wbt : Nat) (wbz : Int32) (wbmq : Nat) (wbm : Nat → Int32) (wan : Nat) (wakq : Nat) (wacq : Nat) (wahq : Nat) (waaq : Nat) (wakd : Nat → Int32) (wace : Nat → Int32) (waho : Nat → Int32) (waac : Nat → Int32) (x : Int32) (w : Int32) (ht : wbt ≤ 6) (hn : wan ≤ 6) : Kg l g yX9_pull wsX9_pull ({ frames := 2, cells := 0, slots := 0, locals := 44 } : Room) [.ref xq, .int x, .int w] [ob xq 9 [.ref tq, .ref wq, .ref vq, .int (bI xi), .ref fq, .ref dq, .ref kq, .ref xsq], ob wq 8 [.ref wbq, .ref waq, .int wy], ob wbq 4 [.long wbf, .int (nI wbt), .int wbz, .ref wbmq], ai g wbmq 6 wbm, ob waq 1 [.int (nI wan), .ref wakq, .ref wacq, .ref wahq, .ref waaq], ai g wakq 6 wakd, ai g wacq 6 wace, ai g wahq 6 waho, ai g waaq 6 waac] (some (.int (pullF x w wbt wbm wan wakd wace waho))) := by
  refine Kg.of (cc := cX9_pull) (maxL := 3) (ret := (some .int)) (lv := [(0, .ref xq), (1, .int x), (2, .int w)]) RX9 rfl (by decide) rfl (Nat.le_of_ble_eq_true rfl) rfl ?_
  intro p e s m below meth c A X hr
  have in4 : ∀ w ∈ u_ws RX4 TX4 4, w ∈ wsX9_pull := by decide +kernel
  have in8 : ∀ w ∈ u_ws RX8 TX8 3, w ∈ wsX9_pull := by decide +kernel
  have in9 : ∀ w ∈ u_ws RX9 TX9 8, w ∈ wsX9_pull := by decide +kernel
  refine V_iload_n (pc := 0) X dX9_pull_0 rfl 1 rfl ?_
  refine V_sg (pc := 1) (nA := 1) (As := [.int x]) (rest := []) X (c_X9_isCell l g (x := x) ) gX9_pull_X9_isCell dX9_pull_1 rfl (by decide +kernel) rfl ⟨rfl, rfl⟩ ⟨Nat.le_of_ble_eq_true rfl, Nat.le_of_ble_eq_true rfl⟩ ⟨Nat.le_of_ble_eq_true rfl, Nat.le_of_ble_eq_true rfl⟩ [] (by decide) rfl rfl (Nat.le_of_ble_eq_true rfl) (st' := [.int (bI (bel x 36))]) rfl ?_
  refine V_if_eq (tgt := 15) (pc := 4) X dX9_pull_4 (by decide) (fun c_1 => ?_) (fun c_1 => ?_)
  · skip
    have b_2 : bel x 36 = false := bI0 c_1
    refine V_sipush (v := (-1001)) (pc := 15) X dX9_pull_15 (by decide) ?_
    exact Vg_iret (pc := 18) X dX9_pull_18 hr (by simp [pullF, b_2])
  · skip
    have b_3 : bel x 36 = true := bI1 c_1
    refine V_aload_n (pc := 7) X dX9_pull_7 rfl 0 rfl ?_
    refine V_iload_n (pc := 8) X dX9_pull_8 rfl 2 rfl ?_
    refine V_vg (pc := 9) (nA := 1) (As := [.int w]) (rest := []) X (c_X9_isTuft l g (xq := xq) (tq := tq) (wq := wq) (vq := vq) (xi := xi) (fq := fq) (dq := dq) (kq := kq) (xsq := xsq) (wbq := wbq) (waq := waq) (wy := wy) (wbf := wbf) (wbt := wbt) (wbz := wbz) (wbmq := wbmq) (wbm := wbm) (x := w) ) gX9_pull_X9_isTuft dX9_pull_9 rfl (by decide +kernel) rfl (qb := 0) rfl rfl rfl ⟨rfl, rfl⟩ ⟨Nat.le_of_ble_eq_true rfl, Nat.le_of_ble_eq_true rfl⟩ ⟨Nat.le_of_ble_eq_true rfl, Nat.le_of_ble_eq_true rfl⟩ [0, 1, 2, 3] (by decide) rfl rfl (Nat.le_of_ble_eq_true rfl) (st' := [.int (bI (bel w (nI wbt)))]) rfl ?_
    refine V_if_ne (tgt := 19) (pc := 12) X dX9_pull_12 (by decide) (fun c_4 => ?_) (fun c_4 => ?_)
    · skip
      have b_5 : bel w (nI wbt) = true := bI1 c_4
      refine V_aload_n (pc := 19) X dX9_pull_19 rfl 0 rfl ?_
      refine V_get (C := RX9) (T := TX9) (N := 8) (ci := 9) (pc := 20) X dX9_pull_20 in9 0 rfl rfl 1 (by decide) (by decide +kernel) rfl rfl ?_
      refine V_get (C := RX8) (T := TX8) (N := 3) (ci := 8) (pc := 23) X dX9_pull_23 in8 1 rfl rfl 1 (by decide) (by decide +kernel) rfl rfl ?_
      refine V_iload_n (pc := 26) X dX9_pull_26 rfl 1 rfl ?_
      refine V_vg (pc := 27) (nA := 1) (As := [.int x]) (rest := []) X (c_X1_isSeat l g (aq := waq) (akq := wakq) (acq := wacq) (ahq := wahq) (aaq := waaq) (an := wan) (akd := wakd) (ace := wace) (aho := waho) (aac := waac) (w := x) (hn := by first | assumption | omega)) gX9_pull_X1_isSeat dX9_pull_27 rfl (by decide +kernel) rfl (qb := 4) rfl rfl rfl ⟨rfl, rfl⟩ ⟨Nat.le_of_ble_eq_true rfl, Nat.le_of_ble_eq_true rfl⟩ ⟨Nat.le_of_ble_eq_true rfl, Nat.le_of_ble_eq_true rfl⟩ [4, 5, 6, 7, 8] (by decide) rfl rfl (Nat.le_of_ble_eq_true rfl) (st' := [.int (bI (seatF wace waho x wan))]) rfl ?_
      refine V_if_ne (tgt := 37) (pc := 30) X dX9_pull_30 (by decide) (fun c_6 => ?_) (fun c_6 => ?_)
      · skip
        have b_7 : seatF wace waho x wan = true := bI1 c_6
        refine V_aload_n (pc := 37) X dX9_pull_37 rfl 0 rfl ?_
        refine V_get (C := RX9) (T := TX9) (N := 8) (ci := 9) (pc := 38) X dX9_pull_38 in9 0 rfl rfl 1 (by decide) (by decide +kernel) rfl rfl ?_
        refine V_get (C := RX8) (T := TX8) (N := 3) (ci := 8) (pc := 41) X dX9_pull_41 in8 1 rfl rfl 1 (by decide) (by decide +kernel) rfl rfl ?_
        refine V_iload_n (pc := 44) X dX9_pull_44 rfl 1 rfl ?_
        refine V_vg (pc := 45) (nA := 1) (As := [.int x]) (rest := []) X (c_X1_weightIn l g (aq := waq) (akq := wakq) (acq := wacq) (ahq := wahq) (aaq := waaq) (an := wan) (akd := wakd) (ace := wace) (aho := waho) (aac := waac) (w := x) (hn := by first | assumption | omega)) gX9_pull_X1_weightIn dX9_pull_45 rfl (by decide +kernel) rfl (qb := 4) rfl rfl rfl ⟨rfl, rfl⟩ ⟨Nat.le_of_ble_eq_true rfl, Nat.le_of_ble_eq_true rfl⟩ ⟨Nat.le_of_ble_eq_true rfl, Nat.le_of_ble_eq_true rfl⟩ [4, 5, 6, 7, 8] (by decide) rfl rfl (Nat.le_of_ble_eq_true rfl) (st' := [.int (wInF wakd wace waho x wan)]) rfl ?_
        refine V_iconst (v := 3) (pc := 48) X dX9_pull_48 (by decide) ?_
        refine V_iload_n (pc := 49) X dX9_pull_49 rfl 1 rfl ?_
        refine V_aload_n (pc := 50) X dX9_pull_50 rfl 0 rfl ?_
        refine V_get (C := RX9) (T := TX9) (N := 8) (ci := 9) (pc := 51) X dX9_pull_51 in9 0 rfl rfl 1 (by decide) (by decide +kernel) rfl rfl ?_
        refine V_get (C := RX8) (T := TX8) (N := 3) (ci := 8) (pc := 54) X dX9_pull_54 in8 1 rfl rfl 0 (by decide) (by decide +kernel) rfl rfl ?_
        refine V_get (C := RX4) (T := TX4) (N := 4) (ci := 4) (pc := 57) X dX9_pull_57 in4 2 rfl rfl 3 (by decide) (by decide +kernel) rfl rfl ?_
        refine V_iload_n (pc := 60) X dX9_pull_60 rfl 2 rfl ?_
        refine V_iald (v := wbm w.toNatClampNeg) (pc := 61) X dX9_pull_61 3 rfl (by first | assumption | exact bel_vin (n := wbt) (by omega) (by omega) (by omega) (by assumption)) rfl ?_
        refine V_sg (pc := 62) (nA := 2) (As := [.int x, .int (wbm w.toNatClampNeg)]) (rest := [.int 3, .int (wInF wakd wace waho x wan)]) X (c_X9_apart l g (x := x) (y := wbm w.toNatClampNeg) ) gX9_pull_X9_apart dX9_pull_62 rfl (by decide +kernel) rfl ⟨rfl, rfl⟩ ⟨Nat.le_of_ble_eq_true rfl, Nat.le_of_ble_eq_true rfl⟩ ⟨Nat.le_of_ble_eq_true rfl, Nat.le_of_ble_eq_true rfl⟩ [] (by decide) rfl rfl (Nat.le_of_ble_eq_true rfl) (st' := [.int (aprt x (wbm w.toNatClampNeg)), .int 3, .int (wInF wakd wace waho x wan)]) rfl ?_
        refine V_imul (pc := 65) X dX9_pull_65 ?_
        refine V_isub (pc := 66) X dX9_pull_66 ?_
        exact Vg_iret (pc := 67) X dX9_pull_67 hr (by simp [pullF, b_3, b_5, b_7])
      · skip
        have b_8 : seatF wace waho x wan = false := bI0 c_6
        refine V_sipush (v := (-1002)) (pc := 33) X dX9_pull_33 (by decide) ?_
        exact Vg_iret (pc := 36) X dX9_pull_36 hr (by simp [pullF, b_3, b_5, b_8])
    · skip
      have b_9 : bel w (nI wbt) = false := bI0 c_4
      refine V_sipush (v := (-1001)) (pc := 15) X dX9_pull_15 (by decide) ?_
      exact Vg_iret (pc := 18) X dX9_pull_18 hr (by simp [pullF, b_3, b_9])
set_option maxHeartbeats 4000000 in
set_option maxRecDepth 100000 in
theorem c_X9_way (l : Launch) (g : XG) (xq : Nat) (tq : Nat) (wq : Nat) (vq : Nat) (xi : Bool) (fq : Nat) (dq : Nat) (kq : Nat) (xsq : Nat) (wbq : Nat) (waq : Nat) (wy : Int32) (wbf : Int64) (wbt : Nat) (wbz : Int32) (wbmq : Nat) (wbm : Nat → Int32) (x : Int32) (y : Int32) (ht : wbt ≤ 6) : Kg l g yX9_way wsX9_way ({ frames := 3, cells := 0, slots := 0, locals := 64 } : Room) [.ref xq, .int x, .int y] [ob xq 9 [.ref tq, .ref wq, .ref vq, .int (bI xi), .ref fq, .ref dq, .ref kq, .ref xsq], ob wq 8 [.ref wbq, .ref waq, .int wy], ob wbq 4 [.long wbf, .int (nI wbt), .int wbz, .ref wbmq], ai g wbmq 6 wbm] (some (.int (wayF x y (wkX wbz wbf wbm wbt (-1))))) := by
  refine Kg.of (cc := cX9_way) (maxL := 3) (ret := (some .int)) (lv := [(0, .ref xq), (1, .int x), (2, .int y)]) RX9 rfl (by decide) rfl (Nat.le_of_ble_eq_true rfl) rfl ?_
  intro p e s m below meth c A X hr
  have in8 : ∀ w ∈ u_ws RX8 TX8 3, w ∈ wsX9_way := by decide +kernel
  have in9 : ∀ w ∈ u_ws RX9 TX9 8, w ∈ wsX9_way := by decide +kernel
  refine V_iload_n (pc := 0) X dX9_way_0 rfl 1 rfl ?_
  refine V_sg (pc := 1) (nA := 1) (As := [.int x]) (rest := []) X (c_X9_isCell l g (x := x) ) gX9_way_X9_isCell dX9_way_1 rfl (by decide +kernel) rfl ⟨rfl, rfl⟩ ⟨Nat.le_of_ble_eq_true rfl, Nat.le_of_ble_eq_true rfl⟩ ⟨Nat.le_of_ble_eq_true rfl, Nat.le_of_ble_eq_true rfl⟩ [] (by decide) rfl rfl (Nat.le_of_ble_eq_true rfl) (st' := [.int (bI (bel x 36))]) rfl ?_
  refine V_if_eq (tgt := 14) (pc := 4) X dX9_way_4 (by decide) (fun c_1 => ?_) (fun c_1 => ?_)
  · skip
    have b_2 : bel x 36 = false := bI0 c_1
    refine V_iconst (v := (-1)) (pc := 14) X dX9_way_14 (by decide) ?_
    exact Vg_iret (pc := 15) X dX9_way_15 hr (by simp [wayF, b_2])
  · skip
    have b_3 : bel x 36 = true := bI1 c_1
    refine V_iload_n (pc := 7) X dX9_way_7 rfl 2 rfl ?_
    refine V_sg (pc := 8) (nA := 1) (As := [.int y]) (rest := []) X (c_X9_isCell l g (x := y) ) gX9_way_X9_isCell dX9_way_8 rfl (by decide +kernel) rfl ⟨rfl, rfl⟩ ⟨Nat.le_of_ble_eq_true rfl, Nat.le_of_ble_eq_true rfl⟩ ⟨Nat.le_of_ble_eq_true rfl, Nat.le_of_ble_eq_true rfl⟩ [] (by decide) rfl rfl (Nat.le_of_ble_eq_true rfl) (st' := [.int (bI (bel y 36))]) rfl ?_
    refine V_if_ne (tgt := 16) (pc := 11) X dX9_way_11 (by decide) (fun c_4 => ?_) (fun c_4 => ?_)
    · skip
      have b_5 : bel y 36 = true := bI1 c_4
      refine V_aload_n (pc := 16) X dX9_way_16 rfl 0 rfl ?_
      refine V_get (C := RX9) (T := TX9) (N := 8) (ci := 9) (pc := 17) X dX9_way_17 in9 0 rfl rfl 1 (by decide) (by decide +kernel) rfl rfl ?_
      refine V_get (C := RX8) (T := TX8) (N := 3) (ci := 8) (pc := 20) X dX9_way_20 in8 1 rfl rfl 0 (by decide) (by decide +kernel) rfl rfl ?_
      refine V_vg (pc := 23) (nA := 0) (As := []) (rest := []) X (c_X4_walkable l g (bq := wbq) (bmq := wbmq) (bf := wbf) (bt := wbt) (bz := wbz) (bm := wbm) (ht := by first | assumption | omega)) gX9_way_X4_walkable dX9_way_23 rfl (by decide +kernel) rfl (qb := 2) rfl rfl rfl ⟨rfl, rfl⟩ ⟨Nat.le_of_ble_eq_true rfl, Nat.le_of_ble_eq_true rfl⟩ ⟨Nat.le_of_ble_eq_true rfl, Nat.le_of_ble_eq_true rfl⟩ [2, 3] (by decide) rfl rfl (Nat.le_of_ble_eq_true rfl) (st' := [.long (wkX wbz wbf wbm wbt (-1))]) rfl ?_
      refine V_iload_n (pc := 26) X dX9_way_26 rfl 1 rfl ?_
      refine V_iload_n (pc := 27) X dX9_way_27 rfl 2 rfl ?_
      refine V_sg (pc := 28) (nA := 3) (As := [.long (wkX wbz wbf wbm wbt (-1)), .int x, .int y]) (rest := []) X (c_X9_steps l g (w := wkX wbz wbf wbm wbt (-1)) (x := x) (y := y) ) gX9_way_X9_steps dX9_way_28 rfl (by decide +kernel) rfl ⟨rfl, rfl⟩ ⟨Nat.le_of_ble_eq_true rfl, Nat.le_of_ble_eq_true rfl⟩ ⟨Nat.le_of_ble_eq_true rfl, Nat.le_of_ble_eq_true rfl⟩ [] (by decide) rfl rfl (Nat.le_of_ble_eq_true rfl) (st' := [.int (stX (wkX wbz wbf wbm wbt (-1)) x y)]) rfl ?_
      exact Vg_iret (pc := 31) X dX9_way_31 hr (by simp [wayF, b_3, b_5])
    · skip
      have b_6 : bel y 36 = false := bI0 c_4
      refine V_iconst (v := (-1)) (pc := 14) X dX9_way_14 (by decide) ?_
      exact Vg_iret (pc := 15) X dX9_way_15 hr (by simp [wayF, b_3, b_6])
set_option maxHeartbeats 4000000 in
set_option maxRecDepth 100000 in
theorem c_X9_parts (l : Launch) (g : XG) (xq : Nat) (tq : Nat) (wq : Nat) (vq : Nat) (xi : Bool) (fq : Nat) (dq : Nat) (kq : Nat) (xsq : Nat) (wbq : Nat) (waq : Nat) (wy : Int32) (wbf : Int64) (wbt : Nat) (wbz : Int32) (wbmq : Nat) (wbm : Nat → Int32) (ht : wbt ≤ 6) : Kg l g yX9_parts wsX9_parts ({ frames := 3, cells := 0, slots := 0, locals := 64 } : Room) [.ref xq] [ob xq 9 [.ref tq, .ref wq, .ref vq, .int (bI xi), .ref fq, .ref dq, .ref kq, .ref xsq], ob wq 8 [.ref wbq, .ref waq, .int wy], ob wbq 4 [.long wbf, .int (nI wbt), .int wbz, .ref wbmq], ai g wbmq 6 wbm] (some (.int (nI ((ptF (wkX wbz wbf wbm wbt (-1)) 36).2)))) := by
  refine Kg.of (cc := cX9_parts) (maxL := 5) (ret := (some .int)) (lv := [(0, .ref xq)]) RX9 rfl (by decide) rfl (Nat.le_of_ble_eq_true rfl) rfl ?_
  intro p e s m below meth c A X hr
  have in8 : ∀ w ∈ u_ws RX8 TX8 3, w ∈ wsX9_parts := by decide +kernel
  have in9 : ∀ w ∈ u_ws RX9 TX9 8, w ∈ wsX9_parts := by decide +kernel
  refine V_aload_n (pc := 0) X dX9_parts_0 rfl 0 rfl ?_
  refine V_get (C := RX9) (T := TX9) (N := 8) (ci := 9) (pc := 1) X dX9_parts_1 in9 0 rfl rfl 1 (by decide) (by decide +kernel) rfl rfl ?_
  refine V_get (C := RX8) (T := TX8) (N := 3) (ci := 8) (pc := 4) X dX9_parts_4 in8 1 rfl rfl 0 (by decide) (by decide +kernel) rfl rfl ?_
  refine V_vg (pc := 7) (nA := 0) (As := []) (rest := []) X (c_X4_walkable l g (bq := wbq) (bmq := wbmq) (bf := wbf) (bt := wbt) (bz := wbz) (bm := wbm) (ht := by first | assumption | omega)) gX9_parts_X4_walkable dX9_parts_7 rfl (by decide +kernel) rfl (qb := 2) rfl rfl rfl ⟨rfl, rfl⟩ ⟨Nat.le_of_ble_eq_true rfl, Nat.le_of_ble_eq_true rfl⟩ ⟨Nat.le_of_ble_eq_true rfl, Nat.le_of_ble_eq_true rfl⟩ [2, 3] (by decide) rfl rfl (Nat.le_of_ble_eq_true rfl) (st' := [.long (wkX wbz wbf wbm wbt (-1))]) rfl ?_
  refine V_lstore_n (lv' := [(1, .long (wkX wbz wbf wbm wbt (-1))), (0, .ref xq)]) (pc := 10) X dX9_parts_10 rfl (Nat.le_of_ble_eq_true rfl) rfl ?_
  refine V_iconst (v := 0) (pc := 11) X dX9_parts_11 (by decide) ?_
  refine V_istore_n (lv' := [(3, .int 0), (1, .long (wkX wbz wbf wbm wbt (-1))), (0, .ref xq)]) (pc := 12) X dX9_parts_12 rfl (Nat.le_of_ble_eq_true rfl) rfl ?_
  refine V_iconst (v := 0) (pc := 13) X dX9_parts_13 (by decide) ?_
  refine V_istore (lv' := [(4, .int 0), (3, .int 0), (1, .long (wkX wbz wbf wbm wbt (-1))), (0, .ref xq)]) (pc := 14) X dX9_parts_14 (Nat.le_of_ble_eq_true rfl) rfl ?_
  refine V_loop (pc := 16) (σ := Nat × Int64 × Nat) (fun v9 => [(0, .ref xq), (1, .long v9.2.1), (3, .int (nI v9.2.2)), (4, .int (nI v9.1))]) (fun v9 => [ob xq 9 [.ref tq, .ref wq, .ref vq, .int (bI xi), .ref fq, .ref dq, .ref kq, .ref xsq], ob wq 8 [.ref wbq, .ref waq, .int wy], ob wbq 4 [.long wbf, .int (nI wbt), .int wbz, .ref wbmq], ai g wbmq 6 wbm]) (fun v9 => (v9.1 ≤ 36) ∧ ((v9.2.1, v9.2.2) = ptF (wkX wbz wbf wbm wbt (-1)) v9.1)) (fun v9 => 36 - v9.1) (0, wkX wbz wbf wbm wbt (-1), 0) ⟨(by
        try dsimp only
        all_goals omega), (by
        try dsimp only
        all_goals rfl)⟩ rfl [3, 2, 1, 0] rfl ?_
  rintro ⟨k, z, n⟩ ⟨hk, hz⟩ ih16
  try dsimp only at hk
  try dsimp only at hz
  refine V_eqw (ws2 := [ob xq 9 [.ref tq, .ref wq, .ref vq, .int (bI xi), .ref fq, .ref dq, .ref kq, .ref xsq], ob wq 8 [.ref wbq, .ref waq, .int wy], ob wbq 4 [.long wbf, .int (nI wbt), .int wbz, .ref wbmq], ai g wbmq 6 wbm]) rfl (V_eql (lv' := [(0, .ref xq), (1, .long z), (3, .int (nI n)), (4, .int (nI k))]) rfl ?_)
  refine V_iload (pc := 16) X dX9_parts_16 3 rfl ?_
  refine V_bipush (v := 36) (pc := 18) X dX9_parts_18 (by decide) ?_
  refine V_icmp_ge (tgt := 57) (pc := 20) X dX9_parts_20 (by decide) (fun c_1 => ?_) (fun c_1 => ?_)
  · skip
    have n_2 : 36 ≤ k := nJ_le (a := 36) (b := k) (by omega) (by omega) c_1
    refine V_iload_n (pc := 57) X dX9_parts_57 rfl 2 rfl ?_
    exact Vg_iret (pc := 58) X dX9_parts_58 hr (by rw [← show k = 36 by omega, ← hz])
  · skip
    have n_3 : k < 36 := nJ_nle (a := 36) (b := k) (by omega) (by omega) c_1
    refine V_lload_n (pc := 23) X dX9_parts_23 rfl 1 rfl ?_
    refine V_iload (pc := 24) X dX9_parts_24 3 rfl ?_
    refine V_sg (pc := 26) (nA := 1) (As := [.int (nI k)]) (rest := [.long z]) X (c_X9_bit l g (x := nI k) ) gX9_parts_X9_bit dX9_parts_26 rfl (by decide +kernel) rfl ⟨rfl, rfl⟩ ⟨Nat.le_of_ble_eq_true rfl, Nat.le_of_ble_eq_true rfl⟩ ⟨Nat.le_of_ble_eq_true rfl, Nat.le_of_ble_eq_true rfl⟩ [] (by decide) rfl rfl (Nat.le_of_ble_eq_true rfl) (st' := [.long (bitI (nI k)), .long z]) rfl ?_
    refine V_land (pc := 29) X dX9_parts_29 ?_
    refine V_lconst (v := 0) (pc := 30) X dX9_parts_30 (by decide) ?_
    refine V_lcmp (pc := 31) X dX9_parts_31 ?_
    refine V_if_eq (tgt := 51) (pc := 32) X dX9_parts_32 (by decide) (fun c_4 => ?_) (fun c_4 => ?_)
    · skip
      have q_5 : (z &&& (bitI (nI k))) = 0 := cmp_eq_t c_4
      refine V_iinc (v := nI (k + 1)) (lv' := [(4, .int (nI (k + 1))), (0, .ref xq), (1, .long z), (3, .int (nI n))]) (pc := 51) X dX9_parts_51 3 rfl (nI_add k 1) (Nat.le_of_ble_eq_true rfl) rfl ?_
      refine V_goto (tgt := 16) (pc := 54) X dX9_parts_54 (by decide) ?_
      refine V_lv [1, 2, 3, 0] rfl ?_
      exact ih16 (k + 1, z, n) ⟨(by
            try dsimp only
            all_goals omega), (by
            try dsimp only
            rw [ptF, ← hz]; simp [n_3, q_5])⟩ (by
            try dsimp only
            all_goals omega)
    · skip
      have q_6 : ¬ (z &&& (bitI (nI k))) = 0 := cmp_eq_f c_4
      refine V_lload_n (pc := 35) X dX9_parts_35 rfl 1 rfl ?_
      refine V_lload_n (pc := 36) X dX9_parts_36 rfl 1 rfl ?_
      refine V_iload (pc := 37) X dX9_parts_37 3 rfl ?_
      refine V_sg (pc := 39) (nA := 2) (As := [.long z, .int (nI k)]) (rest := [.long z]) X (c_X9_joined l g (w := z) (x := nI k) ) gX9_parts_X9_joined dX9_parts_39 rfl (by decide +kernel) rfl ⟨rfl, rfl⟩ ⟨Nat.le_of_ble_eq_true rfl, Nat.le_of_ble_eq_true rfl⟩ ⟨Nat.le_of_ble_eq_true rfl, Nat.le_of_ble_eq_true rfl⟩ [] (by decide) rfl rfl (Nat.le_of_ble_eq_true rfl) (st' := [.long (jnF z (bitI (nI k)) 36), .long z]) rfl ?_
      refine V_ldc2 (v := (-1)) (pc := 42) X dX9_parts_42 (by decide +kernel) ?_
      refine V_lxor (pc := 45) X dX9_parts_45 ?_
      refine V_land (pc := 46) X dX9_parts_46 ?_
      refine V_lstore_n (lv' := [(1, .long (z &&& ((jnF z (bitI (nI k)) 36) ^^^ (-1)))), (0, .ref xq), (3, .int (nI n)), (4, .int (nI k))]) (pc := 47) X dX9_parts_47 rfl (Nat.le_of_ble_eq_true rfl) rfl ?_
      refine V_iinc (v := nI (n + 1)) (lv' := [(3, .int (nI (n + 1))), (1, .long (z &&& ((jnF z (bitI (nI k)) 36) ^^^ (-1)))), (0, .ref xq), (4, .int (nI k))]) (pc := 48) X dX9_parts_48 2 rfl (nI_add n 1) (Nat.le_of_ble_eq_true rfl) rfl ?_
      refine V_iinc (v := nI (k + 1)) (lv' := [(4, .int (nI (k + 1))), (3, .int (nI (n + 1))), (1, .long (z &&& ((jnF z (bitI (nI k)) 36) ^^^ (-1)))), (0, .ref xq)]) (pc := 51) X dX9_parts_51 3 rfl (nI_add k 1) (Nat.le_of_ble_eq_true rfl) rfl ?_
      refine V_goto (tgt := 16) (pc := 54) X dX9_parts_54 (by decide) ?_
      refine V_lv [3, 2, 1, 0] rfl ?_
      exact ih16 (k + 1, z &&& ((jnF z (bitI (nI k)) 36) ^^^ (-1)), n + 1) ⟨(by
            try dsimp only
            all_goals omega), (by
            try dsimp only
            rw [ptF, ← hz]; simp [n_3, q_6])⟩ (by
            try dsimp only
            all_goals omega)
set_option maxHeartbeats 4000000 in
set_option maxRecDepth 100000 in
theorem c_X9_pilots (l : Launch) (g : XG) (xq : Nat) (tq : Nat) (wq : Nat) (vq : Nat) (xi : Bool) (fq : Nat) (dq : Nat) (kq : Nat) (xsq : Nat) (wbq : Nat) (waq : Nat) (wy : Int32) (wbf : Int64) (wbt : Nat) (wbz : Int32) (wbmq : Nat) (wbm : Nat → Int32) (x : Int32) (y : Int32) (ht : wbt ≤ 6) : Kg l g yX9_pilots wsX9_pilots ({ frames := 3, cells := 0, slots := 0, locals := 64 } : Room) [.ref xq, .int x, .int y] [ob xq 9 [.ref tq, .ref wq, .ref vq, .int (bI xi), .ref fq, .ref dq, .ref kq, .ref xsq], ob wq 8 [.ref wbq, .ref waq, .int wy], ob wbq 4 [.long wbf, .int (nI wbt), .int wbz, .ref wbmq], ai g wbmq 6 wbm] (some (.int (pilotsF x y wbz wbf wbm wbt))) := by
  refine Kg.of (cc := cX9_pilots) (maxL := 6) (ret := (some .int)) (lv := [(0, .ref xq), (1, .int x), (2, .int y)]) RX9 rfl (by decide) rfl (Nat.le_of_ble_eq_true rfl) rfl ?_
  intro p e s m below meth c A X hr
  have in4 : ∀ w ∈ u_ws RX4 TX4 4, w ∈ wsX9_pilots := by decide +kernel
  have in8 : ∀ w ∈ u_ws RX8 TX8 3, w ∈ wsX9_pilots := by decide +kernel
  have in9 : ∀ w ∈ u_ws RX9 TX9 8, w ∈ wsX9_pilots := by decide +kernel
  refine V_iload_n (pc := 0) X dX9_pilots_0 rfl 1 rfl ?_
  refine V_sg (pc := 1) (nA := 1) (As := [.int x]) (rest := []) X (c_X9_isCell l g (x := x) ) gX9_pilots_X9_isCell dX9_pilots_1 rfl (by decide +kernel) rfl ⟨rfl, rfl⟩ ⟨Nat.le_of_ble_eq_true rfl, Nat.le_of_ble_eq_true rfl⟩ ⟨Nat.le_of_ble_eq_true rfl, Nat.le_of_ble_eq_true rfl⟩ [] (by decide) rfl rfl (Nat.le_of_ble_eq_true rfl) (st' := [.int (bI (bel x 36))]) rfl ?_
  refine V_if_eq (tgt := 14) (pc := 4) X dX9_pilots_4 (by decide) (fun c_1 => ?_) (fun c_1 => ?_)
  · skip
    have b_2 : bel x 36 = false := bI0 c_1
    refine V_iconst (v := (-1)) (pc := 14) X dX9_pilots_14 (by decide) ?_
    exact Vg_iret (pc := 15) X dX9_pilots_15 hr (by first | (simp [pilotsF, b_2]; done) | (rw [hz, show k = wbt by omega]; simp [pilotsF, *]; done))
  · skip
    have b_3 : bel x 36 = true := bI1 c_1
    refine V_iload_n (pc := 7) X dX9_pilots_7 rfl 2 rfl ?_
    refine V_sg (pc := 8) (nA := 1) (As := [.int y]) (rest := []) X (c_X9_isCell l g (x := y) ) gX9_pilots_X9_isCell dX9_pilots_8 rfl (by decide +kernel) rfl ⟨rfl, rfl⟩ ⟨Nat.le_of_ble_eq_true rfl, Nat.le_of_ble_eq_true rfl⟩ ⟨Nat.le_of_ble_eq_true rfl, Nat.le_of_ble_eq_true rfl⟩ [] (by decide) rfl rfl (Nat.le_of_ble_eq_true rfl) (st' := [.int (bI (bel y 36))]) rfl ?_
    refine V_if_ne (tgt := 16) (pc := 11) X dX9_pilots_11 (by decide) (fun c_4 => ?_) (fun c_4 => ?_)
    · skip
      have b_5 : bel y 36 = true := bI1 c_4
      refine V_aload_n (pc := 16) X dX9_pilots_16 rfl 0 rfl ?_
      refine V_get (C := RX9) (T := TX9) (N := 8) (ci := 9) (pc := 17) X dX9_pilots_17 in9 0 rfl rfl 1 (by decide) (by decide +kernel) rfl rfl ?_
      refine V_get (C := RX8) (T := TX8) (N := 3) (ci := 8) (pc := 20) X dX9_pilots_20 in8 1 rfl rfl 0 (by decide) (by decide +kernel) rfl rfl ?_
      refine V_astore_n (lv' := [(3, .ref wbq), (0, .ref xq), (1, .int x), (2, .int y)]) (pc := 23) X dX9_pilots_23 rfl (Nat.le_of_ble_eq_true rfl) rfl ?_
      refine V_aload_n (pc := 24) X dX9_pilots_24 rfl 0 rfl ?_
      refine V_vg (pc := 25) (nA := 0) (As := []) (rest := []) X (c_X4_walkable l g (bq := wbq) (bmq := wbmq) (bf := wbf) (bt := wbt) (bz := wbz) (bm := wbm) (ht := by first | assumption | omega)) gX9_pilots_X4_walkable dX9_pilots_25 rfl (by decide +kernel) rfl (qb := 2) rfl rfl rfl ⟨rfl, rfl⟩ ⟨Nat.le_of_ble_eq_true rfl, Nat.le_of_ble_eq_true rfl⟩ ⟨Nat.le_of_ble_eq_true rfl, Nat.le_of_ble_eq_true rfl⟩ [2, 3] (by decide) rfl rfl (Nat.le_of_ble_eq_true rfl) (st' := [.long (wkX wbz wbf wbm wbt (-1))]) rfl ?_
      refine V_iload_n (pc := 28) X dX9_pilots_28 rfl 2 rfl ?_
      refine V_iload_n (pc := 29) X dX9_pilots_29 rfl 3 rfl ?_
      refine V_sg (pc := 30) (nA := 3) (As := [.long (wkX wbz wbf wbm wbt (-1)), .int x, .int y]) (rest := []) X (c_X9_steps l g (w := wkX wbz wbf wbm wbt (-1)) (x := x) (y := y) ) gX9_pilots_X9_steps dX9_pilots_30 rfl (by decide +kernel) rfl ⟨rfl, rfl⟩ ⟨Nat.le_of_ble_eq_true rfl, Nat.le_of_ble_eq_true rfl⟩ ⟨Nat.le_of_ble_eq_true rfl, Nat.le_of_ble_eq_true rfl⟩ [] (by decide) rfl rfl (Nat.le_of_ble_eq_true rfl) (st' := [.int (stX (wkX wbz wbf wbm wbt (-1)) x y)]) rfl ?_
      refine V_if_ge (tgt := 39) (pc := 33) X dX9_pilots_33 (by decide) (fun c_6 => ?_) (fun c_6 => ?_)
      · skip
        refine V_iconst (v := 0) (pc := 39) X dX9_pilots_39 (by decide) ?_
        refine V_istore (lv' := [(4, .int 0), (3, .ref wbq), (0, .ref xq), (1, .int x), (2, .int y)]) (pc := 40) X dX9_pilots_40 (Nat.le_of_ble_eq_true rfl) rfl ?_
        refine V_iconst (v := 0) (pc := 42) X dX9_pilots_42 (by decide) ?_
        refine V_istore (lv' := [(5, .int 0), (4, .int 0), (3, .ref wbq), (0, .ref xq), (1, .int x), (2, .int y)]) (pc := 43) X dX9_pilots_43 (Nat.le_of_ble_eq_true rfl) rfl ?_
        refine V_loop (pc := 45) (σ := Nat × Int32) (fun v9 => [(0, .ref xq), (1, .int x), (2, .int y), (3, .ref wbq), (4, .int v9.2), (5, .int (nI v9.1))]) (fun v9 => [ob xq 9 [.ref tq, .ref wq, .ref vq, .int (bI xi), .ref fq, .ref dq, .ref kq, .ref xsq], ob wq 8 [.ref wbq, .ref waq, .int wy], ob wbq 4 [.long wbf, .int (nI wbt), .int wbz, .ref wbmq], ai g wbmq 6 wbm]) (fun v9 => (v9.1 ≤ wbt) ∧ (v9.2 = plS wbz wbf wbm wbt x y v9.1)) (fun v9 => wbt - v9.1) (0, 0) ⟨(by
              try dsimp only
              all_goals omega), (by
              try dsimp only
              all_goals rfl)⟩ rfl [3, 4, 5, 2, 1, 0] rfl ?_
        rintro ⟨k, z⟩ ⟨hk, hz⟩ ih45
        try dsimp only at hk
        try dsimp only at hz
        refine V_eqw (ws2 := [ob xq 9 [.ref tq, .ref wq, .ref vq, .int (bI xi), .ref fq, .ref dq, .ref kq, .ref xsq], ob wq 8 [.ref wbq, .ref waq, .int wy], ob wbq 4 [.long wbf, .int (nI wbt), .int wbz, .ref wbmq], ai g wbmq 6 wbm]) rfl (V_eql (lv' := [(0, .ref xq), (1, .int x), (2, .int y), (3, .ref wbq), (4, .int z), (5, .int (nI k))]) rfl ?_)
        refine V_iload (pc := 45) X dX9_pilots_45 5 rfl ?_
        refine V_aload_n (pc := 47) X dX9_pilots_47 rfl 3 rfl ?_
        refine V_get (C := RX4) (T := TX4) (N := 4) (ci := 4) (pc := 48) X dX9_pilots_48 in4 2 rfl rfl 1 (by decide) (by decide +kernel) rfl rfl ?_
        refine V_icmp_ge (tgt := 83) (pc := 51) X dX9_pilots_51 (by decide) (fun c_7 => ?_) (fun c_7 => ?_)
        · skip
          have n_8 : wbt ≤ k := nJ_le (a := wbt) (b := k) (by omega) (by omega) c_7
          refine V_iload (pc := 83) X dX9_pilots_83 4 rfl ?_
          exact Vg_iret (pc := 85) X dX9_pilots_85 hr (by first | (simp [pilotsF, b_3, b_5, c_6, n_8]; done) | (rw [hz, show k = wbt by omega]; simp [pilotsF, *]; done))
        · skip
          have n_9 : k < wbt := nJ_nle (a := wbt) (b := k) (by omega) (by omega) c_7
          refine V_aload_n (pc := 54) X dX9_pilots_54 rfl 3 rfl ?_
          refine V_iload (pc := 55) X dX9_pilots_55 5 rfl ?_
          refine V_vg (pc := 57) (nA := 1) (As := [.int (nI k)]) (rest := []) X (c_X4_walkableWithout l g (bq := wbq) (bmq := wbmq) (bf := wbf) (bt := wbt) (bz := wbz) (bm := wbm) (x := nI k) (ht := by first | assumption | omega)) gX9_pilots_X4_walkableWithout dX9_pilots_57 rfl (by decide +kernel) rfl (qb := 2) rfl rfl rfl ⟨rfl, rfl⟩ ⟨Nat.le_of_ble_eq_true rfl, Nat.le_of_ble_eq_true rfl⟩ ⟨Nat.le_of_ble_eq_true rfl, Nat.le_of_ble_eq_true rfl⟩ [2, 3] (by decide) rfl rfl (Nat.le_of_ble_eq_true rfl) (st' := [.long (wkX wbz wbf wbm wbt (nI k))]) rfl ?_
          refine V_iload_n (pc := 60) X dX9_pilots_60 rfl 1 rfl ?_
          refine V_iload_n (pc := 61) X dX9_pilots_61 rfl 2 rfl ?_
          refine V_sg (pc := 62) (nA := 3) (As := [.long (wkX wbz wbf wbm wbt (nI k)), .int x, .int y]) (rest := []) X (c_X9_steps l g (w := wkX wbz wbf wbm wbt (nI k)) (x := x) (y := y) ) gX9_pilots_X9_steps dX9_pilots_62 rfl (by decide +kernel) rfl ⟨rfl, rfl⟩ ⟨Nat.le_of_ble_eq_true rfl, Nat.le_of_ble_eq_true rfl⟩ ⟨Nat.le_of_ble_eq_true rfl, Nat.le_of_ble_eq_true rfl⟩ [] (by decide) rfl rfl (Nat.le_of_ble_eq_true rfl) (st' := [.int (stX (wkX wbz wbf wbm wbt (nI k)) x y)]) rfl ?_
          refine V_if_ge (tgt := 77) (pc := 65) X dX9_pilots_65 (by decide) (fun c_10 => ?_) (fun c_10 => ?_)
          · skip
            refine V_iinc (v := nI (k + 1)) (lv' := [(5, .int (nI (k + 1))), (0, .ref xq), (1, .int x), (2, .int y), (3, .ref wbq), (4, .int z)]) (pc := 77) X dX9_pilots_77 5 rfl (nI_add k 1) (Nat.le_of_ble_eq_true rfl) rfl ?_
            refine V_goto (tgt := 45) (pc := 80) X dX9_pilots_80 (by decide) ?_
            refine V_lv [1, 2, 3, 4, 5, 0] rfl ?_
            exact ih45 (k + 1, z) ⟨(by
                  try dsimp only
                  all_goals omega), (by
                  try dsimp only
                  rw [plS, ← hz]; first | (rw [if_pos (by assumption)]; done) | (rw [if_neg (by assumption)]; done))⟩ (by
                  try dsimp only
                  all_goals omega)
          · skip
            refine V_iload (pc := 68) X dX9_pilots_68 4 rfl ?_
            refine V_iconst (v := 1) (pc := 70) X dX9_pilots_70 (by decide) ?_
            refine V_iload (pc := 71) X dX9_pilots_71 5 rfl ?_
            refine V_ishl (pc := 73) X dX9_pilots_73 ?_
            refine V_ior (pc := 74) X dX9_pilots_74 ?_
            refine V_istore (lv' := [(4, .int (z ||| (1 <<< ((nI k) &&& 31)))), (0, .ref xq), (1, .int x), (2, .int y), (3, .ref wbq), (5, .int (nI k))]) (pc := 75) X dX9_pilots_75 (Nat.le_of_ble_eq_true rfl) rfl ?_
            refine V_iinc (v := nI (k + 1)) (lv' := [(5, .int (nI (k + 1))), (4, .int (z ||| (1 <<< ((nI k) &&& 31)))), (0, .ref xq), (1, .int x), (2, .int y), (3, .ref wbq)]) (pc := 77) X dX9_pilots_77 5 rfl (nI_add k 1) (Nat.le_of_ble_eq_true rfl) rfl ?_
            refine V_goto (tgt := 45) (pc := 80) X dX9_pilots_80 (by decide) ?_
            refine V_lv [2, 3, 4, 5, 1, 0] rfl ?_
            exact ih45 (k + 1, z ||| (1 <<< ((nI k) &&& 31))) ⟨(by
                  try dsimp only
                  all_goals omega), (by
                  try dsimp only
                  rw [plS, ← hz]; first | (rw [if_pos (by assumption)]; done) | (rw [if_neg (by assumption)]; done))⟩ (by
                  try dsimp only
                  all_goals omega)
      · skip
        refine V_bipush (v := (-4)) (pc := 36) X dX9_pilots_36 (by decide) ?_
        exact Vg_iret (pc := 38) X dX9_pilots_38 hr (by first | (simp [pilotsF, b_3, b_5, c_6]; done) | (rw [hz, show k = wbt by omega]; simp [pilotsF, *]; done))
    · skip
      have b_11 : bel y 36 = false := bI0 c_4
      refine V_iconst (v := (-1)) (pc := 14) X dX9_pilots_14 (by decide) ?_
      exact Vg_iret (pc := 15) X dX9_pilots_15 hr (by first | (simp [pilotsF, b_3, b_11]; done) | (rw [hz, show k = wbt by omega]; simp [pilotsF, *]; done))
set_option maxHeartbeats 4000000 in
set_option maxRecDepth 100000 in
theorem c_X9_year (l : Launch) (g : XG) (xq : Nat) (tq : Nat) (wq : Nat) (vq : Nat) (xi : Bool) (fq : Nat) (dq : Nat) (kq : Nat) (xsq : Nat) (wbq : Nat) (waq : Nat) (wy : Int32) (wbf : Int64) (wbt : Nat) (wbz : Int32) (wbmq : Nat) (wbm : Nat → Int32) (wan : Nat) (wakq : Nat) (wacq : Nat) (wahq : Nat) (waaq : Nat) (wakd : Nat → Int32) (wace : Nat → Int32) (waho : Nat → Int32) (waac : Nat → Int32) (fbq : Nat) (faq : Nat) (fsq : Nat) (lw : Int64) (la : Int32) (lb : Int32) (ls : Int32) (fsn : Nat) (fscq : Nat) (fswq : Nat) (fsce : Nat → Int32) (fswe : Nat → Int32) (ht : wbt ≤ 6) (hn : wan ≤ 6) : Ke l g yX9_year wsX9_year ({ frames := 4, cells := 0, slots := 0, locals := 96 } : Room) 0 0 [.ref xq] [ob xq 9 [.ref tq, .ref wq, .ref vq, .int (bI xi), .ref fq, .ref dq, .ref kq, .ref xsq], ob wq 8 [.ref wbq, .ref waq, .int wy], ob wbq 4 [.long wbf, .int (nI wbt), .int wbz, .ref wbmq], ai g wbmq 6 wbm, ob waq 1 [.int (nI wan), .ref wakq, .ref wacq, .ref wahq, .ref waaq], ai g wakq 6 wakd, ai g wacq 6 wace, ai g wahq 6 waho, ai g waaq 6 waac, ob fq 3 [.ref fbq, .ref faq, .ref fsq, .long lw, .int la, .int lb, .int ls], ob fsq 5 [.int (nI fsn), .ref fscq, .ref fswq], ai g fscq 6 fsce, ai g fswq 6 fswe] (fun u : Int32 × Int64 × (Nat → Int32) × Int32 × (Nat → Int32) × (Nat → Int32) × Int32 × Nat × (Nat → Int32) × (Nat → Int32) => some (.int u.1)) (fun u => [ob xq 9 [.ref tq, .ref wq, .ref vq, .int (bI xi), .ref fq, .ref dq, .ref kq, .ref xsq], ob wq 8 [.ref wbq, .ref waq, .int u.2.2.2.2.2.2.1], ob wbq 4 [.long u.2.1, .int (nI wbt), .int u.2.2.2.1, .ref wbmq], ai g wbmq 6 u.2.2.1, ob waq 1 [.int (nI wan), .ref wakq, .ref wacq, .ref wahq, .ref waaq], ai g wakq 6 wakd, ai g wacq 6 wace, ai g wahq 6 u.2.2.2.2.1, ai g waaq 6 u.2.2.2.2.2.1, ob fq 3 [.ref fbq, .ref faq, .ref fsq, .long lw, .int la, .int lb, .int ls], ob fsq 5 [.int (nI u.2.2.2.2.2.2.2.1), .ref fscq, .ref fswq], ai g fscq 6 u.2.2.2.2.2.2.2.2.1, ai g fswq 6 u.2.2.2.2.2.2.2.2.2]) (fun u => (R_year wbf wbt wbm wbz wan wakd wace waho waac wy u.1 u.2.1 u.2.2.1 u.2.2.2.1 u.2.2.2.2.1 u.2.2.2.2.2.1 u.2.2.2.2.2.2.1)) := by
  refine Ke.of (cc := cX9_year) (maxL := 1) (ret := (some .int)) (lv := [(0, .ref xq)]) RX9 rfl (by decide) rfl (Nat.le_of_ble_eq_true rfl) rfl ?_
  intro p e s m below meth c A sz hA9 X hr hin2
  have in3 : ∀ w ∈ u_ws RX3 TX3 7, w ∈ wsX9_year := by decide +kernel
  have in8 : ∀ w ∈ u_ws RX8 TX8 3, w ∈ wsX9_year := by decide +kernel
  have in9 : ∀ w ∈ u_ws RX9 TX9 8, w ∈ wsX9_year := by decide +kernel
  refine V_aload_n (pc := 0) X dX9_year_0 rfl 0 rfl ?_
  refine V_get (C := RX9) (T := TX9) (N := 8) (ci := 9) (pc := 1) X dX9_year_1 in9 0 rfl rfl 1 (by decide) (by decide +kernel) rfl rfl ?_
  refine V_get (C := RX8) (T := TX8) (N := 3) (ci := 8) (pc := 4) X dX9_year_4 in8 1 rfl rfl 2 (by decide) (by decide +kernel) rfl rfl ?_
  refine V_sipush (v := 9999) (pc := 7) X dX9_year_7 (by decide) ?_
  refine V_icmp_lt (tgt := 16) (pc := 10) X dX9_year_10 (by decide) (fun c_1 => ?_) (fun c_1 => ?_)
  · skip
    refine V_aload_n (pc := 16) X dX9_year_16 rfl 0 rfl ?_
    refine V_get (C := RX9) (T := TX9) (N := 8) (ci := 9) (pc := 17) X dX9_year_17 in9 0 rfl rfl 1 (by decide) (by decide +kernel) rfl rfl ?_
    refine V_aload_n (pc := 20) X dX9_year_20 rfl 0 rfl ?_
    refine V_get (C := RX9) (T := TX9) (N := 8) (ci := 9) (pc := 21) X dX9_year_21 in9 0 rfl rfl 4 (by decide) (by decide +kernel) rfl rfl ?_
    refine V_get (C := RX3) (T := TX3) (N := 7) (ci := 3) (pc := 24) X dX9_year_24 in3 9 rfl rfl 2 (by decide) (by decide +kernel) rfl rfl ?_
    refine V_ve (pc := 27) (nA := 1) (As := [.ref fsq]) (rest := []) X (c_X8_pass l g (wq := wq) (wbq := wbq) (wbmq := wbmq) (wbf := wbf) (wbt := wbt) (wbz := wbz) (wbm := wbm) (waq := waq) (wakq := wakq) (wacq := wacq) (wahq := wahq) (waaq := waaq) (wan := wan) (wakd := wakd) (wace := wace) (waho := waho) (waac := waac) (wy := wy) (sq := fsq) (scq := fscq) (swq := fswq) (sn := fsn) (sce := fsce) (swe := fswe) (ht := by first | assumption | omega) (hn := by first | assumption | omega)) gX9_year_X8_pass dX9_year_27 rfl (by decide +kernel) rfl (qb := 1) rfl rfl rfl ⟨rfl, rfl⟩ ⟨Nat.le_of_ble_eq_true rfl, Nat.le_of_ble_eq_true rfl⟩ ⟨Nat.le_of_ble_eq_true rfl, Nat.le_of_ble_eq_true rfl⟩ [1, 2, 3, 4, 5, 6, 7, 8, 10, 11, 12] (by decide) rfl [0, 9] (by decide) (by decide) [ob xq 9 [.ref tq, .ref wq, .ref vq, .int (bI xi), .ref fq, .ref dq, .ref kq, .ref xsq], ob fq 3 [.ref fbq, .ref faq, .ref fsq, .long lw, .int la, .int lb, .int ls]] rfl [0, 2, 3, 4, 5, 6, 7, 8, 9, 1, 10, 11, 12] (by decide) (fun u => [ob xq 9 [.ref tq, .ref wq, .ref vq, .int (bI xi), .ref fq, .ref dq, .ref kq, .ref xsq], ob wq 8 [.ref wbq, .ref waq, .int (wy + 1)], ob wbq 4 [.long (wbf ||| strF wakd wace waho wan), .int (nI wbt), .int (frX wbz), .ref wbmq], ai g wbmq 6 (cpF wbm (fun j => mvd wakd wace waho wan wbz (wbm j)) wbt), ob waq 1 [.int (nI wan), .ref wakq, .ref wacq, .ref wahq, .ref waaq], ai g wakq 6 wakd, ai g wacq 6 wace, ai g wahq 6 (cpF waho (fun _ => 0) wan), ai g waaq 6 (acF wbf wace waho waac wan), ob fq 3 [.ref fbq, .ref faq, .ref fsq, .long lw, .int la, .int lb, .int ls], ob fsq 5 [.int (nI u.1), .ref fscq, .ref fswq], ai g fscq 6 u.2.1, ai g fswq 6 u.2.2]) (fun _ => rfl) rfl (Nat.le_of_ble_eq_true rfl) (fun u => [.int (nI (mvC wakd wace waho wan wbz wbm wbt))]) (fun _ => rfl) (fun u hu_5 => ?_)
    obtain ⟨nn_2, nc_3, nw_4⟩ := u
    refine V_eqw (ws2 := [ob xq 9 [.ref tq, .ref wq, .ref vq, .int (bI xi), .ref fq, .ref dq, .ref kq, .ref xsq], ob wq 8 [.ref wbq, .ref waq, .int (wy + 1)], ob wbq 4 [.long (wbf ||| strF wakd wace waho wan), .int (nI wbt), .int (frX wbz), .ref wbmq], ai g wbmq 6 (cpF wbm (fun j => mvd wakd wace waho wan wbz (wbm j)) wbt), ob waq 1 [.int (nI wan), .ref wakq, .ref wacq, .ref wahq, .ref waaq], ai g wakq 6 wakd, ai g wacq 6 wace, ai g wahq 6 (cpF waho (fun _ => 0) wan), ai g waaq 6 (acF wbf wace waho waac wan), ob fq 3 [.ref fbq, .ref faq, .ref fsq, .long lw, .int la, .int lb, .int ls], ob fsq 5 [.int (nI nn_2), .ref fscq, .ref fswq], ai g fscq 6 nc_3, ai g fswq 6 nw_4]) rfl (V_eqs (st2 := [.int (nI (mvC wakd wace waho wan wbz wbm wbt))]) rfl ?_)
    exact Ve_iret (pc := 30) X hA9 dX9_year_30 hr (nI (mvC wakd wace waho wan wbz wbm wbt), wbf ||| strF wakd wace waho wan, cpF wbm (fun j => mvd wakd wace waho wan wbz (wbm j)) wbt, frX wbz, cpF waho (fun _ => 0) wan, acF wbf wace waho waac wan, wy + 1, nn_2, nc_3, nw_4) (by first | rfl | (simp [c_1]; done)) (by
          try dsimp only
          (unfold R_year; first | (refine Or.inl ⟨?_, ?_, ?_, ?_, ?_, ?_, ?_, ?_⟩ <;> first | rfl | assumption | omega | (simp [c_1]; done) | (intro j hj; simp [cpF, hj]; done) | (intro j hj; exact ⟨by simp [cpF, hj], acF_at hj⟩)) | (refine Or.inr (⟨?_, ?_, ?_, ?_, ?_, ?_, ?_⟩) <;> first | rfl | assumption | omega | (simp [c_1]; done) | (intro j hj; simp [cpF, hj]; done) | (intro j hj; exact ⟨by simp [cpF, hj], acF_at hj⟩)))) (by rfl)
  · skip
    refine V_bipush (v := (-3)) (pc := 13) X dX9_year_13 (by decide) ?_
    exact Ve_iret (pc := 15) X hA9 dX9_year_15 hr ((-3), wbf, wbm, wbz, waho, waac, wy, fsn, fsce, fswe) (by first | rfl | (simp [c_1]; done)) (by
          try dsimp only
          (unfold R_year; first | (refine Or.inl ⟨?_, ?_, ?_, ?_, ?_, ?_, ?_, ?_⟩ <;> first | rfl | assumption | omega | (simp [c_1]; done) | (intro j hj; simp [cpF, hj]; done) | (intro j hj; exact ⟨by simp [cpF, hj], acF_at hj⟩)) | (refine Or.inr (⟨?_, ?_, ?_, ?_, ?_, ?_, ?_⟩) <;> first | rfl | assumption | omega | (simp [c_1]; done) | (intro j hj; simp [cpF, hj]; done) | (intro j hj; exact ⟨by simp [cpF, hj], acF_at hj⟩)))) (by rfl)
set_option maxHeartbeats 4000000 in
set_option maxRecDepth 100000 in
theorem c_X9_image (l : Launch) (g : XG) (xq : Nat) (tq : Nat) (wq : Nat) (vq : Nat) (xi : Bool) (fq : Nat) (dq : Nat) (kq : Nat) (xsq : Nat) (wbq : Nat) (waq : Nat) (wy : Int32) (wbf : Int64) (wbt : Nat) (wbz : Int32) (wbmq : Nat) (wbm : Nat → Int32) (wan : Nat) (wakq : Nat) (wacq : Nat) (wahq : Nat) (waaq : Nat) (wakd : Nat → Int32) (wace : Nat → Int32) (waho : Nat → Int32) (waac : Nat → Int32) (vbq : Nat) (vaq : Nat) (vy : Int32) (vbf : Int64) (vbt : Nat) (vbz : Int32) (vbmq : Nat) (vbm : Nat → Int32) (van : Nat) (vakq : Nat) (vacq : Nat) (vahq : Nat) (vaaq : Nat) (vakd : Nat → Int32) (vace : Nat → Int32) (vaho : Nat → Int32) (vaac : Nat → Int32) (ht : wbt ≤ 6) (hn : wan ≤ 6) : Ke l g yX9_image wsX9_image ({ frames := 3, cells := 0, slots := 0, locals := 67 } : Room) 0 0 [.ref xq] [ob xq 9 [.ref tq, .ref wq, .ref vq, .int (bI xi), .ref fq, .ref dq, .ref kq, .ref xsq], ob wq 8 [.ref wbq, .ref waq, .int wy], ob wbq 4 [.long wbf, .int (nI wbt), .int wbz, .ref wbmq], ai g wbmq 6 wbm, ob waq 1 [.int (nI wan), .ref wakq, .ref wacq, .ref wahq, .ref waaq], ai g wakq 6 wakd, ai g wacq 6 wace, ai g wahq 6 waho, ai g waaq 6 waac, ob vq 8 [.ref vbq, .ref vaq, .int vy], ob vbq 4 [.long vbf, .int (nI vbt), .int vbz, .ref vbmq], ai g vbmq 6 vbm, ob vaq 1 [.int (nI van), .ref vakq, .ref vacq, .ref vahq, .ref vaaq], ai g vakq 6 vakd, ai g vacq 6 vace, ai g vahq 6 vaho, ai g vaaq 6 vaac] (fun u : Unit => some (.int 1)) (fun u => [ob xq 9 [.ref tq, .ref wq, .ref vq, .int 1, .ref fq, .ref dq, .ref kq, .ref xsq], ob wq 8 [.ref wbq, .ref waq, .int wy], ob wbq 4 [.long wbf, .int (nI wbt), .int wbz, .ref wbmq], ai g wbmq 6 wbm, ob waq 1 [.int (nI wan), .ref wakq, .ref wacq, .ref wahq, .ref waaq], ai g wakq 6 wakd, ai g wacq 6 wace, ai g wahq 6 waho, ai g waaq 6 waac, ob vq 8 [.ref vbq, .ref vaq, .int wy], ob vbq 4 [.long wbf, .int (nI wbt), .int wbz, .ref vbmq], ai g vbmq 6 (cpF vbm wbm wbt), ob vaq 1 [.int (nI wan), .ref vakq, .ref vacq, .ref vahq, .ref vaaq], ai g vakq 6 (cpF vakd wakd wan), ai g vacq 6 (cpF vace wace wan), ai g vahq 6 (cpF vaho waho wan), ai g vaaq 6 (cpF vaac waac wan)]) (fun u => True) := by
  refine Ke.of (cc := cX9_image) (maxL := 1) (ret := (some .int)) (lv := [(0, .ref xq)]) RX9 rfl (by decide) rfl (Nat.le_of_ble_eq_true rfl) rfl ?_
  intro p e s m below meth c A sz hA9 X hr hin2
  have in9 : ∀ w ∈ u_ws RX9 TX9 8, w ∈ wsX9_image := by decide +kernel
  refine V_aload_n (pc := 0) X dX9_image_0 rfl 0 rfl ?_
  refine V_get (C := RX9) (T := TX9) (N := 8) (ci := 9) (pc := 1) X dX9_image_1 in9 0 rfl rfl 2 (by decide) (by decide +kernel) rfl rfl ?_
  refine V_aload_n (pc := 4) X dX9_image_4 rfl 0 rfl ?_
  refine V_get (C := RX9) (T := TX9) (N := 8) (ci := 9) (pc := 5) X dX9_image_5 in9 0 rfl rfl 1 (by decide) (by decide +kernel) rfl rfl ?_
  refine V_ve (pc := 8) (nA := 1) (As := [.ref wq]) (rest := []) X (c_X8_become l g (wq := vq) (wbq := vbq) (wbmq := vbmq) (wbf := vbf) (wbt := vbt) (wbz := vbz) (wbm := vbm) (waq := vaq) (wakq := vakq) (wacq := vacq) (wahq := vahq) (waaq := vaaq) (wan := van) (wakd := vakd) (wace := vace) (waho := vaho) (waac := vaac) (wy := vy) (vq := wq) (vbq := wbq) (vbmq := wbmq) (vbf := wbf) (vbt := wbt) (vbz := wbz) (vbm := wbm) (vaq := waq) (vakq := wakq) (vacq := wacq) (vahq := wahq) (vaaq := waaq) (van := wan) (vakd := wakd) (vace := wace) (vaho := waho) (vaac := waac) (vy := wy) (ht := by first | assumption | omega) (hn := by first | assumption | omega)) gX9_image_X8_become dX9_image_8 rfl (by decide +kernel) rfl (qb := 9) rfl rfl rfl ⟨rfl, rfl⟩ ⟨Nat.le_of_ble_eq_true rfl, Nat.le_of_ble_eq_true rfl⟩ ⟨Nat.le_of_ble_eq_true rfl, Nat.le_of_ble_eq_true rfl⟩ [9, 10, 11, 12, 13, 14, 15, 16, 1, 2, 3, 4, 5, 6, 7, 8] (by decide) rfl [0] (by decide) (by decide) [ob xq 9 [.ref tq, .ref wq, .ref vq, .int (bI xi), .ref fq, .ref dq, .ref kq, .ref xsq]] rfl [0, 9, 10, 11, 12, 13, 14, 15, 16, 1, 2, 3, 4, 5, 6, 7, 8] (by decide) (fun u => [ob xq 9 [.ref tq, .ref wq, .ref vq, .int (bI xi), .ref fq, .ref dq, .ref kq, .ref xsq], ob wq 8 [.ref wbq, .ref waq, .int wy], ob wbq 4 [.long wbf, .int (nI wbt), .int wbz, .ref wbmq], ai g wbmq 6 wbm, ob waq 1 [.int (nI wan), .ref wakq, .ref wacq, .ref wahq, .ref waaq], ai g wakq 6 wakd, ai g wacq 6 wace, ai g wahq 6 waho, ai g waaq 6 waac, ob vq 8 [.ref vbq, .ref vaq, .int wy], ob vbq 4 [.long wbf, .int (nI wbt), .int wbz, .ref vbmq], ai g vbmq 6 (cpF vbm wbm wbt), ob vaq 1 [.int (nI wan), .ref vakq, .ref vacq, .ref vahq, .ref vaaq], ai g vakq 6 (cpF vakd wakd wan), ai g vacq 6 (cpF vace wace wan), ai g vahq 6 (cpF vaho waho wan), ai g vaaq 6 (cpF vaac waac wan)]) (fun _ => rfl) rfl (Nat.le_of_ble_eq_true rfl) (fun u => []) (fun _ => rfl) (fun u hu_1 => ?_)
  refine V_eqw (ws2 := [ob xq 9 [.ref tq, .ref wq, .ref vq, .int (bI xi), .ref fq, .ref dq, .ref kq, .ref xsq], ob wq 8 [.ref wbq, .ref waq, .int wy], ob wbq 4 [.long wbf, .int (nI wbt), .int wbz, .ref wbmq], ai g wbmq 6 wbm, ob waq 1 [.int (nI wan), .ref wakq, .ref wacq, .ref wahq, .ref waaq], ai g wakq 6 wakd, ai g wacq 6 wace, ai g wahq 6 waho, ai g waaq 6 waac, ob vq 8 [.ref vbq, .ref vaq, .int wy], ob vbq 4 [.long wbf, .int (nI wbt), .int wbz, .ref vbmq], ai g vbmq 6 (cpF vbm wbm wbt), ob vaq 1 [.int (nI wan), .ref vakq, .ref vacq, .ref vahq, .ref vaaq], ai g vakq 6 (cpF vakd wakd wan), ai g vacq 6 (cpF vace wace wan), ai g vahq 6 (cpF vaho waho wan), ai g vaaq 6 (cpF vaac waac wan)]) rfl (V_eqs (st2 := []) rfl ?_)
  refine V_aload_n (pc := 11) X dX9_image_11 rfl 0 rfl ?_
  refine V_iconst (v := 1) (pc := 12) X dX9_image_12 (by decide) ?_
  refine V_put (C := RX9) (T := TX9) (N := 8) (ci := 9) (ws' := [ob xq 9 [.ref tq, .ref wq, .ref vq, .int 1, .ref fq, .ref dq, .ref kq, .ref xsq], ob wq 8 [.ref wbq, .ref waq, .int wy], ob wbq 4 [.long wbf, .int (nI wbt), .int wbz, .ref wbmq], ai g wbmq 6 wbm, ob waq 1 [.int (nI wan), .ref wakq, .ref wacq, .ref wahq, .ref waaq], ai g wakq 6 wakd, ai g wacq 6 wace, ai g wahq 6 waho, ai g waaq 6 waac, ob vq 8 [.ref vbq, .ref vaq, .int wy], ob vbq 4 [.long wbf, .int (nI wbt), .int wbz, .ref vbmq], ai g vbmq 6 (cpF vbm wbm wbt), ob vaq 1 [.int (nI wan), .ref vakq, .ref vacq, .ref vahq, .ref vaaq], ai g vakq 6 (cpF vakd wakd wan), ai g vacq 6 (cpF vace wace wan), ai g vahq 6 (cpF vaho waho wan), ai g vaaq 6 (cpF vaac waac wan)]) (pc := 13) X dX9_image_13 in9 tyX9 tyX9_ok nmX9 0 rfl rfl 3 (by decide) (by decide +kernel) rfl rfl rfl rfl rfl (Nat.le_of_ble_eq_true rfl) rfl ?_
  refine V_iconst (v := 1) (pc := 16) X dX9_image_16 (by decide) ?_
  exact Ve_iret (pc := 17) X hA9 dX9_image_17 hr () (by first | rfl | (simp []; done)) trivial (by rfl)
set_option maxHeartbeats 4000000 in
set_option maxRecDepth 100000 in
theorem c_X9_restore_ok (l : Launch) (g : XG) (xq : Nat) (tq : Nat) (wq : Nat) (vq : Nat) (xi : Bool) (fq : Nat) (dq : Nat) (kq : Nat) (xsq : Nat) (wbq : Nat) (waq : Nat) (wy : Int32) (wbf : Int64) (wbt : Nat) (wbz : Int32) (wbmq : Nat) (wbm : Nat → Int32) (wan : Nat) (wakq : Nat) (wacq : Nat) (wahq : Nat) (waaq : Nat) (wakd : Nat → Int32) (wace : Nat → Int32) (waho : Nat → Int32) (waac : Nat → Int32) (vbq : Nat) (vaq : Nat) (vy : Int32) (vbf : Int64) (vbt : Nat) (vbz : Int32) (vbmq : Nat) (vbm : Nat → Int32) (van : Nat) (vakq : Nat) (vacq : Nat) (vahq : Nat) (vaaq : Nat) (vakd : Nat → Int32) (vace : Nat → Int32) (vaho : Nat → Int32) (vaac : Nat → Int32) (ht : vbt ≤ 6) (hn : van ≤ 6) (hi : xi = true) : Ke l g yX9_restore wsX9_restore ({ frames := 3, cells := 0, slots := 0, locals := 67 } : Room) 0 0 [.ref xq] [ob xq 9 [.ref tq, .ref wq, .ref vq, .int (bI xi), .ref fq, .ref dq, .ref kq, .ref xsq], ob wq 8 [.ref wbq, .ref waq, .int wy], ob wbq 4 [.long wbf, .int (nI wbt), .int wbz, .ref wbmq], ai g wbmq 6 wbm, ob waq 1 [.int (nI wan), .ref wakq, .ref wacq, .ref wahq, .ref waaq], ai g wakq 6 wakd, ai g wacq 6 wace, ai g wahq 6 waho, ai g waaq 6 waac, ob vq 8 [.ref vbq, .ref vaq, .int vy], ob vbq 4 [.long vbf, .int (nI vbt), .int vbz, .ref vbmq], ai g vbmq 6 vbm, ob vaq 1 [.int (nI van), .ref vakq, .ref vacq, .ref vahq, .ref vaaq], ai g vakq 6 vakd, ai g vacq 6 vace, ai g vahq 6 vaho, ai g vaaq 6 vaac] (fun u : Unit => some (.int 1)) (fun u => [ob xq 9 [.ref tq, .ref wq, .ref vq, .int (bI xi), .ref fq, .ref dq, .ref kq, .ref xsq], ob wq 8 [.ref wbq, .ref waq, .int vy], ob wbq 4 [.long vbf, .int (nI vbt), .int vbz, .ref wbmq], ai g wbmq 6 (cpF wbm vbm vbt), ob waq 1 [.int (nI van), .ref wakq, .ref wacq, .ref wahq, .ref waaq], ai g wakq 6 (cpF wakd vakd van), ai g wacq 6 (cpF wace vace van), ai g wahq 6 (cpF waho vaho van), ai g waaq 6 (cpF waac vaac van), ob vq 8 [.ref vbq, .ref vaq, .int vy], ob vbq 4 [.long vbf, .int (nI vbt), .int vbz, .ref vbmq], ai g vbmq 6 vbm, ob vaq 1 [.int (nI van), .ref vakq, .ref vacq, .ref vahq, .ref vaaq], ai g vakq 6 vakd, ai g vacq 6 vace, ai g vahq 6 vaho, ai g vaaq 6 vaac]) (fun u => True) := by
  refine Ke.of (cc := cX9_restore) (maxL := 1) (ret := (some .int)) (lv := [(0, .ref xq)]) RX9 rfl (by decide) rfl (Nat.le_of_ble_eq_true rfl) rfl ?_
  intro p e s m below meth c A sz hA9 X hr hin2
  have in9 : ∀ w ∈ u_ws RX9 TX9 8, w ∈ wsX9_restore := by decide +kernel
  refine V_aload_n (pc := 0) X dX9_restore_0 rfl 0 rfl ?_
  refine V_get (C := RX9) (T := TX9) (N := 8) (ci := 9) (pc := 1) X dX9_restore_1 in9 0 rfl rfl 3 (by decide) (by decide +kernel) rfl rfl ?_
  refine V_if_ne (tgt := 10) (pc := 4) X dX9_restore_4 (by decide) (fun c_1 => ?_) (fun c_1 => ?_)
  · skip
    have b_2 : xi = true := bI1 c_1
    refine V_aload_n (pc := 10) X dX9_restore_10 rfl 0 rfl ?_
    refine V_get (C := RX9) (T := TX9) (N := 8) (ci := 9) (pc := 11) X dX9_restore_11 in9 0 rfl rfl 1 (by decide) (by decide +kernel) rfl rfl ?_
    refine V_aload_n (pc := 14) X dX9_restore_14 rfl 0 rfl ?_
    refine V_get (C := RX9) (T := TX9) (N := 8) (ci := 9) (pc := 15) X dX9_restore_15 in9 0 rfl rfl 2 (by decide) (by decide +kernel) rfl rfl ?_
    refine V_ve (pc := 18) (nA := 1) (As := [.ref vq]) (rest := []) X (c_X8_become l g (wq := wq) (wbq := wbq) (wbmq := wbmq) (wbf := wbf) (wbt := wbt) (wbz := wbz) (wbm := wbm) (waq := waq) (wakq := wakq) (wacq := wacq) (wahq := wahq) (waaq := waaq) (wan := wan) (wakd := wakd) (wace := wace) (waho := waho) (waac := waac) (wy := wy) (vq := vq) (vbq := vbq) (vbmq := vbmq) (vbf := vbf) (vbt := vbt) (vbz := vbz) (vbm := vbm) (vaq := vaq) (vakq := vakq) (vacq := vacq) (vahq := vahq) (vaaq := vaaq) (van := van) (vakd := vakd) (vace := vace) (vaho := vaho) (vaac := vaac) (vy := vy) (ht := by first | assumption | omega) (hn := by first | assumption | omega)) gX9_restore_X8_become dX9_restore_18 rfl (by decide +kernel) rfl (qb := 1) rfl rfl rfl ⟨rfl, rfl⟩ ⟨Nat.le_of_ble_eq_true rfl, Nat.le_of_ble_eq_true rfl⟩ ⟨Nat.le_of_ble_eq_true rfl, Nat.le_of_ble_eq_true rfl⟩ [1, 2, 3, 4, 5, 6, 7, 8, 9, 10, 11, 12, 13, 14, 15, 16] (by decide) rfl [0] (by decide) (by decide) [ob xq 9 [.ref tq, .ref wq, .ref vq, .int (bI xi), .ref fq, .ref dq, .ref kq, .ref xsq]] rfl [0, 1, 2, 3, 4, 5, 6, 7, 8, 9, 10, 11, 12, 13, 14, 15, 16] (by decide) (fun u => [ob xq 9 [.ref tq, .ref wq, .ref vq, .int (bI xi), .ref fq, .ref dq, .ref kq, .ref xsq], ob wq 8 [.ref wbq, .ref waq, .int vy], ob wbq 4 [.long vbf, .int (nI vbt), .int vbz, .ref wbmq], ai g wbmq 6 (cpF wbm vbm vbt), ob waq 1 [.int (nI van), .ref wakq, .ref wacq, .ref wahq, .ref waaq], ai g wakq 6 (cpF wakd vakd van), ai g wacq 6 (cpF wace vace van), ai g wahq 6 (cpF waho vaho van), ai g waaq 6 (cpF waac vaac van), ob vq 8 [.ref vbq, .ref vaq, .int vy], ob vbq 4 [.long vbf, .int (nI vbt), .int vbz, .ref vbmq], ai g vbmq 6 vbm, ob vaq 1 [.int (nI van), .ref vakq, .ref vacq, .ref vahq, .ref vaaq], ai g vakq 6 vakd, ai g vacq 6 vace, ai g vahq 6 vaho, ai g vaaq 6 vaac]) (fun _ => rfl) rfl (Nat.le_of_ble_eq_true rfl) (fun u => []) (fun _ => rfl) (fun u hu_3 => ?_)
    refine V_eqw (ws2 := [ob xq 9 [.ref tq, .ref wq, .ref vq, .int (bI xi), .ref fq, .ref dq, .ref kq, .ref xsq], ob wq 8 [.ref wbq, .ref waq, .int vy], ob wbq 4 [.long vbf, .int (nI vbt), .int vbz, .ref wbmq], ai g wbmq 6 (cpF wbm vbm vbt), ob waq 1 [.int (nI van), .ref wakq, .ref wacq, .ref wahq, .ref waaq], ai g wakq 6 (cpF wakd vakd van), ai g wacq 6 (cpF wace vace van), ai g wahq 6 (cpF waho vaho van), ai g waaq 6 (cpF waac vaac van), ob vq 8 [.ref vbq, .ref vaq, .int vy], ob vbq 4 [.long vbf, .int (nI vbt), .int vbz, .ref vbmq], ai g vbmq 6 vbm, ob vaq 1 [.int (nI van), .ref vakq, .ref vacq, .ref vahq, .ref vaaq], ai g vakq 6 vakd, ai g vacq 6 vace, ai g vahq 6 vaho, ai g vaaq 6 vaac]) rfl (V_eqs (st2 := []) rfl ?_)
    refine V_iconst (v := 1) (pc := 21) X dX9_restore_21 (by decide) ?_
    exact Ve_iret (pc := 22) X hA9 dX9_restore_22 hr () (by first | rfl | (simp [b_2]; done)) trivial (by rfl)
  · exact absurd c_1 (by rw [hi]; decide)
set_option maxHeartbeats 4000000 in
set_option maxRecDepth 100000 in
theorem c_X9_restore_no (l : Launch) (g : XG) (xq : Nat) (tq : Nat) (wq : Nat) (vq : Nat) (xi : Bool) (fq : Nat) (dq : Nat) (kq : Nat) (xsq : Nat) (hi : xi = false) : Kg l g yX9_restore wsX9_restore ({ frames := 0, cells := 0, slots := 0, locals := 0 } : Room) [.ref xq] [ob xq 9 [.ref tq, .ref wq, .ref vq, .int (bI xi), .ref fq, .ref dq, .ref kq, .ref xsq]] (some (.int (-4))) := by
  refine Kg.of (cc := cX9_restore) (maxL := 1) (ret := (some .int)) (lv := [(0, .ref xq)]) RX9 rfl (by decide) rfl (Nat.le_of_ble_eq_true rfl) rfl ?_
  intro p e s m below meth c A X hr
  have in9 : ∀ w ∈ u_ws RX9 TX9 8, w ∈ wsX9_restore := by decide +kernel
  refine V_aload_n (pc := 0) X dX9_restore_0 rfl 0 rfl ?_
  refine V_get (C := RX9) (T := TX9) (N := 8) (ci := 9) (pc := 1) X dX9_restore_1 in9 0 rfl rfl 3 (by decide) (by decide +kernel) rfl rfl ?_
  refine V_if_ne (tgt := 10) (pc := 4) X dX9_restore_4 (by decide) (fun c_1 => ?_) (fun c_1 => ?_)
  · exact absurd c_1 (by rw [hi]; decide)
  · skip
    have b_2 : xi = false := bI0 c_1
    refine V_bipush (v := (-4)) (pc := 7) X dX9_restore_7 (by decide) ?_
    exact Vg_iret (pc := 9) X dX9_restore_9 hr (by first | rfl | (simp [b_2]; done))
