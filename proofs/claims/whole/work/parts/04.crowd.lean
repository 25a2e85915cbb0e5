set_option maxHeartbeats 4000000 in
set_option maxRecDepth 100000 in
theorem c_X9_isBelow (l : Launch) (g : XG) (x : Int32) (b : Int32)  : Kg l g yX9_isBelow wsX9_isBelow ({ frames := 0, cells := 0, slots := 0, locals := 0 } : Room) [.int x, .int b] [] (some (.int (bI (bel x b)))) := by
  refine Kg.of (cc := cX9_isBelow) (maxL := 2) (ret := (some .boolean)) (lv := [(0, .int x), (1, .int b)]) RX9 rfl (by decide) rfl (Nat.le_of_ble_eq_true rfl) rfl ?_
  intro p e s m below meth c A X hr
  refine V_iload_n (pc := 0) X dX9_isBelow_0 rfl 0 rfl ?_
  refine V_if_lt (tgt := 13) (pc := 1) X dX9_isBelow_1 (by decide) (fun c_1 => ?_) (fun c_1 => ?_)
  · skip
    refine V_iconst (v := 0) (pc := 13) X dX9_isBelow_13 (by decide) ?_
    exact Vg_zret (pc := 14) X dX9_isBelow_14 hr (by first | rfl | (simp [bI, bel, c_1]; done) | (simp_all [bI, Int32.not_le, Int32.not_lt]; done)) rfl
  · skip
    refine V_iload_n (pc := 4) X dX9_isBelow_4 rfl 0 rfl ?_
    refine V_iload_n (pc := 5) X dX9_isBelow_5 rfl 1 rfl ?_
    refine V_icmp_ge (tgt := 13) (pc := 6) X dX9_isBelow_6 (by decide) (fun c_2 => ?_) (fun c_2 => ?_)
    · skip
      refine V_iconst (v := 0) (pc := 13) X dX9_isBelow_13 (by decide) ?_
      exact Vg_zret (pc := 14) X dX9_isBelow_14 hr (by first | rfl | (simp [bI, bel, c_1, c_2]; done) | (simp_all [bI, Int32.not_le, Int32.not_lt]; done)) rfl
    · skip
      refine V_iconst (v := 1) (pc := 9) X dX9_isBelow_9 (by decide) ?_
      refine V_goto (tgt := 14) (pc := 10) X dX9_isBelow_10 (by decide) ?_
      exact Vg_zret (pc := 14) X dX9_isBelow_14 hr (by first | rfl | (simp [bI, bel, c_1, c_2]; done) | (simp_all [bI, Int32.not_le, Int32.not_lt]; done)) rfl
set_option maxHeartbeats 4000000 in
set_option maxRecDepth 100000 in
theorem c_X9_isCell (l : Launch) (g : XG) (x : Int32)  : Kg l g yX9_isCell wsX9_isCell ({ frames := 1, cells := 0, slots := 0, locals := 21 } : Room) [.int x] [] (some (.int (bI (bel x 36)))) := by
  refine Kg.of (cc := cX9_isCell) (maxL := 1) (ret := (some .boolean)) (lv := [(0, .int x)]) RX9 rfl (by decide) rfl (Nat.le_of_ble_eq_true rfl) rfl ?_
  intro p e s m below meth c A X hr
  refine V_iload_n (pc := 0) X dX9_isCell_0 rfl 0 rfl ?_
  refine V_bipush (v := 36) (pc := 1) X dX9_isCell_1 (by decide) ?_
  refine V_sg (pc := 3) (nA := 2) (As := [.int x, .int 36]) (rest := []) X (c_X9_isBelow l g (x := x) (b := 36) ) gX9_isCell_X9_isBelow dX9_isCell_3 rfl (by decide +kernel) rfl ⟨rfl, rfl⟩ ⟨Nat.le_of_ble_eq_true rfl, Nat.le_of_ble_eq_true rfl⟩ ⟨Nat.le_of_ble_eq_true rfl, Nat.le_of_ble_eq_true rfl⟩ [] (by decide) rfl rfl (Nat.le_of_ble_eq_true rfl) (st' := [.int (bI (bel x 36))]) rfl ?_
  exact Vg_zret (pc := 6) X dX9_isCell_6 hr (by first | rfl | (simp [bI, ]; done) | (simp_all [bI, Int32.not_le, Int32.not_lt]; done)) (bI_n _)
set_option maxHeartbeats 4000000 in
set_option maxRecDepth 100000 in
theorem c_X9_isStay (l : Launch) (g : XG) (x : Int32)  : Kg l g yX9_isStay wsX9_isStay ({ frames := 0, cells := 0, slots := 0, locals := 0 } : Room) [.int x] [] (some (.int (bI (stay x)))) := by
  refine Kg.of (cc := cX9_isStay) (maxL := 1) (ret := (some .boolean)) (lv := [(0, .int x)]) RX9 rfl (by decide) rfl (Nat.le_of_ble_eq_true rfl) rfl ?_
  intro p e s m below meth c A X hr
  refine V_iload_n (pc := 0) X dX9_isStay_0 rfl 0 rfl ?_
  refine V_iconst (v := 1) (pc := 1) X dX9_isStay_1 (by decide) ?_
  refine V_icmp_lt (tgt := 15) (pc := 2) X dX9_isStay_2 (by decide) (fun c_1 => ?_) (fun c_1 => ?_)
  · skip
    refine V_iconst (v := 0) (pc := 15) X dX9_isStay_15 (by decide) ?_
    exact Vg_zret (pc := 16) X dX9_isStay_16 hr (by first | rfl | (simp [bI, stay, c_1]; done) | (simp_all [bI, Int32.not_le, Int32.not_lt]; done)) rfl
  · skip
    refine V_iload_n (pc := 5) X dX9_isStay_5 rfl 0 rfl ?_
    refine V_bipush (v := 99) (pc := 6) X dX9_isStay_6 (by decide) ?_
    refine V_icmp_gt (tgt := 15) (pc := 8) X dX9_isStay_8 (by decide) (fun c_2 => ?_) (fun c_2 => ?_)
    · skip
      refine V_iconst (v := 0) (pc := 15) X dX9_isStay_15 (by decide) ?_
      exact Vg_zret (pc := 16) X dX9_isStay_16 hr (by first | rfl | (simp [bI, stay, c_1, c_2]; done) | (simp_all [bI, Int32.not_le, Int32.not_lt]; done)) rfl
    · skip
      refine V_iconst (v := 1) (pc := 11) X dX9_isStay_11 (by decide) ?_
      refine V_goto (tgt := 16) (pc := 12) X dX9_isStay_12 (by decide) ?_
      exact Vg_zret (pc := 16) X dX9_isStay_16 hr (by first | rfl | (simp [bI, stay, c_1, c_2]; done) | (simp_all [bI, Int32.not_le, Int32.not_lt]; done)) rfl
set_option maxHeartbeats 4000000 in
set_option maxRecDepth 100000 in
theorem c_X9_bit (l : Launch) (g : XG) (x : Int32)  : Kg l g yX9_bit wsX9_bit ({ frames := 0, cells := 0, slots := 0, locals := 0 } : Room) [.int x] [] (some (.long (bitI x))) := by
  refine Kg.of (cc := cX9_bit) (maxL := 1) (ret := (some .long)) (lv := [(0, .int x)]) RX9 rfl (by decide) rfl (Nat.le_of_ble_eq_true rfl) rfl ?_
  intro p e s m below meth c A X hr
  refine V_lconst (v := 1) (pc := 0) X dX9_bit_0 (by decide) ?_
  refine V_iload_n (pc := 1) X dX9_bit_1 rfl 0 rfl ?_
  refine V_lshl (pc := 2) X dX9_bit_2 ?_
  exact Vg_lret (pc := 3) X dX9_bit_3 hr (by first | rfl | (simp []; done))
set_option maxHeartbeats 4000000 in
set_option maxRecDepth 100000 in
theorem c_X9_apart (l : Launch) (g : XG) (x : Int32) (y : Int32)  : Kg l g yX9_apart wsX9_apart ({ frames := 0, cells := 0, slots := 0, locals := 0 } : Room) [.int x, .int y] [] (some (.int (aprt x y))) := by
  refine Kg.of (cc := cX9_apart) (maxL := 4) (ret := (some .int)) (lv := [(0, .int x), (1, .int y)]) RX9 rfl (by decide) rfl (Nat.le_of_ble_eq_true rfl) rfl ?_
  intro p e s m below meth c A X hr
  refine V_iload_n (pc := 0) X dX9_apart_0 rfl 0 rfl ?_
  refine V_bipush (v := 6) (pc := 1) X dX9_apart_1 (by decide) ?_
  refine V_idiv (pc := 3) X dX9_apart_3 (by decide) ?_
  refine V_iload_n (pc := 4) X dX9_apart_4 rfl 1 rfl ?_
  refine V_bipush (v := 6) (pc := 5) X dX9_apart_5 (by decide) ?_
  refine V_idiv (pc := 7) X dX9_apart_7 (by decide) ?_
  refine V_isub (pc := 8) X dX9_apart_8 ?_
  refine V_istore_n (lv' := [(2, .int ((x / 6) - (y / 6))), (0, .int x), (1, .int y)]) (pc := 9) X dX9_apart_9 rfl (Nat.le_of_ble_eq_true rfl) rfl ?_
  refine V_iload_n (pc := 10) X dX9_apart_10 rfl 1 rfl ?_
  refine V_bipush (v := 6) (pc := 11) X dX9_apart_11 (by decide) ?_
  refine V_irem (pc := 13) X dX9_apart_13 (by decide) ?_
  refine V_iload_n (pc := 14) X dX9_apart_14 rfl 2 rfl ?_
  refine V_bipush (v := 6) (pc := 15) X dX9_apart_15 (by decide) ?_
  refine V_irem (pc := 17) X dX9_apart_17 (by decide) ?_
  refine V_isub (pc := 18) X dX9_apart_18 ?_
  refine V_istore_n (lv' := [(3, .int ((x - x / 6 * 6) - (y - y / 6 * 6))), (2, .int ((x / 6) - (y / 6))), (0, .int x), (1, .int y)]) (pc := 19) X dX9_apart_19 rfl (Nat.le_of_ble_eq_true rfl) rfl ?_
  refine V_iload_n (pc := 20) X dX9_apart_20 rfl 1 rfl ?_
  refine V_if_ge (tgt := 29) (pc := 21) X dX9_apart_21 (by decide) (fun c_1 => ?_) (fun c_1 => ?_)
  · skip
    refine V_iload_n (pc := 29) X dX9_apart_29 rfl 1 rfl ?_
    refine V_iload_n (pc := 30) X dX9_apart_30 rfl 0 rfl ?_
    refine V_if_ge (tgt := 39) (pc := 31) X dX9_apart_31 (by decide) (fun c_2 => ?_) (fun c_2 => ?_)
    · skip
      refine V_iload_n (pc := 39) X dX9_apart_39 rfl 0 rfl ?_
      refine V_iadd (pc := 40) X dX9_apart_40 ?_
      exact Vg_iret (pc := 41) X dX9_apart_41 hr (by first | rfl | (simp [bI, aprt, rem6, c_1, c_2]; done) | (simp_all [bI, Int32.not_le, Int32.not_lt]; done))
    · skip
      refine V_iload_n (pc := 34) X dX9_apart_34 rfl 0 rfl ?_
      refine V_ineg (pc := 35) X dX9_apart_35 ?_
      refine V_goto (tgt := 40) (pc := 36) X dX9_apart_36 (by decide) ?_
      refine V_iadd (pc := 40) X dX9_apart_40 ?_
      exact Vg_iret (pc := 41) X dX9_apart_41 hr (by first | rfl | (simp [bI, aprt, rem6, c_1, c_2]; done) | (simp_all [bI, Int32.not_le, Int32.not_lt]; done))
  · skip
    refine V_iload_n (pc := 24) X dX9_apart_24 rfl 1 rfl ?_
    refine V_ineg (pc := 25) X dX9_apart_25 ?_
    refine V_goto (tgt := 30) (pc := 26) X dX9_apart_26 (by decide) ?_
    refine V_iload_n (pc := 30) X dX9_apart_30 rfl 0 rfl ?_
    refine V_if_ge (tgt := 39) (pc := 31) X dX9_apart_31 (by decide) (fun c_3 => ?_) (fun c_3 => ?_)
    · skip
      refine V_iload_n (pc := 39) X dX9_apart_39 rfl 0 rfl ?_
      refine V_iadd (pc := 40) X dX9_apart_40 ?_
      exact Vg_iret (pc := 41) X dX9_apart_41 hr (by first | rfl | (simp [bI, aprt, rem6, c_1, c_3]; done) | (simp_all [bI, Int32.not_le, Int32.not_lt]; done))
    · skip
      refine V_iload_n (pc := 34) X dX9_apart_34 rfl 0 rfl ?_
      refine V_ineg (pc := 35) X dX9_apart_35 ?_
      refine V_goto (tgt := 40) (pc := 36) X dX9_apart_36 (by decide) ?_
      refine V_iadd (pc := 40) X dX9_apart_40 ?_
      exact Vg_iret (pc := 41) X dX9_apart_41 hr (by first | rfl | (simp [bI, aprt, rem6, c_1, c_3]; done) | (simp_all [bI, Int32.not_le, Int32.not_lt]; done))
set_option maxHeartbeats 4000000 in
set_option maxRecDepth 100000 in
theorem c_X9_beside (l : Launch) (g : XG) (w : Int64)  : Kg l g yX9_beside wsX9_beside ({ frames := 0, cells := 0, slots := 0, locals := 0 } : Room) [.long w] [] (some (.long (bsd w))) := by
  refine Kg.of (cc := cX9_beside) (maxL := 6) (ret := (some .long)) (lv := [(0, .long w)]) RX9 rfl (by decide) rfl (Nat.le_of_ble_eq_true rfl) rfl ?_
  intro p e s m below meth c A X hr
  refine V_lload_n (pc := 0) X dX9_beside_0 rfl 0 rfl ?_
  refine V_bipush (v := 6) (pc := 1) X dX9_beside_1 (by decide) ?_
  refine V_lshl (pc := 3) X dX9_beside_3 ?_
  refine V_lload_n (pc := 4) X dX9_beside_4 rfl 0 rfl ?_
  refine V_bipush (v := 6) (pc := 5) X dX9_beside_5 (by decide) ?_
  refine V_lushr (pc := 7) X dX9_beside_7 ?_
  refine V_lor (pc := 8) X dX9_beside_8 ?_
  refine V_lstore_n (lv' := [(2, .long ((w <<< ((6 : Int32).toInt64 &&& 63)) ||| ((w.toUInt64 >>> ((6 : Int32).toInt64.toUInt64 &&& Int64.toUInt64 63)).toInt64))), (0, .long w)]) (pc := 9) X dX9_beside_9 rfl (Nat.le_of_ble_eq_true rfl) rfl ?_
  refine V_lload_n (pc := 10) X dX9_beside_10 rfl 1 rfl ?_
  refine V_ldc2 (v := (-34905131041)) (pc := 11) X dX9_beside_11 (by decide +kernel) ?_
  refine V_land (pc := 14) X dX9_beside_14 ?_
  refine V_iconst (v := 1) (pc := 15) X dX9_beside_15 (by decide) ?_
  refine V_lshl (pc := 16) X dX9_beside_16 ?_
  refine V_lload_n (pc := 17) X dX9_beside_17 rfl 1 rfl ?_
  refine V_ldc2 (v := (-1090785346)) (pc := 18) X dX9_beside_18 (by decide +kernel) ?_
  refine V_land (pc := 21) X dX9_beside_21 ?_
  refine V_iconst (v := 1) (pc := 22) X dX9_beside_22 (by decide) ?_
  refine V_lushr (pc := 23) X dX9_beside_23 ?_
  refine V_lor (pc := 24) X dX9_beside_24 ?_
  refine V_lstore (lv' := [(4, .long (((w &&& (-34905131041)) <<< ((1 : Int32).toInt64 &&& 63)) ||| (((w &&& (-1090785346)).toUInt64 >>> ((1 : Int32).toInt64.toUInt64 &&& Int64.toUInt64 63)).toInt64))), (2, .long ((w <<< ((6 : Int32).toInt64 &&& 63)) ||| ((w.toUInt64 >>> ((6 : Int32).toInt64.toUInt64 &&& Int64.toUInt64 63)).toInt64))), (0, .long w)]) (pc := 25) X dX9_beside_25 (Nat.le_of_ble_eq_true rfl) rfl ?_
  refine V_lload_n (pc := 27) X dX9_beside_27 rfl 1 rfl ?_
  refine V_lload (pc := 28) X dX9_beside_28 0 rfl ?_
  refine V_lor (pc := 30) X dX9_beside_30 ?_
  refine V_ldc2 (v := 68719476735) (pc := 31) X dX9_beside_31 (by decide +kernel) ?_
  refine V_land (pc := 34) X dX9_beside_34 ?_
  exact Vg_lret (pc := 35) X dX9_beside_35 hr (by rfl)
set_option maxHeartbeats 4000000 in
set_option maxRecDepth 100000 in
theorem c_X9_neighbour (l : Launch) (g : XG) (x : Int32) (y : Int32)  : Kg l g yX9_neighbour wsX9_neighbour ({ frames := 0, cells := 0, slots := 0, locals := 0 } : Room) [.int x, .int y] [] (some (.int (nbr x y))) := by
  refine Kg.of (cc := cX9_neighbour) (maxL := 2) (ret := (some .int)) (lv := [(0, .int x), (1, .int y)]) RX9 rfl (by decide) rfl (Nat.le_of_ble_eq_true rfl) rfl ?_
  intro p e s m below meth c A X hr
  refine V_iload_n (pc := 0) X dX9_neighbour_0 rfl 1 rfl ?_
  by_cases w_1 : y = 0
  · refine V_tableIn (off := 27) (tgt := 28) (pc := 1) X dX9_neighbour_1 (by rw [w_1]; decide) (by rw [w_1]; decide) (by rw [w_1]; rfl) (by decide) ?_
    refine V_iload_n (pc := 28) X dX9_neighbour_28 rfl 0 rfl ?_
    refine V_bipush (v := 6) (pc := 29) X dX9_neighbour_29 (by decide) ?_
    refine V_icmp_lt (tgt := 41) (pc := 31) X dX9_neighbour_31 (by decide) (fun c_2 => ?_) (fun c_2 => ?_)
    · skip
      refine V_iconst (v := (-1)) (pc := 41) X dX9_neighbour_41 (by decide) ?_
      exact Vg_iret (pc := 42) X dX9_neighbour_42 hr (by first | rfl | (simp [bI, nbr, rem6, w_1, c_2]; done) | (simp_all [bI, Int32.not_le, Int32.not_lt]; done))
    · skip
      refine V_iload_n (pc := 34) X dX9_neighbour_34 rfl 0 rfl ?_
      refine V_bipush (v := 6) (pc := 35) X dX9_neighbour_35 (by decide) ?_
      refine V_isub (pc := 37) X dX9_neighbour_37 ?_
      refine V_goto (tgt := 42) (pc := 38) X dX9_neighbour_38 (by decide) ?_
      exact Vg_iret (pc := 42) X dX9_neighbour_42 hr (by first | rfl | (simp [bI, nbr, rem6, w_1, c_2]; done) | (simp_all [bI, Int32.not_le, Int32.not_lt]; done))
  by_cases w_3 : y = 1
  · refine V_tableIn (off := 42) (tgt := 43) (pc := 1) X dX9_neighbour_1 (by rw [w_3]; decide) (by rw [w_3]; decide) (by rw [w_3]; rfl) (by decide) ?_
    refine V_iload_n (pc := 43) X dX9_neighbour_43 rfl 0 rfl ?_
    refine V_bipush (v := 6) (pc := 44) X dX9_neighbour_44 (by decide) ?_
    refine V_irem (pc := 46) X dX9_neighbour_46 (by decide) ?_
    refine V_if_le (tgt := 56) (pc := 47) X dX9_neighbour_47 (by decide) (fun c_4 => ?_) (fun c_4 => ?_)
    · skip
      refine V_iconst (v := (-1)) (pc := 56) X dX9_neighbour_56 (by decide) ?_
      exact Vg_iret (pc := 57) X dX9_neighbour_57 hr (by first | rfl | (simp [bI, nbr, rem6, w_3, c_4]; done) | (simp_all [bI, Int32.not_le, Int32.not_lt]; done))
    · skip
      refine V_iload_n (pc := 50) X dX9_neighbour_50 rfl 0 rfl ?_
      refine V_iconst (v := 1) (pc := 51) X dX9_neighbour_51 (by decide) ?_
      refine V_isub (pc := 52) X dX9_neighbour_52 ?_
      refine V_goto (tgt := 57) (pc := 53) X dX9_neighbour_53 (by decide) ?_
      exact Vg_iret (pc := 57) X dX9_neighbour_57 hr (by first | rfl | (simp [bI, nbr, rem6, w_3, c_4]; done) | (simp_all [bI, Int32.not_le, Int32.not_lt]; done))
  by_cases w_5 : y = 2
  · refine V_tableIn (off := 57) (tgt := 58) (pc := 1) X dX9_neighbour_1 (by rw [w_5]; decide) (by rw [w_5]; decide) (by rw [w_5]; rfl) (by decide) ?_
    refine V_iload_n (pc := 58) X dX9_neighbour_58 rfl 0 rfl ?_
    refine V_bipush (v := 6) (pc := 59) X dX9_neighbour_59 (by decide) ?_
    refine V_irem (pc := 61) X dX9_neighbour_61 (by decide) ?_
    refine V_iconst (v := 5) (pc := 62) X dX9_neighbour_62 (by decide) ?_
    refine V_icmp_ge (tgt := 72) (pc := 63) X dX9_neighbour_63 (by decide) (fun c_6 => ?_) (fun c_6 => ?_)
    · skip
      refine V_iconst (v := (-1)) (pc := 72) X dX9_neighbour_72 (by decide) ?_
      exact Vg_iret (pc := 73) X dX9_neighbour_73 hr (by first | rfl | (simp [bI, nbr, rem6, w_5, c_6]; done) | (simp_all [bI, Int32.not_le, Int32.not_lt]; done))
    · skip
      refine V_iload_n (pc := 66) X dX9_neighbour_66 rfl 0 rfl ?_
      refine V_iconst (v := 1) (pc := 67) X dX9_neighbour_67 (by decide) ?_
      refine V_iadd (pc := 68) X dX9_neighbour_68 ?_
      refine V_goto (tgt := 73) (pc := 69) X dX9_neighbour_69 (by decide) ?_
      exact Vg_iret (pc := 73) X dX9_neighbour_73 hr (by first | rfl | (simp [bI, nbr, rem6, w_5, c_6]; done) | (simp_all [bI, Int32.not_le, Int32.not_lt]; done))
  refine V_tableOut (tgt := 74) (pc := 1) X dX9_neighbour_1 (tb_out 0 2 (by decide) (by decide) (fun k h1 h2 q => by
      rcases (show k = 0 ∨ k = 1 ∨ k = 2 by omega) with rfl | rfl | rfl <;> first | exact absurd q w_1 | exact absurd q w_3 | exact absurd q w_5)) (by decide) ?_
  refine V_iload_n (pc := 74) X dX9_neighbour_74 rfl 0 rfl ?_
  refine V_bipush (v := 30) (pc := 75) X dX9_neighbour_75 (by decide) ?_
  refine V_icmp_ge (tgt := 87) (pc := 77) X dX9_neighbour_77 (by decide) (fun c_7 => ?_) (fun c_7 => ?_)
  · skip
    refine V_iconst (v := (-1)) (pc := 87) X dX9_neighbour_87 (by decide) ?_
    exact Vg_iret (pc := 88) X dX9_neighbour_88 hr (by first | rfl | (simp [bI, nbr, rem6, w_1, w_3, w_5, c_7]; done) | (simp_all [bI, Int32.not_le, Int32.not_lt]; done))
  · skip
    refine V_iload_n (pc := 80) X dX9_neighbour_80 rfl 0 rfl ?_
    refine V_bipush (v := 6) (pc := 81) X dX9_neighbour_81 (by decide) ?_
    refine V_iadd (pc := 83) X dX9_neighbour_83 ?_
    refine V_goto (tgt := 88) (pc := 84) X dX9_neighbour_84 (by decide) ?_
    exact Vg_iret (pc := 88) X dX9_neighbour_88 hr (by first | rfl | (simp [bI, nbr, rem6, w_1, w_3, w_5, c_7]; done) | (simp_all [bI, Int32.not_le, Int32.not_lt]; done))
set_option maxHeartbeats 4000000 in
set_option maxRecDepth 100000 in
theorem c_X9_joined (l : Launch) (g : XG) (w : Int64) (x : Int32)  : Kg l g yX9_joined wsX9_joined ({ frames := 1, cells := 0, slots := 0, locals := 25 } : Room) [.long w, .int x] [] (some (.long (jnF w (bitI x) 36))) := by
  refine Kg.of (cc := cX9_joined) (maxL := 6) (ret := (some .long)) (lv := [(0, .long w), (2, .int x)]) RX9 rfl (by decide) rfl (Nat.le_of_ble_eq_true rfl) rfl ?_
  intro p e s m below meth c A X hr
  refine V_iload_n (pc := 0) X dX9_joined_0 rfl 1 rfl ?_
  refine V_sg (pc := 1) (nA := 1) (As := [.int x]) (rest := []) X (c_X9_bit l g (x := x) ) gX9_joined_X9_bit dX9_joined_1 rfl (by decide +kernel) rfl ⟨rfl, rfl⟩ ⟨Nat.le_of_ble_eq_true rfl, Nat.le_of_ble_eq_true rfl⟩ ⟨Nat.le_of_ble_eq_true rfl, Nat.le_of_ble_eq_true rfl⟩ [] (by decide) rfl rfl (Nat.le_of_ble_eq_true rfl) (st' := [.long (bitI x)]) rfl ?_
  refine V_lstore_n (lv' := [(3, .long (bitI x)), (0, .long w), (2, .int x)]) (pc := 4) X dX9_joined_4 rfl (Nat.le_of_ble_eq_true rfl) rfl ?_
  refine V_iconst (v := 0) (pc := 5) X dX9_joined_5 (by decide) ?_
  refine V_istore (lv' := [(5, .int 0), (3, .long (bitI x)), (0, .long w), (2, .int x)]) (pc := 6) X dX9_joined_6 (Nat.le_of_ble_eq_true rfl) rfl ?_
  refine V_loop (pc := 8) (σ := Nat × Int64) (fun v9 => [(0, .long w), (2, .int x), (3, .long v9.2), (5, .int (nI v9.1))]) (fun v9 => []) (fun v9 => (v9.1 ≤ 36) ∧ (v9.2 = jnF w (bitI x) v9.1)) (fun v9 => 36 - v9.1) (0, bitI x) ⟨(by
        try dsimp only
        omega), (by
        try dsimp only
        rfl)⟩ rfl [2, 3, 1, 0] rfl ?_
  rintro ⟨k, z⟩ ⟨hk, hz⟩ ih8
  try dsimp only at hk
  try dsimp only at hz
  refine V_eqw (ws2 := []) rfl (V_eql (lv' := [(0, .long w), (2, .int x), (3, .long z), (5, .int (nI k))]) rfl ?_)
  refine V_iload (pc := 8) X dX9_joined_8 3 rfl ?_
  refine V_bipush (v := 36) (pc := 10) X dX9_joined_10 (by decide) ?_
  refine V_icmp_ge (tgt := 30) (pc := 12) X dX9_joined_12 (by decide) (fun c_1 => ?_) (fun c_1 => ?_)
  · skip
    have n_2 : 36 ≤ k := nJ_le (a := 36) (b := k) (by omega) (by omega) c_1
    refine V_lload_n (pc := 30) X dX9_joined_30 rfl 2 rfl ?_
    exact Vg_lret (pc := 31) X dX9_joined_31 hr (by rw [hz, show k = 36 by omega])
  · skip
    have n_3 : k < 36 := nJ_nle (a := 36) (b := k) (by omega) (by omega) c_1
    refine V_lload_n (pc := 15) X dX9_joined_15 rfl 2 rfl ?_
    refine V_lload_n (pc := 16) X dX9_joined_16 rfl 2 rfl ?_
    refine V_sg (pc := 17) (nA := 1) (As := [.long z]) (rest := [.long z]) X (c_X9_beside l g (w := z) ) gX9_joined_X9_beside dX9_joined_17 rfl (by decide +kernel) rfl ⟨rfl, rfl⟩ ⟨Nat.le_of_ble_eq_true rfl, Nat.le_of_ble_eq_true rfl⟩ ⟨Nat.le_of_ble_eq_true rfl, Nat.le_of_ble_eq_true rfl⟩ [] (by decide) rfl rfl (Nat.le_of_ble_eq_true rfl) (st' := [.long (bsd z), .long z]) rfl ?_
    refine V_lload_n (pc := 20) X dX9_joined_20 rfl 0 rfl ?_
    refine V_land (pc := 21) X dX9_joined_21 ?_
    refine V_lor (pc := 22) X dX9_joined_22 ?_
    refine V_lstore_n (lv' := [(3, .long (z ||| ((bsd z) &&& w))), (0, .long w), (2, .int x), (5, .int (nI k))]) (pc := 23) X dX9_joined_23 rfl (Nat.le_of_ble_eq_true rfl) rfl ?_
    refine V_iinc (v := nI (k + 1)) (lv' := [(5, .int (nI (k + 1))), (3, .long (z ||| ((bsd z) &&& w))), (0, .long w), (2, .int x)]) (pc := 24) X dX9_joined_24 3 rfl (nI_add k 1) (Nat.le_of_ble_eq_true rfl) rfl ?_
    refine V_goto (tgt := 8) (pc := 27) X dX9_joined_27 (by decide) ?_
    refine V_lv [2, 3, 1, 0] rfl ?_
    exact ih8 (k + 1, z ||| ((bsd z) &&& w)) ⟨(by
          try dsimp only
          omega), (by
          try dsimp only
          rw [hz]; rfl)⟩ (by
          try dsimp only
          omega)
set_option maxHeartbeats 4000000 in
set_option maxRecDepth 100000 in
theorem c_X9_steps (l : Launch) (g : XG) (w : Int64) (x : Int32) (y : Int32)  : Kg l g yX9_steps wsX9_steps ({ frames := 1, cells := 0, slots := 0, locals := 25 } : Room) [.long w, .int x, .int y] [] (some (.int (stX w x y))) := by
  refine Kg.of (cc := cX9_steps) (maxL := 9) (ret := (some .int)) (lv := [(0, .long w), (2, .int x), (3, .int y)]) RX9 rfl (by decide) rfl (Nat.le_of_ble_eq_true rfl) rfl ?_
  intro p e s m below meth c A X hr
  refine V_lload_n (pc := 0) X dX9_steps_0 rfl 0 rfl ?_
  refine V_iload_n (pc := 1) X dX9_steps_1 rfl 2 rfl ?_
  refine V_sg (pc := 2) (nA := 1) (As := [.int y]) (rest := [.long w]) X (c_X9_bit l g (x := y) ) gX9_steps_X9_bit dX9_steps_2 rfl (by decide +kernel) rfl ⟨rfl, rfl⟩ ⟨Nat.le_of_ble_eq_true rfl, Nat.le_of_ble_eq_true rfl⟩ ⟨Nat.le_of_ble_eq_true rfl, Nat.le_of_ble_eq_true rfl⟩ [] (by decide) rfl rfl (Nat.le_of_ble_eq_true rfl) (st' := [.long (bitI y), .long w]) rfl ?_
  refine V_land (pc := 5) X dX9_steps_5 ?_
  refine V_lconst (v := 0) (pc := 6) X dX9_steps_6 (by decide) ?_
  refine V_lcmp (pc := 7) X dX9_steps_7 ?_
  refine V_if_ne (tgt := 14) (pc := 8) X dX9_steps_8 (by decide) (fun c_1 => ?_) (fun c_1 => ?_)
  · skip
    have q_2 : ¬ (w &&& (bitI y)) = 0 := cmp_ne_t c_1
    refine V_iload_n (pc := 14) X dX9_steps_14 rfl 1 rfl ?_
    refine V_sg (pc := 15) (nA := 1) (As := [.int x]) (rest := []) X (c_X9_bit l g (x := x) ) gX9_steps_X9_bit dX9_steps_15 rfl (by decide +kernel) rfl ⟨rfl, rfl⟩ ⟨Nat.le_of_ble_eq_true rfl, Nat.le_of_ble_eq_true rfl⟩ ⟨Nat.le_of_ble_eq_true rfl, Nat.le_of_ble_eq_true rfl⟩ [] (by decide) rfl rfl (Nat.le_of_ble_eq_true rfl) (st' := [.long (bitI x)]) rfl ?_
    refine V_lload_n (pc := 18) X dX9_steps_18 rfl 0 rfl ?_
    refine V_land (pc := 19) X dX9_steps_19 ?_
    refine V_lstore (lv' := [(4, .long ((bitI x) &&& w)), (0, .long w), (2, .int x), (3, .int y)]) (pc := 20) X dX9_steps_20 (Nat.le_of_ble_eq_true rfl) rfl ?_
    refine V_iconst (v := 0) (pc := 22) X dX9_steps_22 (by decide) ?_
    refine V_istore (lv' := [(6, .int 0), (4, .long ((bitI x) &&& w)), (0, .long w), (2, .int x), (3, .int y)]) (pc := 23) X dX9_steps_23 (Nat.le_of_ble_eq_true rfl) rfl ?_
    refine V_loop (pc := 25) (σ := Nat × Int64) (fun v9 => [(0, .long w), (2, .int x), (3, .int y), (4, .long v9.2), (6, .int (nI v9.1))]) (fun v9 => []) (fun v9 => (v9.1 ≤ 36) ∧ (stF w y (36 - v9.1) v9.1 v9.2 = stX w x y)) (fun v9 => 36 - v9.1) (0, (bitI x) &&& w) ⟨(by
          try dsimp only
          omega), (by
          try dsimp only
          simp [stX, q_2])⟩ rfl [2, 3, 4, 1, 0] rfl ?_
    rintro ⟨k, z⟩ ⟨hk, hz⟩ ih25
    try dsimp only at hk
    try dsimp only at hz
    refine V_eqw (ws2 := []) rfl (V_eql (lv' := [(0, .long w), (2, .int x), (3, .int y), (4, .long z), (6, .int (nI k))]) rfl ?_)
    refine V_iload (pc := 25) X dX9_steps_25 4 rfl ?_
    refine V_bipush (v := 36) (pc := 27) X dX9_steps_27 (by decide) ?_
    refine V_icmp_ge (tgt := 80) (pc := 29) X dX9_steps_29 (by decide) (fun c_3 => ?_) (fun c_3 => ?_)
    · skip
      have n_4 : 36 ≤ k := nJ_le (a := 36) (b := k) (by omega) (by omega) c_3
      refine V_bipush (v := (-4)) (pc := 80) X dX9_steps_80 (by decide) ?_
      exact Vg_iret (pc := 82) X dX9_steps_82 hr (by first | (simp [stX, q_2, n_4]; done) | (rw [← hz, show 36 - k = 0 by omega]; rfl) | (rw [← hz, show 36 - k = (36 - (k + 1)) + 1 by omega]; simp [stF, q_2, n_4]; done))
    · skip
      have n_5 : k < 36 := nJ_nle (a := 36) (b := k) (by omega) (by omega) c_3
      refine V_lload (pc := 32) X dX9_steps_32 3 rfl ?_
      refine V_iload_n (pc := 34) X dX9_steps_34 rfl 2 rfl ?_
      refine V_sg (pc := 35) (nA := 1) (As := [.int y]) (rest := [.long z]) X (c_X9_bit l g (x := y) ) gX9_steps_X9_bit dX9_steps_35 rfl (by decide +kernel) rfl ⟨rfl, rfl⟩ ⟨Nat.le_of_ble_eq_true rfl, Nat.le_of_ble_eq_true rfl⟩ ⟨Nat.le_of_ble_eq_true rfl, Nat.le_of_ble_eq_true rfl⟩ [] (by decide) rfl rfl (Nat.le_of_ble_eq_true rfl) (st' := [.long (bitI y), .long z]) rfl ?_
      refine V_land (pc := 38) X dX9_steps_38 ?_
      refine V_lconst (v := 0) (pc := 39) X dX9_steps_39 (by decide) ?_
      refine V_lcmp (pc := 40) X dX9_steps_40 ?_
      refine V_if_eq (tgt := 47) (pc := 41) X dX9_steps_41 (by decide) (fun c_6 => ?_) (fun c_6 => ?_)
      · skip
        have q_7 : (z &&& (bitI y)) = 0 := cmp_eq_t c_6
        refine V_lload (pc := 47) X dX9_steps_47 3 rfl ?_
        refine V_lload (pc := 49) X dX9_steps_49 3 rfl ?_
        refine V_sg (pc := 51) (nA := 1) (As := [.long z]) (rest := [.long z]) X (c_X9_beside l g (w := z) ) gX9_steps_X9_beside dX9_steps_51 rfl (by decide +kernel) rfl ⟨rfl, rfl⟩ ⟨Nat.le_of_ble_eq_true rfl, Nat.le_of_ble_eq_true rfl⟩ ⟨Nat.le_of_ble_eq_true rfl, Nat.le_of_ble_eq_true rfl⟩ [] (by decide) rfl rfl (Nat.le_of_ble_eq_true rfl) (st' := [.long (bsd z), .long z]) rfl ?_
        refine V_lload_n (pc := 54) X dX9_steps_54 rfl 0 rfl ?_
        refine V_land (pc := 55) X dX9_steps_55 ?_
        refine V_lor (pc := 56) X dX9_steps_56 ?_
        refine V_lstore (lv' := [(7, .long (z ||| ((bsd z) &&& w))), (0, .long w), (2, .int x), (3, .int y), (4, .long z), (6, .int (nI k))]) (pc := 57) X dX9_steps_57 (Nat.le_of_ble_eq_true rfl) rfl ?_
        refine V_lload (pc := 59) X dX9_steps_59 0 rfl ?_
        refine V_lload (pc := 61) X dX9_steps_61 4 rfl ?_
        refine V_lcmp (pc := 63) X dX9_steps_63 ?_
        refine V_if_ne (tgt := 70) (pc := 64) X dX9_steps_64 (by decide) (fun c_8 => ?_) (fun c_8 => ?_)
        · skip
          have q_9 : ¬ (z ||| ((bsd z) &&& w)) = z := cmp_ne_t c_8
          refine V_lload (pc := 70) X dX9_steps_70 0 rfl ?_
          refine V_lstore (lv' := [(4, .long (z ||| ((bsd z) &&& w))), (7, .long (z ||| ((bsd z) &&& w))), (0, .long w), (2, .int x), (3, .int y), (6, .int (nI k))]) (pc := 72) X dX9_steps_72 (Nat.le_of_ble_eq_true rfl) rfl ?_
          refine V_iinc (v := nI (k + 1)) (lv' := [(6, .int (nI (k + 1))), (4, .long (z ||| ((bsd z) &&& w))), (7, .long (z ||| ((bsd z) &&& w))), (0, .long w), (2, .int x), (3, .int y)]) (pc := 74) X dX9_steps_74 5 rfl (nI_add k 1) (Nat.le_of_ble_eq_true rfl) rfl ?_
          refine V_goto (tgt := 25) (pc := 77) X dX9_steps_77 (by decide) ?_
          refine V_lv [3, 4, 5, 1, 0] rfl ?_
          exact ih25 (k + 1, z ||| ((bsd z) &&& w)) ⟨(by
                try dsimp only
                omega), (by
                try dsimp only
                rw [← hz, show 36 - k = (36 - (k + 1)) + 1 by omega]; simp [stF, q_2, n_5, q_7, q_9])⟩ (by
                try dsimp only
                omega)
        · skip
          have q_10 : (z ||| ((bsd z) &&& w)) = z := cmp_ne_f c_8
          refine V_bipush (v := (-4)) (pc := 67) X dX9_steps_67 (by decide) ?_
          exact Vg_iret (pc := 69) X dX9_steps_69 hr (by first | (simp [stX, q_2, n_5, q_7, q_10]; done) | (rw [← hz, show 36 - k = 0 by omega]; rfl) | (rw [← hz, show 36 - k = (36 - (k + 1)) + 1 by omega]; simp [stF, q_2, n_5, q_7, q_10]; done))
      · skip
        have q_11 : ¬ (z &&& (bitI y)) = 0 := cmp_eq_f c_6
        refine V_iload (pc := 44) X dX9_steps_44 4 rfl ?_
        exact Vg_iret (pc := 46) X dX9_steps_46 hr (by first | (simp [stX, q_2, n_5, q_11]; done) | (rw [← hz, show 36 - k = 0 by omega]; rfl) | (rw [← hz, show 36 - k = (36 - (k + 1)) + 1 by omega]; simp [stF, q_2, n_5, q_11]; done))
  · skip
    have q_12 : (w &&& (bitI y)) = 0 := cmp_ne_f c_1
    refine V_bipush (v := (-4)) (pc := 11) X dX9_steps_11 (by decide) ?_
    exact Vg_iret (pc := 13) X dX9_steps_13 hr (by first | (simp [stX, q_12]; done) | (rw [← hz, show 36 - k = 0 by omega]; rfl) | (rw [← hz, show 36 - k = (36 - (k + 1)) + 1 by omega]; simp [stF, q_12]; done))
set_option maxHeartbeats 4000000 in
set_option maxRecDepth 100000 in
theorem c_X1_sits (l : Launch) (g : XG) (aq : Nat) (akq : Nat) (acq : Nat) (ahq : Nat) (aaq : Nat) (an : Nat) (akd : Nat → Int32) (ace : Nat → Int32) (aho : Nat → Int32) (aac : Nat → Int32) (j : Nat) (hj : j < 6) : Kg l g yX1_sits wsX1_sits ({ frames := 0, cells := 0, slots := 0, locals := 0 } : Room) [.ref aq, .int (nI j)] [ob aq 1 [.int (nI an), .ref akq, .ref acq, .ref ahq, .ref aaq], ai g akq 6 akd, ai g acq 6 ace, ai g ahq 6 aho, ai g aaq 6 aac] (some (.int (bI (decide (0 < aho j))))) := by
  refine Kg.of (cc := cX1_sits) (maxL := 2) (ret := (some .boolean)) (lv := [(0, .ref aq), (1, .int (nI j))]) RX1 rfl (by decide) rfl (Nat.le_of_ble_eq_true rfl) rfl ?_
  intro p e s m below meth c A X hr
  have in1 : ∀ w ∈ u_ws RX1 TX1 5, w ∈ wsX1_sits := by decide +kernel
  refine V_aload_n (pc := 0) X dX1_sits_0 rfl 0 rfl ?_
  refine V_get (C := RX1) (T := TX1) (N := 5) (ci := 1) (pc := 1) X dX1_sits_1 in1 0 rfl rfl 3 (by decide) (by decide +kernel) rfl rfl ?_
  refine V_iload_n (pc := 4) X dX1_sits_4 rfl 1 rfl ?_
  refine V_iald (v := aho j) (pc := 5) X dX1_sits_5 3 rfl (vp_in_nI (by omega) (by omega)) (by rw [nI_clamp (by omega)]) ?_
  refine V_if_le (tgt := 13) (pc := 6) X dX1_sits_6 (by decide) (fun c_1 => ?_) (fun c_1 => ?_)
  · skip
    refine V_iconst (v := 0) (pc := 13) X dX1_sits_13 (by decide) ?_
    exact Vg_zret (pc := 14) X dX1_sits_14 hr (by first | (simp [bI, i_pos c_1]; done) | (simp [bI, i_npos c_1]; done)) rfl
  · skip
    refine V_iconst (v := 1) (pc := 9) X dX1_sits_9 (by decide) ?_
    refine V_goto (tgt := 14) (pc := 10) X dX1_sits_10 (by decide) ?_
    exact Vg_zret (pc := 14) X dX1_sits_14 hr (by first | (simp [bI, i_pos c_1]; done) | (simp [bI, i_npos c_1]; done)) rfl
set_option maxHeartbeats 4000000 in
set_option maxRecDepth 100000 in
theorem c_X1_weight (l : Launch) (g : XG) (aq : Nat) (akq : Nat) (acq : Nat) (ahq : Nat) (aaq : Nat) (an : Nat) (akd : Nat → Int32) (ace : Nat → Int32) (aho : Nat → Int32) (aac : Nat → Int32) (j : Nat) (hj : j < 6) : Kg l g yX1_weight wsX1_weight ({ frames := 0, cells := 0, slots := 0, locals := 0 } : Room) [.ref aq, .int (nI j)] [ob aq 1 [.int (nI an), .ref akq, .ref acq, .ref ahq, .ref aaq], ai g akq 6 akd, ai g acq 6 ace, ai g ahq 6 aho, ai g aaq 6 aac] (some (.int (wt (akd j) (aho j)))) := by
  refine Kg.of (cc := cX1_weight) (maxL := 2) (ret := (some .int)) (lv := [(0, .ref aq), (1, .int (nI j))]) RX1 rfl (by decide) rfl (Nat.le_of_ble_eq_true rfl) rfl ?_
  intro p e s m below meth c A X hr
  have in1 : ∀ w ∈ u_ws RX1 TX1 5, w ∈ wsX1_weight := by decide +kernel
  refine V_aload_n (pc := 0) X dX1_weight_0 rfl 0 rfl ?_
  refine V_get (C := RX1) (T := TX1) (N := 5) (ci := 1) (pc := 1) X dX1_weight_1 in1 0 rfl rfl 1 (by decide) (by decide +kernel) rfl rfl ?_
  refine V_iload_n (pc := 4) X dX1_weight_4 rfl 1 rfl ?_
  refine V_iald (v := akd j) (pc := 5) X dX1_weight_5 1 rfl (vp_in_nI (by omega) (by omega)) (by rw [nI_clamp (by omega)]) ?_
  by_cases w_1 : (akd j) = 1
  · refine V_tableIn (off := 26) (tgt := 32) (pc := 6) X dX1_weight_6 (by rw [w_1]; decide) (by rw [w_1]; decide) (by rw [w_1]; rfl) (by decide) ?_
    refine V_iconst (v := 2) (pc := 32) X dX1_weight_32 (by decide) ?_
    refine V_aload_n (pc := 33) X dX1_weight_33 rfl 0 rfl ?_
    refine V_get (C := RX1) (T := TX1) (N := 5) (ci := 1) (pc := 34) X dX1_weight_34 in1 0 rfl rfl 3 (by decide) (by decide +kernel) rfl rfl ?_
    refine V_iload_n (pc := 37) X dX1_weight_37 rfl 1 rfl ?_
    refine V_iald (v := aho j) (pc := 38) X dX1_weight_38 3 rfl (vp_in_nI (by omega) (by omega)) (by rw [nI_clamp (by omega)]) ?_
    refine V_imul (pc := 39) X dX1_weight_39 ?_
    exact Vg_iret (pc := 40) X dX1_weight_40 hr (by first | rfl | (simp [bI, wt, w_1]; done) | (simp_all [bI, Int32.not_le, Int32.not_lt]; done))
  by_cases w_2 : (akd j) = 2
  · refine V_tableIn (off := 35) (tgt := 41) (pc := 6) X dX1_weight_6 (by rw [w_2]; decide) (by rw [w_2]; decide) (by rw [w_2]; rfl) (by decide) ?_
    refine V_aload_n (pc := 41) X dX1_weight_41 rfl 0 rfl ?_
    refine V_get (C := RX1) (T := TX1) (N := 5) (ci := 1) (pc := 42) X dX1_weight_42 in1 0 rfl rfl 3 (by decide) (by decide +kernel) rfl rfl ?_
    refine V_iload_n (pc := 45) X dX1_weight_45 rfl 1 rfl ?_
    refine V_iald (v := aho j) (pc := 46) X dX1_weight_46 3 rfl (vp_in_nI (by omega) (by omega)) (by rw [nI_clamp (by omega)]) ?_
    refine V_iconst (v := 2) (pc := 47) X dX1_weight_47 (by decide) ?_
    refine V_idiv (pc := 48) X dX1_weight_48 (by decide) ?_
    exact Vg_iret (pc := 49) X dX1_weight_49 hr (by first | rfl | (simp [bI, wt, w_2]; done) | (simp_all [bI, Int32.not_le, Int32.not_lt]; done))
  by_cases w_3 : (akd j) = 3
  · refine V_tableIn (off := 26) (tgt := 32) (pc := 6) X dX1_weight_6 (by rw [w_3]; decide) (by rw [w_3]; decide) (by rw [w_3]; rfl) (by decide) ?_
    refine V_iconst (v := 2) (pc := 32) X dX1_weight_32 (by decide) ?_
    refine V_aload_n (pc := 33) X dX1_weight_33 rfl 0 rfl ?_
    refine V_get (C := RX1) (T := TX1) (N := 5) (ci := 1) (pc := 34) X dX1_weight_34 in1 0 rfl rfl 3 (by decide) (by decide +kernel) rfl rfl ?_
    refine V_iload_n (pc := 37) X dX1_weight_37 rfl 1 rfl ?_
    refine V_iald (v := aho j) (pc := 38) X dX1_weight_38 3 rfl (vp_in_nI (by omega) (by omega)) (by rw [nI_clamp (by omega)]) ?_
    refine V_imul (pc := 39) X dX1_weight_39 ?_
    exact Vg_iret (pc := 40) X dX1_weight_40 hr (by first | rfl | (simp [bI, wt, w_3]; done) | (simp_all [bI, Int32.not_le, Int32.not_lt]; done))
  refine V_tableOut (tgt := 50) (pc := 6) X dX1_weight_6 (tb_out 1 3 (by decide) (by decide) (fun k h1 h2 q => by
      rcases (show k = 1 ∨ k = 2 ∨ k = 3 by omega) with rfl | rfl | rfl <;> first | exact absurd q w_1 | exact absurd q w_2 | exact absurd q w_3)) (by decide) ?_
  refine V_aload_n (pc := 50) X dX1_weight_50 rfl 0 rfl ?_
  refine V_get (C := RX1) (T := TX1) (N := 5) (ci := 1) (pc := 51) X dX1_weight_51 in1 0 rfl rfl 3 (by decide) (by decide +kernel) rfl rfl ?_
  refine V_iload_n (pc := 54) X dX1_weight_54 rfl 1 rfl ?_
  refine V_iald (v := aho j) (pc := 55) X dX1_weight_55 3 rfl (vp_in_nI (by omega) (by omega)) (by rw [nI_clamp (by omega)]) ?_
  exact Vg_iret (pc := 56) X dX1_weight_56 hr (by first | rfl | (simp [bI, wt, w_1, w_2, w_3]; done) | (simp_all [bI, Int32.not_le, Int32.not_lt]; done))
set_option maxHeartbeats 4000000 in
set_option maxRecDepth 100000 in
theorem c_X1_isSeat (l : Launch) (g : XG) (aq : Nat) (akq : Nat) (acq : Nat) (ahq : Nat) (aaq : Nat) (an : Nat) (akd : Nat → Int32) (ace : Nat → Int32) (aho : Nat → Int32) (aac : Nat → Int32) (w : Int32) (hn : an ≤ 6) : Kg l g yX1_isSeat wsX1_isSeat ({ frames := 1, cells := 0, slots := 0, locals := 21 } : Room) [.ref aq, .int w] [ob aq 1 [.int (nI an), .ref akq, .ref acq, .ref ahq, .ref aaq], ai g akq 6 akd, ai g acq 6 ace, ai g ahq 6 aho, ai g aaq 6 aac] (some (.int (bI (seatF ace aho w an)))) := by
  refine Kg.of (cc := cX1_isSeat) (maxL := 3) (ret := (some .boolean)) (lv := [(0, .ref aq), (1, .int w)]) RX1 rfl (by decide) rfl (Nat.le_of_ble_eq_true rfl) rfl ?_
  intro p e s m below meth c A X hr
  have in1 : ∀ w ∈ u_ws RX1 TX1 5, w ∈ wsX1_isSeat := by decide +kernel
  refine V_iconst (v := 0) (pc := 0) X dX1_isSeat_0 (by decide) ?_
  refine V_istore_n (lv' := [(2, .int 0), (0, .ref aq), (1, .int w)]) (pc := 1) X dX1_isSeat_1 rfl (Nat.le_of_ble_eq_true rfl) rfl ?_
  refine V_loop (pc := 2) (σ := Nat) (fun v9 => [(0, .ref aq), (1, .int w), (2, .int (nI v9))]) (fun v9 => [ob aq 1 [.int (nI an), .ref akq, .ref acq, .ref ahq, .ref aaq], ai g akq 6 akd, ai g acq 6 ace, ai g ahq 6 aho, ai g aaq 6 aac]) (fun v9 => (v9 ≤ an) ∧ (seatF ace aho w v9 = false)) (fun v9 => an - v9) 0 ⟨(by
        try dsimp only
        omega), (by
        try dsimp only
        rfl)⟩ rfl [1, 2, 0] rfl ?_
  rintro k ⟨hk, hs⟩ ih2
  refine V_eqw (ws2 := [ob aq 1 [.int (nI an), .ref akq, .ref acq, .ref ahq, .ref aaq], ai g akq 6 akd, ai g acq 6 ace, ai g ahq 6 aho, ai g aaq 6 aac]) rfl (V_eql (lv' := [(0, .ref aq), (1, .int w), (2, .int (nI k))]) rfl ?_)
  refine V_iload_n (pc := 2) X dX1_isSeat_2 rfl 2 rfl ?_
  refine V_aload_n (pc := 3) X dX1_isSeat_3 rfl 0 rfl ?_
  refine V_get (C := RX1) (T := TX1) (N := 5) (ci := 1) (pc := 4) X dX1_isSeat_4 in1 0 rfl rfl 0 (by decide) (by decide +kernel) rfl rfl ?_
  refine V_icmp_ge (tgt := 36) (pc := 7) X dX1_isSeat_7 (by decide) (fun c_1 => ?_) (fun c_1 => ?_)
  · skip
    have n_2 : an ≤ k := nJ_le (a := an) (b := k) (by omega) (by omega) c_1
    refine V_iconst (v := 0) (pc := 36) X dX1_isSeat_36 (by decide) ?_
    exact Vg_zret (pc := 37) X dX1_isSeat_37 hr (by first | (rw [show an = k by omega, hs]; all_goals rfl) | (rw [seatF_yes (k := k) (of_decide_eq_true (by assumption)) (by assumption) (by assumption)]; all_goals rfl)) rfl
  · skip
    have n_3 : k < an := nJ_nle (a := an) (b := k) (by omega) (by omega) c_1
    refine V_aload_n (pc := 10) X dX1_isSeat_10 rfl 0 rfl ?_
    refine V_iload_n (pc := 11) X dX1_isSeat_11 rfl 2 rfl ?_
    refine V_vg (pc := 12) (nA := 1) (As := [.int (nI k)]) (rest := []) X (c_X1_sits l g (aq := aq) (akq := akq) (acq := acq) (ahq := ahq) (aaq := aaq) (an := an) (akd := akd) (ace := ace) (aho := aho) (aac := aac) (j := k) (hj := by first | assumption | omega)) gX1_isSeat_X1_sits dX1_isSeat_12 rfl (by decide +kernel) rfl (qb := 0) rfl rfl rfl ⟨rfl, rfl⟩ ⟨Nat.le_of_ble_eq_true rfl, Nat.le_of_ble_eq_true rfl⟩ ⟨Nat.le_of_ble_eq_true rfl, Nat.le_of_ble_eq_true rfl⟩ [0, 1, 2, 3, 4] (by decide) rfl rfl (Nat.le_of_ble_eq_true rfl) (st' := [.int (bI (decide (0 < aho k)))]) rfl ?_
    refine V_if_eq (tgt := 30) (pc := 15) X dX1_isSeat_15 (by decide) (fun c_4 => ?_) (fun c_4 => ?_)
    · skip
      have b_5 : decide (0 < aho k) = false := bI0 c_4
      refine V_iinc (v := nI (k + 1)) (lv' := [(2, .int (nI (k + 1))), (0, .ref aq), (1, .int w)]) (pc := 30) X dX1_isSeat_30 2 rfl (nI_add k 1) (Nat.le_of_ble_eq_true rfl) rfl ?_
      refine V_goto (tgt := 2) (pc := 33) X dX1_isSeat_33 (by decide) ?_
      refine V_lv [1, 2, 0] rfl ?_
      exact ih2 (k + 1) ⟨(by
            try dsimp only
            omega), (by
            try dsimp only
            simp [seatF, hs, n_3, b_5])⟩ (by
            try dsimp only
            omega)
    · skip
      have b_6 : decide (0 < aho k) = true := bI1 c_4
      refine V_aload_n (pc := 18) X dX1_isSeat_18 rfl 0 rfl ?_
      refine V_get (C := RX1) (T := TX1) (N := 5) (ci := 1) (pc := 19) X dX1_isSeat_19 in1 0 rfl rfl 2 (by decide) (by decide +kernel) rfl rfl ?_
      refine V_iload_n (pc := 22) X dX1_isSeat_22 rfl 2 rfl ?_
      refine V_iald (v := ace k) (pc := 23) X dX1_isSeat_23 2 rfl (vp_in_nI (by omega) (by omega)) (by rw [nI_clamp (by omega)]) ?_
      refine V_iload_n (pc := 24) X dX1_isSeat_24 rfl 1 rfl ?_
      refine V_icmp_ne (tgt := 30) (pc := 25) X dX1_isSeat_25 (by decide) (fun c_7 => ?_) (fun c_7 => ?_)
      · skip
        refine V_iinc (v := nI (k + 1)) (lv' := [(2, .int (nI (k + 1))), (0, .ref aq), (1, .int w)]) (pc := 30) X dX1_isSeat_30 2 rfl (nI_add k 1) (Nat.le_of_ble_eq_true rfl) rfl ?_
        refine V_goto (tgt := 2) (pc := 33) X dX1_isSeat_33 (by decide) ?_
        refine V_lv [1, 2, 0] rfl ?_
        exact ih2 (k + 1) ⟨(by
              try dsimp only
              omega), (by
              try dsimp only
              simp [seatF, hs, n_3, b_6, c_7])⟩ (by
              try dsimp only
              omega)
      · skip
        refine V_iconst (v := 1) (pc := 28) X dX1_isSeat_28 (by decide) ?_
        exact Vg_zret (pc := 29) X dX1_isSeat_29 hr (by first | (rw [show an = k by omega, hs]; all_goals rfl) | (rw [seatF_yes (k := k) (of_decide_eq_true (by assumption)) (by assumption) (by assumption)]; all_goals rfl)) rfl
set_option maxHeartbeats 4000000 in
set_option maxRecDepth 100000 in
theorem c_X1_weightIn (l : Launch) (g : XG) (aq : Nat) (akq : Nat) (acq : Nat) (ahq : Nat) (aaq : Nat) (an : Nat) (akd : Nat → Int32) (ace : Nat → Int32) (aho : Nat → Int32) (aac : Nat → Int32) (w : Int32) (hn : an ≤ 6) : Kg l g yX1_weightIn wsX1_weightIn ({ frames := 1, cells := 0, slots := 0, locals := 21 } : Room) [.ref aq, .int w] [ob aq 1 [.int (nI an), .ref akq, .ref acq, .ref ahq, .ref aaq], ai g akq 6 akd, ai g acq 6 ace, ai g ahq 6 aho, ai g aaq 6 aac] (some (.int (wInF akd ace aho w an))) := by
  refine Kg.of (cc := cX1_weightIn) (maxL := 4) (ret := (some .int)) (lv := [(0, .ref aq), (1, .int w)]) RX1 rfl (by decide) rfl (Nat.le_of_ble_eq_true rfl) rfl ?_
  intro p e s m below meth c A X hr
  have in1 : ∀ w ∈ u_ws RX1 TX1 5, w ∈ wsX1_weightIn := by decide +kernel
  refine V_iconst (v := 0) (pc := 0) X dX1_weightIn_0 (by decide) ?_
  refine V_istore_n (lv' := [(2, .int 0), (0, .ref aq), (1, .int w)]) (pc := 1) X dX1_weightIn_1 rfl (Nat.le_of_ble_eq_true rfl) rfl ?_
  refine V_iconst (v := 0) (pc := 2) X dX1_weightIn_2 (by decide) ?_
  refine V_istore_n (lv' := [(3, .int 0), (2, .int 0), (0, .ref aq), (1, .int w)]) (pc := 3) X dX1_weightIn_3 rfl (Nat.le_of_ble_eq_true rfl) rfl ?_
  refine V_loop (pc := 4) (σ := Nat × Int32) (fun v9 => [(0, .ref aq), (1, .int w), (2, .int v9.2), (3, .int (nI v9.1))]) (fun v9 => [ob aq 1 [.int (nI an), .ref akq, .ref acq, .ref ahq, .ref aaq], ai g akq 6 akd, ai g acq 6 ace, ai g ahq 6 aho, ai g aaq 6 aac]) (fun v9 => (v9.1 ≤ an) ∧ (v9.2 = wInF akd ace aho w v9.1)) (fun v9 => an - v9.1) (0, 0) ⟨(by
        try dsimp only
        omega), (by
        try dsimp only
        rfl)⟩ rfl [2, 3, 1, 0] rfl ?_
  rintro ⟨k, z⟩ ⟨hk, hz⟩ ih4
  try dsimp only at hk
  try dsimp only at hz
  refine V_eqw (ws2 := [ob aq 1 [.int (nI an), .ref akq, .ref acq, .ref ahq, .ref aaq], ai g akq 6 akd, ai g acq 6 ace, ai g ahq 6 aho, ai g aaq 6 aac]) rfl (V_eql (lv' := [(0, .ref aq), (1, .int w), (2, .int z), (3, .int (nI k))]) rfl ?_)
  refine V_iload_n (pc := 4) X dX1_weightIn_4 rfl 3 rfl ?_
  refine V_aload_n (pc := 5) X dX1_weightIn_5 rfl 0 rfl ?_
  refine V_get (C := RX1) (T := TX1) (N := 5) (ci := 1) (pc := 6) X dX1_weightIn_6 in1 0 rfl rfl 0 (by decide) (by decide +kernel) rfl rfl ?_
  refine V_icmp_ge (tgt := 44) (pc := 9) X dX1_weightIn_9 (by decide) (fun c_1 => ?_) (fun c_1 => ?_)
  · skip
    have n_2 : an ≤ k := nJ_le (a := an) (b := k) (by omega) (by omega) c_1
    refine V_iload_n (pc := 44) X dX1_weightIn_44 rfl 2 rfl ?_
    exact Vg_iret (pc := 45) X dX1_weightIn_45 hr (by rw [hz, show k = an by omega])
  · skip
    have n_3 : k < an := nJ_nle (a := an) (b := k) (by omega) (by omega) c_1
    refine V_aload_n (pc := 12) X dX1_weightIn_12 rfl 0 rfl ?_
    refine V_iload_n (pc := 13) X dX1_weightIn_13 rfl 3 rfl ?_
    refine V_vg (pc := 14) (nA := 1) (As := [.int (nI k)]) (rest := []) X (c_X1_sits l g (aq := aq) (akq := akq) (acq := acq) (ahq := ahq) (aaq := aaq) (an := an) (akd := akd) (ace := ace) (aho := aho) (aac := aac) (j := k) (hj := by first | assumption | omega)) gX1_weightIn_X1_sits dX1_weightIn_14 rfl (by decide +kernel) rfl (qb := 0) rfl rfl rfl ⟨rfl, rfl⟩ ⟨Nat.le_of_ble_eq_true rfl, Nat.le_of_ble_eq_true rfl⟩ ⟨Nat.le_of_ble_eq_true rfl, Nat.le_of_ble_eq_true rfl⟩ [0, 1, 2, 3, 4] (by decide) rfl rfl (Nat.le_of_ble_eq_true rfl) (st' := [.int (bI (decide (0 < aho k)))]) rfl ?_
    refine V_if_eq (tgt := 38) (pc := 17) X dX1_weightIn_17 (by decide) (fun c_4 => ?_) (fun c_4 => ?_)
    · skip
      have b_5 : decide (0 < aho k) = false := bI0 c_4
      refine V_iinc (v := nI (k + 1)) (lv' := [(3, .int (nI (k + 1))), (0, .ref aq), (1, .int w), (2, .int z)]) (pc := 38) X dX1_weightIn_38 3 rfl (nI_add k 1) (Nat.le_of_ble_eq_true rfl) rfl ?_
      refine V_goto (tgt := 4) (pc := 41) X dX1_weightIn_41 (by decide) ?_
      refine V_lv [1, 2, 3, 0] rfl ?_
      exact ih4 (k + 1, z) ⟨(by
            try dsimp only
            omega), (by
            try dsimp only
            first | exact hz.trans (wInF_a (by assumption)) | exact hz.trans (wInF_b (by assumption)) | (rw [hz]; exact wInF_c (by assumption) (by assumption)))⟩ (by
            try dsimp only
            omega)
    · skip
      have b_6 : decide (0 < aho k) = true := bI1 c_4
      refine V_aload_n (pc := 20) X dX1_weightIn_20 rfl 0 rfl ?_
      refine V_get (C := RX1) (T := TX1) (N := 5) (ci := 1) (pc := 21) X dX1_weightIn_21 in1 0 rfl rfl 2 (by decide) (by decide +kernel) rfl rfl ?_
      refine V_iload_n (pc := 24) X dX1_weightIn_24 rfl 3 rfl ?_
      refine V_iald (v := ace k) (pc := 25) X dX1_weightIn_25 2 rfl (vp_in_nI (by omega) (by omega)) (by rw [nI_clamp (by omega)]) ?_
      refine V_iload_n (pc := 26) X dX1_weightIn_26 rfl 1 rfl ?_
      refine V_icmp_ne (tgt := 38) (pc := 27) X dX1_weightIn_27 (by decide) (fun c_7 => ?_) (fun c_7 => ?_)
      · skip
        refine V_iinc (v := nI (k + 1)) (lv' := [(3, .int (nI (k + 1))), (0, .ref aq), (1, .int w), (2, .int z)]) (pc := 38) X dX1_weightIn_38 3 rfl (nI_add k 1) (Nat.le_of_ble_eq_true rfl) rfl ?_
        refine V_goto (tgt := 4) (pc := 41) X dX1_weightIn_41 (by decide) ?_
        refine V_lv [1, 2, 3, 0] rfl ?_
        exact ih4 (k + 1, z) ⟨(by
              try dsimp only
              omega), (by
              try dsimp only
              first | exact hz.trans (wInF_a (by assumption)) | exact hz.trans (wInF_b (by assumption)) | (rw [hz]; exact wInF_c (by assumption) (by assumption)))⟩ (by
              try dsimp only
              omega)
      · skip
        refine V_iload_n (pc := 30) X dX1_weightIn_30 rfl 2 rfl ?_
        refine V_aload_n (pc := 31) X dX1_weightIn_31 rfl 0 rfl ?_
        refine V_iload_n (pc := 32) X dX1_weightIn_32 rfl 3 rfl ?_
        refine V_vg (pc := 33) (nA := 1) (As := [.int (nI k)]) (rest := [.int z]) X (c_X1_weight l g (aq := aq) (akq := akq) (acq := acq) (ahq := ahq) (aaq := aaq) (an := an) (akd := akd) (ace := ace) (aho := aho) (aac := aac) (j := k) (hj := by first | assumption | omega)) gX1_weightIn_X1_weight dX1_weightIn_33 rfl (by decide +kernel) rfl (qb := 0) rfl rfl rfl ⟨rfl, rfl⟩ ⟨Nat.le_of_ble_eq_true rfl, Nat.le_of_ble_eq_true rfl⟩ ⟨Nat.le_of_ble_eq_true rfl, Nat.le_of_ble_eq_true rfl⟩ [0, 1, 2, 3, 4] (by decide) rfl rfl (Nat.le_of_ble_eq_true rfl) (st' := [.int (wt (akd k) (aho k)), .int z]) rfl ?_
        refine V_iadd (pc := 36) X dX1_weightIn_36 ?_
        refine V_istore_n (lv' := [(2, .int (z + (wt (akd k) (aho k)))), (0, .ref aq), (1, .int w), (3, .int (nI k))]) (pc := 37) X dX1_weightIn_37 rfl (Nat.le_of_ble_eq_true rfl) rfl ?_
        refine V_iinc (v := nI (k + 1)) (lv' := [(3, .int (nI (k + 1))), (2, .int (z + (wt (akd k) (aho k)))), (0, .ref aq), (1, .int w)]) (pc := 38) X dX1_weightIn_38 3 rfl (nI_add k 1) (Nat.le_of_ble_eq_true rfl) rfl ?_
        refine V_goto (tgt := 4) (pc := 41) X dX1_weightIn_41 (by decide) ?_
        refine V_lv [2, 3, 1, 0] rfl ?_
        exact ih4 (k + 1, z + (wt (akd k) (aho k))) ⟨(by
              try dsimp only
              omega), (by
              try dsimp only
              first | exact hz.trans (wInF_a (by assumption)) | exact hz.trans (wInF_b (by assumption)) | (rw [hz]; exact wInF_c (by assumption) (by assumption)))⟩ (by
              try dsimp only
              omega)
set_option maxHeartbeats 4000000 in
set_option maxRecDepth 100000 in
theorem c_X1_strangerCells (l : Launch) (g : XG) (aq : Nat) (akq : Nat) (acq : Nat) (ahq : Nat) (aaq : Nat) (an : Nat) (akd : Nat → Int32) (ace : Nat → Int32) (aho : Nat → Int32) (aac : Nat → Int32) (hn : an ≤ 6) : Kg l g yX1_strangerCells wsX1_strangerCells ({ frames := 1, cells := 0, slots := 0, locals := 21 } : Room) [.ref aq] [ob aq 1 [.int (nI an), .ref akq, .ref acq, .ref ahq, .ref aaq], ai g akq 6 akd, ai g acq 6 ace, ai g ahq 6 aho, ai g aaq 6 aac] (some (.long (strF akd ace aho an))) := by
  refine Kg.of (cc := cX1_strangerCells) (maxL := 4) (ret := (some .long)) (lv := [(0, .ref aq)]) RX1 rfl (by decide) rfl (Nat.le_of_ble_eq_true rfl) rfl ?_
  intro p e s m below meth c A X hr
  have in1 : ∀ w ∈ u_ws RX1 TX1 5, w ∈ wsX1_strangerCells := by decide +kernel
  refine V_lconst (v := 0) (pc := 0) X dX1_strangerCells_0 (by decide) ?_
  refine V_lstore_n (lv' := [(1, .long 0), (0, .ref aq)]) (pc := 1) X dX1_strangerCells_1 rfl (Nat.le_of_ble_eq_true rfl) rfl ?_
  refine V_iconst (v := 0) (pc := 2) X dX1_strangerCells_2 (by decide) ?_
  refine V_istore_n (lv' := [(3, .int 0), (1, .long 0), (0, .ref aq)]) (pc := 3) X dX1_strangerCells_3 rfl (Nat.le_of_ble_eq_true rfl) rfl ?_
  refine V_loop (pc := 4) (σ := Nat × Int64) (fun v9 => [(0, .ref aq), (1, .long v9.2), (3, .int (nI v9.1))]) (fun v9 => [ob aq 1 [.int (nI an), .ref akq, .ref acq, .ref ahq, .ref aaq], ai g akq 6 akd, ai g acq 6 ace, ai g ahq 6 aho, ai g aaq 6 aac]) (fun v9 => (v9.1 ≤ an) ∧ (v9.2 = strF akd ace aho v9.1)) (fun v9 => an - v9.1) (0, 0) ⟨(by
        try dsimp only
        omega), (by
        try dsimp only
        rfl)⟩ rfl [2, 1, 0] rfl ?_
  rintro ⟨k, z⟩ ⟨hk, hz⟩ ih4
  try dsimp only at hk
  try dsimp only at hz
  refine V_eqw (ws2 := [ob aq 1 [.int (nI an), .ref akq, .ref acq, .ref ahq, .ref aaq], ai g akq 6 akd, ai g acq 6 ace, ai g ahq 6 aho, ai g aaq 6 aac]) rfl (V_eql (lv' := [(0, .ref aq), (1, .long z), (3, .int (nI k))]) rfl ?_)
  refine V_iload_n (pc := 4) X dX1_strangerCells_4 rfl 2 rfl ?_
  refine V_aload_n (pc := 5) X dX1_strangerCells_5 rfl 0 rfl ?_
  refine V_get (C := RX1) (T := TX1) (N := 5) (ci := 1) (pc := 6) X dX1_strangerCells_6 in1 0 rfl rfl 0 (by decide) (by decide +kernel) rfl rfl ?_
  refine V_icmp_ge (tgt := 48) (pc := 9) X dX1_strangerCells_9 (by decide) (fun c_1 => ?_) (fun c_1 => ?_)
  · skip
    have n_2 : an ≤ k := nJ_le (a := an) (b := k) (by omega) (by omega) c_1
    refine V_lload_n (pc := 48) X dX1_strangerCells_48 rfl 1 rfl ?_
    exact Vg_lret (pc := 49) X dX1_strangerCells_49 hr (by rw [hz, show k = an by omega])
  · skip
    have n_3 : k < an := nJ_nle (a := an) (b := k) (by omega) (by omega) c_1
    refine V_aload_n (pc := 12) X dX1_strangerCells_12 rfl 0 rfl ?_
    refine V_iload_n (pc := 13) X dX1_strangerCells_13 rfl 2 rfl ?_
    refine V_vg (pc := 14) (nA := 1) (As := [.int (nI k)]) (rest := []) X (c_X1_sits l g (aq := aq) (akq := akq) (acq := acq) (ahq := ahq) (aaq := aaq) (an := an) (akd := akd) (ace := ace) (aho := aho) (aac := aac) (j := k) (hj := by first | assumption | omega)) gX1_strangerCells_X1_sits dX1_strangerCells_14 rfl (by decide +kernel) rfl (qb := 0) rfl rfl rfl ⟨rfl, rfl⟩ ⟨Nat.le_of_ble_eq_true rfl, Nat.le_of_ble_eq_true rfl⟩ ⟨Nat.le_of_ble_eq_true rfl, Nat.le_of_ble_eq_true rfl⟩ [0, 1, 2, 3, 4] (by decide) rfl rfl (Nat.le_of_ble_eq_true rfl) (st' := [.int (bI (decide (0 < aho k)))]) rfl ?_
    refine V_if_eq (tgt := 42) (pc := 17) X dX1_strangerCells_17 (by decide) (fun c_4 => ?_) (fun c_4 => ?_)
    · skip
      have b_5 : decide (0 < aho k) = false := bI0 c_4
      refine V_iinc (v := nI (k + 1)) (lv' := [(3, .int (nI (k + 1))), (0, .ref aq), (1, .long z)]) (pc := 42) X dX1_strangerCells_42 2 rfl (nI_add k 1) (Nat.le_of_ble_eq_true rfl) rfl ?_
      refine V_goto (tgt := 4) (pc := 45) X dX1_strangerCells_45 (by decide) ?_
      refine V_lv [1, 2, 0] rfl ?_
      exact ih4 (k + 1, z) ⟨(by
            try dsimp only
            omega), (by
            try dsimp only
            first | exact hz.trans (strF_a (by assumption)) | exact hz.trans (strF_b (by assumption)) | (rw [hz]; exact strF_c (by assumption) (by assumption)))⟩ (by
            try dsimp only
            omega)
    · skip
      have b_6 : decide (0 < aho k) = true := bI1 c_4
      refine V_aload_n (pc := 20) X dX1_strangerCells_20 rfl 0 rfl ?_
      refine V_get (C := RX1) (T := TX1) (N := 5) (ci := 1) (pc := 21) X dX1_strangerCells_21 in1 0 rfl rfl 1 (by decide) (by decide +kernel) rfl rfl ?_
      refine V_iload_n (pc := 24) X dX1_strangerCells_24 rfl 2 rfl ?_
      refine V_iald (v := akd k) (pc := 25) X dX1_strangerCells_25 1 rfl (vp_in_nI (by omega) (by omega)) (by rw [nI_clamp (by omega)]) ?_
      refine V_iconst (v := 3) (pc := 26) X dX1_strangerCells_26 (by decide) ?_
      refine V_icmp_ne (tgt := 42) (pc := 27) X dX1_strangerCells_27 (by decide) (fun c_7 => ?_) (fun c_7 => ?_)
      · skip
        refine V_iinc (v := nI (k + 1)) (lv' := [(3, .int (nI (k + 1))), (0, .ref aq), (1, .long z)]) (pc := 42) X dX1_strangerCells_42 2 rfl (nI_add k 1) (Nat.le_of_ble_eq_true rfl) rfl ?_
        refine V_goto (tgt := 4) (pc := 45) X dX1_strangerCells_45 (by decide) ?_
        refine V_lv [1, 2, 0] rfl ?_
        exact ih4 (k + 1, z) ⟨(by
              try dsimp only
              omega), (by
              try dsimp only
              first | exact hz.trans (strF_a (by assumption)) | exact hz.trans (strF_b (by assumption)) | (rw [hz]; exact strF_c (by assumption) (by assumption)))⟩ (by
              try dsimp only
              omega)
      · skip
        refine V_lload_n (pc := 30) X dX1_strangerCells_30 rfl 1 rfl ?_
        refine V_aload_n (pc := 31) X dX1_strangerCells_31 rfl 0 rfl ?_
        refine V_get (C := RX1) (T := TX1) (N := 5) (ci := 1) (pc := 32) X dX1_strangerCells_32 in1 0 rfl rfl 2 (by decide) (by decide +kernel) rfl rfl ?_
        refine V_iload_n (pc := 35) X dX1_strangerCells_35 rfl 2 rfl ?_
        refine V_iald (v := ace k) (pc := 36) X dX1_strangerCells_36 2 rfl (vp_in_nI (by omega) (by omega)) (by rw [nI_clamp (by omega)]) ?_
        refine V_ng (pc := 37) (nA := 1) (As := [.int (ace k)]) (rest := [.long z]) X (c_X9_bit l g (x := ace k) ) gX1_strangerCells_X9_bit_n40 dX1_strangerCells_37 rfl (by decide +kernel) rfl (by decide +kernel) (by decide +kernel) (by decide +kernel) ⟨rfl, rfl⟩ ⟨Nat.le_of_ble_eq_true rfl, Nat.le_of_ble_eq_true rfl⟩ ⟨Nat.le_of_ble_eq_true rfl, Nat.le_of_ble_eq_true rfl⟩ [] (by decide) rfl rfl (Nat.le_of_ble_eq_true rfl) (st' := [.long (bitI (ace k)), .long z]) rfl ?_
        refine V_lor (pc := 40) X dX1_strangerCells_40 ?_
        refine V_lstore_n (lv' := [(1, .long (z ||| (bitI (ace k)))), (0, .ref aq), (3, .int (nI k))]) (pc := 41) X dX1_strangerCells_41 rfl (Nat.le_of_ble_eq_true rfl) rfl ?_
        refine V_iinc (v := nI (k + 1)) (lv' := [(3, .int (nI (k + 1))), (1, .long (z ||| (bitI (ace k)))), (0, .ref aq)]) (pc := 42) X dX1_strangerCells_42 2 rfl (nI_add k 1) (Nat.le_of_ble_eq_true rfl) rfl ?_
        refine V_goto (tgt := 4) (pc := 45) X dX1_strangerCells_45 (by decide) ?_
        refine V_lv [2, 1, 0] rfl ?_
        exact ih4 (k + 1, z ||| (bitI (ace k))) ⟨(by
              try dsimp only
              omega), (by
              try dsimp only
              first | exact hz.trans (strF_a (by assumption)) | exact hz.trans (strF_b (by assumption)) | (rw [hz]; exact strF_c (by assumption) (by assumption)))⟩ (by
              try dsimp only
              omega)
set_option maxHeartbeats 4000000 in
set_option maxRecDepth 100000 in
theorem c_X1_aching (l : Launch) (g : XG) (aq : Nat) (akq : Nat) (acq : Nat) (ahq : Nat) (aaq : Nat) (an : Nat) (akd : Nat → Int32) (ace : Nat → Int32) (aho : Nat → Int32) (aac : Nat → Int32) (hn : an ≤ 6) : Kg l g yX1_aching wsX1_aching ({ frames := 0, cells := 0, slots := 0, locals := 0 } : Room) [.ref aq] [ob aq 1 [.int (nI an), .ref akq, .ref acq, .ref ahq, .ref aaq], ai g akq 6 akd, ai g acq 6 ace, ai g ahq 6 aho, ai g aaq 6 aac] (some (.int (achF aac an))) := by
  refine Kg.of (cc := cX1_aching) (maxL := 3) (ret := (some .int)) (lv := [(0, .ref aq)]) RX1 rfl (by decide) rfl (Nat.le_of_ble_eq_true rfl) rfl ?_
  intro p e s m below meth c A X hr
  have in1 : ∀ w ∈ u_ws RX1 TX1 5, w ∈ wsX1_aching := by decide +kernel
  refine V_iconst (v := 0) (pc := 0) X dX1_aching_0 (by decide) ?_
  refine V_istore_n (lv' := [(1, .int 0), (0, .ref aq)]) (pc := 1) X dX1_aching_1 rfl (Nat.le_of_ble_eq_true rfl) rfl ?_
  refine V_iconst (v := 0) (pc := 2) X dX1_aching_2 (by decide) ?_
  refine V_istore_n (lv' := [(2, .int 0), (1, .int 0), (0, .ref aq)]) (pc := 3) X dX1_aching_3 rfl (Nat.le_of_ble_eq_true rfl) rfl ?_
  refine V_loop (pc := 4) (σ := Nat × Int32) (fun v9 => [(0, .ref aq), (1, .int v9.2), (2, .int (nI v9.1))]) (fun v9 => [ob aq 1 [.int (nI an), .ref akq, .ref acq, .ref ahq, .ref aaq], ai g akq 6 akd, ai g acq 6 ace, ai g ahq 6 aho, ai g aaq 6 aac]) (fun v9 => (v9.1 ≤ an) ∧ (v9.2 = achF aac v9.1)) (fun v9 => an - v9.1) (0, 0) ⟨(by
        try dsimp only
        omega), (by
        try dsimp only
        rfl)⟩ rfl [2, 1, 0] rfl ?_
  rintro ⟨k, z⟩ ⟨hk, hz⟩ ih4
  try dsimp only at hk
  try dsimp only at hz
  refine V_eqw (ws2 := [ob aq 1 [.int (nI an), .ref akq, .ref acq, .ref ahq, .ref aaq], ai g akq 6 akd, ai g acq 6 ace, ai g ahq 6 aho, ai g aaq 6 aac]) rfl (V_eql (lv' := [(0, .ref aq), (1, .int z), (2, .int (nI k))]) rfl ?_)
  refine V_iload_n (pc := 4) X dX1_aching_4 rfl 2 rfl ?_
  refine V_aload_n (pc := 5) X dX1_aching_5 rfl 0 rfl ?_
  refine V_get (C := RX1) (T := TX1) (N := 5) (ci := 1) (pc := 6) X dX1_aching_6 in1 0 rfl rfl 0 (by decide) (by decide +kernel) rfl rfl ?_
  refine V_icmp_ge (tgt := 33) (pc := 9) X dX1_aching_9 (by decide) (fun c_1 => ?_) (fun c_1 => ?_)
  · skip
    have n_2 : an ≤ k := nJ_le (a := an) (b := k) (by omega) (by omega) c_1
    refine V_iload_n (pc := 33) X dX1_aching_33 rfl 1 rfl ?_
    exact Vg_iret (pc := 34) X dX1_aching_34 hr (by rw [hz, show k = an by omega])
  · skip
    have n_3 : k < an := nJ_nle (a := an) (b := k) (by omega) (by omega) c_1
    refine V_aload_n (pc := 12) X dX1_aching_12 rfl 0 rfl ?_
    refine V_get (C := RX1) (T := TX1) (N := 5) (ci := 1) (pc := 13) X dX1_aching_13 in1 0 rfl rfl 4 (by decide) (by decide +kernel) rfl rfl ?_
    refine V_iload_n (pc := 16) X dX1_aching_16 rfl 2 rfl ?_
    refine V_iald (v := aac k) (pc := 17) X dX1_aching_17 4 rfl (vp_in_nI (by omega) (by omega)) (by rw [nI_clamp (by omega)]) ?_
    refine V_if_le (tgt := 27) (pc := 18) X dX1_aching_18 (by decide) (fun c_4 => ?_) (fun c_4 => ?_)
    · skip
      refine V_iinc (v := nI (k + 1)) (lv' := [(2, .int (nI (k + 1))), (0, .ref aq), (1, .int z)]) (pc := 27) X dX1_aching_27 2 rfl (nI_add k 1) (Nat.le_of_ble_eq_true rfl) rfl ?_
      refine V_goto (tgt := 4) (pc := 30) X dX1_aching_30 (by decide) ?_
      refine V_lv [1, 2, 0] rfl ?_
      exact ih4 (k + 1, z) ⟨(by
            try dsimp only
            omega), (by
            try dsimp only
            first | exact hz.trans (achF_a (by assumption)) | (rw [hz]; exact achF_c (by assumption)))⟩ (by
            try dsimp only
            omega)
    · skip
      refine V_iload_n (pc := 21) X dX1_aching_21 rfl 1 rfl ?_
      refine V_iconst (v := 1) (pc := 22) X dX1_aching_22 (by decide) ?_
      refine V_iload_n (pc := 23) X dX1_aching_23 rfl 2 rfl ?_
      refine V_ishl (pc := 24) X dX1_aching_24 ?_
      refine V_ior (pc := 25) X dX1_aching_25 ?_
      refine V_istore_n (lv' := [(1, .int (z ||| (1 <<< ((nI k) &&& 31)))), (0, .ref aq), (2, .int (nI k))]) (pc := 26) X dX1_aching_26 rfl (Nat.le_of_ble_eq_true rfl) rfl ?_
      refine V_iinc (v := nI (k + 1)) (lv' := [(2, .int (nI (k + 1))), (1, .int (z ||| (1 <<< ((nI k) &&& 31)))), (0, .ref aq)]) (pc := 27) X dX1_aching_27 2 rfl (nI_add k 1) (Nat.le_of_ble_eq_true rfl) rfl ?_
      refine V_goto (tgt := 4) (pc := 30) X dX1_aching_30 (by decide) ?_
      refine V_lv [2, 1, 0] rfl ?_
      exact ih4 (k + 1, z ||| (1 <<< ((nI k) &&& 31))) ⟨(by
            try dsimp only
            omega), (by
            try dsimp only
            first | exact hz.trans (achF_a (by assumption)) | (rw [hz]; exact achF_c (by assumption)))⟩ (by
            try dsimp only
            omega)
set_option maxHeartbeats 4000000 in
set_option maxRecDepth 100000 in
theorem c_X1_seat (l : Launch) (g : XG) (aq : Nat) (akq : Nat) (acq : Nat) (ahq : Nat) (aaq : Nat) (an : Nat) (akd : Nat → Int32) (ace : Nat → Int32) (aho : Nat → Int32) (aac : Nat → Int32) (j : Nat) (w : Int32) (h : Int32) (hj : j < 6) : Ke l g yX1_seat wsX1_seat ({ frames := 0, cells := 0, slots := 0, locals := 0 } : Room) 0 0 [.ref aq, .int (nI j), .int w, .int h] [ob aq 1 [.int (nI an), .ref akq, .ref acq, .ref ahq, .ref aaq], ai g akq 6 akd, ai g acq 6 ace, ai g ahq 6 aho, ai g aaq 6 aac] (fun u : Unit => none) (fun u => [ob aq 1 [.int (nI an), .ref akq, .ref acq, .ref ahq, .ref aaq], ai g akq 6 akd, ai g acq 6 (upd ace j w), ai g ahq 6 (upd aho j h), ai g aaq 6 aac]) (fun u => True) := by
  refine Ke.of (cc := cX1_seat) (maxL := 4) (ret := none) (lv := [(0, .ref aq), (1, .int (nI j)), (2, .int w), (3, .int h)]) RX1 rfl (by decide) rfl (Nat.le_of_ble_eq_true rfl) rfl ?_
  intro p e s m below meth c A sz hA9 X hr hin2
  have in1 : ∀ w ∈ u_ws RX1 TX1 5, w ∈ wsX1_seat := by decide +kernel
  refine V_aload_n (pc := 0) X dX1_seat_0 rfl 0 rfl ?_
  refine V_get (C := RX1) (T := TX1) (N := 5) (ci := 1) (pc := 1) X dX1_seat_1 in1 0 rfl rfl 2 (by decide) (by decide +kernel) rfl rfl ?_
  refine V_iload_n (pc := 4) X dX1_seat_4 rfl 1 rfl ?_
  refine V_iload_n (pc := 5) X dX1_seat_5 rfl 2 rfl ?_
  refine V_iast (f' := upd ace j w) (ws' := [ob aq 1 [.int (nI an), .ref akq, .ref acq, .ref ahq, .ref aaq], ai g akq 6 akd, ai g acq 6 (upd ace j w), ai g ahq 6 aho, ai g aaq 6 aac]) (pc := 6) X dX1_seat_6 2 rfl (vp_in_nI (by omega) (by omega)) (by rw [nI_clamp (by omega)]) rfl ?_
  refine V_aload_n (pc := 7) X dX1_seat_7 rfl 0 rfl ?_
  refine V_get (C := RX1) (T := TX1) (N := 5) (ci := 1) (pc := 8) X dX1_seat_8 in1 0 rfl rfl 3 (by decide) (by decide +kernel) rfl rfl ?_
  refine V_iload_n (pc := 11) X dX1_seat_11 rfl 1 rfl ?_
  refine V_iload_n (pc := 12) X dX1_seat_12 rfl 3 rfl ?_
  refine V_iast (f' := upd aho j h) (ws' := [ob aq 1 [.int (nI an), .ref akq, .ref acq, .ref ahq, .ref aaq], ai g akq 6 akd, ai g acq 6 (upd ace j w), ai g ahq 6 (upd aho j h), ai g aaq 6 aac]) (pc := 13) X dX1_seat_13 3 rfl (vp_in_nI (by omega) (by omega)) (by rw [nI_clamp (by omega)]) rfl ?_
  exact Ve_vret (pc := 14) X hA9 dX1_seat_14 hr () rfl trivial (by rfl)
set_option maxHeartbeats 4000000 in
set_option maxRecDepth 100000 in
theorem c_X1_rise (l : Launch) (g : XG) (aq : Nat) (akq : Nat) (acq : Nat) (ahq : Nat) (aaq : Nat) (an : Nat) (akd : Nat → Int32) (ace : Nat → Int32) (aho : Nat → Int32) (aac : Nat → Int32) (hn : an ≤ 6) : Ke l g yX1_rise wsX1_rise ({ frames := 0, cells := 0, slots := 0, locals := 0 } : Room) 0 0 [.ref aq] [ob aq 1 [.int (nI an), .ref akq, .ref acq, .ref ahq, .ref aaq], ai g akq 6 akd, ai g acq 6 ace, ai g ahq 6 aho, ai g aaq 6 aac] (fun u : Unit => none) (fun u => [ob aq 1 [.int (nI an), .ref akq, .ref acq, .ref ahq, .ref aaq], ai g akq 6 akd, ai g acq 6 ace, ai g ahq 6 (cpF aho (fun _ => 0) an), ai g aaq 6 aac]) (fun u => True) := by
  refine Ke.of (cc := cX1_rise) (maxL := 2) (ret := none) (lv := [(0, .ref aq)]) RX1 rfl (by decide) rfl (Nat.le_of_ble_eq_true rfl) rfl ?_
  intro p e s m below meth c A sz hA9 X hr hin2
  have in1 : ∀ w ∈ u_ws RX1 TX1 5, w ∈ wsX1_rise := by decide +kernel
  refine V_iconst (v := 0) (pc := 0) X dX1_rise_0 (by decide) ?_
  refine V_istore_n (lv' := [(1, .int 0), (0, .ref aq)]) (pc := 1) X dX1_rise_1 rfl (Nat.le_of_ble_eq_true rfl) rfl ?_
  refine V_loop (pc := 2) (σ := Nat × (Nat → Int32)) (fun v9 => [(0, .ref aq), (1, .int (nI v9.1))]) (fun v9 => [ob aq 1 [.int (nI an), .ref akq, .ref acq, .ref ahq, .ref aaq], ai g akq 6 akd, ai g acq 6 ace, ai g ahq 6 v9.2, ai g aaq 6 aac]) (fun v9 => (v9.1 ≤ an) ∧ (v9.2 = cpF aho (fun _ => 0) v9.1)) (fun v9 => an - v9.1) (0, aho) ⟨(by
        try dsimp only
        omega), (by
        try dsimp only
        exact cpF_0 _ _)⟩ rfl [1, 0] rfl ?_
  rintro ⟨k, z⟩ ⟨hk, hz⟩ ih2
  try dsimp only at hk
  try dsimp only at hz
  refine V_eqw (ws2 := [ob aq 1 [.int (nI an), .ref akq, .ref acq, .ref ahq, .ref aaq], ai g akq 6 akd, ai g acq 6 ace, ai g ahq 6 z, ai g aaq 6 aac]) rfl (V_eql (lv' := [(0, .ref aq), (1, .int (nI k))]) rfl ?_)
  refine V_iload_n (pc := 2) X dX1_rise_2 rfl 1 rfl ?_
  refine V_aload_n (pc := 3) X dX1_rise_3 rfl 0 rfl ?_
  refine V_get (C := RX1) (T := TX1) (N := 5) (ci := 1) (pc := 4) X dX1_rise_4 in1 0 rfl rfl 0 (by decide) (by decide +kernel) rfl rfl ?_
  refine V_icmp_ge (tgt := 23) (pc := 7) X dX1_rise_7 (by decide) (fun c_1 => ?_) (fun c_1 => ?_)
  · skip
    have n_2 : an ≤ k := nJ_le (a := an) (b := k) (by omega) (by omega) c_1
    exact Ve_vret (pc := 23) X hA9 dX1_rise_23 hr () rfl trivial (by rw [hz, show k = an by omega])
  · skip
    have n_3 : k < an := nJ_nle (a := an) (b := k) (by omega) (by omega) c_1
    refine V_aload_n (pc := 10) X dX1_rise_10 rfl 0 rfl ?_
    refine V_get (C := RX1) (T := TX1) (N := 5) (ci := 1) (pc := 11) X dX1_rise_11 in1 0 rfl rfl 3 (by decide) (by decide +kernel) rfl rfl ?_
    refine V_iload_n (pc := 14) X dX1_rise_14 rfl 1 rfl ?_
    refine V_iconst (v := 0) (pc := 15) X dX1_rise_15 (by decide) ?_
    refine V_iast (f' := upd z k 0) (ws' := [ob aq 1 [.int (nI an), .ref akq, .ref acq, .ref ahq, .ref aaq], ai g akq 6 akd, ai g acq 6 ace, ai g ahq 6 (upd z k 0), ai g aaq 6 aac]) (pc := 16) X dX1_rise_16 3 rfl (vp_in_nI (by omega) (by omega)) (by rw [nI_clamp (by omega)]) rfl ?_
    refine V_iinc (v := nI (k + 1)) (lv' := [(1, .int (nI (k + 1))), (0, .ref aq)]) (pc := 17) X dX1_rise_17 1 rfl (nI_add k 1) (Nat.le_of_ble_eq_true rfl) rfl ?_
    refine V_goto (tgt := 2) (pc := 20) X dX1_rise_20 (by decide) ?_
    refine V_lv [1, 0] rfl ?_
    exact ih2 (k + 1, upd z k 0) ⟨(by
          try dsimp only
          omega), (by
          try dsimp only
          rw [hz]; exact cpF_s aho (fun _ => 0) k)⟩ (by
          try dsimp only
          omega)
set_option maxHeartbeats 4000000 in
set_option maxRecDepth 100000 in
theorem c_X1_ache (l : Launch) (g : XG) (aq : Nat) (akq : Nat) (acq : Nat) (ahq : Nat) (aaq : Nat) (an : Nat) (akd : Nat → Int32) (ace : Nat → Int32) (aho : Nat → Int32) (aac : Nat → Int32) (f : Int64) (hn : an ≤ 6) : Ke l g yX1_ache wsX1_ache ({ frames := 1, cells := 0, slots := 0, locals := 21 } : Room) 0 0 [.ref aq, .long f] [ob aq 1 [.int (nI an), .ref akq, .ref acq, .ref ahq, .ref aaq], ai g akq 6 akd, ai g acq 6 ace, ai g ahq 6 aho, ai g aaq 6 aac] (fun u : Unit => none) (fun u => [ob aq 1 [.int (nI an), .ref akq, .ref acq, .ref ahq, .ref aaq], ai g akq 6 akd, ai g acq 6 ace, ai g ahq 6 aho, ai g aaq 6 (acF f ace aho aac an)]) (fun u => True) := by
  refine Ke.of (cc := cX1_ache) (maxL := 4) (ret := none) (lv := [(0, .ref aq), (1, .long f)]) RX1 rfl (by decide) rfl (Nat.le_of_ble_eq_true rfl) rfl ?_
  intro p e s m below meth c A sz hA9 X hr hin2
  have in1 : ∀ w ∈ u_ws RX1 TX1 5, w ∈ wsX1_ache := by decide +kernel
  refine V_iconst (v := 0) (pc := 0) X dX1_ache_0 (by decide) ?_
  refine V_istore_n (lv' := [(3, .int 0), (0, .ref aq), (1, .long f)]) (pc := 1) X dX1_ache_1 rfl (Nat.le_of_ble_eq_true rfl) rfl ?_
  refine V_loop (pc := 2) (σ := Nat × (Nat → Int32)) (fun v9 => [(0, .ref aq), (1, .long f), (3, .int (nI v9.1))]) (fun v9 => [ob aq 1 [.int (nI an), .ref akq, .ref acq, .ref ahq, .ref aaq], ai g akq 6 akd, ai g acq 6 ace, ai g ahq 6 aho, ai g aaq 6 v9.2]) (fun v9 => (v9.1 ≤ an) ∧ (v9.2 = acF f ace aho aac v9.1)) (fun v9 => an - v9.1) (0, aac) ⟨(by
        try dsimp only
        omega), (by
        try dsimp only
        rfl)⟩ rfl [1, 2, 0] rfl ?_
  rintro ⟨k, z⟩ ⟨hk, hz⟩ ih2
  try dsimp only at hk
  try dsimp only at hz
  refine V_eqw (ws2 := [ob aq 1 [.int (nI an), .ref akq, .ref acq, .ref ahq, .ref aaq], ai g akq 6 akd, ai g acq 6 ace, ai g ahq 6 aho, ai g aaq 6 z]) rfl (V_eql (lv' := [(0, .ref aq), (1, .long f), (3, .int (nI k))]) rfl ?_)
  refine V_iload_n (pc := 2) X dX1_ache_2 rfl 2 rfl ?_
  refine V_aload_n (pc := 3) X dX1_ache_3 rfl 0 rfl ?_
  refine V_get (C := RX1) (T := TX1) (N := 5) (ci := 1) (pc := 4) X dX1_ache_4 in1 0 rfl rfl 0 (by decide) (by decide +kernel) rfl rfl ?_
  refine V_icmp_ge (tgt := 50) (pc := 7) X dX1_ache_7 (by decide) (fun c_1 => ?_) (fun c_1 => ?_)
  · skip
    have n_2 : an ≤ k := nJ_le (a := an) (b := k) (by omega) (by omega) c_1
    exact Ve_vret (pc := 50) X hA9 dX1_ache_50 hr () rfl trivial (by rw [hz, show k = an by omega])
  · skip
    have n_3 : k < an := nJ_nle (a := an) (b := k) (by omega) (by omega) c_1
    refine V_aload_n (pc := 10) X dX1_ache_10 rfl 0 rfl ?_
    refine V_iload_n (pc := 11) X dX1_ache_11 rfl 2 rfl ?_
    refine V_vg (pc := 12) (nA := 1) (As := [.int (nI k)]) (rest := []) X (c_X1_sits l g (aq := aq) (akq := akq) (acq := acq) (ahq := ahq) (aaq := aaq) (an := an) (akd := akd) (ace := ace) (aho := aho) (aac := z) (j := k) (hj := by first | assumption | omega)) gX1_ache_X1_sits dX1_ache_12 rfl (by decide +kernel) rfl (qb := 0) rfl rfl rfl ⟨rfl, rfl⟩ ⟨Nat.le_of_ble_eq_true rfl, Nat.le_of_ble_eq_true rfl⟩ ⟨Nat.le_of_ble_eq_true rfl, Nat.le_of_ble_eq_true rfl⟩ [0, 1, 2, 3, 4] (by decide) rfl rfl (Nat.le_of_ble_eq_true rfl) (st' := [.int (bI (decide (0 < aho k)))]) rfl ?_
    refine V_if_eq (tgt := 44) (pc := 15) X dX1_ache_15 (by decide) (fun c_4 => ?_) (fun c_4 => ?_)
    · skip
      have b_5 : decide (0 < aho k) = false := bI0 c_4
      refine V_iinc (v := nI (k + 1)) (lv' := [(3, .int (nI (k + 1))), (0, .ref aq), (1, .long f)]) (pc := 44) X dX1_ache_44 2 rfl (nI_add k 1) (Nat.le_of_ble_eq_true rfl) rfl ?_
      refine V_goto (tgt := 2) (pc := 47) X dX1_ache_47 (by decide) ?_
      refine V_lv [1, 2, 0] rfl ?_
      exact ih2 (k + 1, z) ⟨(by
            try dsimp only
            omega), (by
            try dsimp only
            first | exact hz.trans (acF_a (by assumption)) | exact hz.trans (acF_b (by assumption)) | (rw [hz]; exact acF_c (by assumption) (by assumption)))⟩ (by
            try dsimp only
            omega)
    · skip
      have b_6 : decide (0 < aho k) = true := bI1 c_4
      refine V_lload_n (pc := 18) X dX1_ache_18 rfl 1 rfl ?_
      refine V_aload_n (pc := 19) X dX1_ache_19 rfl 0 rfl ?_
      refine V_get (C := RX1) (T := TX1) (N := 5) (ci := 1) (pc := 20) X dX1_ache_20 in1 0 rfl rfl 2 (by decide) (by decide +kernel) rfl rfl ?_
      refine V_iload_n (pc := 23) X dX1_ache_23 rfl 2 rfl ?_
      refine V_iald (v := ace k) (pc := 24) X dX1_ache_24 2 rfl (vp_in_nI (by omega) (by omega)) (by rw [nI_clamp (by omega)]) ?_
      refine V_ng (pc := 25) (nA := 1) (As := [.int (ace k)]) (rest := [.long f]) X (c_X9_bit l g (x := ace k) ) gX1_ache_X9_bit_n40 dX1_ache_25 rfl (by decide +kernel) rfl (by decide +kernel) (by decide +kernel) (by decide +kernel) ⟨rfl, rfl⟩ ⟨Nat.le_of_ble_eq_true rfl, Nat.le_of_ble_eq_true rfl⟩ ⟨Nat.le_of_ble_eq_true rfl, Nat.le_of_ble_eq_true rfl⟩ [] (by decide) rfl rfl (Nat.le_of_ble_eq_true rfl) (st' := [.long (bitI (ace k)), .long f]) rfl ?_
      refine V_land (pc := 28) X dX1_ache_28 ?_
      refine V_lconst (v := 0) (pc := 29) X dX1_ache_29 (by decide) ?_
      refine V_lcmp (pc := 30) X dX1_ache_30 ?_
      refine V_if_ne (tgt := 44) (pc := 31) X dX1_ache_31 (by decide) (fun c_7 => ?_) (fun c_7 => ?_)
      · skip
        have q_8 : ¬ (f &&& (bitI (ace k))) = 0 := cmp_ne_t c_7
        refine V_iinc (v := nI (k + 1)) (lv' := [(3, .int (nI (k + 1))), (0, .ref aq), (1, .long f)]) (pc := 44) X dX1_ache_44 2 rfl (nI_add k 1) (Nat.le_of_ble_eq_true rfl) rfl ?_
        refine V_goto (tgt := 2) (pc := 47) X dX1_ache_47 (by decide) ?_
        refine V_lv [1, 2, 0] rfl ?_
        exact ih2 (k + 1, z) ⟨(by
              try dsimp only
              omega), (by
              try dsimp only
              first | exact hz.trans (acF_a (by assumption)) | exact hz.trans (acF_b (by assumption)) | (rw [hz]; exact acF_c (by assumption) (by assumption)))⟩ (by
              try dsimp only
              omega)
      · skip
        have q_9 : (f &&& (bitI (ace k))) = 0 := cmp_ne_f c_7
        refine V_aload_n (pc := 34) X dX1_ache_34 rfl 0 rfl ?_
        refine V_get (C := RX1) (T := TX1) (N := 5) (ci := 1) (pc := 35) X dX1_ache_35 in1 0 rfl rfl 4 (by decide) (by decide +kernel) rfl rfl ?_
        refine V_iload_n (pc := 38) X dX1_ache_38 rfl 2 rfl ?_
        refine V_dup2 (pc := 39) X dX1_ache_39 rfl rfl ?_
        refine V_iald (v := z k) (pc := 40) X dX1_ache_40 4 rfl (vp_in_nI (by omega) (by omega)) (by rw [nI_clamp (by omega)]) ?_
        refine V_iconst (v := 1) (pc := 41) X dX1_ache_41 (by decide) ?_
        refine V_iadd (pc := 42) X dX1_ache_42 ?_
        refine V_iast (f' := upd z k ((z k) + 1)) (ws' := [ob aq 1 [.int (nI an), .ref akq, .ref acq, .ref ahq, .ref aaq], ai g akq 6 akd, ai g acq 6 ace, ai g ahq 6 aho, ai g aaq 6 (upd z k ((z k) + 1))]) (pc := 43) X dX1_ache_43 4 rfl (vp_in_nI (by omega) (by omega)) (by rw [nI_clamp (by omega)]) rfl ?_
        refine V_iinc (v := nI (k + 1)) (lv' := [(3, .int (nI (k + 1))), (0, .ref aq), (1, .long f)]) (pc := 44) X dX1_ache_44 2 rfl (nI_add k 1) (Nat.le_of_ble_eq_true rfl) rfl ?_
        refine V_goto (tgt := 2) (pc := 47) X dX1_ache_47 (by decide) ?_
        refine V_lv [1, 2, 0] rfl ?_
        exact ih2 (k + 1, upd z k ((z k) + 1)) ⟨(by
              try dsimp only
              omega), (by
              try dsimp only
              first | exact hz.trans (acF_a (by assumption)) | exact hz.trans (acF_b (by assumption)) | (rw [hz]; exact acF_c (by assumption) (by assumption)))⟩ (by
              try dsimp only
              omega)
set_option maxHeartbeats 4000000 in
set_option maxRecDepth 100000 in
theorem c_X1_add (l : Launch) (g : XG) (aq : Nat) (akq : Nat) (acq : Nat) (ahq : Nat) (aaq : Nat) (an : Nat) (akd : Nat → Int32) (ace : Nat → Int32) (aho : Nat → Int32) (aac : Nat → Int32) (x : Int32) (hn : an < 6) : Ke l g yX1_add wsX1_add ({ frames := 1, cells := 0, slots := 0, locals := 23 } : Room) 0 0 [.ref aq, .int x] [ob aq 1 [.int (nI an), .ref akq, .ref acq, .ref ahq, .ref aaq], ai g akq 6 akd, ai g acq 6 ace, ai g ahq 6 aho, ai g aaq 6 aac] (fun u : Unit => some (.int (nI an))) (fun u => [ob aq 1 [.int (nI (an + 1)), .ref akq, .ref acq, .ref ahq, .ref aaq], ai g akq 6 (upd akd an x), ai g acq 6 (upd ace an 0), ai g ahq 6 (upd aho an 0), ai g aaq 6 (upd aac an 0)]) (fun u => True) := by
  refine Ke.of (cc := cX1_add) (maxL := 3) (ret := (some .int)) (lv := [(0, .ref aq), (1, .int x)]) RX1 rfl (by decide) rfl (Nat.le_of_ble_eq_true rfl) rfl ?_
  intro p e s m below meth c A sz hA9 X hr hin2
  have in1 : ∀ w ∈ u_ws RX1 TX1 5, w ∈ wsX1_add := by decide +kernel
  refine V_aload_n (pc := 0) X dX1_add_0 rfl 0 rfl ?_
  refine V_get (C := RX1) (T := TX1) (N := 5) (ci := 1) (pc := 1) X dX1_add_1 in1 0 rfl rfl 0 (by decide) (by decide +kernel) rfl rfl ?_
  refine V_istore_n (lv' := [(2, .int (nI an)), (0, .ref aq), (1, .int x)]) (pc := 4) X dX1_add_4 rfl (Nat.le_of_ble_eq_true rfl) rfl ?_
  refine V_aload_n (pc := 5) X dX1_add_5 rfl 1 rfl ?_
  refine V_get (C := RX1) (T := TX1) (N := 5) (ci := 1) (pc := 6) X dX1_add_6 in1 0 rfl rfl 1 (by decide) (by decide +kernel) rfl rfl ?_
  refine V_iload_n (pc := 9) X dX1_add_9 rfl 0 rfl ?_
  refine V_iload_n (pc := 10) X dX1_add_10 rfl 2 rfl ?_
  refine V_iast (f' := upd akd an x) (ws' := [ob aq 1 [.int (nI an), .ref akq, .ref acq, .ref ahq, .ref aaq], ai g akq 6 (upd akd an x), ai g acq 6 ace, ai g ahq 6 aho, ai g aaq 6 aac]) (pc := 11) X dX1_add_11 1 rfl (vp_in_nI (by omega) (by omega)) (by rw [nI_clamp (by omega)]) rfl ?_
  refine V_aload_n (pc := 12) X dX1_add_12 rfl 1 rfl ?_
  refine V_iload_n (pc := 13) X dX1_add_13 rfl 0 rfl ?_
  refine V_iconst (v := 0) (pc := 14) X dX1_add_14 (by decide) ?_
  refine V_iconst (v := 0) (pc := 15) X dX1_add_15 (by decide) ?_
  refine V_ve (pc := 16) (nA := 3) (As := [.int (nI an), .int 0, .int 0]) (rest := []) X (c_X1_seat l g (aq := aq) (akq := akq) (acq := acq) (ahq := ahq) (aaq := aaq) (an := an) (akd := upd akd an x) (ace := ace) (aho := aho) (aac := aac) (j := an) (w := 0) (h := 0) (hj := by first | assumption | omega)) gX1_add_X1_seat dX1_add_16 rfl (by decide +kernel) rfl (qb := 0) rfl rfl rfl ⟨rfl, rfl⟩ ⟨Nat.le_of_ble_eq_true rfl, Nat.le_of_ble_eq_true rfl⟩ ⟨Nat.le_of_ble_eq_true rfl, Nat.le_of_ble_eq_true rfl⟩ [0, 1, 2, 3, 4] (by decide) rfl [] (by decide) (by decide) [] rfl [0, 1, 2, 3, 4] (by decide) (fun u => [ob aq 1 [.int (nI an), .ref akq, .ref acq, .ref ahq, .ref aaq], ai g akq 6 (upd akd an x), ai g acq 6 (upd ace an 0), ai g ahq 6 (upd aho an 0), ai g aaq 6 aac]) (fun _ => rfl) rfl (Nat.le_of_ble_eq_true rfl) (fun u => []) (fun _ => rfl) (fun u hu_1 => ?_)
  refine V_eqw (ws2 := [ob aq 1 [.int (nI an), .ref akq, .ref acq, .ref ahq, .ref aaq], ai g akq 6 (upd akd an x), ai g acq 6 (upd ace an 0), ai g ahq 6 (upd aho an 0), ai g aaq 6 aac]) rfl (V_eqs (st2 := []) rfl ?_)
  refine V_aload_n (pc := 19) X dX1_add_19 rfl 1 rfl ?_
  refine V_get (C := RX1) (T := TX1) (N := 5) (ci := 1) (pc := 20) X dX1_add_20 in1 0 rfl rfl 4 (by decide) (by decide +kernel) rfl rfl ?_
  refine V_iload_n (pc := 23) X dX1_add_23 rfl 0 rfl ?_
  refine V_iconst (v := 0) (pc := 24) X dX1_add_24 (by decide) ?_
  refine V_iast (f' := upd aac an 0) (ws' := [ob aq 1 [.int (nI an), .ref akq, .ref acq, .ref ahq, .ref aaq], ai g akq 6 (upd akd an x), ai g acq 6 (upd ace an 0), ai g ahq 6 (upd aho an 0), ai g aaq 6 (upd aac an 0)]) (pc := 25) X dX1_add_25 4 rfl (vp_in_nI (by omega) (by omega)) (by rw [nI_clamp (by omega)]) rfl ?_
  refine V_aload_n (pc := 26) X dX1_add_26 rfl 1 rfl ?_
  refine V_dup (pc := 27) X dX1_add_27 rfl ?_
  refine V_get (C := RX1) (T := TX1) (N := 5) (ci := 1) (pc := 28) X dX1_add_28 in1 0 rfl rfl 0 (by decide) (by decide +kernel) rfl rfl ?_
  refine V_iconst (v := 1) (pc := 31) X dX1_add_31 (by decide) ?_
  refine V_iadd (pc := 32) X dX1_add_32 ?_
  refine V_seti (y := nI (an + 1)) (nI_add an 1) ?_
  refine V_put (C := RX1) (T := TX1) (N := 5) (ci := 1) (ws' := [ob aq 1 [.int (nI (an + 1)), .ref akq, .ref acq, .ref ahq, .ref aaq], ai g akq 6 (upd akd an x), ai g acq 6 (upd ace an 0), ai g ahq 6 (upd aho an 0), ai g aaq 6 (upd aac an 0)]) (pc := 33) X dX1_add_33 in1 tyX1 tyX1_ok nmX1 0 rfl rfl 0 (by decide) (by decide +kernel) rfl rfl rfl rfl rfl (Nat.le_of_ble_eq_true rfl) rfl ?_
  refine V_iload_n (pc := 36) X dX1_add_36 rfl 0 rfl ?_
  exact Ve_iret (pc := 37) X hA9 dX1_add_37 hr () (by first | rfl | (simp []; done)) trivial (by rfl)
set_option maxHeartbeats 4000000 in
set_option maxRecDepth 100000 in
theorem c_X1_become (l : Launch) (g : XG) (aq : Nat) (akq : Nat) (acq : Nat) (ahq : Nat) (aaq : Nat) (an : Nat) (akd : Nat → Int32) (ace : Nat → Int32) (aho : Nat → Int32) (aac : Nat → Int32) (dq : Nat) (dkq : Nat) (dcq : Nat) (dhq : Nat) (daq : Nat) (dn : Nat) (dkd : Nat → Int32) (dce : Nat → Int32) (dho : Nat → Int32) (dac : Nat → Int32) (hn : dn ≤ 6) : Ke l g yX1_become wsX1_become ({ frames := 0, cells := 0, slots := 0, locals := 0 } : Room) 0 0 [.ref aq, .ref dq] [ob aq 1 [.int (nI an), .ref akq, .ref acq, .ref ahq, .ref aaq], ai g akq 6 akd, ai g acq 6 ace, ai g ahq 6 aho, ai g aaq 6 aac, ob dq 1 [.int (nI dn), .ref dkq, .ref dcq, .ref dhq, .ref daq], ai g dkq 6 dkd, ai g dcq 6 dce, ai g dhq 6 dho, ai g daq 6 dac] (fun u : Unit => none) (fun u => [ob aq 1 [.int (nI dn), .ref akq, .ref acq, .ref ahq, .ref aaq], ai g akq 6 (cpF akd dkd dn), ai g acq 6 (cpF ace dce dn), ai g ahq 6 (cpF aho dho dn), ai g aaq 6 (cpF aac dac dn), ob dq 1 [.int (nI dn), .ref dkq, .ref dcq, .ref dhq, .ref daq], ai g dkq 6 dkd, ai g dcq 6 dce, ai g dhq 6 dho, ai g daq 6 dac]) (fun u => True) := by
  refine Ke.of (cc := cX1_become) (maxL := 3) (ret := none) (lv := [(0, .ref aq), (1, .ref dq)]) RX1 rfl (by decide) rfl (Nat.le_of_ble_eq_true rfl) rfl ?_
  intro p e s m below meth c A sz hA9 X hr hin2
  have in1 : ∀ w ∈ u_ws RX1 TX1 5, w ∈ wsX1_become := by decide +kernel
  refine V_aload_n (pc := 0) X dX1_become_0 rfl 0 rfl ?_
  refine V_aload_n (pc := 1) X dX1_become_1 rfl 1 rfl ?_
  refine V_get (C := RX1) (T := TX1) (N := 5) (ci := 1) (pc := 2) X dX1_become_2 in1 5 rfl rfl 0 (by decide) (by decide +kernel) rfl rfl ?_
  refine V_put (C := RX1) (T := TX1) (N := 5) (ci := 1) (ws' := [ob aq 1 [.int (nI dn), .ref akq, .ref acq, .ref ahq, .ref aaq], ai g akq 6 akd, ai g acq 6 ace, ai g ahq 6 aho, ai g aaq 6 aac, ob dq 1 [.int (nI dn), .ref dkq, .ref dcq, .ref dhq, .ref daq], ai g dkq 6 dkd, ai g dcq 6 dce, ai g dhq 6 dho, ai g daq 6 dac]) (pc := 5) X dX1_become_5 in1 tyX1 tyX1_ok nmX1 0 rfl rfl 0 (by decide) (by decide +kernel) rfl rfl rfl rfl rfl (Nat.le_of_ble_eq_true rfl) rfl ?_
  refine V_iconst (v := 0) (pc := 8) X dX1_become_8 (by decide) ?_
  refine V_istore_n (lv' := [(2, .int 0), (0, .ref aq), (1, .ref dq)]) (pc := 9) X dX1_become_9 rfl (Nat.le_of_ble_eq_true rfl) rfl ?_
  refine V_loop (pc := 10) (σ := Nat × (Nat → Int32) × (Nat → Int32) × (Nat → Int32) × (Nat → Int32)) (fun v9 => [(0, .ref aq), (1, .ref dq), (2, .int (nI v9.1))]) (fun v9 => [ob aq 1 [.int (nI dn), .ref akq, .ref acq, .ref ahq, .ref aaq], ai g akq 6 v9.2.1, ai g acq 6 v9.2.2.1, ai g ahq 6 v9.2.2.2.1, ai g aaq 6 v9.2.2.2.2, ob dq 1 [.int (nI dn), .ref dkq, .ref dcq, .ref dhq, .ref daq], ai g dkq 6 dkd, ai g dcq 6 dce, ai g dhq 6 dho, ai g daq 6 dac]) (fun v9 => (v9.1 ≤ dn) ∧ (v9.2.1 = cpF akd dkd v9.1) ∧ (v9.2.2.1 = cpF ace dce v9.1) ∧ (v9.2.2.2.1 = cpF aho dho v9.1) ∧ (v9.2.2.2.2 = cpF aac dac v9.1)) (fun v9 => dn - v9.1) (0, akd, ace, aho, aac) ⟨(by
        try dsimp only
        omega), (by
        try dsimp only
        exact cpF_0 _ _), (by
        try dsimp only
        exact cpF_0 _ _), (by
        try dsimp only
        exact cpF_0 _ _), (by
        try dsimp only
        exact cpF_0 _ _)⟩ rfl [1, 2, 0] rfl ?_
  rintro ⟨k, zk, zc, zh, za⟩ ⟨hk, hzk, hzc, hzh, hza⟩ ih10
  try dsimp only at hk
  try dsimp only at hzk
  try dsimp only at hzc
  try dsimp only at hzh
  try dsimp only at hza
  refine V_eqw (ws2 := [ob aq 1 [.int (nI dn), .ref akq, .ref acq, .ref ahq, .ref aaq], ai g akq 6 zk, ai g acq 6 zc, ai g ahq 6 zh, ai g aaq 6 za, ob dq 1 [.int (nI dn), .ref dkq, .ref dcq, .ref dhq, .ref daq], ai g dkq 6 dkd, ai g dcq 6 dce, ai g dhq 6 dho, ai g daq 6 dac]) rfl (V_eql (lv' := [(0, .ref aq), (1, .ref dq), (2, .int (nI k))]) rfl ?_)
  refine V_iload_n (pc := 10) X dX1_become_10 rfl 2 rfl ?_
  refine V_aload_n (pc := 11) X dX1_become_11 rfl 0 rfl ?_
  refine V_get (C := RX1) (T := TX1) (N := 5) (ci := 1) (pc := 12) X dX1_become_12 in1 0 rfl rfl 0 (by decide) (by decide +kernel) rfl rfl ?_
  refine V_icmp_ge (tgt := 72) (pc := 15) X dX1_become_15 (by decide) (fun c_1 => ?_) (fun c_1 => ?_)
  · skip
    have n_2 : dn ≤ k := nJ_le (a := dn) (b := k) (by omega) (by omega) c_1
    exact Ve_vret (pc := 72) X hA9 dX1_become_72 hr () rfl trivial (by rw [hzk, hzc, hzh, hza, show k = dn by omega])
  · skip
    have n_3 : k < dn := nJ_nle (a := dn) (b := k) (by omega) (by omega) c_1
    refine V_aload_n (pc := 18) X dX1_become_18 rfl 0 rfl ?_
    refine V_get (C := RX1) (T := TX1) (N := 5) (ci := 1) (pc := 19) X dX1_become_19 in1 0 rfl rfl 1 (by decide) (by decide +kernel) rfl rfl ?_
    refine V_iload_n (pc := 22) X dX1_become_22 rfl 2 rfl ?_
    refine V_aload_n (pc := 23) X dX1_become_23 rfl 1 rfl ?_
    refine V_get (C := RX1) (T := TX1) (N := 5) (ci := 1) (pc := 24) X dX1_become_24 in1 5 rfl rfl 1 (by decide) (by decide +kernel) rfl rfl ?_
    refine V_iload_n (pc := 27) X dX1_become_27 rfl 2 rfl ?_
    refine V_iald (v := dkd k) (pc := 28) X dX1_become_28 6 rfl (vp_in_nI (by omega) (by omega)) (by rw [nI_clamp (by omega)]) ?_
    refine V_iast (f' := upd zk k (dkd k)) (ws' := [ob aq 1 [.int (nI dn), .ref akq, .ref acq, .ref ahq, .ref aaq], ai g akq 6 (upd zk k (dkd k)), ai g acq 6 zc, ai g ahq 6 zh, ai g aaq 6 za, ob dq 1 [.int (nI dn), .ref dkq, .ref dcq, .ref dhq, .ref daq], ai g dkq 6 dkd, ai g dcq 6 dce, ai g dhq 6 dho, ai g daq 6 dac]) (pc := 29) X dX1_become_29 1 rfl (vp_in_nI (by omega) (by omega)) (by rw [nI_clamp (by omega)]) rfl ?_
    refine V_aload_n (pc := 30) X dX1_become_30 rfl 0 rfl ?_
    refine V_get (C := RX1) (T := TX1) (N := 5) (ci := 1) (pc := 31) X dX1_become_31 in1 0 rfl rfl 2 (by decide) (by decide +kernel) rfl rfl ?_
    refine V_iload_n (pc := 34) X dX1_become_34 rfl 2 rfl ?_
    refine V_aload_n (pc := 35) X dX1_become_35 rfl 1 rfl ?_
    refine V_get (C := RX1) (T := TX1) (N := 5) (ci := 1) (pc := 36) X dX1_become_36 in1 5 rfl rfl 2 (by decide) (by decide +kernel) rfl rfl ?_
    refine V_iload_n (pc := 39) X dX1_become_39 rfl 2 rfl ?_
    refine V_iald (v := dce k) (pc := 40) X dX1_become_40 7 rfl (vp_in_nI (by omega) (by omega)) (by rw [nI_clamp (by omega)]) ?_
    refine V_iast (f' := upd zc k (dce k)) (ws' := [ob aq 1 [.int (nI dn), .ref akq, .ref acq, .ref ahq, .ref aaq], ai g akq 6 (upd zk k (dkd k)), ai g acq 6 (upd zc k (dce k)), ai g ahq 6 zh, ai g aaq 6 za, ob dq 1 [.int (nI dn), .ref dkq, .ref dcq, .ref dhq, .ref daq], ai g dkq 6 dkd, ai g dcq 6 dce, ai g dhq 6 dho, ai g daq 6 dac]) (pc := 41) X dX1_become_41 2 rfl (vp_in_nI (by omega) (by omega)) (by rw [nI_clamp (by omega)]) rfl ?_
    refine V_aload_n (pc := 42) X dX1_become_42 rfl 0 rfl ?_
    refine V_get (C := RX1) (T := TX1) (N := 5) (ci := 1) (pc := 43) X dX1_become_43 in1 0 rfl rfl 3 (by decide) (by decide +kernel) rfl rfl ?_
    refine V_iload_n (pc := 46) X dX1_become_46 rfl 2 rfl ?_
    refine V_aload_n (pc := 47) X dX1_become_47 rfl 1 rfl ?_
    refine V_get (C := RX1) (T := TX1) (N := 5) (ci := 1) (pc := 48) X dX1_become_48 in1 5 rfl rfl 3 (by decide) (by decide +kernel) rfl rfl ?_
    refine V_iload_n (pc := 51) X dX1_become_51 rfl 2 rfl ?_
    refine V_iald (v := dho k) (pc := 52) X dX1_become_52 8 rfl (vp_in_nI (by omega) (by omega)) (by rw [nI_clamp (by omega)]) ?_
    refine V_iast (f' := upd zh k (dho k)) (ws' := [ob aq 1 [.int (nI dn), .ref akq, .ref acq, .ref ahq, .ref aaq], ai g akq 6 (upd zk k (dkd k)), ai g acq 6 (upd zc k (dce k)), ai g ahq 6 (upd zh k (dho k)), ai g aaq 6 za, ob dq 1 [.int (nI dn), .ref dkq, .ref dcq, .ref dhq, .ref daq], ai g dkq 6 dkd, ai g dcq 6 dce, ai g dhq 6 dho, ai g daq 6 dac]) (pc := 53) X dX1_become_53 3 rfl (vp_in_nI (by omega) (by omega)) (by rw [nI_clamp (by omega)]) rfl ?_
    refine V_aload_n (pc := 54) X dX1_become_54 rfl 0 rfl ?_
    refine V_get (C := RX1) (T := TX1) (N := 5) (ci := 1) (pc := 55) X dX1_become_55 in1 0 rfl rfl 4 (by decide) (by decide +kernel) rfl rfl ?_
    refine V_iload_n (pc := 58) X dX1_become_58 rfl 2 rfl ?_
    refine V_aload_n (pc := 59) X dX1_become_59 rfl 1 rfl ?_
    refine V_get (C := RX1) (T := TX1) (N := 5) (ci := 1) (pc := 60) X dX1_become_60 in1 5 rfl rfl 4 (by decide) (by decide +kernel) rfl rfl ?_
    refine V_iload_n (pc := 63) X dX1_become_63 rfl 2 rfl ?_
    refine V_iald (v := dac k) (pc := 64) X dX1_become_64 9 rfl (vp_in_nI (by omega) (by omega)) (by rw [nI_clamp (by omega)]) ?_
    refine V_iast (f' := upd za k (dac k)) (ws' := [ob aq 1 [.int (nI dn), .ref akq, .ref acq, .ref ahq, .ref aaq], ai g akq 6 (upd zk k (dkd k)), ai g acq 6 (upd zc k (dce k)), ai g ahq 6 (upd zh k (dho k)), ai g aaq 6 (upd za k (dac k)), ob dq 1 [.int (nI dn), .ref dkq, .ref dcq, .ref dhq, .ref daq], ai g dkq 6 dkd, ai g dcq 6 dce, ai g dhq 6 dho, ai g daq 6 dac]) (pc := 65) X dX1_become_65 4 rfl (vp_in_nI (by omega) (by omega)) (by rw [nI_clamp (by omega)]) rfl ?_
    refine V_iinc (v := nI (k + 1)) (lv' := [(2, .int (nI (k + 1))), (0, .ref aq), (1, .ref dq)]) (pc := 66) X dX1_become_66 2 rfl (nI_add k 1) (Nat.le_of_ble_eq_true rfl) rfl ?_
    refine V_goto (tgt := 10) (pc := 69) X dX1_become_69 (by decide) ?_
    refine V_lv [1, 2, 0] rfl ?_
    exact ih10 (k + 1, upd zk k (dkd k), upd zc k (dce k), upd zh k (dho k), upd za k (dac k)) ⟨(by
          try dsimp only
          omega), (by
          try dsimp only
          rw [hzk]; exact cpF_s akd dkd k), (by
          try dsimp only
          rw [hzc]; exact cpF_s ace dce k), (by
          try dsimp only
          rw [hzh]; exact cpF_s aho dho k), (by
          try dsimp only
          rw [hza]; exact cpF_s aac dac k)⟩ (by
          try dsimp only
          omega)
