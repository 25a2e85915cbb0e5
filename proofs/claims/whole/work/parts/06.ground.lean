set_option maxHeartbeats 4000000 in
set_option maxRecDepth 100000 in
theorem c_X4_lay (l : Launch) (g : XG) (bq : Nat) (bmq : Nat) (bf : Int64) (bt : Nat) (bz : Int32) (bm : Nat → Int32) (f : Int64) (tq : Nat) (tm : Nat → Int32) (h : Nat) (hh : h ≤ 6) : Ke l g yX4_lay wsX4_lay ({ frames := 0, cells := 0, slots := 0, locals := 0 } : Room) 0 0 [.ref bq, .long f, .ref tq, .int (nI h)] [ob bq 4 [.long bf, .int (nI bt), .int bz, .ref bmq], ai g bmq 6 bm, ai g tq 6 tm] (fun u : Unit => none) (fun u => [ob bq 4 [.long f, .int (nI h), .int bz, .ref bmq], ai g bmq 6 (cpF bm tm h), ai g tq 6 tm]) (fun u => True) := by
  refine Ke.of (cc := cX4_lay) (maxL := 6) (ret := none) (lv := [(0, .ref bq), (1, .long f), (3, .ref tq), (4, .int (nI h))]) RX4 rfl (by decide) rfl (Nat.le_of_ble_eq_true rfl) rfl ?_
  intro p e s m below meth c A sz hA9 X hr hin2
  have in4 : ∀ w ∈ u_ws RX4 TX4 4, w ∈ wsX4_lay := by decide +kernel
  refine V_aload_n (pc := 0) X dX4_lay_0 rfl 0 rfl ?_
  refine V_lload_n (pc := 1) X dX4_lay_1 rfl 1 rfl ?_
  refine V_put (C := RX4) (T := TX4) (N := 4) (ci := 4) (ws' := [ob bq 4 [.long f, .int (nI bt), .int bz, .ref bmq], ai g bmq 6 bm, ai g tq 6 tm]) (pc := 2) X dX4_lay_2 in4 tyX4 tyX4_ok nmX4 0 rfl rfl 0 (by decide) (by decide +kernel) rfl rfl rfl rfl rfl (Nat.le_of_ble_eq_true rfl) rfl ?_
  refine V_aload_n (pc := 5) X dX4_lay_5 rfl 0 rfl ?_
  refine V_iload (pc := 6) X dX4_lay_6 3 rfl ?_
  refine V_put (C := RX4) (T := TX4) (N := 4) (ci := 4) (ws' := [ob bq 4 [.long f, .int (nI h), .int bz, .ref bmq], ai g bmq 6 bm, ai g tq 6 tm]) (pc := 8) X dX4_lay_8 in4 tyX4 tyX4_ok nmX4 0 rfl rfl 1 (by decide) (by decide +kernel) rfl rfl rfl rfl rfl (Nat.le_of_ble_eq_true rfl) rfl ?_
  refine V_iconst (v := 0) (pc := 11) X dX4_lay_11 (by decide) ?_
  refine V_istore (lv' := [(5, .int 0), (0, .ref bq), (1, .long f), (3, .ref tq), (4, .int (nI h))]) (pc := 12) X dX4_lay_12 (Nat.le_of_ble_eq_true rfl) rfl ?_
  refine V_loop (pc := 14) (σ := Nat × (Nat → Int32)) (fun v9 => [(0, .ref bq), (3, .ref tq), (4, .int (nI h)), (5, .int (nI v9.1))]) (fun v9 => [ob bq 4 [.long f, .int (nI h), .int bz, .ref bmq], ai g bmq 6 v9.2, ai g tq 6 tm]) (fun v9 => (v9.1 ≤ h) ∧ (v9.2 = cpF bm tm v9.1)) (fun v9 => h - v9.1) (0, bm) ⟨(by
        try dsimp only
        omega), (by
        try dsimp only
        exact cpF_0 _ _)⟩ rfl [1, 3, 4, 0] rfl ?_
  rintro ⟨k, z⟩ ⟨hk, hz⟩ ih14
  try dsimp only at hk
  try dsimp only at hz
  refine V_eqw (ws2 := [ob bq 4 [.long f, .int (nI h), .int bz, .ref bmq], ai g bmq 6 z, ai g tq 6 tm]) rfl (V_eql (lv' := [(0, .ref bq), (3, .ref tq), (4, .int (nI h)), (5, .int (nI k))]) rfl ?_)
  refine V_iload (pc := 14) X dX4_lay_14 3 rfl ?_
  refine V_iload (pc := 16) X dX4_lay_16 2 rfl ?_
  refine V_icmp_ge (tgt := 38) (pc := 18) X dX4_lay_18 (by decide) (fun c_1 => ?_) (fun c_1 => ?_)
  · skip
    have n_2 : h ≤ k := nJ_le (a := h) (b := k) (by omega) (by omega) c_1
    exact Ve_vret (pc := 38) X hA9 dX4_lay_38 hr () rfl trivial (by rw [hz, show k = h by omega])
  · skip
    have n_3 : k < h := nJ_nle (a := h) (b := k) (by omega) (by omega) c_1
    refine V_aload_n (pc := 21) X dX4_lay_21 rfl 0 rfl ?_
    refine V_get (C := RX4) (T := TX4) (N := 4) (ci := 4) (pc := 22) X dX4_lay_22 in4 0 rfl rfl 3 (by decide) (by decide +kernel) rfl rfl ?_
    refine V_iload (pc := 25) X dX4_lay_25 3 rfl ?_
    refine V_aload_n (pc := 27) X dX4_lay_27 rfl 1 rfl ?_
    refine V_iload (pc := 28) X dX4_lay_28 3 rfl ?_
    refine V_iald (v := tm k) (pc := 30) X dX4_lay_30 2 rfl (vp_in_nI (by omega) (by omega)) (by rw [nI_clamp (by omega)]) ?_
    refine V_iast (f' := upd z k (tm k)) (ws' := [ob bq 4 [.long f, .int (nI h), .int bz, .ref bmq], ai g bmq 6 (upd z k (tm k)), ai g tq 6 tm]) (pc := 31) X dX4_lay_31 1 rfl (vp_in_nI (by omega) (by omega)) (by rw [nI_clamp (by omega)]) rfl ?_
    refine V_iinc (v := nI (k + 1)) (lv' := [(5, .int (nI (k + 1))), (0, .ref bq), (3, .ref tq), (4, .int (nI h))]) (pc := 32) X dX4_lay_32 3 rfl (nI_add k 1) (Nat.le_of_ble_eq_true rfl) rfl ?_
    refine V_goto (tgt := 14) (pc := 35) X dX4_lay_35 (by decide) ?_
    refine V_lv [1, 2, 3, 0] rfl ?_
    exact ih14 (k + 1, upd z k (tm k)) ⟨(by
          try dsimp only
          omega), (by
          try dsimp only
          rw [hz]; exact cpF_s bm tm k)⟩ (by
          try dsimp only
          omega)
set_option maxHeartbeats 4000000 in
set_option maxRecDepth 100000 in
theorem c_X4_become (l : Launch) (g : XG) (bq : Nat) (bmq : Nat) (bf : Int64) (bt : Nat) (bz : Int32) (bm : Nat → Int32) (dq : Nat) (dmq : Nat) (df : Int64) (dt : Nat) (dz : Int32) (dm : Nat → Int32) (hh : dt ≤ 6) : Ke l g yX4_become wsX4_become ({ frames := 1, cells := 0, slots := 0, locals := 25 } : Room) 0 0 [.ref bq, .ref dq] [ob bq 4 [.long bf, .int (nI bt), .int bz, .ref bmq], ai g bmq 6 bm, ob dq 4 [.long df, .int (nI dt), .int dz, .ref dmq], ai g dmq 6 dm] (fun u : Unit => none) (fun u => [ob bq 4 [.long df, .int (nI dt), .int dz, .ref bmq], ai g bmq 6 (cpF bm dm dt), ob dq 4 [.long df, .int (nI dt), .int dz, .ref dmq], ai g dmq 6 dm]) (fun u => True) := by
  refine Ke.of (cc := cX4_become) (maxL := 2) (ret := none) (lv := [(0, .ref bq), (1, .ref dq)]) RX4 rfl (by decide) rfl (Nat.le_of_ble_eq_true rfl) rfl ?_
  intro p e s m below meth c A sz hA9 X hr hin2
  have in4 : ∀ w ∈ u_ws RX4 TX4 4, w ∈ wsX4_become := by decide +kernel
  refine V_aload_n (pc := 0) X dX4_become_0 rfl 0 rfl ?_
  refine V_aload_n (pc := 1) X dX4_become_1 rfl 1 rfl ?_
  refine V_get (C := RX4) (T := TX4) (N := 4) (ci := 4) (pc := 2) X dX4_become_2 in4 2 rfl rfl 0 (by decide) (by decide +kernel) rfl rfl ?_
  refine V_aload_n (pc := 5) X dX4_become_5 rfl 1 rfl ?_
  refine V_get (C := RX4) (T := TX4) (N := 4) (ci := 4) (pc := 6) X dX4_become_6 in4 2 rfl rfl 3 (by decide) (by decide +kernel) rfl rfl ?_
  refine V_aload_n (pc := 9) X dX4_become_9 rfl 1 rfl ?_
  refine V_get (C := RX4) (T := TX4) (N := 4) (ci := 4) (pc := 10) X dX4_become_10 in4 2 rfl rfl 1 (by decide) (by decide +kernel) rfl rfl ?_
  refine V_ve (pc := 13) (nA := 3) (As := [.long df, .ref dmq, .int (nI dt)]) (rest := []) X (c_X4_lay l g (bq := bq) (bmq := bmq) (bf := bf) (bt := bt) (bz := bz) (bm := bm) (f := df) (tq := dmq) (tm := dm) (h := dt) (hh := by first | assumption | omega)) gX4_become_X4_lay dX4_become_13 rfl (by decide +kernel) rfl (qb := 0) rfl rfl rfl ⟨rfl, rfl⟩ ⟨Nat.le_of_ble_eq_true rfl, Nat.le_of_ble_eq_true rfl⟩ ⟨Nat.le_of_ble_eq_true rfl, Nat.le_of_ble_eq_true rfl⟩ [0, 1, 3] (by decide) rfl [2] (by decide) (by decide) [ob dq 4 [.long df, .int (nI dt), .int dz, .ref dmq]] rfl [1, 2, 0, 3] (by decide) (fun u => [ob bq 4 [.long df, .int (nI dt), .int bz, .ref bmq], ai g bmq 6 (cpF bm dm dt), ob dq 4 [.long df, .int (nI dt), .int dz, .ref dmq], ai g dmq 6 dm]) (fun _ => rfl) rfl (Nat.le_of_ble_eq_true rfl) (fun u => []) (fun _ => rfl) (fun u hu_1 => ?_)
  refine V_eqw (ws2 := [ob bq 4 [.long df, .int (nI dt), .int bz, .ref bmq], ai g bmq 6 (cpF bm dm dt), ob dq 4 [.long df, .int (nI dt), .int dz, .ref dmq], ai g dmq 6 dm]) rfl (V_eqs (st2 := []) rfl ?_)
  refine V_aload_n (pc := 16) X dX4_become_16 rfl 0 rfl ?_
  refine V_aload_n (pc := 17) X dX4_become_17 rfl 1 rfl ?_
  refine V_get (C := RX4) (T := TX4) (N := 4) (ci := 4) (pc := 18) X dX4_become_18 in4 2 rfl rfl 2 (by decide) (by decide +kernel) rfl rfl ?_
  refine V_put (C := RX4) (T := TX4) (N := 4) (ci := 4) (ws' := [ob bq 4 [.long df, .int (nI dt), .int dz, .ref bmq], ai g bmq 6 (cpF bm dm dt), ob dq 4 [.long df, .int (nI dt), .int dz, .ref dmq], ai g dmq 6 dm]) (pc := 21) X dX4_become_21 in4 tyX4 tyX4_ok nmX4 0 rfl rfl 2 (by decide) (by decide +kernel) rfl rfl rfl rfl rfl (Nat.le_of_ble_eq_true rfl) rfl ?_
  exact Ve_vret (pc := 24) X hA9 dX4_become_24 hr () rfl trivial (by rfl)
set_option maxHeartbeats 4000000 in
set_option maxRecDepth 100000 in
theorem c_X4_isFirm (l : Launch) (g : XG) (bq : Nat) (bmq : Nat) (bf : Int64) (bt : Nat) (bz : Int32) (bm : Nat → Int32) (x : Int32)  : Kg l g yX4_isFirm wsX4_isFirm ({ frames := 1, cells := 0, slots := 0, locals := 20 } : Room) [.ref bq, .int x] [ob bq 4 [.long bf, .int (nI bt), .int bz, .ref bmq], ai g bmq 6 bm] (some (.int (bI (firmB bf x)))) := by
  refine Kg.of (cc := cX4_isFirm) (maxL := 2) (ret := (some .boolean)) (lv := [(0, .ref bq), (1, .int x)]) RX4 rfl (by decide) rfl (Nat.le_of_ble_eq_true rfl) rfl ?_
  intro p e s m below meth c A X hr
  have in4 : ∀ w ∈ u_ws RX4 TX4 4, w ∈ wsX4_isFirm := by decide +kernel
  refine V_aload_n (pc := 0) X dX4_isFirm_0 rfl 0 rfl ?_
  refine V_get (C := RX4) (T := TX4) (N := 4) (ci := 4) (pc := 1) X dX4_isFirm_1 in4 0 rfl rfl 0 (by decide) (by decide +kernel) rfl rfl ?_
  refine V_iload_n (pc := 4) X dX4_isFirm_4 rfl 1 rfl ?_
  refine V_ng (pc := 5) (nA := 1) (As := [.int x]) (rest := [.long bf]) X (c_X9_bit l g (x := x) ) gX4_isFirm_X9_bit_n30 dX4_isFirm_5 rfl (by decide +kernel) rfl (by decide +kernel) (by decide +kernel) (by decide +kernel) ⟨rfl, rfl⟩ ⟨Nat.le_of_ble_eq_true rfl, Nat.le_of_ble_eq_true rfl⟩ ⟨Nat.le_of_ble_eq_true rfl, Nat.le_of_ble_eq_true rfl⟩ [] (by decide) rfl rfl (Nat.le_of_ble_eq_true rfl) (st' := [.long (bitI x), .long bf]) rfl ?_
  refine V_land (pc := 8) X dX4_isFirm_8 ?_
  refine V_lconst (v := 0) (pc := 9) X dX4_isFirm_9 (by decide) ?_
  refine V_lcmp (pc := 10) X dX4_isFirm_10 ?_
  refine V_if_eq (tgt := 18) (pc := 11) X dX4_isFirm_11 (by decide) (fun c_1 => ?_) (fun c_1 => ?_)
  · skip
    have q_2 : (bf &&& (bitI x)) = 0 := cmp_eq_t c_1
    refine V_iconst (v := 0) (pc := 18) X dX4_isFirm_18 (by decide) ?_
    exact Vg_zret (pc := 19) X dX4_isFirm_19 hr (by first | rfl | (simp [bI, firmB, q_2]; done) | (simp_all [bI, Int32.not_le, Int32.not_lt]; done)) rfl
  · skip
    have q_3 : ¬ (bf &&& (bitI x)) = 0 := cmp_eq_f c_1
    refine V_iconst (v := 1) (pc := 14) X dX4_isFirm_14 (by decide) ?_
    refine V_goto (tgt := 19) (pc := 15) X dX4_isFirm_15 (by decide) ?_
    exact Vg_zret (pc := 19) X dX4_isFirm_19 hr (by first | rfl | (simp [bI, firmB, q_3]; done) | (simp_all [bI, Int32.not_le, Int32.not_lt]; done)) rfl
set_option maxHeartbeats 4000000 in
set_option maxRecDepth 100000 in
theorem c_X4_tuftsIn (l : Launch) (g : XG) (bq : Nat) (bmq : Nat) (bf : Int64) (bt : Nat) (bz : Int32) (bm : Nat → Int32) (x : Int32) (ht : bt ≤ 6) : Kg l g yX4_tuftsIn wsX4_tuftsIn ({ frames := 0, cells := 0, slots := 0, locals := 0 } : Room) [.ref bq, .int x] [ob bq 4 [.long bf, .int (nI bt), .int bz, .ref bmq], ai g bmq 6 bm] (some (.int (nI (tiF bm x bt)))) := by
  refine Kg.of (cc := cX4_tuftsIn) (maxL := 4) (ret := (some .int)) (lv := [(0, .ref bq), (1, .int x)]) RX4 rfl (by decide) rfl (Nat.le_of_ble_eq_true rfl) rfl ?_
  intro p e s m below meth c A X hr
  have in4 : ∀ w ∈ u_ws RX4 TX4 4, w ∈ wsX4_tuftsIn := by decide +kernel
  refine V_iconst (v := 0) (pc := 0) X dX4_tuftsIn_0 (by decide) ?_
  refine V_istore_n (lv' := [(2, .int 0), (0, .ref bq), (1, .int x)]) (pc := 1) X dX4_tuftsIn_1 rfl (Nat.le_of_ble_eq_true rfl) rfl ?_
  refine V_iconst (v := 0) (pc := 2) X dX4_tuftsIn_2 (by decide) ?_
  refine V_istore_n (lv' := [(3, .int 0), (2, .int 0), (0, .ref bq), (1, .int x)]) (pc := 3) X dX4_tuftsIn_3 rfl (Nat.le_of_ble_eq_true rfl) rfl ?_
  refine V_loop (pc := 4) (σ := Nat × Nat) (fun v9 => [(0, .ref bq), (1, .int x), (2, .int (nI v9.2)), (3, .int (nI v9.1))]) (fun v9 => [ob bq 4 [.long bf, .int (nI bt), .int bz, .ref bmq], ai g bmq 6 bm]) (fun v9 => (v9.1 ≤ bt) ∧ (v9.2 = tiF bm x v9.1)) (fun v9 => bt - v9.1) (0, 0) ⟨(by
        try dsimp only
        omega), (by
        try dsimp only
        rfl)⟩ rfl [2, 3, 1, 0] rfl ?_
  rintro ⟨k, z⟩ ⟨hk, hz⟩ ih4
  try dsimp only at hk
  try dsimp only at hz
  refine V_eqw (ws2 := [ob bq 4 [.long bf, .int (nI bt), .int bz, .ref bmq], ai g bmq 6 bm]) rfl (V_eql (lv' := [(0, .ref bq), (1, .int x), (2, .int (nI z)), (3, .int (nI k))]) rfl ?_)
  refine V_iload_n (pc := 4) X dX4_tuftsIn_4 rfl 3 rfl ?_
  refine V_aload_n (pc := 5) X dX4_tuftsIn_5 rfl 0 rfl ?_
  refine V_get (C := RX4) (T := TX4) (N := 4) (ci := 4) (pc := 6) X dX4_tuftsIn_6 in4 0 rfl rfl 1 (by decide) (by decide +kernel) rfl rfl ?_
  refine V_icmp_ge (tgt := 31) (pc := 9) X dX4_tuftsIn_9 (by decide) (fun c_1 => ?_) (fun c_1 => ?_)
  · skip
    have n_2 : bt ≤ k := nJ_le (a := bt) (b := k) (by omega) (by omega) c_1
    refine V_iload_n (pc := 31) X dX4_tuftsIn_31 rfl 2 rfl ?_
    exact Vg_iret (pc := 32) X dX4_tuftsIn_32 hr (by rw [hz, show k = bt by omega])
  · skip
    have n_3 : k < bt := nJ_nle (a := bt) (b := k) (by omega) (by omega) c_1
    refine V_aload_n (pc := 12) X dX4_tuftsIn_12 rfl 0 rfl ?_
    refine V_get (C := RX4) (T := TX4) (N := 4) (ci := 4) (pc := 13) X dX4_tuftsIn_13 in4 0 rfl rfl 3 (by decide) (by decide +kernel) rfl rfl ?_
    refine V_iload_n (pc := 16) X dX4_tuftsIn_16 rfl 3 rfl ?_
    refine V_iald (v := bm k) (pc := 17) X dX4_tuftsIn_17 1 rfl (vp_in_nI (by omega) (by omega)) (by rw [nI_clamp (by omega)]) ?_
    refine V_iload_n (pc := 18) X dX4_tuftsIn_18 rfl 1 rfl ?_
    refine V_icmp_ne (tgt := 25) (pc := 19) X dX4_tuftsIn_19 (by decide) (fun c_4 => ?_) (fun c_4 => ?_)
    · skip
      refine V_iinc (v := nI (k + 1)) (lv' := [(3, .int (nI (k + 1))), (0, .ref bq), (1, .int x), (2, .int (nI z))]) (pc := 25) X dX4_tuftsIn_25 3 rfl (nI_add k 1) (Nat.le_of_ble_eq_true rfl) rfl ?_
      refine V_goto (tgt := 4) (pc := 28) X dX4_tuftsIn_28 (by decide) ?_
      refine V_lv [1, 2, 3, 0] rfl ?_
      exact ih4 (k + 1, z) ⟨(by
            try dsimp only
            omega), (by
            try dsimp only
            first | exact hz.trans (tiF_a (by assumption)) | (rw [hz]; exact tiF_c (by assumption)))⟩ (by
            try dsimp only
            omega)
    · skip
      refine V_iinc (v := nI (z + 1)) (lv' := [(2, .int (nI (z + 1))), (0, .ref bq), (1, .int x), (3, .int (nI k))]) (pc := 22) X dX4_tuftsIn_22 2 rfl (nI_add z 1) (Nat.le_of_ble_eq_true rfl) rfl ?_
      refine V_iinc (v := nI (k + 1)) (lv' := [(3, .int (nI (k + 1))), (2, .int (nI (z + 1))), (0, .ref bq), (1, .int x)]) (pc := 25) X dX4_tuftsIn_25 3 rfl (nI_add k 1) (Nat.le_of_ble_eq_true rfl) rfl ?_
      refine V_goto (tgt := 4) (pc := 28) X dX4_tuftsIn_28 (by decide) ?_
      refine V_lv [2, 3, 1, 0] rfl ?_
      exact ih4 (k + 1, z + 1) ⟨(by
            try dsimp only
            omega), (by
            try dsimp only
            first | exact hz.trans (tiF_a (by assumption)) | (rw [hz]; exact tiF_c (by assumption)))⟩ (by
            try dsimp only
            omega)
set_option maxHeartbeats 4000000 in
set_option maxRecDepth 100000 in
theorem c_X4_walkableWithout (l : Launch) (g : XG) (bq : Nat) (bmq : Nat) (bf : Int64) (bt : Nat) (bz : Int32) (bm : Nat → Int32) (x : Int32) (ht : bt ≤ 6) : Kg l g yX4_walkableWithout wsX4_walkableWithout ({ frames := 1, cells := 0, slots := 0, locals := 20 } : Room) [.ref bq, .int x] [ob bq 4 [.long bf, .int (nI bt), .int bz, .ref bmq], ai g bmq 6 bm] (some (.long (wkX bz bf bm bt x))) := by
  refine Kg.of (cc := cX4_walkableWithout) (maxL := 5) (ret := (some .long)) (lv := [(0, .ref bq), (1, .int x)]) RX4 rfl (by decide) rfl (Nat.le_of_ble_eq_true rfl) rfl ?_
  intro p e s m below meth c A X hr
  have in4 : ∀ w ∈ u_ws RX4 TX4 4, w ∈ wsX4_walkableWithout := by decide +kernel
  refine V_aload_n (pc := 0) X dX4_walkableWithout_0 rfl 0 rfl ?_
  refine V_get (C := RX4) (T := TX4) (N := 4) (ci := 4) (pc := 1) X dX4_walkableWithout_1 in4 0 rfl rfl 2 (by decide) (by decide +kernel) rfl rfl ?_
  refine V_if_le (tgt := 11) (pc := 4) X dX4_walkableWithout_4 (by decide) (fun c_1 => ?_) (fun c_1 => ?_)
  · skip
    refine V_aload_n (pc := 11) X dX4_walkableWithout_11 rfl 0 rfl ?_
    refine V_get (C := RX4) (T := TX4) (N := 4) (ci := 4) (pc := 12) X dX4_walkableWithout_12 in4 0 rfl rfl 0 (by decide) (by decide +kernel) rfl rfl ?_
    refine V_lstore_n (lv' := [(2, .long bf), (0, .ref bq), (1, .int x)]) (pc := 15) X dX4_walkableWithout_15 rfl (Nat.le_of_ble_eq_true rfl) rfl ?_
    refine V_iconst (v := 0) (pc := 16) X dX4_walkableWithout_16 (by decide) ?_
    refine V_istore (lv' := [(4, .int 0), (2, .long bf), (0, .ref bq), (1, .int x)]) (pc := 17) X dX4_walkableWithout_17 (Nat.le_of_ble_eq_true rfl) rfl ?_
    refine V_loop (pc := 19) (σ := Nat × Int64) (fun v9 => [(0, .ref bq), (1, .int x), (2, .long v9.2), (4, .int (nI v9.1))]) (fun v9 => [ob bq 4 [.long bf, .int (nI bt), .int bz, .ref bmq], ai g bmq 6 bm]) (fun v9 => (v9.1 ≤ bt) ∧ (v9.2 = wkF bf bm x v9.1)) (fun v9 => bt - v9.1) (0, bf) ⟨(by
          try dsimp only
          omega), (by
          try dsimp only
          rfl)⟩ rfl [2, 3, 1, 0] rfl ?_
    rintro ⟨k, z⟩ ⟨hk, hz⟩ ih19
    try dsimp only at hk
    try dsimp only at hz
    refine V_eqw (ws2 := [ob bq 4 [.long bf, .int (nI bt), .int bz, .ref bmq], ai g bmq 6 bm]) rfl (V_eql (lv' := [(0, .ref bq), (1, .int x), (2, .long z), (4, .int (nI k))]) rfl ?_)
    refine V_iload (pc := 19) X dX4_walkableWithout_19 3 rfl ?_
    refine V_aload_n (pc := 21) X dX4_walkableWithout_21 rfl 0 rfl ?_
    refine V_get (C := RX4) (T := TX4) (N := 4) (ci := 4) (pc := 22) X dX4_walkableWithout_22 in4 0 rfl rfl 1 (by decide) (by decide +kernel) rfl rfl ?_
    refine V_icmp_ge (tgt := 53) (pc := 25) X dX4_walkableWithout_25 (by decide) (fun c_2 => ?_) (fun c_2 => ?_)
    · skip
      have n_3 : bt ≤ k := nJ_le (a := bt) (b := k) (by omega) (by omega) c_2
      refine V_lload_n (pc := 53) X dX4_walkableWithout_53 rfl 2 rfl ?_
      exact Vg_lret (pc := 54) X dX4_walkableWithout_54 hr (by first | (simp [wkX, c_1, n_3]; done) | (rw [hz, show k = bt by omega]; simp [wkX, *]; done))
    · skip
      have n_4 : k < bt := nJ_nle (a := bt) (b := k) (by omega) (by omega) c_2
      refine V_iload (pc := 28) X dX4_walkableWithout_28 3 rfl ?_
      refine V_iload_n (pc := 30) X dX4_walkableWithout_30 rfl 1 rfl ?_
      refine V_icmp_eq (tgt := 47) (pc := 31) X dX4_walkableWithout_31 (by decide) (fun c_5 => ?_) (fun c_5 => ?_)
      · skip
        refine V_iinc (v := nI (k + 1)) (lv' := [(4, .int (nI (k + 1))), (0, .ref bq), (1, .int x), (2, .long z)]) (pc := 47) X dX4_walkableWithout_47 3 rfl (nI_add k 1) (Nat.le_of_ble_eq_true rfl) rfl ?_
        refine V_goto (tgt := 19) (pc := 50) X dX4_walkableWithout_50 (by decide) ?_
        refine V_lv [1, 2, 3, 0] rfl ?_
        exact ih19 (k + 1, z) ⟨(by
              try dsimp only
              omega), (by
              try dsimp only
              first | exact hz.trans (wkF_a (by assumption)) | (rw [hz]; exact wkF_c (by assumption)))⟩ (by
              try dsimp only
              omega)
      · skip
        refine V_lload_n (pc := 34) X dX4_walkableWithout_34 rfl 2 rfl ?_
        refine V_aload_n (pc := 35) X dX4_walkableWithout_35 rfl 0 rfl ?_
        refine V_get (C := RX4) (T := TX4) (N := 4) (ci := 4) (pc := 36) X dX4_walkableWithout_36 in4 0 rfl rfl 3 (by decide) (by decide +kernel) rfl rfl ?_
        refine V_iload (pc := 39) X dX4_walkableWithout_39 3 rfl ?_
        refine V_iald (v := bm k) (pc := 41) X dX4_walkableWithout_41 1 rfl (vp_in_nI (by omega) (by omega)) (by rw [nI_clamp (by omega)]) ?_
        refine V_ng (pc := 42) (nA := 1) (As := [.int (bm k)]) (rest := [.long z]) X (c_X9_bit l g (x := bm k) ) gX4_walkableWithout_X9_bit_n30 dX4_walkableWithout_42 rfl (by decide +kernel) rfl (by decide +kernel) (by decide +kernel) (by decide +kernel) ⟨rfl, rfl⟩ ⟨Nat.le_of_ble_eq_true rfl, Nat.le_of_ble_eq_true rfl⟩ ⟨Nat.le_of_ble_eq_true rfl, Nat.le_of_ble_eq_true rfl⟩ [] (by decide) rfl rfl (Nat.le_of_ble_eq_true rfl) (st' := [.long (bitI (bm k)), .long z]) rfl ?_
        refine V_lor (pc := 45) X dX4_walkableWithout_45 ?_
        refine V_lstore_n (lv' := [(2, .long (z ||| (bitI (bm k)))), (0, .ref bq), (1, .int x), (4, .int (nI k))]) (pc := 46) X dX4_walkableWithout_46 rfl (Nat.le_of_ble_eq_true rfl) rfl ?_
        refine V_iinc (v := nI (k + 1)) (lv' := [(4, .int (nI (k + 1))), (2, .long (z ||| (bitI (bm k)))), (0, .ref bq), (1, .int x)]) (pc := 47) X dX4_walkableWithout_47 3 rfl (nI_add k 1) (Nat.le_of_ble_eq_true rfl) rfl ?_
        refine V_goto (tgt := 19) (pc := 50) X dX4_walkableWithout_50 (by decide) ?_
        refine V_lv [2, 3, 1, 0] rfl ?_
        exact ih19 (k + 1, z ||| (bitI (bm k))) ⟨(by
              try dsimp only
              omega), (by
              try dsimp only
              first | exact hz.trans (wkF_a (by assumption)) | (rw [hz]; exact wkF_c (by assumption)))⟩ (by
              try dsimp only
              omega)
  · skip
    refine V_ldc2 (v := 68719476735) (pc := 7) X dX4_walkableWithout_7 (by decide +kernel) ?_
    exact Vg_lret (pc := 10) X dX4_walkableWithout_10 hr (by first | (simp [wkX, c_1]; done) | (rw [hz, show k = bt by omega]; simp [wkX, *]; done))
set_option maxHeartbeats 4000000 in
set_option maxRecDepth 100000 in
theorem c_X4_walkable (l : Launch) (g : XG) (bq : Nat) (bmq : Nat) (bf : Int64) (bt : Nat) (bz : Int32) (bm : Nat → Int32) (ht : bt ≤ 6) : Kg l g yX4_walkable wsX4_walkable ({ frames := 2, cells := 0, slots := 0, locals := 44 } : Room) [.ref bq] [ob bq 4 [.long bf, .int (nI bt), .int bz, .ref bmq], ai g bmq 6 bm] (some (.long (wkX bz bf bm bt (-1)))) := by
  refine Kg.of (cc := cX4_walkable) (maxL := 1) (ret := (some .long)) (lv := [(0, .ref bq)]) RX4 rfl (by decide) rfl (Nat.le_of_ble_eq_true rfl) rfl ?_
  intro p e s m below meth c A X hr
  refine V_aload_n (pc := 0) X dX4_walkable_0 rfl 0 rfl ?_
  refine V_iconst (v := (-1)) (pc := 1) X dX4_walkable_1 (by decide) ?_
  refine V_vg (pc := 2) (nA := 1) (As := [.int (-1)]) (rest := []) X (c_X4_walkableWithout l g (bq := bq) (bmq := bmq) (bf := bf) (bt := bt) (bz := bz) (bm := bm) (x := (-1)) (ht := by first | assumption | omega)) gX4_walkable_X4_walkableWithout dX4_walkable_2 rfl (by decide +kernel) rfl (qb := 0) rfl rfl rfl ⟨rfl, rfl⟩ ⟨Nat.le_of_ble_eq_true rfl, Nat.le_of_ble_eq_true rfl⟩ ⟨Nat.le_of_ble_eq_true rfl, Nat.le_of_ble_eq_true rfl⟩ [0, 1] (by decide) rfl rfl (Nat.le_of_ble_eq_true rfl) (st' := [.long (wkX bz bf bm bt (-1))]) rfl ?_
  exact Vg_lret (pc := 5) X dX4_walkable_5 hr (by first | rfl | (simp []; done))
set_option maxHeartbeats 4000000 in
set_option maxRecDepth 100000 in
theorem c_X4_oneCell (l : Launch) (g : XG) (x : Int32) (y : Int32)  : Kg l g yX4_oneCell wsX4_oneCell ({ frames := 0, cells := 0, slots := 0, locals := 0 } : Room) [.int x, .int y] [] (some (.int (ocl x y))) := by
  refine Kg.of (cc := cX4_oneCell) (maxL := 3) (ret := (some .int)) (lv := [(0, .int x), (1, .int y)]) RX4 rfl (by decide) rfl (Nat.le_of_ble_eq_true rfl) rfl ?_
  intro p e s m below meth c A X hr
  refine V_iload_n (pc := 0) X dX4_oneCell_0 rfl 0 rfl ?_
  refine V_bipush (v := 6) (pc := 1) X dX4_oneCell_1 (by decide) ?_
  refine V_idiv (pc := 3) X dX4_oneCell_3 (by decide) ?_
  refine V_iload_n (pc := 4) X dX4_oneCell_4 rfl 1 rfl ?_
  refine V_bipush (v := 6) (pc := 5) X dX4_oneCell_5 (by decide) ?_
  refine V_idiv (pc := 7) X dX4_oneCell_7 (by decide) ?_
  refine V_icmp_eq (tgt := 16) (pc := 8) X dX4_oneCell_8 (by decide) (fun c_1 => ?_) (fun c_1 => ?_)
  · skip
    refine V_iconst (v := 1) (pc := 16) X dX4_oneCell_16 (by decide) ?_
    refine V_istore_n (lv' := [(2, .int 1), (0, .int x), (1, .int y)]) (pc := 17) X dX4_oneCell_17 rfl (Nat.le_of_ble_eq_true rfl) rfl ?_
    refine V_iload_n (pc := 18) X dX4_oneCell_18 rfl 2 rfl ?_
    refine V_iload_n (pc := 19) X dX4_oneCell_19 rfl 1 rfl ?_
    refine V_icmp_le (tgt := 29) (pc := 20) X dX4_oneCell_20 (by decide) (fun c_2 => ?_) (fun c_2 => ?_)
    · skip
      refine V_iload_n (pc := 29) X dX4_oneCell_29 rfl 1 rfl ?_
      refine V_iload_n (pc := 30) X dX4_oneCell_30 rfl 0 rfl ?_
      refine V_isub (pc := 31) X dX4_oneCell_31 ?_
      exact Vg_iret (pc := 32) X dX4_oneCell_32 hr (by first | rfl | (simp [bI, ocl, c_1, c_2]; done) | (simp_all [bI, Int32.not_le, Int32.not_lt]; done))
    · skip
      refine V_iload_n (pc := 23) X dX4_oneCell_23 rfl 1 rfl ?_
      refine V_iload_n (pc := 24) X dX4_oneCell_24 rfl 0 rfl ?_
      refine V_iadd (pc := 25) X dX4_oneCell_25 ?_
      refine V_goto (tgt := 32) (pc := 26) X dX4_oneCell_26 (by decide) ?_
      exact Vg_iret (pc := 32) X dX4_oneCell_32 hr (by first | rfl | (simp [bI, ocl, c_1, c_2]; done) | (simp_all [bI, Int32.not_le, Int32.not_lt]; done))
  · skip
    refine V_bipush (v := 6) (pc := 11) X dX4_oneCell_11 (by decide) ?_
    refine V_goto (tgt := 17) (pc := 13) X dX4_oneCell_13 (by decide) ?_
    refine V_istore_n (lv' := [(2, .int 6), (0, .int x), (1, .int y)]) (pc := 17) X dX4_oneCell_17 rfl (Nat.le_of_ble_eq_true rfl) rfl ?_
    refine V_iload_n (pc := 18) X dX4_oneCell_18 rfl 2 rfl ?_
    refine V_iload_n (pc := 19) X dX4_oneCell_19 rfl 1 rfl ?_
    refine V_icmp_le (tgt := 29) (pc := 20) X dX4_oneCell_20 (by decide) (fun c_3 => ?_) (fun c_3 => ?_)
    · skip
      refine V_iload_n (pc := 29) X dX4_oneCell_29 rfl 1 rfl ?_
      refine V_iload_n (pc := 30) X dX4_oneCell_30 rfl 0 rfl ?_
      refine V_isub (pc := 31) X dX4_oneCell_31 ?_
      exact Vg_iret (pc := 32) X dX4_oneCell_32 hr (by first | rfl | (simp [bI, ocl, c_1, c_3]; done) | (simp_all [bI, Int32.not_le, Int32.not_lt]; done))
    · skip
      refine V_iload_n (pc := 23) X dX4_oneCell_23 rfl 1 rfl ?_
      refine V_iload_n (pc := 24) X dX4_oneCell_24 rfl 0 rfl ?_
      refine V_iadd (pc := 25) X dX4_oneCell_25 ?_
      refine V_goto (tgt := 32) (pc := 26) X dX4_oneCell_26 (by decide) ?_
      exact Vg_iret (pc := 32) X dX4_oneCell_32 hr (by first | rfl | (simp [bI, ocl, c_1, c_3]; done) | (simp_all [bI, Int32.not_le, Int32.not_lt]; done))
set_option maxHeartbeats 4000000 in
set_option maxRecDepth 100000 in
theorem c_X5_add (l : Launch) (g : XG) (sq : Nat) (scq : Nat) (swq : Nat) (sn : Nat) (sce : Nat → Int32) (swe : Nat → Int32) (w : Int32) (h : Int32) (hn : sn < 6) : Ke l g yX5_add wsX5_add ({ frames := 0, cells := 0, slots := 0, locals := 0 } : Room) 0 0 [.ref sq, .int w, .int h] [ob sq 5 [.int (nI sn), .ref scq, .ref swq], ai g scq 6 sce, ai g swq 6 swe] (fun u : Nat × (Nat → Int32) × (Nat → Int32) => none) (fun u => [ob sq 5 [.int (nI u.1), .ref scq, .ref swq], ai g scq 6 u.2.1, ai g swq 6 u.2.2]) (fun u => (addP sn sce swe w h u.1 u.2.1 u.2.2)) := by
  refine Ke.of (cc := cX5_add) (maxL := 4) (ret := none) (lv := [(0, .ref sq), (1, .int w), (2, .int h)]) RX5 rfl (by decide) rfl (Nat.le_of_ble_eq_true rfl) rfl ?_
  intro p e s m below meth c A sz hA9 X hr hin2
  have in5 : ∀ w ∈ u_ws RX5 TX5 3, w ∈ wsX5_add := by decide +kernel
  refine V_iconst (v := 0) (pc := 0) X dX5_add_0 (by decide) ?_
  refine V_istore_n (lv' := [(3, .int 0), (0, .ref sq), (1, .int w), (2, .int h)]) (pc := 1) X dX5_add_1 rfl (Nat.le_of_ble_eq_true rfl) rfl ?_
  refine V_loop (pc := 2) (σ := Nat) (fun v9 => [(0, .ref sq), (1, .int w), (2, .int h), (3, .int (nI v9))]) (fun v9 => [ob sq 5 [.int (nI sn), .ref scq, .ref swq], ai g scq 6 sce, ai g swq 6 swe]) (fun v9 => (v9 ≤ sn) ∧ (∀ j, j < v9 → ¬ sce j = w)) (fun v9 => sn - v9) 0 ⟨(by
        try dsimp only
        omega), (by
        try dsimp only
        exact fun _ h => absurd h (Nat.not_lt_zero _))⟩ rfl [1, 2, 3, 0] rfl ?_
  rintro k ⟨hk, hs⟩ ih2
  refine V_eqw (ws2 := [ob sq 5 [.int (nI sn), .ref scq, .ref swq], ai g scq 6 sce, ai g swq 6 swe]) rfl (V_eql (lv' := [(0, .ref sq), (1, .int w), (2, .int h), (3, .int (nI k))]) rfl ?_)
  refine V_iload_n (pc := 2) X dX5_add_2 rfl 3 rfl ?_
  refine V_aload_n (pc := 3) X dX5_add_3 rfl 0 rfl ?_
  refine V_get (C := RX5) (T := TX5) (N := 3) (ci := 5) (pc := 4) X dX5_add_4 in5 0 rfl rfl 0 (by decide) (by decide +kernel) rfl rfl ?_
  refine V_icmp_ge (tgt := 37) (pc := 7) X dX5_add_7 (by decide) (fun c_1 => ?_) (fun c_1 => ?_)
  · skip
    have n_2 : sn ≤ k := nJ_le (a := sn) (b := k) (by omega) (by omega) c_1
    refine V_aload_n (pc := 37) X dX5_add_37 rfl 0 rfl ?_
    refine V_get (C := RX5) (T := TX5) (N := 3) (ci := 5) (pc := 38) X dX5_add_38 in5 0 rfl rfl 1 (by decide) (by decide +kernel) rfl rfl ?_
    refine V_aload_n (pc := 41) X dX5_add_41 rfl 0 rfl ?_
    refine V_get (C := RX5) (T := TX5) (N := 3) (ci := 5) (pc := 42) X dX5_add_42 in5 0 rfl rfl 0 (by decide) (by decide +kernel) rfl rfl ?_
    refine V_iload_n (pc := 45) X dX5_add_45 rfl 1 rfl ?_
    refine V_iast (f' := upd sce sn w) (ws' := [ob sq 5 [.int (nI sn), .ref scq, .ref swq], ai g scq 6 (upd sce sn w), ai g swq 6 swe]) (pc := 46) X dX5_add_46 1 rfl (vp_in_nI (by omega) (by omega)) (by rw [nI_clamp (by omega)]) rfl ?_
    refine V_aload_n (pc := 47) X dX5_add_47 rfl 0 rfl ?_
    refine V_get (C := RX5) (T := TX5) (N := 3) (ci := 5) (pc := 48) X dX5_add_48 in5 0 rfl rfl 2 (by decide) (by decide +kernel) rfl rfl ?_
    refine V_aload_n (pc := 51) X dX5_add_51 rfl 0 rfl ?_
    refine V_get (C := RX5) (T := TX5) (N := 3) (ci := 5) (pc := 52) X dX5_add_52 in5 0 rfl rfl 0 (by decide) (by decide +kernel) rfl rfl ?_
    refine V_iload_n (pc := 55) X dX5_add_55 rfl 2 rfl ?_
    refine V_iast (f' := upd swe sn h) (ws' := [ob sq 5 [.int (nI sn), .ref scq, .ref swq], ai g scq 6 (upd sce sn w), ai g swq 6 (upd swe sn h)]) (pc := 56) X dX5_add_56 2 rfl (vp_in_nI (by omega) (by omega)) (by rw [nI_clamp (by omega)]) rfl ?_
    refine V_aload_n (pc := 57) X dX5_add_57 rfl 0 rfl ?_
    refine V_dup (pc := 58) X dX5_add_58 rfl ?_
    refine V_get (C := RX5) (T := TX5) (N := 3) (ci := 5) (pc := 59) X dX5_add_59 in5 0 rfl rfl 0 (by decide) (by decide +kernel) rfl rfl ?_
    refine V_iconst (v := 1) (pc := 62) X dX5_add_62 (by decide) ?_
    refine V_iadd (pc := 63) X dX5_add_63 ?_
    refine V_seti (y := nI (sn + 1)) (nI_add sn 1) ?_
    refine V_put (C := RX5) (T := TX5) (N := 3) (ci := 5) (ws' := [ob sq 5 [.int (nI (sn + 1)), .ref scq, .ref swq], ai g scq 6 (upd sce sn w), ai g swq 6 (upd swe sn h)]) (pc := 64) X dX5_add_64 in5 tyX5 tyX5_ok nmX5 0 rfl rfl 0 (by decide) (by decide +kernel) rfl rfl rfl rfl rfl (Nat.le_of_ble_eq_true rfl) rfl ?_
    exact Ve_vret (pc := 67) X hA9 dX5_add_67 hr (sn + 1, upd sce sn w, upd swe sn h) rfl (by
          try dsimp only
          first | exact Or.inl ⟨k, by omega, by assumption, rfl, rfl, rfl⟩ | exact Or.inr ⟨fun j hj => hs j (by omega), rfl, rfl, rfl⟩) (by rfl)
  · skip
    have n_3 : k < sn := nJ_nle (a := sn) (b := k) (by omega) (by omega) c_1
    refine V_aload_n (pc := 10) X dX5_add_10 rfl 0 rfl ?_
    refine V_get (C := RX5) (T := TX5) (N := 3) (ci := 5) (pc := 11) X dX5_add_11 in5 0 rfl rfl 1 (by decide) (by decide +kernel) rfl rfl ?_
    refine V_iload_n (pc := 14) X dX5_add_14 rfl 3 rfl ?_
    refine V_iald (v := sce k) (pc := 15) X dX5_add_15 1 rfl (vp_in_nI (by omega) (by omega)) (by rw [nI_clamp (by omega)]) ?_
    refine V_iload_n (pc := 16) X dX5_add_16 rfl 1 rfl ?_
    refine V_icmp_ne (tgt := 31) (pc := 17) X dX5_add_17 (by decide) (fun c_4 => ?_) (fun c_4 => ?_)
    · skip
      refine V_iinc (v := nI (k + 1)) (lv' := [(3, .int (nI (k + 1))), (0, .ref sq), (1, .int w), (2, .int h)]) (pc := 31) X dX5_add_31 3 rfl (nI_add k 1) (Nat.le_of_ble_eq_true rfl) rfl ?_
      refine V_goto (tgt := 2) (pc := 34) X dX5_add_34 (by decide) ?_
      refine V_lv [1, 2, 3, 0] rfl ?_
      exact ih2 (k + 1) ⟨(by
            try dsimp only
            omega), (by
            try dsimp only
            exact lt_s hs (by assumption))⟩ (by
            try dsimp only
            omega)
    · skip
      refine V_aload_n (pc := 20) X dX5_add_20 rfl 0 rfl ?_
      refine V_get (C := RX5) (T := TX5) (N := 3) (ci := 5) (pc := 21) X dX5_add_21 in5 0 rfl rfl 2 (by decide) (by decide +kernel) rfl rfl ?_
      refine V_iload_n (pc := 24) X dX5_add_24 rfl 3 rfl ?_
      refine V_dup2 (pc := 25) X dX5_add_25 rfl rfl ?_
      refine V_iald (v := swe k) (pc := 26) X dX5_add_26 2 rfl (vp_in_nI (by omega) (by omega)) (by rw [nI_clamp (by omega)]) ?_
      refine V_iload_n (pc := 27) X dX5_add_27 rfl 2 rfl ?_
      refine V_iadd (pc := 28) X dX5_add_28 ?_
      refine V_iast (f' := upd swe k ((swe k) + h)) (ws' := [ob sq 5 [.int (nI sn), .ref scq, .ref swq], ai g scq 6 sce, ai g swq 6 (upd swe k ((swe k) + h))]) (pc := 29) X dX5_add_29 2 rfl (vp_in_nI (by omega) (by omega)) (by rw [nI_clamp (by omega)]) rfl ?_
      exact Ve_vret (pc := 30) X hA9 dX5_add_30 hr (sn, sce, upd swe k ((swe k) + h)) rfl (by
            try dsimp only
            first | exact Or.inl ⟨k, by omega, by assumption, rfl, rfl, rfl⟩ | exact Or.inr ⟨fun j hj => hs j (by omega), rfl, rfl, rfl⟩) (by rfl)
set_option maxHeartbeats 4000000 in
set_option maxRecDepth 100000 in
theorem c_X5_gather (l : Launch) (g : XG) (sq : Nat) (scq : Nat) (swq : Nat) (sn : Nat) (sce : Nat → Int32) (swe : Nat → Int32) (aq : Nat) (akq : Nat) (acq : Nat) (ahq : Nat) (aaq : Nat) (an : Nat) (akd : Nat → Int32) (ace : Nat → Int32) (aho : Nat → Int32) (aac : Nat → Int32) (hn : an ≤ 6) : Ke l g yX5_gather wsX5_gather ({ frames := 1, cells := 0, slots := 0, locals := 23 } : Room) 0 0 [.ref sq, .ref aq] [ob sq 5 [.int (nI sn), .ref scq, .ref swq], ai g scq 6 sce, ai g swq 6 swe, ob aq 1 [.int (nI an), .ref akq, .ref acq, .ref ahq, .ref aaq], ai g akq 6 akd, ai g acq 6 ace, ai g ahq 6 aho, ai g aaq 6 aac] (fun u : Nat × (Nat → Int32) × (Nat → Int32) => none) (fun u => [ob sq 5 [.int (nI u.1), .ref scq, .ref swq], ai g scq 6 u.2.1, ai g swq 6 u.2.2, ob aq 1 [.int (nI an), .ref akq, .ref acq, .ref ahq, .ref aaq], ai g akq 6 akd, ai g acq 6 ace, ai g ahq 6 aho, ai g aaq 6 aac]) (fun u => (SR akd ace aho an u.1 u.2.1 u.2.2)) := by
  refine Ke.of (cc := cX5_gather) (maxL := 3) (ret := none) (lv := [(0, .ref sq), (1, .ref aq)]) RX5 rfl (by decide) rfl (Nat.le_of_ble_eq_true rfl) rfl ?_
  intro p e s m below meth c A sz hA9 X hr hin2
  have in1 : ∀ w ∈ u_ws RX1 TX1 5, w ∈ wsX5_gather := by decide +kernel
  have in5 : ∀ w ∈ u_ws RX5 TX5 3, w ∈ wsX5_gather := by decide +kernel
  refine V_aload_n (pc := 0) X dX5_gather_0 rfl 0 rfl ?_
  refine V_iconst (v := 0) (pc := 1) X dX5_gather_1 (by decide) ?_
  refine V_put (C := RX5) (T := TX5) (N := 3) (ci := 5) (ws' := [ob sq 5 [.int 0, .ref scq, .ref swq], ai g scq 6 sce, ai g swq 6 swe, ob aq 1 [.int (nI an), .ref akq, .ref acq, .ref ahq, .ref aaq], ai g akq 6 akd, ai g acq 6 ace, ai g ahq 6 aho, ai g aaq 6 aac]) (pc := 2) X dX5_gather_2 in5 tyX5 tyX5_ok nmX5 0 rfl rfl 0 (by decide) (by decide +kernel) rfl rfl rfl rfl rfl (Nat.le_of_ble_eq_true rfl) rfl ?_
  refine V_iconst (v := 0) (pc := 5) X dX5_gather_5 (by decide) ?_
  refine V_istore_n (lv' := [(2, .int 0), (0, .ref sq), (1, .ref aq)]) (pc := 6) X dX5_gather_6 rfl (Nat.le_of_ble_eq_true rfl) rfl ?_
  refine V_loop (pc := 7) (σ := Nat × Nat × (Nat → Int32) × (Nat → Int32)) (fun v9 => [(0, .ref sq), (1, .ref aq), (2, .int (nI v9.1))]) (fun v9 => [ob sq 5 [.int (nI v9.2.1), .ref scq, .ref swq], ai g scq 6 v9.2.2.1, ai g swq 6 v9.2.2.2, ob aq 1 [.int (nI an), .ref akq, .ref acq, .ref ahq, .ref aaq], ai g akq 6 akd, ai g acq 6 ace, ai g ahq 6 aho, ai g aaq 6 aac]) (fun v9 => (v9.1 ≤ an) ∧ (SR akd ace aho v9.1 v9.2.1 v9.2.2.1 v9.2.2.2)) (fun v9 => an - v9.1) (0, 0, sce, swe) ⟨(by
        try dsimp only
        omega), (by
        try dsimp only
        exact SR_0)⟩ rfl [1, 2, 0] rfl ?_
  rintro ⟨k, n, zc, zw⟩ ⟨hk, hs⟩ ih7
  try dsimp only at hk
  try dsimp only at hs
  refine V_eqw (ws2 := [ob sq 5 [.int (nI n), .ref scq, .ref swq], ai g scq 6 zc, ai g swq 6 zw, ob aq 1 [.int (nI an), .ref akq, .ref acq, .ref ahq, .ref aaq], ai g akq 6 akd, ai g acq 6 ace, ai g ahq 6 aho, ai g aaq 6 aac]) rfl (V_eql (lv' := [(0, .ref sq), (1, .ref aq), (2, .int (nI k))]) rfl ?_)
  refine V_iload_n (pc := 7) X dX5_gather_7 rfl 2 rfl ?_
  refine V_aload_n (pc := 8) X dX5_gather_8 rfl 1 rfl ?_
  refine V_get (C := RX1) (T := TX1) (N := 5) (ci := 1) (pc := 9) X dX5_gather_9 in1 3 rfl rfl 0 (by decide) (by decide +kernel) rfl rfl ?_
  refine V_icmp_ge (tgt := 44) (pc := 12) X dX5_gather_12 (by decide) (fun c_1 => ?_) (fun c_1 => ?_)
  · skip
    have n_2 : an ≤ k := nJ_le (a := an) (b := k) (by omega) (by omega) c_1
    exact Ve_vret (pc := 44) X hA9 dX5_gather_44 hr (n, zc, zw) rfl (by
          try dsimp only
          rw [show an = k by omega]; exact hs) (by rfl)
  · skip
    have n_3 : k < an := nJ_nle (a := an) (b := k) (by omega) (by omega) c_1
    refine V_aload_n (pc := 15) X dX5_gather_15 rfl 1 rfl ?_
    refine V_iload_n (pc := 16) X dX5_gather_16 rfl 2 rfl ?_
    refine V_vg (pc := 17) (nA := 1) (As := [.int (nI k)]) (rest := []) X (c_X1_sits l g (aq := aq) (akq := akq) (acq := acq) (ahq := ahq) (aaq := aaq) (an := an) (akd := akd) (ace := ace) (aho := aho) (aac := aac) (j := k) (hj := by first | assumption | omega)) gX5_gather_X1_sits dX5_gather_17 rfl (by decide +kernel) rfl (qb := 3) rfl rfl rfl ⟨rfl, rfl⟩ ⟨Nat.le_of_ble_eq_true rfl, Nat.le_of_ble_eq_true rfl⟩ ⟨Nat.le_of_ble_eq_true rfl, Nat.le_of_ble_eq_true rfl⟩ [3, 4, 5, 6, 7] (by decide) rfl rfl (Nat.le_of_ble_eq_true rfl) (st' := [.int (bI (decide (0 < aho k)))]) rfl ?_
    refine V_if_eq (tgt := 38) (pc := 20) X dX5_gather_20 (by decide) (fun c_4 => ?_) (fun c_4 => ?_)
    · skip
      have b_5 : decide (0 < aho k) = false := bI0 c_4
      refine V_iinc (v := nI (k + 1)) (lv' := [(2, .int (nI (k + 1))), (0, .ref sq), (1, .ref aq)]) (pc := 38) X dX5_gather_38 2 rfl (nI_add k 1) (Nat.le_of_ble_eq_true rfl) rfl ?_
      refine V_goto (tgt := 7) (pc := 41) X dX5_gather_41 (by decide) ?_
      refine V_lv [1, 2, 0] rfl ?_
      exact ih7 (k + 1, n, zc, zw) ⟨(by
            try dsimp only
            omega), (by
            try dsimp only
            first | exact SR_skip hs (by assumption) | exact SR_add hs (by assumption) (by assumption))⟩ (by
            try dsimp only
            omega)
    · skip
      have b_6 : decide (0 < aho k) = true := bI1 c_4
      refine V_aload_n (pc := 23) X dX5_gather_23 rfl 0 rfl ?_
      refine V_aload_n (pc := 24) X dX5_gather_24 rfl 1 rfl ?_
      refine V_get (C := RX1) (T := TX1) (N := 5) (ci := 1) (pc := 25) X dX5_gather_25 in1 3 rfl rfl 2 (by decide) (by decide +kernel) rfl rfl ?_
      refine V_iload_n (pc := 28) X dX5_gather_28 rfl 2 rfl ?_
      refine V_iald (v := ace k) (pc := 29) X dX5_gather_29 5 rfl (vp_in_nI (by omega) (by omega)) (by rw [nI_clamp (by omega)]) ?_
      refine V_aload_n (pc := 30) X dX5_gather_30 rfl 1 rfl ?_
      refine V_iload_n (pc := 31) X dX5_gather_31 rfl 2 rfl ?_
      refine V_vg (pc := 32) (nA := 1) (As := [.int (nI k)]) (rest := [.int (ace k), .ref sq]) X (c_X1_weight l g (aq := aq) (akq := akq) (acq := acq) (ahq := ahq) (aaq := aaq) (an := an) (akd := akd) (ace := ace) (aho := aho) (aac := aac) (j := k) (hj := by first | assumption | omega)) gX5_gather_X1_weight dX5_gather_32 rfl (by decide +kernel) rfl (qb := 3) rfl rfl rfl ⟨rfl, rfl⟩ ⟨Nat.le_of_ble_eq_true rfl, Nat.le_of_ble_eq_true rfl⟩ ⟨Nat.le_of_ble_eq_true rfl, Nat.le_of_ble_eq_true rfl⟩ [3, 4, 5, 6, 7] (by decide) rfl rfl (Nat.le_of_ble_eq_true rfl) (st' := [.int (wt (akd k) (aho k)), .int (ace k), .ref sq]) rfl ?_
      refine V_ve (pc := 35) (nA := 2) (As := [.int (ace k), .int (wt (akd k) (aho k))]) (rest := []) X (c_X5_add l g (sq := sq) (scq := scq) (swq := swq) (sn := n) (sce := zc) (swe := zw) (w := ace k) (h := wt (akd k) (aho k)) (hn := by (have := hs.1; omega))) gX5_gather_X5_add dX5_gather_35 rfl (by decide +kernel) rfl (qb := 0) rfl rfl rfl ⟨rfl, rfl⟩ ⟨Nat.le_of_ble_eq_true rfl, Nat.le_of_ble_eq_true rfl⟩ ⟨Nat.le_of_ble_eq_true rfl, Nat.le_of_ble_eq_true rfl⟩ [0, 1, 2] (by decide) rfl [3, 4, 5, 6, 7] (by decide) (by decide) [ob aq 1 [.int (nI an), .ref akq, .ref acq, .ref ahq, .ref aaq], ai g akq 6 akd, ai g acq 6 ace, ai g ahq 6 aho, ai g aaq 6 aac] rfl [5, 6, 7, 0, 1, 2, 3, 4] (by decide) (fun u => [ob sq 5 [.int (nI u.1), .ref scq, .ref swq], ai g scq 6 u.2.1, ai g swq 6 u.2.2, ob aq 1 [.int (nI an), .ref akq, .ref acq, .ref ahq, .ref aaq], ai g akq 6 akd, ai g acq 6 ace, ai g ahq 6 aho, ai g aaq 6 aac]) (fun _ => rfl) rfl (Nat.le_of_ble_eq_true rfl) (fun u => []) (fun _ => rfl) (fun u hu_10 => ?_)
      obtain ⟨nn_7, nc_8, nw_9⟩ := u
      try dsimp only at hu_10
      have hap_11 := hu_10
      refine V_eqw (ws2 := [ob sq 5 [.int (nI nn_7), .ref scq, .ref swq], ai g scq 6 nc_8, ai g swq 6 nw_9, ob aq 1 [.int (nI an), .ref akq, .ref acq, .ref ahq, .ref aaq], ai g akq 6 akd, ai g acq 6 ace, ai g ahq 6 aho, ai g aaq 6 aac]) rfl (V_eqs (st2 := []) rfl ?_)
      refine V_iinc (v := nI (k + 1)) (lv' := [(2, .int (nI (k + 1))), (0, .ref sq), (1, .ref aq)]) (pc := 38) X dX5_gather_38 2 rfl (nI_add k 1) (Nat.le_of_ble_eq_true rfl) rfl ?_
      refine V_goto (tgt := 7) (pc := 41) X dX5_gather_41 (by decide) ?_
      refine V_lv [1, 2, 0] rfl ?_
      exact ih7 (k + 1, nn_7, nc_8, nw_9) ⟨(by
            try dsimp only
            omega), (by
            try dsimp only
            first | exact SR_skip hs (by assumption) | exact SR_add hs (by assumption) (by assumption))⟩ (by
            try dsimp only
            omega)
set_option maxHeartbeats 4000000 in
set_option maxRecDepth 100000 in
theorem c_X5_goal (l : Launch) (g : XG) (sq : Nat) (scq : Nat) (swq : Nat) (sn : Nat) (sce : Nat → Int32) (swe : Nat → Int32) (x : Int32) (hn : sn ≤ 6) : Kg l g yX5_goal wsX5_goal ({ frames := 1, cells := 0, slots := 0, locals := 23 } : Room) [.ref sq, .int x] [ob sq 5 [.int (nI sn), .ref scq, .ref swq], ai g scq 6 sce, ai g swq 6 swe] (some (.int ((goF sce swe x sn).2))) := by
  refine Kg.of (cc := cX5_goal) (maxL := 6) (ret := (some .int)) (lv := [(0, .ref sq), (1, .int x)]) RX5 rfl (by decide) rfl (Nat.le_of_ble_eq_true rfl) rfl ?_
  intro p e s m below meth c A X hr
  have in5 : ∀ w ∈ u_ws RX5 TX5 3, w ∈ wsX5_goal := by decide +kernel
  refine V_iconst (v := 0) (pc := 0) X dX5_goal_0 (by decide) ?_
  refine V_istore_n (lv' := [(2, .int 0), (0, .ref sq), (1, .int x)]) (pc := 1) X dX5_goal_1 rfl (Nat.le_of_ble_eq_true rfl) rfl ?_
  refine V_iload_n (pc := 2) X dX5_goal_2 rfl 2 rfl ?_
  refine V_istore_n (lv' := [(3, .int x), (2, .int 0), (0, .ref sq), (1, .int x)]) (pc := 3) X dX5_goal_3 rfl (Nat.le_of_ble_eq_true rfl) rfl ?_
  refine V_iconst (v := 0) (pc := 4) X dX5_goal_4 (by decide) ?_
  refine V_istore (lv' := [(4, .int 0), (3, .int x), (2, .int 0), (0, .ref sq), (1, .int x)]) (pc := 5) X dX5_goal_5 (Nat.le_of_ble_eq_true rfl) rfl ?_
  refine V_loop (pc := 7) (σ := Nat × Int32 × Int32) (fun v9 => [(0, .ref sq), (1, .int x), (2, .int v9.2.1), (3, .int v9.2.2), (4, .int (nI v9.1))]) (fun v9 => [ob sq 5 [.int (nI sn), .ref scq, .ref swq], ai g scq 6 sce, ai g swq 6 swe]) (fun v9 => (v9.1 ≤ sn) ∧ (v9.2.1 = (goF sce swe x v9.1).1) ∧ (v9.2.2 = (goF sce swe x v9.1).2)) (fun v9 => sn - v9.1) (0, 0, x) ⟨(by
        try dsimp only
        omega), (by
        try dsimp only
        rfl), (by
        try dsimp only
        rfl)⟩ rfl [3, 4, 2, 1, 0] rfl ?_
  rintro ⟨k, mo, go⟩ ⟨hk, h1, h2⟩ ih7
  try dsimp only at hk
  try dsimp only at h1
  try dsimp only at h2
  refine V_eqw (ws2 := [ob sq 5 [.int (nI sn), .ref scq, .ref swq], ai g scq 6 sce, ai g swq 6 swe]) rfl (V_eql (lv' := [(0, .ref sq), (1, .int x), (2, .int mo), (3, .int go), (4, .int (nI k))]) rfl ?_)
  refine V_iload (pc := 7) X dX5_goal_7 4 rfl ?_
  refine V_aload_n (pc := 9) X dX5_goal_9 rfl 0 rfl ?_
  refine V_get (C := RX5) (T := TX5) (N := 3) (ci := 5) (pc := 10) X dX5_goal_10 in5 0 rfl rfl 0 (by decide) (by decide +kernel) rfl rfl ?_
  refine V_icmp_ge (tgt := 73) (pc := 13) X dX5_goal_13 (by decide) (fun c_1 => ?_) (fun c_1 => ?_)
  · skip
    have n_2 : sn ≤ k := nJ_le (a := sn) (b := k) (by omega) (by omega) c_1
    refine V_iload_n (pc := 73) X dX5_goal_73 rfl 3 rfl ?_
    exact Vg_iret (pc := 74) X dX5_goal_74 hr (by rw [h2, show k = sn by omega])
  · skip
    have n_3 : k < sn := nJ_nle (a := sn) (b := k) (by omega) (by omega) c_1
    refine V_aload_n (pc := 16) X dX5_goal_16 rfl 0 rfl ?_
    refine V_get (C := RX5) (T := TX5) (N := 3) (ci := 5) (pc := 17) X dX5_goal_17 in5 0 rfl rfl 2 (by decide) (by decide +kernel) rfl rfl ?_
    refine V_iload (pc := 20) X dX5_goal_20 4 rfl ?_
    refine V_iald (v := swe k) (pc := 22) X dX5_goal_22 2 rfl (vp_in_nI (by omega) (by omega)) (by rw [nI_clamp (by omega)]) ?_
    refine V_iconst (v := 3) (pc := 23) X dX5_goal_23 (by decide) ?_
    refine V_aload_n (pc := 24) X dX5_goal_24 rfl 0 rfl ?_
    refine V_get (C := RX5) (T := TX5) (N := 3) (ci := 5) (pc := 25) X dX5_goal_25 in5 0 rfl rfl 1 (by decide) (by decide +kernel) rfl rfl ?_
    refine V_iload (pc := 28) X dX5_goal_28 4 rfl ?_
    refine V_iald (v := sce k) (pc := 30) X dX5_goal_30 1 rfl (vp_in_nI (by omega) (by omega)) (by rw [nI_clamp (by omega)]) ?_
    refine V_iload_n (pc := 31) X dX5_goal_31 rfl 1 rfl ?_
    refine V_ng (pc := 32) (nA := 2) (As := [.int (sce k), .int x]) (rest := [.int 3, .int (swe k)]) X (c_X9_apart l g (x := sce k) (y := x) ) gX5_goal_X9_apart_n37 dX5_goal_32 rfl (by decide +kernel) rfl (by decide +kernel) (by decide +kernel) (by decide +kernel) ⟨rfl, rfl⟩ ⟨Nat.le_of_ble_eq_true rfl, Nat.le_of_ble_eq_true rfl⟩ ⟨Nat.le_of_ble_eq_true rfl, Nat.le_of_ble_eq_true rfl⟩ [] (by decide) rfl rfl (Nat.le_of_ble_eq_true rfl) (st' := [.int (aprt (sce k) x), .int 3, .int (swe k)]) rfl ?_
    refine V_imul (pc := 35) X dX5_goal_35 ?_
    refine V_isub (pc := 36) X dX5_goal_36 ?_
    refine V_istore (lv' := [(5, .int ((swe k) - (3 * (aprt (sce k) x)))), (0, .ref sq), (1, .int x), (2, .int mo), (3, .int go), (4, .int (nI k))]) (pc := 37) X dX5_goal_37 (Nat.le_of_ble_eq_true rfl) rfl ?_
    refine V_iload (pc := 39) X dX5_goal_39 0 rfl ?_
    refine V_iload_n (pc := 41) X dX5_goal_41 rfl 3 rfl ?_
    refine V_icmp_le (tgt := 59) (pc := 42) X dX5_goal_42 (by decide) (fun c_4 => ?_) (fun c_4 => ?_)
    · skip
      refine V_iload (pc := 59) X dX5_goal_59 0 rfl ?_
      refine V_iload_n (pc := 61) X dX5_goal_61 rfl 3 rfl ?_
      refine V_icmp_ne (tgt := 67) (pc := 62) X dX5_goal_62 (by decide) (fun c_5 => ?_) (fun c_5 => ?_)
      · skip
        refine V_iinc (v := nI (k + 1)) (lv' := [(4, .int (nI (k + 1))), (5, .int ((swe k) - (3 * (aprt (sce k) x)))), (0, .ref sq), (1, .int x), (2, .int mo), (3, .int go)]) (pc := 67) X dX5_goal_67 5 rfl (nI_add k 1) (Nat.le_of_ble_eq_true rfl) rfl ?_
        refine V_goto (tgt := 7) (pc := 70) X dX5_goal_70 (by decide) ?_
        refine V_lv [2, 3, 4, 5, 0] rfl ?_
        exact ih7 (k + 1, mo, go) ⟨(by
              try dsimp only
              omega), (by
              try dsimp only
              first | (rw [goF, ← h1, if_neg (by assumption)]; all_goals rfl) | (rw [goF, ← h1, if_pos (by assumption), if_pos (by assumption)]; all_goals rfl) | (rw [goF, ← h1, if_pos (by assumption), if_neg (by assumption)]; all_goals first | exact h1 | exact h2)), (by
              try dsimp only
              first | (rw [goF, ← h1, if_neg (by assumption)]; all_goals rfl) | (rw [goF, ← h1, if_pos (by assumption), if_pos (by assumption)]; all_goals rfl) | (rw [goF, ← h1, if_pos (by assumption), if_neg (by assumption)]; all_goals first | exact h1 | exact h2))⟩ (by
              try dsimp only
              omega)
      · skip
        refine V_iload_n (pc := 65) X dX5_goal_65 rfl 2 rfl ?_
        refine V_istore_n (lv' := [(3, .int x), (5, .int ((swe k) - (3 * (aprt (sce k) x)))), (0, .ref sq), (1, .int x), (2, .int mo), (4, .int (nI k))]) (pc := 66) X dX5_goal_66 rfl (Nat.le_of_ble_eq_true rfl) rfl ?_
        refine V_iinc (v := nI (k + 1)) (lv' := [(4, .int (nI (k + 1))), (3, .int x), (5, .int ((swe k) - (3 * (aprt (sce k) x)))), (0, .ref sq), (1, .int x), (2, .int mo)]) (pc := 67) X dX5_goal_67 5 rfl (nI_add k 1) (Nat.le_of_ble_eq_true rfl) rfl ?_
        refine V_goto (tgt := 7) (pc := 70) X dX5_goal_70 (by decide) ?_
        refine V_lv [3, 4, 5, 1, 0] rfl ?_
        exact ih7 (k + 1, mo, x) ⟨(by
              try dsimp only
              omega), (by
              try dsimp only
              first | (rw [goF, ← h1, if_neg (by assumption)]; all_goals rfl) | (rw [goF, ← h1, if_pos (by assumption), if_pos (by assumption)]; all_goals rfl) | (rw [goF, ← h1, if_pos (by assumption), if_neg (by assumption)]; all_goals first | exact h1 | exact h2)), (by
              try dsimp only
              first | (rw [goF, ← h1, if_neg (by assumption)]; all_goals rfl) | (rw [goF, ← h1, if_pos (by assumption), if_pos (by assumption)]; all_goals rfl) | (rw [goF, ← h1, if_pos (by assumption), if_neg (by assumption)]; all_goals first | exact h1 | exact h2))⟩ (by
              try dsimp only
              omega)
    · skip
      refine V_iload (pc := 45) X dX5_goal_45 0 rfl ?_
      refine V_istore_n (lv' := [(2, .int ((swe k) - (3 * (aprt (sce k) x)))), (5, .int ((swe k) - (3 * (aprt (sce k) x)))), (0, .ref sq), (1, .int x), (3, .int go), (4, .int (nI k))]) (pc := 47) X dX5_goal_47 rfl (Nat.le_of_ble_eq_true rfl) rfl ?_
      refine V_aload_n (pc := 48) X dX5_goal_48 rfl 2 rfl ?_
      refine V_get (C := RX5) (T := TX5) (N := 3) (ci := 5) (pc := 49) X dX5_goal_49 in5 0 rfl rfl 1 (by decide) (by decide +kernel) rfl rfl ?_
      refine V_iload (pc := 52) X dX5_goal_52 5 rfl ?_
      refine V_iald (v := sce k) (pc := 54) X dX5_goal_54 1 rfl (vp_in_nI (by omega) (by omega)) (by rw [nI_clamp (by omega)]) ?_
      refine V_istore_n (lv' := [(3, .int (sce k)), (2, .int ((swe k) - (3 * (aprt (sce k) x)))), (5, .int ((swe k) - (3 * (aprt (sce k) x)))), (0, .ref sq), (1, .int x), (4, .int (nI k))]) (pc := 55) X dX5_goal_55 rfl (Nat.le_of_ble_eq_true rfl) rfl ?_
      refine V_goto (tgt := 67) (pc := 56) X dX5_goal_56 (by decide) ?_
      refine V_iinc (v := nI (k + 1)) (lv' := [(4, .int (nI (k + 1))), (3, .int (sce k)), (2, .int ((swe k) - (3 * (aprt (sce k) x)))), (5, .int ((swe k) - (3 * (aprt (sce k) x)))), (0, .ref sq), (1, .int x)]) (pc := 67) X dX5_goal_67 5 rfl (nI_add k 1) (Nat.le_of_ble_eq_true rfl) rfl ?_
      refine V_goto (tgt := 7) (pc := 70) X dX5_goal_70 (by decide) ?_
      refine V_lv [4, 5, 2, 1, 0] rfl ?_
      exact ih7 (k + 1, (swe k) - (3 * (aprt (sce k) x)), sce k) ⟨(by
            try dsimp only
            omega), (by
            try dsimp only
            first | (rw [goF, ← h1, if_neg (by assumption)]; all_goals rfl) | (rw [goF, ← h1, if_pos (by assumption), if_pos (by assumption)]; all_goals rfl) | (rw [goF, ← h1, if_pos (by assumption), if_neg (by assumption)]; all_goals first | exact h1 | exact h2)), (by
            try dsimp only
            first | (rw [goF, ← h1, if_neg (by assumption)]; all_goals rfl) | (rw [goF, ← h1, if_pos (by assumption), if_pos (by assumption)]; all_goals rfl) | (rw [goF, ← h1, if_pos (by assumption), if_neg (by assumption)]; all_goals first | exact h1 | exact h2))⟩ (by
            try dsimp only
            omega)
set_option maxHeartbeats 4000000 in
set_option maxRecDepth 100000 in
theorem c_X4_pass (l : Launch) (g : XG) (bq : Nat) (bmq : Nat) (bf : Int64) (bt : Nat) (bz : Int32) (bm : Nat → Int32) (aq : Nat) (akq : Nat) (acq : Nat) (ahq : Nat) (aaq : Nat) (an : Nat) (akd : Nat → Int32) (ace : Nat → Int32) (aho : Nat → Int32) (aac : Nat → Int32) (sq : Nat) (scq : Nat) (swq : Nat) (sn : Nat) (sce : Nat → Int32) (swe : Nat → Int32) (ht : bt ≤ 6) (hn : an ≤ 6) : Ke l g yX4_pass wsX4_pass ({ frames := 2, cells := 0, slots := 0, locals := 48 } : Room) 0 0 [.ref bq, .ref aq, .ref sq] [ob bq 4 [.long bf, .int (nI bt), .int bz, .ref bmq], ai g bmq 6 bm, ob aq 1 [.int (nI an), .ref akq, .ref acq, .ref ahq, .ref aaq], ai g akq 6 akd, ai g acq 6 ace, ai g ahq 6 aho, ai g aaq 6 aac, ob sq 5 [.int (nI sn), .ref scq, .ref swq], ai g scq 6 sce, ai g swq 6 swe] (fun u : Nat × (Nat → Int32) × (Nat → Int32) => some (.int (nI (mvC akd ace aho an bz bm bt)))) (fun u => [ob bq 4 [.long (bf ||| strF akd ace aho an), .int (nI bt), .int (frX bz), .ref bmq], ai g bmq 6 (cpF bm (fun j => mvd akd ace aho an bz (bm j)) bt), ob aq 1 [.int (nI an), .ref akq, .ref acq, .ref ahq, .ref aaq], ai g akq 6 akd, ai g acq 6 ace, ai g ahq 6 aho, ai g aaq 6 aac, ob sq 5 [.int (nI u.1), .ref scq, .ref swq], ai g scq 6 u.2.1, ai g swq 6 u.2.2]) (fun u => True) := by
  refine Ke.of (cc := cX4_pass) (maxL := 7) (ret := (some .int)) (lv := [(0, .ref bq), (1, .ref aq), (2, .ref sq)]) RX4 rfl (by decide) rfl (Nat.le_of_ble_eq_true rfl) rfl ?_
  intro p e s m below meth c A sz hA9 X hr hin2
  have in4 : ∀ w ∈ u_ws RX4 TX4 4, w ∈ wsX4_pass := by decide +kernel
  refine V_aload_n (pc := 0) X dX4_pass_0 rfl 2 rfl ?_
  refine V_aload_n (pc := 1) X dX4_pass_1 rfl 1 rfl ?_
  refine V_ve (pc := 2) (nA := 1) (As := [.ref aq]) (rest := []) X (c_X5_gather l g (sq := sq) (scq := scq) (swq := swq) (sn := sn) (sce := sce) (swe := swe) (aq := aq) (akq := akq) (acq := acq) (ahq := ahq) (aaq := aaq) (an := an) (akd := akd) (ace := ace) (aho := aho) (aac := aac) (hn := by first | assumption | omega)) gX4_pass_X5_gather dX4_pass_2 rfl (by decide +kernel) rfl (qb := 7) rfl rfl rfl ⟨rfl, rfl⟩ ⟨Nat.le_of_ble_eq_true rfl, Nat.le_of_ble_eq_true rfl⟩ ⟨Nat.le_of_ble_eq_true rfl, Nat.le_of_ble_eq_true rfl⟩ [7, 8, 9, 2, 3, 4, 5, 6] (by decide) rfl [0, 1] (by decide) (by decide) [ob bq 4 [.long bf, .int (nI bt), .int bz, .ref bmq], ai g bmq 6 bm] rfl [0, 1, 5, 6, 7, 8, 9, 2, 3, 4] (by decide) (fun u => [ob bq 4 [.long bf, .int (nI bt), .int bz, .ref bmq], ai g bmq 6 bm, ob aq 1 [.int (nI an), .ref akq, .ref acq, .ref ahq, .ref aaq], ai g akq 6 akd, ai g acq 6 ace, ai g ahq 6 aho, ai g aaq 6 aac, ob sq 5 [.int (nI u.1), .ref scq, .ref swq], ai g scq 6 u.2.1, ai g swq 6 u.2.2]) (fun _ => rfl) rfl (Nat.le_of_ble_eq_true rfl) (fun u => []) (fun _ => rfl) (fun u hu_4 => ?_)
  obtain ⟨nn_1, nc_2, nw_3⟩ := u
  try dsimp only at hu_4
  have hsr_5 := hu_4
  refine V_eqw (ws2 := [ob bq 4 [.long bf, .int (nI bt), .int bz, .ref bmq], ai g bmq 6 bm, ob aq 1 [.int (nI an), .ref akq, .ref acq, .ref ahq, .ref aaq], ai g akq 6 akd, ai g acq 6 ace, ai g ahq 6 aho, ai g aaq 6 aac, ob sq 5 [.int (nI nn_1), .ref scq, .ref swq], ai g scq 6 nc_2, ai g swq 6 nw_3]) rfl (V_eqs (st2 := []) rfl ?_)
  refine V_iconst (v := 0) (pc := 5) X dX4_pass_5 (by decide) ?_
  refine V_istore_n (lv' := [(3, .int 0), (0, .ref bq), (1, .ref aq), (2, .ref sq)]) (pc := 6) X dX4_pass_6 rfl (Nat.le_of_ble_eq_true rfl) rfl ?_
  refine V_iconst (v := 0) (pc := 7) X dX4_pass_7 (by decide) ?_
  refine V_istore (lv' := [(4, .int 0), (3, .int 0), (0, .ref bq), (1, .ref aq), (2, .ref sq)]) (pc := 8) X dX4_pass_8 (Nat.le_of_ble_eq_true rfl) rfl ?_
  refine V_loop (pc := 10) (σ := Nat × Nat × (Nat → Int32)) (fun v9 => [(0, .ref bq), (1, .ref aq), (2, .ref sq), (3, .int (nI v9.2.1)), (4, .int (nI v9.1))]) (fun v9 => [ob bq 4 [.long bf, .int (nI bt), .int bz, .ref bmq], ai g bmq 6 v9.2.2, ob aq 1 [.int (nI an), .ref akq, .ref acq, .ref ahq, .ref aaq], ai g akq 6 akd, ai g acq 6 ace, ai g ahq 6 aho, ai g aaq 6 aac, ob sq 5 [.int (nI nn_1), .ref scq, .ref swq], ai g scq 6 nc_2, ai g swq 6 nw_3]) (fun v9 => (v9.1 ≤ bt) ∧ (¬ bz = 0 → v9.1 = 0) ∧ (v9.2.1 = mvC akd ace aho an bz bm v9.1) ∧ (v9.2.2 = cpF bm (fun j => mvd akd ace aho an bz (bm j)) v9.1)) (fun v9 => bt - v9.1) (0, 0, bm) ⟨(by
        try dsimp only
        omega), (by
        try dsimp only
        exact fun _ => rfl), (by
        try dsimp only
        rfl), (by
        try dsimp only
        exact cpF_0 _ _)⟩ rfl [2, 3, 4, 1, 0] rfl ?_
  rintro ⟨k, n, z⟩ ⟨hk, h0, hn2, hz⟩ ih10
  try dsimp only at hk
  try dsimp only at h0
  try dsimp only at hn2
  try dsimp only at hz
  refine V_eqw (ws2 := [ob bq 4 [.long bf, .int (nI bt), .int bz, .ref bmq], ai g bmq 6 z, ob aq 1 [.int (nI an), .ref akq, .ref acq, .ref ahq, .ref aaq], ai g akq 6 akd, ai g acq 6 ace, ai g ahq 6 aho, ai g aaq 6 aac, ob sq 5 [.int (nI nn_1), .ref scq, .ref swq], ai g scq 6 nc_2, ai g swq 6 nw_3]) rfl (V_eql (lv' := [(0, .ref bq), (1, .ref aq), (2, .ref sq), (3, .int (nI n)), (4, .int (nI k))]) rfl ?_)
  refine V_iload (pc := 10) X dX4_pass_10 4 rfl ?_
  refine V_aload_n (pc := 12) X dX4_pass_12 rfl 0 rfl ?_
  refine V_get (C := RX4) (T := TX4) (N := 4) (ci := 4) (pc := 13) X dX4_pass_13 in4 0 rfl rfl 1 (by decide) (by decide +kernel) rfl rfl ?_
  refine V_icmp_ge (tgt := 73) (pc := 16) X dX4_pass_16 (by decide) (fun c_6 => ?_) (fun c_6 => ?_)
  · skip
    have n_7 : bt ≤ k := nJ_le (a := bt) (b := k) (by omega) (by omega) c_6
    refine V_aload_n (pc := 73) X dX4_pass_73 rfl 0 rfl ?_
    refine V_dup (pc := 74) X dX4_pass_74 rfl ?_
    refine V_get (C := RX4) (T := TX4) (N := 4) (ci := 4) (pc := 75) X dX4_pass_75 in4 0 rfl rfl 0 (by decide) (by decide +kernel) rfl rfl ?_
    refine V_aload_n (pc := 78) X dX4_pass_78 rfl 1 rfl ?_
    refine V_vg (pc := 79) (nA := 0) (As := []) (rest := [.long bf, .ref bq]) X (c_X1_strangerCells l g (aq := aq) (akq := akq) (acq := acq) (ahq := ahq) (aaq := aaq) (an := an) (akd := akd) (ace := ace) (aho := aho) (aac := aac) (hn := by first | assumption | omega)) gX4_pass_X1_strangerCells dX4_pass_79 rfl (by decide +kernel) rfl (qb := 2) rfl rfl rfl ⟨rfl, rfl⟩ ⟨Nat.le_of_ble_eq_true rfl, Nat.le_of_ble_eq_true rfl⟩ ⟨Nat.le_of_ble_eq_true rfl, Nat.le_of_ble_eq_true rfl⟩ [2, 3, 4, 5, 6] (by decide) rfl rfl (Nat.le_of_ble_eq_true rfl) (st' := [.long (strF akd ace aho an), .long bf, .ref bq]) rfl ?_
    refine V_lor (pc := 82) X dX4_pass_82 ?_
    refine V_put (C := RX4) (T := TX4) (N := 4) (ci := 4) (ws' := [ob bq 4 [.long (bf ||| (strF akd ace aho an)), .int (nI bt), .int bz, .ref bmq], ai g bmq 6 z, ob aq 1 [.int (nI an), .ref akq, .ref acq, .ref ahq, .ref aaq], ai g akq 6 akd, ai g acq 6 ace, ai g ahq 6 aho, ai g aaq 6 aac, ob sq 5 [.int (nI nn_1), .ref scq, .ref swq], ai g scq 6 nc_2, ai g swq 6 nw_3]) (pc := 83) X dX4_pass_83 in4 tyX4 tyX4_ok nmX4 0 rfl rfl 0 (by decide) (by decide +kernel) rfl rfl rfl rfl rfl (Nat.le_of_ble_eq_true rfl) rfl ?_
    refine V_aload_n (pc := 86) X dX4_pass_86 rfl 0 rfl ?_
    refine V_aload_n (pc := 87) X dX4_pass_87 rfl 0 rfl ?_
    refine V_get (C := RX4) (T := TX4) (N := 4) (ci := 4) (pc := 88) X dX4_pass_88 in4 0 rfl rfl 2 (by decide) (by decide +kernel) rfl rfl ?_
    refine V_iconst (v := 1) (pc := 91) X dX4_pass_91 (by decide) ?_
    refine V_isub (pc := 92) X dX4_pass_92 ?_
    refine V_iconst (v := 0) (pc := 93) X dX4_pass_93 (by decide) ?_
    refine V_mmax (pc := 94) X dX4_pass_94 (by decide +kernel) (by decide +kernel) (by decide +kernel) (by decide +kernel) (Nat.le_of_ble_eq_true rfl) (Nat.le_of_ble_eq_true rfl) (Nat.zero_le _) (Nat.zero_le _) ?_
    refine V_put (C := RX4) (T := TX4) (N := 4) (ci := 4) (ws' := [ob bq 4 [.long (bf ||| (strF akd ace aho an)), .int (nI bt), .int (if (bz - 1) < 0 then 0 else (bz - 1)), .ref bmq], ai g bmq 6 z, ob aq 1 [.int (nI an), .ref akq, .ref acq, .ref ahq, .ref aaq], ai g akq 6 akd, ai g acq 6 ace, ai g ahq 6 aho, ai g aaq 6 aac, ob sq 5 [.int (nI nn_1), .ref scq, .ref swq], ai g scq 6 nc_2, ai g swq 6 nw_3]) (pc := 97) X dX4_pass_97 in4 tyX4 tyX4_ok nmX4 0 rfl rfl 2 (by decide) (by decide +kernel) rfl rfl rfl rfl rfl (Nat.le_of_ble_eq_true rfl) rfl ?_
    refine V_iload_n (pc := 100) X dX4_pass_100 rfl 3 rfl ?_
    exact Ve_iret (pc := 101) X hA9 dX4_pass_101 hr (nn_1, nc_2, nw_3) (by first | (rw [hn2, show k = bt by omega]; done) | (rw [hn2, h0 (by assumption), mvC_fr (by assumption), mvC_fr (by assumption)]; done)) trivial (by first | (rw [hz, show k = bt by omega]; rfl) | (rw [hz, cpF_id (fun j => mvd_fr (by assumption)), cpF_id (fun j => mvd_fr (by assumption))]; rfl))
  · skip
    have n_8 : k < bt := nJ_nle (a := bt) (b := k) (by omega) (by omega) c_6
    refine V_aload_n (pc := 19) X dX4_pass_19 rfl 0 rfl ?_
    refine V_get (C := RX4) (T := TX4) (N := 4) (ci := 4) (pc := 20) X dX4_pass_20 in4 0 rfl rfl 2 (by decide) (by decide +kernel) rfl rfl ?_
    refine V_if_ne (tgt := 73) (pc := 23) X dX4_pass_23 (by decide) (fun c_9 => ?_) (fun c_9 => ?_)
    · skip
      refine V_aload_n (pc := 73) X dX4_pass_73 rfl 0 rfl ?_
      refine V_dup (pc := 74) X dX4_pass_74 rfl ?_
      refine V_get (C := RX4) (T := TX4) (N := 4) (ci := 4) (pc := 75) X dX4_pass_75 in4 0 rfl rfl 0 (by decide) (by decide +kernel) rfl rfl ?_
      refine V_aload_n (pc := 78) X dX4_pass_78 rfl 1 rfl ?_
      refine V_vg (pc := 79) (nA := 0) (As := []) (rest := [.long bf, .ref bq]) X (c_X1_strangerCells l g (aq := aq) (akq := akq) (acq := acq) (ahq := ahq) (aaq := aaq) (an := an) (akd := akd) (ace := ace) (aho := aho) (aac := aac) (hn := by first | assumption | omega)) gX4_pass_X1_strangerCells dX4_pass_79 rfl (by decide +kernel) rfl (qb := 2) rfl rfl rfl ⟨rfl, rfl⟩ ⟨Nat.le_of_ble_eq_true rfl, Nat.le_of_ble_eq_true rfl⟩ ⟨Nat.le_of_ble_eq_true rfl, Nat.le_of_ble_eq_true rfl⟩ [2, 3, 4, 5, 6] (by decide) rfl rfl (Nat.le_of_ble_eq_true rfl) (st' := [.long (strF akd ace aho an), .long bf, .ref bq]) rfl ?_
      refine V_lor (pc := 82) X dX4_pass_82 ?_
      refine V_put (C := RX4) (T := TX4) (N := 4) (ci := 4) (ws' := [ob bq 4 [.long (bf ||| (strF akd ace aho an)), .int (nI bt), .int bz, .ref bmq], ai g bmq 6 z, ob aq 1 [.int (nI an), .ref akq, .ref acq, .ref ahq, .ref aaq], ai g akq 6 akd, ai g acq 6 ace, ai g ahq 6 aho, ai g aaq 6 aac, ob sq 5 [.int (nI nn_1), .ref scq, .ref swq], ai g scq 6 nc_2, ai g swq 6 nw_3]) (pc := 83) X dX4_pass_83 in4 tyX4 tyX4_ok nmX4 0 rfl rfl 0 (by decide) (by decide +kernel) rfl rfl rfl rfl rfl (Nat.le_of_ble_eq_true rfl) rfl ?_
      refine V_aload_n (pc := 86) X dX4_pass_86 rfl 0 rfl ?_
      refine V_aload_n (pc := 87) X dX4_pass_87 rfl 0 rfl ?_
      refine V_get (C := RX4) (T := TX4) (N := 4) (ci := 4) (pc := 88) X dX4_pass_88 in4 0 rfl rfl 2 (by decide) (by decide +kernel) rfl rfl ?_
      refine V_iconst (v := 1) (pc := 91) X dX4_pass_91 (by decide) ?_
      refine V_isub (pc := 92) X dX4_pass_92 ?_
      refine V_iconst (v := 0) (pc := 93) X dX4_pass_93 (by decide) ?_
      refine V_mmax (pc := 94) X dX4_pass_94 (by decide +kernel) (by decide +kernel) (by decide +kernel) (by decide +kernel) (Nat.le_of_ble_eq_true rfl) (Nat.le_of_ble_eq_true rfl) (Nat.zero_le _) (Nat.zero_le _) ?_
      refine V_put (C := RX4) (T := TX4) (N := 4) (ci := 4) (ws' := [ob bq 4 [.long (bf ||| (strF akd ace aho an)), .int (nI bt), .int (if (bz - 1) < 0 then 0 else (bz - 1)), .ref bmq], ai g bmq 6 z, ob aq 1 [.int (nI an), .ref akq, .ref acq, .ref ahq, .ref aaq], ai g akq 6 akd, ai g acq 6 ace, ai g ahq 6 aho, ai g aaq 6 aac, ob sq 5 [.int (nI nn_1), .ref scq, .ref swq], ai g scq 6 nc_2, ai g swq 6 nw_3]) (pc := 97) X dX4_pass_97 in4 tyX4 tyX4_ok nmX4 0 rfl rfl 2 (by decide) (by decide +kernel) rfl rfl rfl rfl rfl (Nat.le_of_ble_eq_true rfl) rfl ?_
      refine V_iload_n (pc := 100) X dX4_pass_100 rfl 3 rfl ?_
      exact Ve_iret (pc := 101) X hA9 dX4_pass_101 hr (nn_1, nc_2, nw_3) (by first | (rw [hn2, show k = bt by omega]; done) | (rw [hn2, h0 (by assumption), mvC_fr (by assumption), mvC_fr (by assumption)]; done)) trivial (by first | (rw [hz, show k = bt by omega]; rfl) | (rw [hz, cpF_id (fun j => mvd_fr (by assumption)), cpF_id (fun j => mvd_fr (by assumption))]; rfl))
    · skip
      refine V_aload_n (pc := 26) X dX4_pass_26 rfl 0 rfl ?_
      refine V_get (C := RX4) (T := TX4) (N := 4) (ci := 4) (pc := 27) X dX4_pass_27 in4 0 rfl rfl 3 (by decide) (by decide +kernel) rfl rfl ?_
      refine V_iload (pc := 30) X dX4_pass_30 4 rfl ?_
      refine V_iald (v := z k) (pc := 32) X dX4_pass_32 1 rfl (vp_in_nI (by omega) (by omega)) (by rw [nI_clamp (by omega)]) ?_
      refine V_seti (y := bm k) (by rw [hz]; exact cpF_at k) ?_
      refine V_istore (lv' := [(5, .int (bm k)), (0, .ref bq), (1, .ref aq), (2, .ref sq), (3, .int (nI n)), (4, .int (nI k))]) (pc := 33) X dX4_pass_33 (Nat.le_of_ble_eq_true rfl) rfl ?_
      refine V_aload_n (pc := 35) X dX4_pass_35 rfl 3 rfl ?_
      refine V_iload (pc := 36) X dX4_pass_36 0 rfl ?_
      refine V_vg (pc := 38) (nA := 1) (As := [.int (bm k)]) (rest := []) X (c_X5_goal l g (sq := sq) (scq := scq) (swq := swq) (sn := nn_1) (sce := nc_2) (swe := nw_3) (x := bm k) (hn := by (have := (hsr_5).1; omega))) gX4_pass_X5_goal dX4_pass_38 rfl (by decide +kernel) rfl (qb := 7) rfl rfl rfl ⟨rfl, rfl⟩ ⟨Nat.le_of_ble_eq_true rfl, Nat.le_of_ble_eq_true rfl⟩ ⟨Nat.le_of_ble_eq_true rfl, Nat.le_of_ble_eq_true rfl⟩ [7, 8, 9] (by decide) rfl rfl (Nat.le_of_ble_eq_true rfl) (st' := [.int ((goF nc_2 nw_3 (bm k) nn_1).2)]) rfl ?_
      refine V_seti (y := gl akd ace aho an (bm k)) (goF_gl hsr_5 _) ?_
      refine V_istore (lv' := [(6, .int (gl akd ace aho an (bm k))), (5, .int (bm k)), (0, .ref bq), (1, .ref aq), (2, .ref sq), (3, .int (nI n)), (4, .int (nI k))]) (pc := 41) X dX4_pass_41 (Nat.le_of_ble_eq_true rfl) rfl ?_
      refine V_iload (pc := 43) X dX4_pass_43 0 rfl ?_
      refine V_iload (pc := 45) X dX4_pass_45 1 rfl ?_
      refine V_icmp_eq (tgt := 67) (pc := 47) X dX4_pass_47 (by decide) (fun c_10 => ?_) (fun c_10 => ?_)
      · skip
        refine V_iinc (v := nI (k + 1)) (lv' := [(4, .int (nI (k + 1))), (6, .int (gl akd ace aho an (bm k))), (5, .int (bm k)), (0, .ref bq), (1, .ref aq), (2, .ref sq), (3, .int (nI n))]) (pc := 67) X dX4_pass_67 6 rfl (nI_add k 1) (Nat.le_of_ble_eq_true rfl) rfl ?_
        refine V_goto (tgt := 10) (pc := 70) X dX4_pass_70 (by decide) ?_
        refine V_lv [3, 4, 5, 6, 0] rfl ?_
        exact ih10 (k + 1, n, z) ⟨(by
              try dsimp only
              omega), (by
              try dsimp only
              exact fun q => absurd (by assumption) q), (by
              try dsimp only
              first | exact hn2.trans (mvC_k (by assumption)) | exact (congrArg (· + 1) hn2).trans (mvC_s (by assumption) (by assumption))), (by
              try dsimp only
              first | exact hz.trans (cpF_keep (mvd_id (by assumption))) | (rw [hz]; exact cpF_put (mvd_go (by assumption) (by assumption)).symm))⟩ (by
              try dsimp only
              omega)
      · skip
        refine V_aload_n (pc := 50) X dX4_pass_50 rfl 2 rfl ?_
        refine V_get (C := RX4) (T := TX4) (N := 4) (ci := 4) (pc := 51) X dX4_pass_51 in4 0 rfl rfl 3 (by decide) (by decide +kernel) rfl rfl ?_
        refine V_iload (pc := 54) X dX4_pass_54 6 rfl ?_
        refine V_iload (pc := 56) X dX4_pass_56 1 rfl ?_
        refine V_iload (pc := 58) X dX4_pass_58 0 rfl ?_
        refine V_sg (pc := 60) (nA := 2) (As := [.int (bm k), .int (gl akd ace aho an (bm k))]) (rest := [.int (nI k), .ref bmq]) X (c_X4_oneCell l g (x := bm k) (y := gl akd ace aho an (bm k)) ) gX4_pass_X4_oneCell dX4_pass_60 rfl (by decide +kernel) rfl ⟨rfl, rfl⟩ ⟨Nat.le_of_ble_eq_true rfl, Nat.le_of_ble_eq_true rfl⟩ ⟨Nat.le_of_ble_eq_true rfl, Nat.le_of_ble_eq_true rfl⟩ [] (by decide) rfl rfl (Nat.le_of_ble_eq_true rfl) (st' := [.int (ocl (bm k) (gl akd ace aho an (bm k))), .int (nI k), .ref bmq]) rfl ?_
        refine V_iast (f' := upd z k (ocl (bm k) (gl akd ace aho an (bm k)))) (ws' := [ob bq 4 [.long bf, .int (nI bt), .int bz, .ref bmq], ai g bmq 6 (upd z k (ocl (bm k) (gl akd ace aho an (bm k)))), ob aq 1 [.int (nI an), .ref akq, .ref acq, .ref ahq, .ref aaq], ai g akq 6 akd, ai g acq 6 ace, ai g ahq 6 aho, ai g aaq 6 aac, ob sq 5 [.int (nI nn_1), .ref scq, .ref swq], ai g scq 6 nc_2, ai g swq 6 nw_3]) (pc := 63) X dX4_pass_63 1 rfl (vp_in_nI (by omega) (by omega)) (by rw [nI_clamp (by omega)]) rfl ?_
        refine V_iinc (v := nI (n + 1)) (lv' := [(3, .int (nI (n + 1))), (6, .int (gl akd ace aho an (bm k))), (5, .int (bm k)), (0, .ref bq), (1, .ref aq), (2, .ref sq), (4, .int (nI k))]) (pc := 64) X dX4_pass_64 5 rfl (nI_add n 1) (Nat.le_of_ble_eq_true rfl) rfl ?_
        refine V_iinc (v := nI (k + 1)) (lv' := [(4, .int (nI (k + 1))), (3, .int (nI (n + 1))), (6, .int (gl akd ace aho an (bm k))), (5, .int (bm k)), (0, .ref bq), (1, .ref aq), (2, .ref sq)]) (pc := 67) X dX4_pass_67 6 rfl (nI_add k 1) (Nat.le_of_ble_eq_true rfl) rfl ?_
        refine V_goto (tgt := 10) (pc := 70) X dX4_pass_70 (by decide) ?_
        refine V_lv [4, 5, 6, 1, 0] rfl ?_
        exact ih10 (k + 1, n + 1, upd z k (ocl (bm k) (gl akd ace aho an (bm k)))) ⟨(by
              try dsimp only
              omega), (by
              try dsimp only
              exact fun q => absurd (by assumption) q), (by
              try dsimp only
              first | exact hn2.trans (mvC_k (by assumption)) | exact (congrArg (· + 1) hn2).trans (mvC_s (by assumption) (by assumption))), (by
              try dsimp only
              first | exact hz.trans (cpF_keep (mvd_id (by assumption))) | (rw [hz]; exact cpF_put (mvd_go (by assumption) (by assumption)).symm))⟩ (by
              try dsimp only
              omega)
