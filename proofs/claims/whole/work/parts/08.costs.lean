set_option maxHeartbeats 4000000 in
set_option maxRecDepth 100000 in
theorem c_X6_start (l : Launch) (g : XG) (hq : Nat) (hiq : Nat) (hh : Bool) (hl : Int32) (hn : Nat) (hi : Nat → Int64) (x : Int32) (n : Nat) (hn9 : n ≤ 16) : Ke l g yX6_start wsX6_start ({ frames := 0, cells := 0, slots := 0, locals := 0 } : Room) 0 0 [.ref hq, .int x, .int (nI n)] [ob hq 6 [.int (bI hh), .int hl, .int (nI hn), .ref hiq], al g hiq 16 hi] (fun u : Unit => none) (fun u => [ob hq 6 [.int 1, .int x, .int (nI n), .ref hiq], al g hiq 16 (cpF hi (fun _ => 0) n)]) (fun u => True) := by
  refine Ke.of (cc := cX6_start) (maxL := 4) (ret := none) (lv := [(0, .ref hq), (1, .int x), (2, .int (nI n))]) RX6 rfl (by decide) rfl (Nat.le_of_ble_eq_true rfl) rfl ?_
  intro p e s m below meth c A sz hA9 X hr hin2
  have in6 : ∀ w ∈ u_ws RX6 TX6 4, w ∈ wsX6_start := by decide +kernel
  refine V_aload_n (pc := 0) X dX6_start_0 rfl 0 rfl ?_
  refine V_iconst (v := 1) (pc := 1) X dX6_start_1 (by decide) ?_
  refine V_put (C := RX6) (T := TX6) (N := 4) (ci := 6) (ws' := [ob hq 6 [.int 1, .int hl, .int (nI hn), .ref hiq], al g hiq 16 hi]) (pc := 2) X dX6_start_2 in6 tyX6 tyX6_ok nmX6 0 rfl rfl 0 (by decide) (by decide +kernel) rfl rfl rfl rfl rfl (Nat.le_of_ble_eq_true rfl) rfl ?_
  refine V_aload_n (pc := 5) X dX6_start_5 rfl 0 rfl ?_
  refine V_iload_n (pc := 6) X dX6_start_6 rfl 1 rfl ?_
  refine V_put (C := RX6) (T := TX6) (N := 4) (ci := 6) (ws' := [ob hq 6 [.int 1, .int x, .int (nI hn), .ref hiq], al g hiq 16 hi]) (pc := 7) X dX6_start_7 in6 tyX6 tyX6_ok nmX6 0 rfl rfl 1 (by decide) (by decide +kernel) rfl rfl rfl rfl rfl (Nat.le_of_ble_eq_true rfl) rfl ?_
  refine V_aload_n (pc := 10) X dX6_start_10 rfl 0 rfl ?_
  refine V_iload_n (pc := 11) X dX6_start_11 rfl 2 rfl ?_
  refine V_put (C := RX6) (T := TX6) (N := 4) (ci := 6) (ws' := [ob hq 6 [.int 1, .int x, .int (nI n), .ref hiq], al g hiq 16 hi]) (pc := 12) X dX6_start_12 in6 tyX6 tyX6_ok nmX6 0 rfl rfl 2 (by decide) (by decide +kernel) rfl rfl rfl rfl rfl (Nat.le_of_ble_eq_true rfl) rfl ?_
  refine V_iconst (v := 0) (pc := 15) X dX6_start_15 (by decide) ?_
  refine V_istore_n (lv' := [(3, .int 0), (0, .ref hq), (1, .int x), (2, .int (nI n))]) (pc := 16) X dX6_start_16 rfl (Nat.le_of_ble_eq_true rfl) rfl ?_
  refine V_loop (pc := 17) (σ := Nat × (Nat → Int64)) (fun v9 => [(0, .ref hq), (2, .int (nI n)), (3, .int (nI v9.1))]) (fun v9 => [ob hq 6 [.int 1, .int x, .int (nI n), .ref hiq], al g hiq 16 v9.2]) (fun v9 => (v9.1 ≤ n) ∧ (v9.2 = cpF hi (fun _ => 0) v9.1)) (fun v9 => n - v9.1) (0, hi) ⟨(by
        try dsimp only
        all_goals omega), (by
        try dsimp only
        exact cpF_0 _ _)⟩ rfl [1, 3, 0] rfl ?_
  rintro ⟨k, z⟩ ⟨hk, hz⟩ ih17
  try dsimp only at hk
  try dsimp only at hz
  refine V_eqw (ws2 := [ob hq 6 [.int 1, .int x, .int (nI n), .ref hiq], al g hiq 16 z]) rfl (V_eql (lv' := [(0, .ref hq), (2, .int (nI n)), (3, .int (nI k))]) rfl ?_)
  refine V_iload_n (pc := 17) X dX6_start_17 rfl 2 rfl ?_
  refine V_iload_n (pc := 18) X dX6_start_18 rfl 1 rfl ?_
  refine V_icmp_ge (tgt := 35) (pc := 19) X dX6_start_19 (by decide) (fun c_1 => ?_) (fun c_1 => ?_)
  · skip
    have n_2 : n ≤ k := nJ_le (a := n) (b := k) (by omega) (by omega) c_1
    exact Ve_vret (pc := 35) X hA9 dX6_start_35 hr () rfl trivial (by rw [hz, show k = n by omega])
  · skip
    have n_3 : k < n := nJ_nle (a := n) (b := k) (by omega) (by omega) c_1
    refine V_aload_n (pc := 22) X dX6_start_22 rfl 0 rfl ?_
    refine V_get (C := RX6) (T := TX6) (N := 4) (ci := 6) (pc := 23) X dX6_start_23 in6 0 rfl rfl 3 (by decide) (by decide +kernel) rfl rfl ?_
    refine V_iload_n (pc := 26) X dX6_start_26 rfl 2 rfl ?_
    refine V_lconst (v := 0) (pc := 27) X dX6_start_27 (by decide) ?_
    refine V_last (f' := vp_updL z k 0) (ws' := [ob hq 6 [.int 1, .int x, .int (nI n), .ref hiq], al g hiq 16 (vp_updL z k 0)]) (pc := 28) X dX6_start_28 1 rfl (vp_in_nI (by omega) (by omega)) (by rw [nI_clamp (by omega)]) rfl ?_
    refine V_iinc (v := nI (k + 1)) (lv' := [(3, .int (nI (k + 1))), (0, .ref hq), (2, .int (nI n))]) (pc := 29) X dX6_start_29 2 rfl (nI_add k 1) (Nat.le_of_ble_eq_true rfl) rfl ?_
    refine V_goto (tgt := 17) (pc := 32) X dX6_start_32 (by decide) ?_
    refine V_lv [1, 2, 0] rfl ?_
    exact ih17 (k + 1, vp_updL z k 0) ⟨(by
          try dsimp only
          all_goals omega), (by
          try dsimp only
          rw [hz]; exact cpF_sL hi (fun _ => 0) k)⟩ (by
          try dsimp only
          all_goals omega)
set_option maxHeartbeats 4000000 in
set_option maxRecDepth 100000 in
theorem c_X6_spans (l : Launch) (g : XG) (hq : Nat) (hiq : Nat) (hh : Bool) (hl : Int32) (hn : Nat) (hi : Nat → Int64) (x : Int32) (y : Int32)  : Kg l g yX6_spans wsX6_spans ({ frames := 0, cells := 0, slots := 0, locals := 0 } : Room) [.ref hq, .int x, .int y] [ob hq 6 [.int (bI hh), .int hl, .int (nI hn), .ref hiq], al g hiq 16 hi] (some (.int (bI (spn x y hn)))) := by
  refine Kg.of (cc := cX6_spans) (maxL := 3) (ret := (some .boolean)) (lv := [(0, .ref hq), (1, .int x), (2, .int y)]) RX6 rfl (by decide) rfl (Nat.le_of_ble_eq_true rfl) rfl ?_
  intro p e s m below meth c A X hr
  have in6 : ∀ w ∈ u_ws RX6 TX6 4, w ∈ wsX6_spans := by decide +kernel
  refine V_iload_n (pc := 0) X dX6_spans_0 rfl 1 rfl ?_
  refine V_if_lt (tgt := 30) (pc := 1) X dX6_spans_1 (by decide) (fun c_1 => ?_) (fun c_1 => ?_)
  · skip
    refine V_iconst (v := 0) (pc := 30) X dX6_spans_30 (by decide) ?_
    exact Vg_zret (pc := 31) X dX6_spans_31 hr (by first | rfl | (simp [bI, spn, c_1]; done) | (simp_all [bI, Int32.not_le, Int32.not_lt, spn]; done)) rfl
  · skip
    refine V_iload_n (pc := 4) X dX6_spans_4 rfl 2 rfl ?_
    refine V_if_lt (tgt := 30) (pc := 5) X dX6_spans_5 (by decide) (fun c_2 => ?_) (fun c_2 => ?_)
    · skip
      refine V_iconst (v := 0) (pc := 30) X dX6_spans_30 (by decide) ?_
      exact Vg_zret (pc := 31) X dX6_spans_31 hr (by first | rfl | (simp [bI, spn, c_1, c_2]; done) | (simp_all [bI, Int32.not_le, Int32.not_lt, spn]; done)) rfl
    · skip
      refine V_iload_n (pc := 8) X dX6_spans_8 rfl 1 rfl ?_
      refine V_aload_n (pc := 9) X dX6_spans_9 rfl 0 rfl ?_
      refine V_get (C := RX6) (T := TX6) (N := 4) (ci := 6) (pc := 10) X dX6_spans_10 in6 0 rfl rfl 2 (by decide) (by decide +kernel) rfl rfl ?_
      refine V_icmp_gt (tgt := 30) (pc := 13) X dX6_spans_13 (by decide) (fun c_3 => ?_) (fun c_3 => ?_)
      · skip
        refine V_iconst (v := 0) (pc := 30) X dX6_spans_30 (by decide) ?_
        exact Vg_zret (pc := 31) X dX6_spans_31 hr (by first | rfl | (simp [bI, spn, c_1, c_2, c_3]; done) | (simp_all [bI, Int32.not_le, Int32.not_lt, spn]; done)) rfl
      · skip
        refine V_iload_n (pc := 16) X dX6_spans_16 rfl 2 rfl ?_
        refine V_aload_n (pc := 17) X dX6_spans_17 rfl 0 rfl ?_
        refine V_get (C := RX6) (T := TX6) (N := 4) (ci := 6) (pc := 18) X dX6_spans_18 in6 0 rfl rfl 2 (by decide) (by decide +kernel) rfl rfl ?_
        refine V_iload_n (pc := 21) X dX6_spans_21 rfl 1 rfl ?_
        refine V_isub (pc := 22) X dX6_spans_22 ?_
        refine V_icmp_gt (tgt := 30) (pc := 23) X dX6_spans_23 (by decide) (fun c_4 => ?_) (fun c_4 => ?_)
        · skip
          refine V_iconst (v := 0) (pc := 30) X dX6_spans_30 (by decide) ?_
          exact Vg_zret (pc := 31) X dX6_spans_31 hr (by first | rfl | (simp [bI, spn, c_1, c_2, c_3, c_4]; done) | (simp_all [bI, Int32.not_le, Int32.not_lt, spn]; done)) rfl
        · skip
          refine V_iconst (v := 1) (pc := 26) X dX6_spans_26 (by decide) ?_
          refine V_goto (tgt := 31) (pc := 27) X dX6_spans_27 (by decide) ?_
          exact Vg_zret (pc := 31) X dX6_spans_31 hr (by first | rfl | (simp [bI, spn, c_1, c_2, c_3, c_4]; done) | (simp_all [bI, Int32.not_le, Int32.not_lt, spn]; done)) rfl
set_option maxHeartbeats 4000000 in
set_option maxRecDepth 100000 in
theorem c_X6_refusal (l : Launch) (g : XG) (hq : Nat) (hiq : Nat) (hh : Bool) (hl : Int32) (hn : Nat) (hi : Nat → Int64) (x : Int32) (y : Int32) (w : Int32)  : Kg l g yX6_refusal wsX6_refusal ({ frames := 1, cells := 0, slots := 0, locals := 22 } : Room) [.ref hq, .int x, .int y, .int w] [ob hq 6 [.int (bI hh), .int hl, .int (nI hn), .ref hiq], al g hiq 16 hi] (some (.int (rfs hh hl hn x y w))) := by
  refine Kg.of (cc := cX6_refusal) (maxL := 4) (ret := (some .int)) (lv := [(0, .ref hq), (1, .int x), (2, .int y), (3, .int w)]) RX6 rfl (by decide) rfl (Nat.le_of_ble_eq_true rfl) rfl ?_
  intro p e s m below meth c A X hr
  have in6 : ∀ w ∈ u_ws RX6 TX6 4, w ∈ wsX6_refusal := by decide +kernel
  refine V_aload_n (pc := 0) X dX6_refusal_0 rfl 0 rfl ?_
  refine V_get (C := RX6) (T := TX6) (N := 4) (ci := 6) (pc := 1) X dX6_refusal_1 in6 0 rfl rfl 0 (by decide) (by decide +kernel) rfl rfl ?_
  refine V_if_ne (tgt := 10) (pc := 4) X dX6_refusal_4 (by decide) (fun c_1 => ?_) (fun c_1 => ?_)
  · skip
    have b_2 : hh = true := bI1 c_1
    refine V_aload_n (pc := 10) X dX6_refusal_10 rfl 0 rfl ?_
    refine V_get (C := RX6) (T := TX6) (N := 4) (ci := 6) (pc := 11) X dX6_refusal_11 in6 0 rfl rfl 1 (by decide) (by decide +kernel) rfl rfl ?_
    refine V_iload_n (pc := 14) X dX6_refusal_14 rfl 1 rfl ?_
    refine V_icmp_eq (tgt := 21) (pc := 15) X dX6_refusal_15 (by decide) (fun c_3 => ?_) (fun c_3 => ?_)
    · skip
      refine V_aload_n (pc := 21) X dX6_refusal_21 rfl 0 rfl ?_
      refine V_iload_n (pc := 22) X dX6_refusal_22 rfl 2 rfl ?_
      refine V_iload_n (pc := 23) X dX6_refusal_23 rfl 3 rfl ?_
      refine V_vg (pc := 24) (nA := 2) (As := [.int y, .int w]) (rest := []) X (c_X6_spans l g (hq := hq) (hiq := hiq) (hh := hh) (hl := hl) (hn := hn) (hi := hi) (x := y) (y := w) ) gX6_refusal_X6_spans dX6_refusal_24 rfl (by decide +kernel) rfl (qb := 0) rfl rfl rfl ⟨rfl, rfl⟩ ⟨Nat.le_of_ble_eq_true rfl, Nat.le_of_ble_eq_true rfl⟩ ⟨Nat.le_of_ble_eq_true rfl, Nat.le_of_ble_eq_true rfl⟩ [0, 1] (by decide) rfl rfl (Nat.le_of_ble_eq_true rfl) (st' := [.int (bI (spn y w hn))]) rfl ?_
      refine V_if_eq (tgt := 34) (pc := 27) X dX6_refusal_27 (by decide) (fun c_4 => ?_) (fun c_4 => ?_)
      · skip
        have b_5 : spn y w hn = false := bI0 c_4
        refine V_bipush (v := (-13)) (pc := 34) X dX6_refusal_34 (by decide) ?_
        exact Vg_iret (pc := 36) X dX6_refusal_36 hr (by first | rfl | (simp [bI, rfs, b_2, c_3, b_5]; done) | (simp_all [bI, Int32.not_le, Int32.not_lt, rfs]; done))
      · skip
        have b_6 : spn y w hn = true := bI1 c_4
        refine V_iconst (v := 0) (pc := 30) X dX6_refusal_30 (by decide) ?_
        refine V_goto (tgt := 36) (pc := 31) X dX6_refusal_31 (by decide) ?_
        exact Vg_iret (pc := 36) X dX6_refusal_36 hr (by first | rfl | (simp [bI, rfs, b_2, c_3, b_6]; done) | (simp_all [bI, Int32.not_le, Int32.not_lt, rfs]; done))
    · skip
      refine V_bipush (v := (-12)) (pc := 18) X dX6_refusal_18 (by decide) ?_
      exact Vg_iret (pc := 20) X dX6_refusal_20 hr (by first | rfl | (simp [bI, rfs, b_2, c_3]; done) | (simp_all [bI, Int32.not_le, Int32.not_lt, rfs]; done))
  · skip
    have b_7 : hh = false := bI0 c_1
    refine V_bipush (v := (-11)) (pc := 7) X dX6_refusal_7 (by decide) ?_
    exact Vg_iret (pc := 9) X dX6_refusal_9 hr (by first | rfl | (simp [bI, rfs, b_7]; done) | (simp_all [bI, Int32.not_le, Int32.not_lt, rfs]; done))
set_option maxHeartbeats 4000000 in
set_option maxRecDepth 100000 in
theorem c_X6_put (l : Launch) (g : XG) (hq : Nat) (hiq : Nat) (hh : Bool) (hl : Int32) (hn : Nat) (hi : Nat → Int64) (x : Int32) (v : Int64) (hx : vp_in x 16) : Ke l g yX6_put wsX6_put ({ frames := 0, cells := 0, slots := 0, locals := 0 } : Room) 0 0 [.ref hq, .int x, .long v] [ob hq 6 [.int (bI hh), .int hl, .int (nI hn), .ref hiq], al g hiq 16 hi] (fun u : Unit => none) (fun u => [ob hq 6 [.int (bI hh), .int hl, .int (nI hn), .ref hiq], al g hiq 16 (vp_updL hi x.toNatClampNeg (cutL hl v))]) (fun u => True) := by
  refine Ke.of (cc := cX6_put) (maxL := 4) (ret := none) (lv := [(0, .ref hq), (1, .int x), (2, .long v)]) RX6 rfl (by decide) rfl (Nat.le_of_ble_eq_true rfl) rfl ?_
  intro p e s m below meth c A sz hA9 X hr hin2
  have in6 : ∀ w ∈ u_ws RX6 TX6 4, w ∈ wsX6_put := by decide +kernel
  refine V_aload_n (pc := 0) X dX6_put_0 rfl 0 rfl ?_
  refine V_get (C := RX6) (T := TX6) (N := 4) (ci := 6) (pc := 1) X dX6_put_1 in6 0 rfl rfl 3 (by decide) (by decide +kernel) rfl rfl ?_
  refine V_iload_n (pc := 4) X dX6_put_4 rfl 1 rfl ?_
  refine V_aload_n (pc := 5) X dX6_put_5 rfl 0 rfl ?_
  refine V_get (C := RX6) (T := TX6) (N := 4) (ci := 6) (pc := 6) X dX6_put_6 in6 0 rfl rfl 1 (by decide) (by decide +kernel) rfl rfl ?_
  refine V_if_ne (tgt := 19) (pc := 9) X dX6_put_9 (by decide) (fun c_1 => ?_) (fun c_1 => ?_)
  · skip
    refine V_aload_n (pc := 19) X dX6_put_19 rfl 0 rfl ?_
    refine V_get (C := RX6) (T := TX6) (N := 4) (ci := 6) (pc := 20) X dX6_put_20 in6 0 rfl rfl 1 (by decide) (by decide +kernel) rfl rfl ?_
    refine V_iconst (v := 1) (pc := 23) X dX6_put_23 (by decide) ?_
    refine V_icmp_ne (tgt := 33) (pc := 24) X dX6_put_24 (by decide) (fun c_2 => ?_) (fun c_2 => ?_)
    · skip
      refine V_lload_n (pc := 33) X dX6_put_33 rfl 2 rfl ?_
      refine V_last (f' := vp_updL hi x.toNatClampNeg v) (ws' := [ob hq 6 [.int (bI hh), .int hl, .int (nI hn), .ref hiq], al g hiq 16 (vp_updL hi x.toNatClampNeg v)]) (pc := 34) X dX6_put_34 1 rfl (by first | assumption) rfl rfl ?_
      exact Ve_vret (pc := 35) X hA9 dX6_put_35 hr () rfl trivial (by simp [cutL, c_1, c_2])
    · skip
      refine V_lload_n (pc := 27) X dX6_put_27 rfl 2 rfl ?_
      refine V_l2i (pc := 28) X dX6_put_28 ?_
      refine V_i2l (pc := 29) X dX6_put_29 ?_
      refine V_goto (tgt := 34) (pc := 30) X dX6_put_30 (by decide) ?_
      refine V_last (f' := vp_updL hi x.toNatClampNeg v.toInt32.toInt64) (ws' := [ob hq 6 [.int (bI hh), .int hl, .int (nI hn), .ref hiq], al g hiq 16 (vp_updL hi x.toNatClampNeg v.toInt32.toInt64)]) (pc := 34) X dX6_put_34 1 rfl (by first | assumption) rfl rfl ?_
      exact Ve_vret (pc := 35) X hA9 dX6_put_35 hr () rfl trivial (by simp [cutL, c_1, c_2])
  · skip
    refine V_lload_n (pc := 12) X dX6_put_12 rfl 2 rfl ?_
    refine V_l2i (pc := 13) X dX6_put_13 ?_
    refine V_i2b (pc := 14) X dX6_put_14 ?_
    refine V_i2l (pc := 15) X dX6_put_15 ?_
    refine V_goto (tgt := 34) (pc := 16) X dX6_put_16 (by decide) ?_
    refine V_last (f' := vp_updL hi x.toNatClampNeg v.toInt32.toInt8.toInt32.toInt64) (ws' := [ob hq 6 [.int (bI hh), .int hl, .int (nI hn), .ref hiq], al g hiq 16 (vp_updL hi x.toNatClampNeg v.toInt32.toInt8.toInt32.toInt64)]) (pc := 34) X dX6_put_34 1 rfl (by first | assumption) rfl rfl ?_
    exact Ve_vret (pc := 35) X hA9 dX6_put_35 hr () rfl trivial (by simp [cutL, c_1])
set_option maxHeartbeats 4000000 in
set_option maxRecDepth 100000 in
theorem c_X6_tells (l : Launch) (g : XG) (hq : Nat) (hiq : Nat) (hh : Bool) (hl : Int32) (hn : Nat) (hi : Nat → Int64) (bq : Nat) (bmq : Nat) (bf : Int64) (bt : Nat) (bz : Int32) (bm : Nat → Int32) (j : Nat) (hj : j + bt ≤ 16) (ht : bt ≤ 6) : Kg l g yX6_tells wsX6_tells ({ frames := 0, cells := 0, slots := 0, locals := 0 } : Room) [.ref hq, .int (nI j), .ref bq] [ob hq 6 [.int (bI hh), .int hl, .int (nI hn), .ref hiq], al g hiq 16 hi, ob bq 4 [.long bf, .int (nI bt), .int bz, .ref bmq], ai g bmq 6 bm] (some (.int (bI (telF hi bm j bt)))) := by
  refine Kg.of (cc := cX6_tells) (maxL := 4) (ret := (some .boolean)) (lv := [(0, .ref hq), (1, .int (nI j)), (2, .ref bq)]) RX6 rfl (by decide) rfl (Nat.le_of_ble_eq_true rfl) rfl ?_
  intro p e s m below meth c A X hr
  have in4 : ∀ w ∈ u_ws RX4 TX4 4, w ∈ wsX6_tells := by decide +kernel
  have in6 : ∀ w ∈ u_ws RX6 TX6 4, w ∈ wsX6_tells := by decide +kernel
  refine V_iconst (v := 0) (pc := 0) X dX6_tells_0 (by decide) ?_
  refine V_istore_n (lv' := [(3, .int 0), (0, .ref hq), (1, .int (nI j)), (2, .ref bq)]) (pc := 1) X dX6_tells_1 rfl (Nat.le_of_ble_eq_true rfl) rfl ?_
  refine V_loop (pc := 2) (σ := Nat) (fun v9 => [(0, .ref hq), (1, .int (nI j)), (2, .ref bq), (3, .int (nI v9))]) (fun v9 => [ob hq 6 [.int (bI hh), .int hl, .int (nI hn), .ref hiq], al g hiq 16 hi, ob bq 4 [.long bf, .int (nI bt), .int bz, .ref bmq], ai g bmq 6 bm]) (fun v9 => (v9 ≤ bt) ∧ (telF hi bm j v9 = true)) (fun v9 => bt - v9) 0 ⟨(by
        try dsimp only
        all_goals omega), (by
        try dsimp only
        all_goals rfl)⟩ rfl [1, 2, 3, 0] rfl ?_
  rintro k ⟨hk, hs⟩ ih2
  refine V_eqw (ws2 := [ob hq 6 [.int (bI hh), .int hl, .int (nI hn), .ref hiq], al g hiq 16 hi, ob bq 4 [.long bf, .int (nI bt), .int bz, .ref bmq], ai g bmq 6 bm]) rfl (V_eql (lv' := [(0, .ref hq), (1, .int (nI j)), (2, .ref bq), (3, .int (nI k))]) rfl ?_)
  refine V_iload_n (pc := 2) X dX6_tells_2 rfl 3 rfl ?_
  refine V_aload_n (pc := 3) X dX6_tells_3 rfl 2 rfl ?_
  refine V_get (C := RX4) (T := TX4) (N := 4) (ci := 4) (pc := 4) X dX6_tells_4 in4 2 rfl rfl 1 (by decide) (by decide +kernel) rfl rfl ?_
  refine V_icmp_ge (tgt := 37) (pc := 7) X dX6_tells_7 (by decide) (fun c_1 => ?_) (fun c_1 => ?_)
  · skip
    have n_2 : bt ≤ k := nJ_le (a := bt) (b := k) (by omega) (by omega) c_1
    refine V_iconst (v := 1) (pc := 37) X dX6_tells_37 (by decide) ?_
    exact Vg_zret (pc := 38) X dX6_tells_38 hr (by first | (rw [show bt = k by omega, hs]; all_goals rfl) | (rw [telF_no (k := k) (by assumption) (by assumption)]; all_goals rfl)) rfl
  · skip
    have n_3 : k < bt := nJ_nle (a := bt) (b := k) (by omega) (by omega) c_1
    refine V_aload_n (pc := 10) X dX6_tells_10 rfl 0 rfl ?_
    refine V_get (C := RX6) (T := TX6) (N := 4) (ci := 6) (pc := 11) X dX6_tells_11 in6 0 rfl rfl 3 (by decide) (by decide +kernel) rfl rfl ?_
    refine V_iload_n (pc := 14) X dX6_tells_14 rfl 1 rfl ?_
    refine V_iload_n (pc := 15) X dX6_tells_15 rfl 3 rfl ?_
    refine V_iadd (pc := 16) X dX6_tells_16 ?_
    refine V_seti (y := nI (j + k)) (nI_add j k) ?_
    refine V_lald (v := hi (j + k)) (pc := 17) X dX6_tells_17 1 rfl (vp_in_nI (by omega) (by omega)) (by rw [nI_clamp (by omega)]) ?_
    refine V_aload_n (pc := 18) X dX6_tells_18 rfl 2 rfl ?_
    refine V_get (C := RX4) (T := TX4) (N := 4) (ci := 4) (pc := 19) X dX6_tells_19 in4 2 rfl rfl 3 (by decide) (by decide +kernel) rfl rfl ?_
    refine V_iload_n (pc := 22) X dX6_tells_22 rfl 3 rfl ?_
    refine V_iald (v := bm k) (pc := 23) X dX6_tells_23 3 rfl (vp_in_nI (by omega) (by omega)) (by rw [nI_clamp (by omega)]) ?_
    refine V_i2l (pc := 24) X dX6_tells_24 ?_
    refine V_lcmp (pc := 25) X dX6_tells_25 ?_
    refine V_if_eq (tgt := 31) (pc := 26) X dX6_tells_26 (by decide) (fun c_4 => ?_) (fun c_4 => ?_)
    · skip
      have q_5 : (hi (j + k)) = ((bm k).toInt64) := cmp_eq_t c_4
      refine V_iinc (v := nI (k + 1)) (lv' := [(3, .int (nI (k + 1))), (0, .ref hq), (1, .int (nI j)), (2, .ref bq)]) (pc := 31) X dX6_tells_31 3 rfl (nI_add k 1) (Nat.le_of_ble_eq_true rfl) rfl ?_
      refine V_goto (tgt := 2) (pc := 34) X dX6_tells_34 (by decide) ?_
      refine V_lv [1, 2, 3, 0] rfl ?_
      exact ih2 (k + 1) ⟨(by
            try dsimp only
            all_goals omega), (by
            try dsimp only
            exact telF_s hs (by assumption))⟩ (by
            try dsimp only
            all_goals omega)
    · skip
      have q_6 : ¬ (hi (j + k)) = ((bm k).toInt64) := cmp_eq_f c_4
      refine V_iconst (v := 0) (pc := 29) X dX6_tells_29 (by decide) ?_
      exact Vg_zret (pc := 30) X dX6_tells_30 hr (by first | (rw [show bt = k by omega, hs]; all_goals rfl) | (rw [telF_no (k := k) (by assumption) (by assumption)]; all_goals rfl)) rfl
set_option maxHeartbeats 4000000 in
set_option maxRecDepth 100000 in
theorem c_X2_weigh (l : Launch) (g : XG) (dq : Nat) (dsq : Nat) (dfq : Nat) (dmq : Nat) (ds : Nat → Int32) (df : Nat → Int32) (dm : Nat → Int32)  : Ke l g yX2_weigh wsX2_weigh ({ frames := 1, cells := 0, slots := 0, locals := 21 } : Room) 0 0 [.ref dq] [ob dq 2 [.ref dsq, .ref dfq, .ref dmq], ai g dsq 1296 ds, ai g dfq 36 df, ai g dmq 36 dm] (fun u : Unit => none) (fun u => [ob dq 2 [.ref dsq, .ref dfq, .ref dmq], ai g dsq 1296 ds, ai g dfq 36 ((dwF ds df dm 36).1), ai g dmq 36 ((dwF ds df dm 36).2)]) (fun u => True) := by
  refine Ke.of (cc := cX2_weigh) (maxL := 4) (ret := none) (lv := [(0, .ref dq)]) RX2 rfl (by decide) rfl (Nat.le_of_ble_eq_true rfl) rfl ?_
  intro p e s m below meth c A sz hA9 X hr hin2
  have in2 : ∀ w ∈ u_ws RX2 TX2 3, w ∈ wsX2_weigh := by decide +kernel
  refine V_iconst (v := 0) (pc := 0) X dX2_weigh_0 (by decide) ?_
  refine V_istore_n (lv' := [(1, .int 0), (0, .ref dq)]) (pc := 1) X dX2_weigh_1 rfl (Nat.le_of_ble_eq_true rfl) rfl ?_
  refine V_loop (pc := 2) (σ := Nat × (Nat → Int32) × (Nat → Int32)) (fun v9 => [(0, .ref dq), (1, .int (nI v9.1))]) (fun v9 => [ob dq 2 [.ref dsq, .ref dfq, .ref dmq], ai g dsq 1296 ds, ai g dfq 36 v9.2.1, ai g dmq 36 v9.2.2]) (fun v9 => (v9.1 ≤ 36) ∧ (v9.2.1 = cpF df (fun _ => 99) v9.1) ∧ (v9.2.2 = cpF dm (fun _ => 0) v9.1)) (fun v9 => 36 - v9.1) (0, df, dm) ⟨(by
        try dsimp only
        all_goals omega), (by
        try dsimp only
        exact cpF_0 _ _), (by
        try dsimp only
        exact cpF_0 _ _)⟩ rfl [1, 0] rfl ?_
  rintro ⟨k, z, y⟩ ⟨hk, hz, hy⟩ ih2
  try dsimp only at hk
  try dsimp only at hz
  try dsimp only at hy
  refine V_eqw (ws2 := [ob dq 2 [.ref dsq, .ref dfq, .ref dmq], ai g dsq 1296 ds, ai g dfq 36 z, ai g dmq 36 y]) rfl (V_eql (lv' := [(0, .ref dq), (1, .int (nI k))]) rfl ?_)
  refine V_iload_n (pc := 2) X dX2_weigh_2 rfl 1 rfl ?_
  refine V_bipush (v := 36) (pc := 3) X dX2_weigh_3 (by decide) ?_
  refine V_icmp_ge (tgt := 29) (pc := 5) X dX2_weigh_5 (by decide) (fun c_1 => ?_) (fun c_1 => ?_)
  · skip
    have n_2 : 36 ≤ k := nJ_le (a := 36) (b := k) (by omega) (by omega) c_1
    refine V_iconst (v := 0) (pc := 29) X dX2_weigh_29 (by decide) ?_
    refine V_istore_n (lv' := [(1, .int 0), (0, .ref dq)]) (pc := 30) X dX2_weigh_30 rfl (Nat.le_of_ble_eq_true rfl) rfl ?_
    refine V_loop (pc := 31) (σ := Nat × (Nat → Int32) × (Nat → Int32)) (fun v9 => [(0, .ref dq), (1, .int (nI v9.1))]) (fun v9 => [ob dq 2 [.ref dsq, .ref dfq, .ref dmq], ai g dsq 1296 ds, ai g dfq 36 v9.2.1, ai g dmq 36 v9.2.2]) (fun v9 => (v9.1 ≤ 36) ∧ ((v9.2.1, v9.2.2) = dwF ds df dm v9.1)) (fun v9 => 36 - v9.1) (0, z, y) ⟨(by
          try dsimp only
          all_goals omega), (by
          try dsimp only
          rw [hz, hy, show k = 36 by omega]; rfl)⟩ rfl [1, 0] rfl ?_
    rintro ⟨i, z1, y1⟩ ⟨hi, hz1⟩ ih31
    try dsimp only at hi
    try dsimp only at hz1
    refine V_eqw (ws2 := [ob dq 2 [.ref dsq, .ref dfq, .ref dmq], ai g dsq 1296 ds, ai g dfq 36 z1, ai g dmq 36 y1]) rfl (V_eql (lv' := [(0, .ref dq), (1, .int (nI i))]) rfl ?_)
    refine V_iload_n (pc := 31) X dX2_weigh_31 rfl 1 rfl ?_
    refine V_bipush (v := 36) (pc := 32) X dX2_weigh_32 (by decide) ?_
    refine V_icmp_ge (tgt := 101) (pc := 34) X dX2_weigh_34 (by decide) (fun c_3 => ?_) (fun c_3 => ?_)
    · skip
      have n_4 : 36 ≤ i := nJ_le (a := 36) (b := i) (by omega) (by omega) c_3
      exact Ve_vret (pc := 101) X hA9 dX2_weigh_101 hr () rfl trivial (by rw [← show i = 36 by omega, ← hz1])
    · skip
      have n_5 : i < 36 := nJ_nle (a := 36) (b := i) (by omega) (by omega) c_3
      refine V_iconst (v := 0) (pc := 37) X dX2_weigh_37 (by decide) ?_
      refine V_istore_n (lv' := [(2, .int 0), (0, .ref dq), (1, .int (nI i))]) (pc := 38) X dX2_weigh_38 rfl (Nat.le_of_ble_eq_true rfl) rfl ?_
      refine V_loop (pc := 39) (σ := Nat × (Nat → Int32) × (Nat → Int32)) (fun v9 => [(0, .ref dq), (1, .int (nI i)), (2, .int (nI v9.1))]) (fun v9 => [ob dq 2 [.ref dsq, .ref dfq, .ref dmq], ai g dsq 1296 ds, ai g dfq 36 v9.2.1, ai g dmq 36 v9.2.2]) (fun v9 => (v9.1 ≤ 36) ∧ ((v9.2.1, v9.2.2) = rowF ds i (dwF ds df dm i) v9.1)) (fun v9 => 36 - v9.1) (0, z1, y1) ⟨(by
            try dsimp only
            all_goals omega), (by
            try dsimp only
            exact hz1)⟩ rfl [1, 2, 0] rfl ?_
      rintro ⟨j, z2, y2⟩ ⟨hj, hz2⟩ ih39
      try dsimp only at hj
      try dsimp only at hz2
      refine V_eqw (ws2 := [ob dq 2 [.ref dsq, .ref dfq, .ref dmq], ai g dsq 1296 ds, ai g dfq 36 z2, ai g dmq 36 y2]) rfl (V_eql (lv' := [(0, .ref dq), (1, .int (nI i)), (2, .int (nI j))]) rfl ?_)
      refine V_iload_n (pc := 39) X dX2_weigh_39 rfl 2 rfl ?_
      refine V_bipush (v := 36) (pc := 40) X dX2_weigh_40 (by decide) ?_
      refine V_icmp_ge (tgt := 95) (pc := 42) X dX2_weigh_42 (by decide) (fun c_6 => ?_) (fun c_6 => ?_)
      · skip
        have n_7 : 36 ≤ j := nJ_le (a := 36) (b := j) (by omega) (by omega) c_6
        refine V_iinc (v := nI (i + 1)) (lv' := [(1, .int (nI (i + 1))), (0, .ref dq), (2, .int (nI j))]) (pc := 95) X dX2_weigh_95 1 rfl (nI_add i 1) (Nat.le_of_ble_eq_true rfl) rfl ?_
        refine V_goto (tgt := 31) (pc := 98) X dX2_weigh_98 (by decide) ?_
        refine V_lv [1, 0] rfl ?_
        exact ih31 (i + 1, z2, y2) ⟨(by
              try dsimp only
              all_goals omega), (by
              try dsimp only
              rw [hz2, show j = 36 by omega]; all_goals rfl)⟩ (by
              try dsimp only
              all_goals omega)
      · skip
        have n_8 : j < 36 := nJ_nle (a := 36) (b := j) (by omega) (by omega) c_6
        refine V_aload_n (pc := 45) X dX2_weigh_45 rfl 0 rfl ?_
        refine V_get (C := RX2) (T := TX2) (N := 3) (ci := 2) (pc := 46) X dX2_weigh_46 in2 0 rfl rfl 0 (by decide) (by decide +kernel) rfl rfl ?_
        refine V_iload_n (pc := 49) X dX2_weigh_49 rfl 1 rfl ?_
        refine V_bipush (v := 36) (pc := 50) X dX2_weigh_50 (by decide) ?_
        refine V_imul (pc := 52) X dX2_weigh_52 ?_
        refine V_seti (y := nI (i * 36)) (pk_mul i 36) ?_
        refine V_iload_n (pc := 53) X dX2_weigh_53 rfl 2 rfl ?_
        refine V_iadd (pc := 54) X dX2_weigh_54 ?_
        refine V_seti (y := nI ((i * 36) + j)) (nI_add (i * 36) j) ?_
        refine V_iald (v := ds ((i * 36) + j)) (pc := 55) X dX2_weigh_55 1 rfl (vp_in_nI (by omega) (by omega)) (by rw [nI_clamp (by omega)]) ?_
        refine V_istore_n (lv' := [(3, .int (ds ((i * 36) + j))), (0, .ref dq), (1, .int (nI i)), (2, .int (nI j))]) (pc := 56) X dX2_weigh_56 rfl (Nat.le_of_ble_eq_true rfl) rfl ?_
        refine V_aload_n (pc := 57) X dX2_weigh_57 rfl 1 rfl ?_
        refine V_get (C := RX2) (T := TX2) (N := 3) (ci := 2) (pc := 58) X dX2_weigh_58 in2 0 rfl rfl 1 (by decide) (by decide +kernel) rfl rfl ?_
        refine V_iload_n (pc := 61) X dX2_weigh_61 rfl 3 rfl ?_
        refine V_aload_n (pc := 62) X dX2_weigh_62 rfl 1 rfl ?_
        refine V_get (C := RX2) (T := TX2) (N := 3) (ci := 2) (pc := 63) X dX2_weigh_63 in2 0 rfl rfl 1 (by decide) (by decide +kernel) rfl rfl ?_
        refine V_iload_n (pc := 66) X dX2_weigh_66 rfl 3 rfl ?_
        refine V_iald (v := z2 j) (pc := 67) X dX2_weigh_67 2 rfl (vp_in_nI (by omega) (by omega)) (by rw [nI_clamp (by omega)]) ?_
        refine V_iload_n (pc := 68) X dX2_weigh_68 rfl 0 rfl ?_
        refine V_mmin (pc := 69) X dX2_weigh_69 (by decide +kernel) (by decide +kernel) (by decide +kernel) (by decide +kernel) (Nat.le_of_ble_eq_true rfl) (Nat.le_of_ble_eq_true rfl) (Nat.zero_le _) (Nat.zero_le _) ?_
        refine V_iast (f' := upd z2 j (if (ds ((i * 36) + j)) < (z2 j) then (ds ((i * 36) + j)) else (z2 j))) (ws' := [ob dq 2 [.ref dsq, .ref dfq, .ref dmq], ai g dsq 1296 ds, ai g dfq 36 (upd z2 j (if (ds ((i * 36) + j)) < (z2 j) then (ds ((i * 36) + j)) else (z2 j))), ai g dmq 36 y2]) (pc := 72) X dX2_weigh_72 2 rfl (vp_in_nI (by omega) (by omega)) (by rw [nI_clamp (by omega)]) rfl ?_
        refine V_aload_n (pc := 73) X dX2_weigh_73 rfl 1 rfl ?_
        refine V_get (C := RX2) (T := TX2) (N := 3) (ci := 2) (pc := 74) X dX2_weigh_74 in2 0 rfl rfl 2 (by decide) (by decide +kernel) rfl rfl ?_
        refine V_iload_n (pc := 77) X dX2_weigh_77 rfl 2 rfl ?_
        refine V_aload_n (pc := 78) X dX2_weigh_78 rfl 1 rfl ?_
        refine V_get (C := RX2) (T := TX2) (N := 3) (ci := 2) (pc := 79) X dX2_weigh_79 in2 0 rfl rfl 2 (by decide) (by decide +kernel) rfl rfl ?_
        refine V_iload_n (pc := 82) X dX2_weigh_82 rfl 2 rfl ?_
        refine V_iald (v := y2 i) (pc := 83) X dX2_weigh_83 3 rfl (vp_in_nI (by omega) (by omega)) (by rw [nI_clamp (by omega)]) ?_
        refine V_iload_n (pc := 84) X dX2_weigh_84 rfl 0 rfl ?_
        refine V_mmax (pc := 85) X dX2_weigh_85 (by decide +kernel) (by decide +kernel) (by decide +kernel) (by decide +kernel) (Nat.le_of_ble_eq_true rfl) (Nat.le_of_ble_eq_true rfl) (Nat.zero_le _) (Nat.zero_le _) ?_
        refine V_iast (f' := upd y2 i (if (y2 i) < (ds ((i * 36) + j)) then (ds ((i * 36) + j)) else (y2 i))) (ws' := [ob dq 2 [.ref dsq, .ref dfq, .ref dmq], ai g dsq 1296 ds, ai g dfq 36 (upd z2 j (if (ds ((i * 36) + j)) < (z2 j) then (ds ((i * 36) + j)) else (z2 j))), ai g dmq 36 (upd y2 i (if (y2 i) < (ds ((i * 36) + j)) then (ds ((i * 36) + j)) else (y2 i)))]) (pc := 88) X dX2_weigh_88 3 rfl (vp_in_nI (by omega) (by omega)) (by rw [nI_clamp (by omega)]) rfl ?_
        refine V_iinc (v := nI (j + 1)) (lv' := [(2, .int (nI (j + 1))), (3, .int (ds ((i * 36) + j))), (0, .ref dq), (1, .int (nI i))]) (pc := 89) X dX2_weigh_89 3 rfl (nI_add j 1) (Nat.le_of_ble_eq_true rfl) rfl ?_
        refine V_goto (tgt := 39) (pc := 92) X dX2_weigh_92 (by decide) ?_
        refine V_lv [2, 3, 0] rfl ?_
        exact ih39 (j + 1, upd z2 j (if (ds ((i * 36) + j)) < (z2 j) then (ds ((i * 36) + j)) else (z2 j)), upd y2 i (if (y2 i) < (ds ((i * 36) + j)) then (ds ((i * 36) + j)) else (y2 i))) ⟨(by
              try dsimp only
              all_goals omega), (by
              try dsimp only
              rw [rowF, ← hz2]; rfl)⟩ (by
              try dsimp only
              all_goals omega)
  · skip
    have n_9 : k < 36 := nJ_nle (a := 36) (b := k) (by omega) (by omega) c_1
    refine V_aload_n (pc := 8) X dX2_weigh_8 rfl 0 rfl ?_
    refine V_get (C := RX2) (T := TX2) (N := 3) (ci := 2) (pc := 9) X dX2_weigh_9 in2 0 rfl rfl 1 (by decide) (by decide +kernel) rfl rfl ?_
    refine V_iload_n (pc := 12) X dX2_weigh_12 rfl 1 rfl ?_
    refine V_bipush (v := 99) (pc := 13) X dX2_weigh_13 (by decide) ?_
    refine V_iast (f' := upd z k 99) (ws' := [ob dq 2 [.ref dsq, .ref dfq, .ref dmq], ai g dsq 1296 ds, ai g dfq 36 (upd z k 99), ai g dmq 36 y]) (pc := 15) X dX2_weigh_15 2 rfl (vp_in_nI (by omega) (by omega)) (by rw [nI_clamp (by omega)]) rfl ?_
    refine V_aload_n (pc := 16) X dX2_weigh_16 rfl 0 rfl ?_
    refine V_get (C := RX2) (T := TX2) (N := 3) (ci := 2) (pc := 17) X dX2_weigh_17 in2 0 rfl rfl 2 (by decide) (by decide +kernel) rfl rfl ?_
    refine V_iload_n (pc := 20) X dX2_weigh_20 rfl 1 rfl ?_
    refine V_iconst (v := 0) (pc := 21) X dX2_weigh_21 (by decide) ?_
    refine V_iast (f' := upd y k 0) (ws' := [ob dq 2 [.ref dsq, .ref dfq, .ref dmq], ai g dsq 1296 ds, ai g dfq 36 (upd z k 99), ai g dmq 36 (upd y k 0)]) (pc := 22) X dX2_weigh_22 3 rfl (vp_in_nI (by omega) (by omega)) (by rw [nI_clamp (by omega)]) rfl ?_
    refine V_iinc (v := nI (k + 1)) (lv' := [(1, .int (nI (k + 1))), (0, .ref dq)]) (pc := 23) X dX2_weigh_23 1 rfl (nI_add k 1) (Nat.le_of_ble_eq_true rfl) rfl ?_
    refine V_goto (tgt := 2) (pc := 26) X dX2_weigh_26 (by decide) ?_
    refine V_lv [1, 0] rfl ?_
    exact ih2 (k + 1, upd z k 99, upd y k 0) ⟨(by
          try dsimp only
          all_goals omega), (by
          try dsimp only
          rw [hz]; exact cpF_s df (fun _ => 99) k), (by
          try dsimp only
          rw [hy]; exact cpF_s dm (fun _ => 0) k)⟩ (by
          try dsimp only
          all_goals omega)
set_option maxHeartbeats 4000000 in
set_option maxRecDepth 100000 in
theorem c_X2_rest (l : Launch) (g : XG) (dq : Nat) (dsq : Nat) (dfq : Nat) (dmq : Nat) (ds : Nat → Int32) (df : Nat → Int32) (dm : Nat → Int32) (i : Nat) (j : Nat) (hi : i < 36) (hj : j < 36) : Kg l g yX2_rest wsX2_rest ({ frames := 0, cells := 0, slots := 0, locals := 0 } : Room) [.ref dq, .int (nI i), .int (nI j)] [ob dq 2 [.ref dsq, .ref dfq, .ref dmq], ai g dsq 1296 ds, ai g dfq 36 df, ai g dmq 36 dm] (some (.int (bI (restB ds df dm i j)))) := by
  refine Kg.of (cc := cX2_rest) (maxL := 4) (ret := (some .boolean)) (lv := [(0, .ref dq), (1, .int (nI i)), (2, .int (nI j))]) RX2 rfl (by decide) rfl (Nat.le_of_ble_eq_true rfl) rfl ?_
  intro p e s m below meth c A X hr
  have in2 : ∀ w ∈ u_ws RX2 TX2 3, w ∈ wsX2_rest := by decide +kernel
  refine V_aload_n (pc := 0) X dX2_rest_0 rfl 0 rfl ?_
  refine V_get (C := RX2) (T := TX2) (N := 3) (ci := 2) (pc := 1) X dX2_rest_1 in2 0 rfl rfl 0 (by decide) (by decide +kernel) rfl rfl ?_
  refine V_iload_n (pc := 4) X dX2_rest_4 rfl 1 rfl ?_
  refine V_bipush (v := 36) (pc := 5) X dX2_rest_5 (by decide) ?_
  refine V_imul (pc := 7) X dX2_rest_7 ?_
  refine V_seti (y := nI (i * 36)) (pk_mul i 36) ?_
  refine V_iload_n (pc := 8) X dX2_rest_8 rfl 2 rfl ?_
  refine V_iadd (pc := 9) X dX2_rest_9 ?_
  refine V_seti (y := nI ((i * 36) + j)) (nI_add (i * 36) j) ?_
  refine V_iald (v := ds ((i * 36) + j)) (pc := 10) X dX2_rest_10 1 rfl (vp_in_nI (by omega) (by omega)) (by rw [nI_clamp (by omega)]) ?_
  refine V_istore_n (lv' := [(3, .int (ds ((i * 36) + j))), (0, .ref dq), (1, .int (nI i)), (2, .int (nI j))]) (pc := 11) X dX2_rest_11 rfl (Nat.le_of_ble_eq_true rfl) rfl ?_
  refine V_iload_n (pc := 12) X dX2_rest_12 rfl 0 rfl ?_
  refine V_aload_n (pc := 13) X dX2_rest_13 rfl 1 rfl ?_
  refine V_get (C := RX2) (T := TX2) (N := 3) (ci := 2) (pc := 14) X dX2_rest_14 in2 0 rfl rfl 1 (by decide) (by decide +kernel) rfl rfl ?_
  refine V_iload_n (pc := 17) X dX2_rest_17 rfl 3 rfl ?_
  refine V_iald (v := df j) (pc := 18) X dX2_rest_18 2 rfl (vp_in_nI (by omega) (by omega)) (by rw [nI_clamp (by omega)]) ?_
  refine V_icmp_ne (tgt := 36) (pc := 19) X dX2_rest_19 (by decide) (fun c_1 => ?_) (fun c_1 => ?_)
  · skip
    refine V_iconst (v := 0) (pc := 36) X dX2_rest_36 (by decide) ?_
    exact Vg_zret (pc := 37) X dX2_rest_37 hr (by first | rfl | (simp [bI, restB, c_1]; done) | (simp_all [bI, Int32.not_le, Int32.not_lt, restB]; done)) rfl
  · skip
    refine V_iload_n (pc := 22) X dX2_rest_22 rfl 0 rfl ?_
    refine V_aload_n (pc := 23) X dX2_rest_23 rfl 1 rfl ?_
    refine V_get (C := RX2) (T := TX2) (N := 3) (ci := 2) (pc := 24) X dX2_rest_24 in2 0 rfl rfl 2 (by decide) (by decide +kernel) rfl rfl ?_
    refine V_iload_n (pc := 27) X dX2_rest_27 rfl 2 rfl ?_
    refine V_iald (v := dm i) (pc := 28) X dX2_rest_28 3 rfl (vp_in_nI (by omega) (by omega)) (by rw [nI_clamp (by omega)]) ?_
    refine V_icmp_ne (tgt := 36) (pc := 29) X dX2_rest_29 (by decide) (fun c_2 => ?_) (fun c_2 => ?_)
    · skip
      refine V_iconst (v := 0) (pc := 36) X dX2_rest_36 (by decide) ?_
      exact Vg_zret (pc := 37) X dX2_rest_37 hr (by first | rfl | (simp [bI, restB, c_1, c_2]; done) | (simp_all [bI, Int32.not_le, Int32.not_lt, restB]; done)) rfl
    · skip
      refine V_iconst (v := 1) (pc := 32) X dX2_rest_32 (by decide) ?_
      refine V_goto (tgt := 37) (pc := 33) X dX2_rest_33 (by decide) ?_
      exact Vg_zret (pc := 37) X dX2_rest_37 hr (by first | rfl | (simp [bI, restB, c_1, c_2]; done) | (simp_all [bI, Int32.not_le, Int32.not_lt, restB]; done)) rfl
set_option maxHeartbeats 4000000 in
set_option maxRecDepth 100000 in
theorem c_X2_rests (l : Launch) (g : XG) (dq : Nat) (dsq : Nat) (dfq : Nat) (dmq : Nat) (ds : Nat → Int32) (df : Nat → Int32) (dm : Nat → Int32)  : Kg l g yX2_rests wsX2_rests ({ frames := 1, cells := 0, slots := 0, locals := 23 } : Room) [.ref dq] [ob dq 2 [.ref dsq, .ref dfq, .ref dmq], ai g dsq 1296 ds, ai g dfq 36 df, ai g dmq 36 dm] (some (.int (nI (rsC (restB ds df dm) 36)))) := by
  refine Kg.of (cc := cX2_rests) (maxL := 4) (ret := (some .int)) (lv := [(0, .ref dq)]) RX2 rfl (by decide) rfl (Nat.le_of_ble_eq_true rfl) rfl ?_
  intro p e s m below meth c A X hr
  refine V_iconst (v := 0) (pc := 0) X dX2_rests_0 (by decide) ?_
  refine V_istore_n (lv' := [(1, .int 0), (0, .ref dq)]) (pc := 1) X dX2_rests_1 rfl (Nat.le_of_ble_eq_true rfl) rfl ?_
  refine V_iconst (v := 0) (pc := 2) X dX2_rests_2 (by decide) ?_
  refine V_istore_n (lv' := [(2, .int 0), (1, .int 0), (0, .ref dq)]) (pc := 3) X dX2_rests_3 rfl (Nat.le_of_ble_eq_true rfl) rfl ?_
  refine V_loop (pc := 4) (σ := Nat × Nat) (fun v9 => [(0, .ref dq), (1, .int (nI v9.2)), (2, .int (nI v9.1))]) (fun v9 => [ob dq 2 [.ref dsq, .ref dfq, .ref dmq], ai g dsq 1296 ds, ai g dfq 36 df, ai g dmq 36 dm]) (fun v9 => (v9.1 ≤ 36) ∧ (v9.2 = rsC (restB ds df dm) v9.1)) (fun v9 => 36 - v9.1) (0, 0) ⟨(by
        try dsimp only
        all_goals omega), (by
        try dsimp only
        all_goals rfl)⟩ rfl [2, 1, 0] rfl ?_
  rintro ⟨i, z⟩ ⟨hi, hz⟩ ih4
  try dsimp only at hi
  try dsimp only at hz
  refine V_eqw (ws2 := [ob dq 2 [.ref dsq, .ref dfq, .ref dmq], ai g dsq 1296 ds, ai g dfq 36 df, ai g dmq 36 dm]) rfl (V_eql (lv' := [(0, .ref dq), (1, .int (nI z)), (2, .int (nI i))]) rfl ?_)
  refine V_iload_n (pc := 4) X dX2_rests_4 rfl 2 rfl ?_
  refine V_bipush (v := 36) (pc := 5) X dX2_rests_5 (by decide) ?_
  refine V_icmp_ge (tgt := 42) (pc := 7) X dX2_rests_7 (by decide) (fun c_1 => ?_) (fun c_1 => ?_)
  · skip
    have n_2 : 36 ≤ i := nJ_le (a := 36) (b := i) (by omega) (by omega) c_1
    refine V_iload_n (pc := 42) X dX2_rests_42 rfl 1 rfl ?_
    exact Vg_iret (pc := 43) X dX2_rests_43 hr (by rw [hz, show i = 36 by omega])
  · skip
    have n_3 : i < 36 := nJ_nle (a := 36) (b := i) (by omega) (by omega) c_1
    refine V_iconst (v := 0) (pc := 10) X dX2_rests_10 (by decide) ?_
    refine V_istore_n (lv' := [(3, .int 0), (0, .ref dq), (1, .int (nI z)), (2, .int (nI i))]) (pc := 11) X dX2_rests_11 rfl (Nat.le_of_ble_eq_true rfl) rfl ?_
    refine V_loop (pc := 12) (σ := Nat × Nat) (fun v9 => [(0, .ref dq), (1, .int (nI v9.2)), (2, .int (nI i)), (3, .int (nI v9.1))]) (fun v9 => [ob dq 2 [.ref dsq, .ref dfq, .ref dmq], ai g dsq 1296 ds, ai g dfq 36 df, ai g dmq 36 dm]) (fun v9 => (v9.1 ≤ 36) ∧ (v9.2 = rsC (restB ds df dm) i + rsI (restB ds df dm i) v9.1)) (fun v9 => 36 - v9.1) (0, z) ⟨(by
          try dsimp only
          all_goals omega), (by
          try dsimp only
          rw [hz]; rfl)⟩ rfl [1, 2, 3, 0] rfl ?_
    rintro ⟨j, z2⟩ ⟨hj, hz2⟩ ih12
    try dsimp only at hj
    try dsimp only at hz2
    refine V_eqw (ws2 := [ob dq 2 [.ref dsq, .ref dfq, .ref dmq], ai g dsq 1296 ds, ai g dfq 36 df, ai g dmq 36 dm]) rfl (V_eql (lv' := [(0, .ref dq), (1, .int (nI z2)), (2, .int (nI i)), (3, .int (nI j))]) rfl ?_)
    refine V_iload_n (pc := 12) X dX2_rests_12 rfl 3 rfl ?_
    refine V_bipush (v := 36) (pc := 13) X dX2_rests_13 (by decide) ?_
    refine V_icmp_ge (tgt := 36) (pc := 15) X dX2_rests_15 (by decide) (fun c_4 => ?_) (fun c_4 => ?_)
    · skip
      have n_5 : 36 ≤ j := nJ_le (a := 36) (b := j) (by omega) (by omega) c_4
      refine V_iinc (v := nI (i + 1)) (lv' := [(2, .int (nI (i + 1))), (0, .ref dq), (1, .int (nI z2)), (3, .int (nI j))]) (pc := 36) X dX2_rests_36 2 rfl (nI_add i 1) (Nat.le_of_ble_eq_true rfl) rfl ?_
      refine V_goto (tgt := 4) (pc := 39) X dX2_rests_39 (by decide) ?_
      refine V_lv [1, 2, 0] rfl ?_
      exact ih4 (i + 1, z2) ⟨(by
            try dsimp only
            all_goals omega), (by
            try dsimp only
            rw [hz2, show j = 36 by omega]; all_goals rfl)⟩ (by
            try dsimp only
            all_goals omega)
    · skip
      have n_6 : j < 36 := nJ_nle (a := 36) (b := j) (by omega) (by omega) c_4
      refine V_aload_n (pc := 18) X dX2_rests_18 rfl 0 rfl ?_
      refine V_iload_n (pc := 19) X dX2_rests_19 rfl 2 rfl ?_
      refine V_iload_n (pc := 20) X dX2_rests_20 rfl 3 rfl ?_
      refine V_vg (pc := 21) (nA := 2) (As := [.int (nI i), .int (nI j)]) (rest := []) X (c_X2_rest l g (dq := dq) (dsq := dsq) (dfq := dfq) (dmq := dmq) (ds := ds) (df := df) (dm := dm) (i := i) (j := j) (hi := by first | assumption | omega) (hj := by first | assumption | omega)) gX2_rests_X2_rest dX2_rests_21 rfl (by decide +kernel) rfl (qb := 0) rfl rfl rfl ⟨rfl, rfl⟩ ⟨Nat.le_of_ble_eq_true rfl, Nat.le_of_ble_eq_true rfl⟩ ⟨Nat.le_of_ble_eq_true rfl, Nat.le_of_ble_eq_true rfl⟩ [0, 1, 2, 3] (by decide) rfl rfl (Nat.le_of_ble_eq_true rfl) (st' := [.int (bI (restB ds df dm i j))]) rfl ?_
      refine V_if_eq (tgt := 30) (pc := 24) X dX2_rests_24 (by decide) (fun c_7 => ?_) (fun c_7 => ?_)
      · skip
        have b_8 : restB ds df dm i j = false := bI0 c_7
        refine V_iinc (v := nI (j + 1)) (lv' := [(3, .int (nI (j + 1))), (0, .ref dq), (1, .int (nI z2)), (2, .int (nI i))]) (pc := 30) X dX2_rests_30 3 rfl (nI_add j 1) (Nat.le_of_ble_eq_true rfl) rfl ?_
        refine V_goto (tgt := 12) (pc := 33) X dX2_rests_33 (by decide) ?_
        refine V_lv [1, 2, 3, 0] rfl ?_
        exact ih12 (j + 1, z2) ⟨(by
              try dsimp only
              all_goals omega), (by
              try dsimp only
              rw [hz2, rsI]; simp [n_3, n_6, b_8]; try omega)⟩ (by
              try dsimp only
              all_goals omega)
      · skip
        have b_9 : restB ds df dm i j = true := bI1 c_7
        refine V_iinc (v := nI (z2 + 1)) (lv' := [(1, .int (nI (z2 + 1))), (0, .ref dq), (2, .int (nI i)), (3, .int (nI j))]) (pc := 27) X dX2_rests_27 1 rfl (nI_add z2 1) (Nat.le_of_ble_eq_true rfl) rfl ?_
        refine V_iinc (v := nI (j + 1)) (lv' := [(3, .int (nI (j + 1))), (1, .int (nI (z2 + 1))), (0, .ref dq), (2, .int (nI i))]) (pc := 30) X dX2_rests_30 3 rfl (nI_add j 1) (Nat.le_of_ble_eq_true rfl) rfl ?_
        refine V_goto (tgt := 12) (pc := 33) X dX2_rests_33 (by decide) ?_
        refine V_lv [2, 1, 3, 0] rfl ?_
        exact ih12 (j + 1, z2 + 1) ⟨(by
              try dsimp only
              all_goals omega), (by
              try dsimp only
              rw [hz2, rsI]; simp [n_3, n_6, b_9]; try omega)⟩ (by
              try dsimp only
              all_goals omega)
set_option maxHeartbeats 4000000 in
set_option maxRecDepth 100000 in
theorem c_X2_firstRest (l : Launch) (g : XG) (dq : Nat) (dsq : Nat) (dfq : Nat) (dmq : Nat) (ds : Nat → Int32) (df : Nat → Int32) (dm : Nat → Int32)  : Kg l g yX2_firstRest wsX2_firstRest ({ frames := 1, cells := 0, slots := 0, locals := 23 } : Room) [.ref dq] [ob dq 2 [.ref dsq, .ref dfq, .ref dmq], ai g dsq 1296 ds, ai g dfq 36 df, ai g dmq 36 dm] (some (.int (fsF (restB ds df dm) 1296 0))) := by
  refine Kg.of (cc := cX2_firstRest) (maxL := 3) (ret := (some .int)) (lv := [(0, .ref dq)]) RX2 rfl (by decide) rfl (Nat.le_of_ble_eq_true rfl) rfl ?_
  intro p e s m below meth c A X hr
  refine V_iconst (v := 0) (pc := 0) X dX2_firstRest_0 (by decide) ?_
  refine V_istore_n (lv' := [(1, .int 0), (0, .ref dq)]) (pc := 1) X dX2_firstRest_1 rfl (Nat.le_of_ble_eq_true rfl) rfl ?_
  refine V_loop (pc := 2) (σ := Nat) (fun v9 => [(0, .ref dq), (1, .int (nI v9))]) (fun v9 => [ob dq 2 [.ref dsq, .ref dfq, .ref dmq], ai g dsq 1296 ds, ai g dfq 36 df, ai g dmq 36 dm]) (fun v9 => (v9 ≤ 36) ∧ (fsF (restB ds df dm) (1296 - (36 * v9 + 0)) (36 * v9 + 0) = fsF (restB ds df dm) 1296 0)) (fun v9 => 36 - v9) 0 ⟨(by
        try dsimp only
        all_goals omega), (by
        try dsimp only
        all_goals rfl)⟩ rfl [1, 0] rfl ?_
  rintro i ⟨hi, hs⟩ ih2
  refine V_eqw (ws2 := [ob dq 2 [.ref dsq, .ref dfq, .ref dmq], ai g dsq 1296 ds, ai g dfq 36 df, ai g dmq 36 dm]) rfl (V_eql (lv' := [(0, .ref dq), (1, .int (nI i))]) rfl ?_)
  refine V_iload_n (pc := 2) X dX2_firstRest_2 rfl 1 rfl ?_
  refine V_bipush (v := 36) (pc := 3) X dX2_firstRest_3 (by decide) ?_
  refine V_icmp_ge (tgt := 44) (pc := 5) X dX2_firstRest_5 (by decide) (fun c_1 => ?_) (fun c_1 => ?_)
  · skip
    have n_2 : 36 ≤ i := nJ_le (a := 36) (b := i) (by omega) (by omega) c_1
    refine V_bipush (v := (-4)) (pc := 44) X dX2_firstRest_44 (by decide) ?_
    exact Vg_iret (pc := 46) X dX2_firstRest_46 hr (by first | (rw [← hs2]; exact (fsF_y (by omega) (by omega) (by assumption)).symm) | (rw [← hs, show i = 36 by omega]; rfl))
  · skip
    have n_3 : i < 36 := nJ_nle (a := 36) (b := i) (by omega) (by omega) c_1
    refine V_iconst (v := 0) (pc := 8) X dX2_firstRest_8 (by decide) ?_
    refine V_istore_n (lv' := [(2, .int 0), (0, .ref dq), (1, .int (nI i))]) (pc := 9) X dX2_firstRest_9 rfl (Nat.le_of_ble_eq_true rfl) rfl ?_
    refine V_loop (pc := 10) (σ := Nat) (fun v9 => [(0, .ref dq), (1, .int (nI i)), (2, .int (nI v9))]) (fun v9 => [ob dq 2 [.ref dsq, .ref dfq, .ref dmq], ai g dsq 1296 ds, ai g dfq 36 df, ai g dmq 36 dm]) (fun v9 => (v9 ≤ 36) ∧ (fsF (restB ds df dm) (1296 - (36 * i + v9)) (36 * i + v9) = fsF (restB ds df dm) 1296 0)) (fun v9 => 36 - v9) 0 ⟨(by
          try dsimp only
          all_goals omega), (by
          try dsimp only
          exact hs)⟩ rfl [1, 2, 0] rfl ?_
    rintro j ⟨hj, hs2⟩ ih10
    refine V_eqw (ws2 := [ob dq 2 [.ref dsq, .ref dfq, .ref dmq], ai g dsq 1296 ds, ai g dfq 36 df, ai g dmq 36 dm]) rfl (V_eql (lv' := [(0, .ref dq), (1, .int (nI i)), (2, .int (nI j))]) rfl ?_)
    refine V_iload_n (pc := 10) X dX2_firstRest_10 rfl 2 rfl ?_
    refine V_bipush (v := 36) (pc := 11) X dX2_firstRest_11 (by decide) ?_
    refine V_icmp_ge (tgt := 38) (pc := 13) X dX2_firstRest_13 (by decide) (fun c_4 => ?_) (fun c_4 => ?_)
    · skip
      have n_5 : 36 ≤ j := nJ_le (a := 36) (b := j) (by omega) (by omega) c_4
      refine V_iinc (v := nI (i + 1)) (lv' := [(1, .int (nI (i + 1))), (0, .ref dq), (2, .int (nI j))]) (pc := 38) X dX2_firstRest_38 1 rfl (nI_add i 1) (Nat.le_of_ble_eq_true rfl) rfl ?_
      refine V_goto (tgt := 2) (pc := 41) X dX2_firstRest_41 (by decide) ?_
      refine V_lv [1, 0] rfl ?_
      exact ih2 (i + 1) ⟨(by
            try dsimp only
            all_goals omega), (by
            try dsimp only
            rw [← hs2, show j = 36 by omega, show 36 * (i + 1) + 0 = 36 * i + 36 by omega])⟩ (by
            try dsimp only
            all_goals omega)
    · skip
      have n_6 : j < 36 := nJ_nle (a := 36) (b := j) (by omega) (by omega) c_4
      refine V_aload_n (pc := 16) X dX2_firstRest_16 rfl 0 rfl ?_
      refine V_iload_n (pc := 17) X dX2_firstRest_17 rfl 1 rfl ?_
      refine V_iload_n (pc := 18) X dX2_firstRest_18 rfl 2 rfl ?_
      refine V_vg (pc := 19) (nA := 2) (As := [.int (nI i), .int (nI j)]) (rest := []) X (c_X2_rest l g (dq := dq) (dsq := dsq) (dfq := dfq) (dmq := dmq) (ds := ds) (df := df) (dm := dm) (i := i) (j := j) (hi := by first | assumption | omega) (hj := by first | assumption | omega)) gX2_firstRest_X2_rest dX2_firstRest_19 rfl (by decide +kernel) rfl (qb := 0) rfl rfl rfl ⟨rfl, rfl⟩ ⟨Nat.le_of_ble_eq_true rfl, Nat.le_of_ble_eq_true rfl⟩ ⟨Nat.le_of_ble_eq_true rfl, Nat.le_of_ble_eq_true rfl⟩ [0, 1, 2, 3] (by decide) rfl rfl (Nat.le_of_ble_eq_true rfl) (st' := [.int (bI (restB ds df dm i j))]) rfl ?_
      refine V_if_eq (tgt := 32) (pc := 22) X dX2_firstRest_22 (by decide) (fun c_7 => ?_) (fun c_7 => ?_)
      · skip
        have b_8 : restB ds df dm i j = false := bI0 c_7
        refine V_iinc (v := nI (j + 1)) (lv' := [(2, .int (nI (j + 1))), (0, .ref dq), (1, .int (nI i))]) (pc := 32) X dX2_firstRest_32 2 rfl (nI_add j 1) (Nat.le_of_ble_eq_true rfl) rfl ?_
        refine V_goto (tgt := 10) (pc := 35) X dX2_firstRest_35 (by decide) ?_
        refine V_lv [1, 2, 0] rfl ?_
        exact ih10 (j + 1) ⟨(by
              try dsimp only
              all_goals omega), (by
              try dsimp only
              rw [← hs2]; exact (fsF_n (by omega) (by omega) (by assumption)).symm)⟩ (by
              try dsimp only
              all_goals omega)
      · skip
        have b_9 : restB ds df dm i j = true := bI1 c_7
        refine V_bipush (v := 100) (pc := 25) X dX2_firstRest_25 (by decide) ?_
        refine V_iload_n (pc := 27) X dX2_firstRest_27 rfl 1 rfl ?_
        refine V_imul (pc := 28) X dX2_firstRest_28 ?_
        refine V_seti (y := nI (100 * i)) (pk_mul 100 i) ?_
        refine V_iload_n (pc := 29) X dX2_firstRest_29 rfl 2 rfl ?_
        refine V_iadd (pc := 30) X dX2_firstRest_30 ?_
        refine V_seti (y := nI ((100 * i) + j)) (nI_add (100 * i) j) ?_
        exact Vg_iret (pc := 31) X dX2_firstRest_31 hr (by first | (rw [← hs2]; exact (fsF_y (by omega) (by omega) (by assumption)).symm) | (rw [← hs, show i = 36 by omega]; rfl))
set_option maxHeartbeats 4000000 in
set_option maxRecDepth 100000 in
theorem c_X0_canWalk (l : Launch) (g : XG) (kq : Nat) (ktq : Nat) (kt : Nat → Int32) (kw : Int64) (kc : Int64) (x : Int32)  : Kg l g yX0_canWalk wsX0_canWalk ({ frames := 1, cells := 0, slots := 0, locals := 20 } : Room) [.ref kq, .int x] [ob kq 0 [.ref ktq, .long kw, .long kc], ai g ktq 36 kt] (some (.int (bI (firmB kw x)))) := by
  refine Kg.of (cc := cX0_canWalk) (maxL := 2) (ret := (some .boolean)) (lv := [(0, .ref kq), (1, .int x)]) RX0 rfl (by decide) rfl (Nat.le_of_ble_eq_true rfl) rfl ?_
  intro p e s m below meth c A X hr
  have in0 : ∀ w ∈ u_ws RX0 TX0 3, w ∈ wsX0_canWalk := by decide +kernel
  refine V_aload_n (pc := 0) X dX0_canWalk_0 rfl 0 rfl ?_
  refine V_get (C := RX0) (T := TX0) (N := 3) (ci := 0) (pc := 1) X dX0_canWalk_1 in0 0 rfl rfl 1 (by decide) (by decide +kernel) rfl rfl ?_
  refine V_iload_n (pc := 4) X dX0_canWalk_4 rfl 1 rfl ?_
  refine V_ng (pc := 5) (nA := 1) (As := [.int x]) (rest := [.long kw]) X (c_X9_bit l g (x := x) ) gX0_canWalk_X9_bit_n52 dX0_canWalk_5 rfl (by decide +kernel) rfl (by decide +kernel) (by decide +kernel) (by decide +kernel) ⟨rfl, rfl⟩ ⟨Nat.le_of_ble_eq_true rfl, Nat.le_of_ble_eq_true rfl⟩ ⟨Nat.le_of_ble_eq_true rfl, Nat.le_of_ble_eq_true rfl⟩ [] (by decide) rfl rfl (Nat.le_of_ble_eq_true rfl) (st' := [.long (bitI x), .long kw]) rfl ?_
  refine V_land (pc := 8) X dX0_canWalk_8 ?_
  refine V_lconst (v := 0) (pc := 9) X dX0_canWalk_9 (by decide) ?_
  refine V_lcmp (pc := 10) X dX0_canWalk_10 ?_
  refine V_if_eq (tgt := 18) (pc := 11) X dX0_canWalk_11 (by decide) (fun c_1 => ?_) (fun c_1 => ?_)
  · skip
    have q_2 : (kw &&& (bitI x)) = 0 := cmp_eq_t c_1
    refine V_iconst (v := 0) (pc := 18) X dX0_canWalk_18 (by decide) ?_
    exact Vg_zret (pc := 19) X dX0_canWalk_19 hr (by first | rfl | (simp [bI, firmB, q_2]; done) | (simp_all [bI, Int32.not_le, Int32.not_lt, firmB]; done)) rfl
  · skip
    have q_3 : ¬ (kw &&& (bitI x)) = 0 := cmp_eq_f c_1
    refine V_iconst (v := 1) (pc := 14) X dX0_canWalk_14 (by decide) ?_
    refine V_goto (tgt := 19) (pc := 15) X dX0_canWalk_15 (by decide) ?_
    exact Vg_zret (pc := 19) X dX0_canWalk_19 hr (by first | rfl | (simp [bI, firmB, q_3]; done) | (simp_all [bI, Int32.not_le, Int32.not_lt, firmB]; done)) rfl
set_option maxHeartbeats 4000000 in
set_option maxRecDepth 100000 in
theorem c_X0_reaches (l : Launch) (g : XG) (kq : Nat) (ktq : Nat) (kt : Nat → Int32) (kw : Int64) (kc : Int64) (x : Int32) (hx : vp_in x 36) : Kg l g yX0_reaches wsX0_reaches ({ frames := 0, cells := 0, slots := 0, locals := 0 } : Room) [.ref kq, .int x] [ob kq 0 [.ref ktq, .long kw, .long kc], ai g ktq 36 kt] (some (.int (bI (!decide (1000 ≤ kt x.toNatClampNeg))))) := by
  refine Kg.of (cc := cX0_reaches) (maxL := 2) (ret := (some .boolean)) (lv := [(0, .ref kq), (1, .int x)]) RX0 rfl (by decide) rfl (Nat.le_of_ble_eq_true rfl) rfl ?_
  intro p e s m below meth c A X hr
  have in0 : ∀ w ∈ u_ws RX0 TX0 3, w ∈ wsX0_reaches := by decide +kernel
  refine V_aload_n (pc := 0) X dX0_reaches_0 rfl 0 rfl ?_
  refine V_get (C := RX0) (T := TX0) (N := 3) (ci := 0) (pc := 1) X dX0_reaches_1 in0 0 rfl rfl 0 (by decide) (by decide +kernel) rfl rfl ?_
  refine V_iload_n (pc := 4) X dX0_reaches_4 rfl 1 rfl ?_
  refine V_iald (v := kt x.toNatClampNeg) (pc := 5) X dX0_reaches_5 1 rfl (by first | assumption) rfl ?_
  refine V_sipush (v := 1000) (pc := 6) X dX0_reaches_6 (by decide) ?_
  refine V_icmp_ge (tgt := 16) (pc := 9) X dX0_reaches_9 (by decide) (fun c_1 => ?_) (fun c_1 => ?_)
  · skip
    refine V_iconst (v := 0) (pc := 16) X dX0_reaches_16 (by decide) ?_
    exact Vg_zret (pc := 17) X dX0_reaches_17 hr (by first | rfl | (simp [bI, c_1]; done) | (simp_all [bI, Int32.not_le, Int32.not_lt]; done)) rfl
  · skip
    refine V_iconst (v := 1) (pc := 12) X dX0_reaches_12 (by decide) ?_
    refine V_goto (tgt := 17) (pc := 13) X dX0_reaches_13 (by decide) ?_
    exact Vg_zret (pc := 17) X dX0_reaches_17 hr (by first | rfl | (simp [bI, c_1]; done) | (simp_all [bI, Int32.not_le, Int32.not_lt]; done)) rfl
set_option maxHeartbeats 4000000 in
set_option maxRecDepth 100000 in
theorem c_X0_costOver (l : Launch) (g : XG) (kq : Nat) (ktq : Nat) (kt : Nat → Int32) (kw : Int64) (kc : Int64) (x : Int32) (hx : x < 36) : Kg l g yX0_costOver wsX0_costOver ({ frames := 2, cells := 0, slots := 0, locals := 41 } : Room) [.ref kq, .int x] [ob kq 0 [.ref ktq, .long kw, .long kc], ai g ktq 36 kt] (some (.int (cov kt kw kc x))) := by
  refine Kg.of (cc := cX0_costOver) (maxL := 2) (ret := (some .int)) (lv := [(0, .ref kq), (1, .int x)]) RX0 rfl (by decide) rfl (Nat.le_of_ble_eq_true rfl) rfl ?_
  intro p e s m below meth c A X hr
  have in0 : ∀ w ∈ u_ws RX0 TX0 3, w ∈ wsX0_costOver := by decide +kernel
  refine V_iload_n (pc := 0) X dX0_costOver_0 rfl 1 rfl ?_
  refine V_if_lt (tgt := 12) (pc := 1) X dX0_costOver_1 (by decide) (fun c_1 => ?_) (fun c_1 => ?_)
  · skip
    refine V_sipush (v := 1000) (pc := 12) X dX0_costOver_12 (by decide) ?_
    exact Vg_iret (pc := 15) X dX0_costOver_15 hr (by first | rfl | (simp [bI, cov, c_1]; done) | (simp_all [bI, Int32.not_le, Int32.not_lt, cov]; done))
  · skip
    refine V_aload_n (pc := 4) X dX0_costOver_4 rfl 0 rfl ?_
    refine V_iload_n (pc := 5) X dX0_costOver_5 rfl 1 rfl ?_
    refine V_vg (pc := 6) (nA := 1) (As := [.int x]) (rest := []) X (c_X0_canWalk l g (kq := kq) (ktq := ktq) (kt := kt) (kw := kw) (kc := kc) (x := x) ) gX0_costOver_X0_canWalk dX0_costOver_6 rfl (by decide +kernel) rfl (qb := 0) rfl rfl rfl ⟨rfl, rfl⟩ ⟨Nat.le_of_ble_eq_true rfl, Nat.le_of_ble_eq_true rfl⟩ ⟨Nat.le_of_ble_eq_true rfl, Nat.le_of_ble_eq_true rfl⟩ [0, 1] (by decide) rfl rfl (Nat.le_of_ble_eq_true rfl) (st' := [.int (bI (firmB kw x))]) rfl ?_
    refine V_if_ne (tgt := 16) (pc := 9) X dX0_costOver_9 (by decide) (fun c_2 => ?_) (fun c_2 => ?_)
    · skip
      have b_3 : firmB kw x = true := bI1 c_2
      refine V_aload_n (pc := 16) X dX0_costOver_16 rfl 0 rfl ?_
      refine V_get (C := RX0) (T := TX0) (N := 3) (ci := 0) (pc := 17) X dX0_costOver_17 in0 0 rfl rfl 0 (by decide) (by decide +kernel) rfl rfl ?_
      refine V_iload_n (pc := 20) X dX0_costOver_20 rfl 1 rfl ?_
      refine V_iald (v := kt x.toNatClampNeg) (pc := 21) X dX0_costOver_21 1 rfl (by first | assumption | exact vin36 (by assumption) (by assumption)) rfl ?_
      refine V_aload_n (pc := 22) X dX0_costOver_22 rfl 0 rfl ?_
      refine V_get (C := RX0) (T := TX0) (N := 3) (ci := 0) (pc := 23) X dX0_costOver_23 in0 0 rfl rfl 2 (by decide) (by decide +kernel) rfl rfl ?_
      refine V_iload_n (pc := 26) X dX0_costOver_26 rfl 1 rfl ?_
      refine V_ng (pc := 27) (nA := 1) (As := [.int x]) (rest := [.long kc, .int (kt x.toNatClampNeg)]) X (c_X9_bit l g (x := x) ) gX0_costOver_X9_bit_n52 dX0_costOver_27 rfl (by decide +kernel) rfl (by decide +kernel) (by decide +kernel) (by decide +kernel) ⟨rfl, rfl⟩ ⟨Nat.le_of_ble_eq_true rfl, Nat.le_of_ble_eq_true rfl⟩ ⟨Nat.le_of_ble_eq_true rfl, Nat.le_of_ble_eq_true rfl⟩ [] (by decide) rfl rfl (Nat.le_of_ble_eq_true rfl) (st' := [.long (bitI x), .long kc, .int (kt x.toNatClampNeg)]) rfl ?_
      refine V_land (pc := 30) X dX0_costOver_30 ?_
      refine V_lconst (v := 0) (pc := 31) X dX0_costOver_31 (by decide) ?_
      refine V_lcmp (pc := 32) X dX0_costOver_32 ?_
      refine V_if_eq (tgt := 40) (pc := 33) X dX0_costOver_33 (by decide) (fun c_4 => ?_) (fun c_4 => ?_)
      · skip
        have q_5 : (kc &&& (bitI x)) = 0 := cmp_eq_t c_4
        refine V_iconst (v := 2) (pc := 40) X dX0_costOver_40 (by decide) ?_
        refine V_iadd (pc := 41) X dX0_costOver_41 ?_
        exact Vg_iret (pc := 42) X dX0_costOver_42 hr (by first | rfl | (simp [bI, cov, c_1, b_3, q_5]; done) | (simp_all [bI, Int32.not_le, Int32.not_lt, cov]; done))
      · skip
        have q_6 : ¬ (kc &&& (bitI x)) = 0 := cmp_eq_f c_4
        refine V_iconst (v := 1) (pc := 36) X dX0_costOver_36 (by decide) ?_
        refine V_goto (tgt := 41) (pc := 37) X dX0_costOver_37 (by decide) ?_
        refine V_iadd (pc := 41) X dX0_costOver_41 ?_
        exact Vg_iret (pc := 42) X dX0_costOver_42 hr (by first | rfl | (simp [bI, cov, c_1, b_3, q_6]; done) | (simp_all [bI, Int32.not_le, Int32.not_lt, cov]; done))
    · skip
      have b_7 : firmB kw x = false := bI0 c_2
      refine V_sipush (v := 1000) (pc := 12) X dX0_costOver_12 (by decide) ?_
      exact Vg_iret (pc := 15) X dX0_costOver_15 hr (by first | rfl | (simp [bI, cov, c_1, b_7]; done) | (simp_all [bI, Int32.not_le, Int32.not_lt, cov]; done))
set_option maxHeartbeats 4000000 in
set_option maxRecDepth 100000 in
theorem c_X0_improve (l : Launch) (g : XG) (kq : Nat) (ktq : Nat) (kt : Nat → Int32) (kw : Int64) (kc : Int64)  : Ke l g yX0_improve wsX0_improve ({ frames := 3, cells := 0, slots := 0, locals := 62 } : Room) 0 0 [.ref kq] [ob kq 0 [.ref ktq, .long kw, .long kc], ai g ktq 36 kt] (fun u : Unit => some (.int (bI ((clF kw kc (kt, false) 36).2)))) (fun u => [ob kq 0 [.ref ktq, .long kw, .long kc], ai g ktq 36 ((clF kw kc (kt, false) 36).1)]) (fun u => True) := by
  refine Ke.of (cc := cX0_improve) (maxL := 5) (ret := (some .boolean)) (lv := [(0, .ref kq)]) RX0 rfl (by decide) rfl (Nat.le_of_ble_eq_true rfl) rfl ?_
  intro p e s m below meth c A sz hA9 X hr hin2
  have in0 : ∀ w ∈ u_ws RX0 TX0 3, w ∈ wsX0_improve := by decide +kernel
  refine V_iconst (v := 0) (pc := 0) X dX0_improve_0 (by decide) ?_
  refine V_istore_n (lv' := [(1, .int 0), (0, .ref kq)]) (pc := 1) X dX0_improve_1 rfl (Nat.le_of_ble_eq_true rfl) rfl ?_
  refine V_iconst (v := 0) (pc := 2) X dX0_improve_2 (by decide) ?_
  refine V_istore_n (lv' := [(2, .int 0), (1, .int 0), (0, .ref kq)]) (pc := 3) X dX0_improve_3 rfl (Nat.le_of_ble_eq_true rfl) rfl ?_
  refine V_loop (pc := 4) (σ := Nat × Bool × (Nat → Int32)) (fun v9 => [(0, .ref kq), (1, .int (bI v9.2.1)), (2, .int (nI v9.1))]) (fun v9 => [ob kq 0 [.ref ktq, .long kw, .long kc], ai g ktq 36 v9.2.2]) (fun v9 => (v9.1 ≤ 36) ∧ ((v9.2.2, v9.2.1) = clF kw kc (kt, false) v9.1)) (fun v9 => 36 - v9.1) (0, false, kt) ⟨(by
        try dsimp only
        all_goals omega), (by
        try dsimp only
        all_goals rfl)⟩ rfl [2, 1, 0] rfl ?_
  rintro ⟨i, b, z⟩ ⟨hi, hz⟩ ih4
  try dsimp only at hi
  try dsimp only at hz
  refine V_eqw (ws2 := [ob kq 0 [.ref ktq, .long kw, .long kc], ai g ktq 36 z]) rfl (V_eql (lv' := [(0, .ref kq), (1, .int (bI b)), (2, .int (nI i))]) rfl ?_)
  refine V_iload_n (pc := 4) X dX0_improve_4 rfl 2 rfl ?_
  refine V_bipush (v := 36) (pc := 5) X dX0_improve_5 (by decide) ?_
  refine V_icmp_ge (tgt := 75) (pc := 7) X dX0_improve_7 (by decide) (fun c_1 => ?_) (fun c_1 => ?_)
  · skip
    have n_2 : 36 ≤ i := nJ_le (a := 36) (b := i) (by omega) (by omega) c_1
    refine V_iload_n (pc := 75) X dX0_improve_75 rfl 1 rfl ?_
    exact Ve_zret (pc := 76) X hA9 dX0_improve_76 hr () (by rw [← show i = 36 by omega, ← hz]) trivial (bI_n _) (by rw [← show i = 36 by omega, ← hz])
  · skip
    have n_3 : i < 36 := nJ_nle (a := 36) (b := i) (by omega) (by omega) c_1
    refine V_iconst (v := 0) (pc := 10) X dX0_improve_10 (by decide) ?_
    refine V_istore_n (lv' := [(3, .int 0), (0, .ref kq), (1, .int (bI b)), (2, .int (nI i))]) (pc := 11) X dX0_improve_11 rfl (Nat.le_of_ble_eq_true rfl) rfl ?_
    refine V_loop (pc := 12) (σ := Nat × Bool × (Nat → Int32)) (fun v9 => [(0, .ref kq), (1, .int (bI v9.2.1)), (2, .int (nI i)), (3, .int (nI v9.1))]) (fun v9 => [ob kq 0 [.ref ktq, .long kw, .long kc], ai g ktq 36 v9.2.2]) (fun v9 => (v9.1 ≤ 4) ∧ ((v9.2.2, v9.2.1) = sdF kw kc i (clF kw kc (kt, false) i) v9.1)) (fun v9 => 4 - v9.1) (0, b, z) ⟨(by
          try dsimp only
          all_goals omega), (by
          try dsimp only
          exact hz)⟩ rfl [1, 2, 3, 0] rfl ?_
    rintro ⟨j, b2, z2⟩ ⟨hj, hz2⟩ ih12
    try dsimp only at hj
    try dsimp only at hz2
    refine V_eqw (ws2 := [ob kq 0 [.ref ktq, .long kw, .long kc], ai g ktq 36 z2]) rfl (V_eql (lv' := [(0, .ref kq), (1, .int (bI b2)), (2, .int (nI i)), (3, .int (nI j))]) rfl ?_)
    refine V_iload_n (pc := 12) X dX0_improve_12 rfl 3 rfl ?_
    refine V_iconst (v := 4) (pc := 13) X dX0_improve_13 (by decide) ?_
    refine V_icmp_ge (tgt := 69) (pc := 14) X dX0_improve_14 (by decide) (fun c_4 => ?_) (fun c_4 => ?_)
    · skip
      have n_5 : 4 ≤ j := nJ_le (a := 4) (b := j) (by omega) (by omega) c_4
      refine V_iinc (v := nI (i + 1)) (lv' := [(2, .int (nI (i + 1))), (0, .ref kq), (1, .int (bI b2)), (3, .int (nI j))]) (pc := 69) X dX0_improve_69 2 rfl (nI_add i 1) (Nat.le_of_ble_eq_true rfl) rfl ?_
      refine V_goto (tgt := 4) (pc := 72) X dX0_improve_72 (by decide) ?_
      refine V_lv [1, 2, 0] rfl ?_
      exact ih4 (i + 1, b2, z2) ⟨(by
            try dsimp only
            all_goals omega), (by
            try dsimp only
            rw [hz2, show j = 4 by omega]; rfl)⟩ (by
            try dsimp only
            all_goals omega)
    · skip
      have n_6 : j < 4 := nJ_nle (a := 4) (b := j) (by omega) (by omega) c_4
      refine V_aload_n (pc := 17) X dX0_improve_17 rfl 0 rfl ?_
      refine V_iload_n (pc := 18) X dX0_improve_18 rfl 2 rfl ?_
      refine V_vg (pc := 19) (nA := 1) (As := [.int (nI i)]) (rest := []) X (c_X0_canWalk l g (kq := kq) (ktq := ktq) (kt := z2) (kw := kw) (kc := kc) (x := nI i) ) gX0_improve_X0_canWalk dX0_improve_19 rfl (by decide +kernel) rfl (qb := 0) rfl rfl rfl ⟨rfl, rfl⟩ ⟨Nat.le_of_ble_eq_true rfl, Nat.le_of_ble_eq_true rfl⟩ ⟨Nat.le_of_ble_eq_true rfl, Nat.le_of_ble_eq_true rfl⟩ [0, 1] (by decide) rfl rfl (Nat.le_of_ble_eq_true rfl) (st' := [.int (bI (firmB kw (nI i)))]) rfl ?_
      refine V_if_eq (tgt := 37) (pc := 22) X dX0_improve_22 (by decide) (fun c_7 => ?_) (fun c_7 => ?_)
      · skip
        have b_8 : firmB kw (nI i) = false := bI0 c_7
        refine V_sipush (v := 1000) (pc := 37) X dX0_improve_37 (by decide) ?_
        refine V_istore (lv' := [(4, .int 1000), (0, .ref kq), (1, .int (bI b2)), (2, .int (nI i)), (3, .int (nI j))]) (pc := 40) X dX0_improve_40 (Nat.le_of_ble_eq_true rfl) rfl ?_
        refine V_iload (pc := 42) X dX0_improve_42 0 rfl ?_
        refine V_aload_n (pc := 44) X dX0_improve_44 rfl 1 rfl ?_
        refine V_get (C := RX0) (T := TX0) (N := 3) (ci := 0) (pc := 45) X dX0_improve_45 in0 0 rfl rfl 0 (by decide) (by decide +kernel) rfl rfl ?_
        refine V_iload_n (pc := 48) X dX0_improve_48 rfl 3 rfl ?_
        refine V_iald (v := z2 i) (pc := 49) X dX0_improve_49 1 rfl (vp_in_nI (by omega) (by omega)) (by rw [nI_clamp (by omega)]) ?_
        refine V_icmp_ge (tgt := 63) (pc := 50) X dX0_improve_50 (by decide) (fun c_9 => ?_) (fun c_9 => ?_)
        · skip
          refine V_iinc (v := nI (j + 1)) (lv' := [(3, .int (nI (j + 1))), (4, .int 1000), (0, .ref kq), (1, .int (bI b2)), (2, .int (nI i))]) (pc := 63) X dX0_improve_63 4 rfl (nI_add j 1) (Nat.le_of_ble_eq_true rfl) rfl ?_
          refine V_goto (tgt := 12) (pc := 66) X dX0_improve_66 (by decide) ?_
          refine V_lv [2, 3, 4, 0] rfl ?_
          exact ih12 (j + 1, b2, z2) ⟨(by
                try dsimp only
                all_goals omega), (by
                try dsimp only
                rw [sdF, ← hz2]; simp [rlx, n_3, n_6, b_8, c_9])⟩ (by
                try dsimp only
                all_goals omega)
        · skip
          refine V_aload_n (pc := 53) X dX0_improve_53 rfl 1 rfl ?_
          refine V_get (C := RX0) (T := TX0) (N := 3) (ci := 0) (pc := 54) X dX0_improve_54 in0 0 rfl rfl 0 (by decide) (by decide +kernel) rfl rfl ?_
          refine V_iload_n (pc := 57) X dX0_improve_57 rfl 3 rfl ?_
          refine V_iload (pc := 58) X dX0_improve_58 0 rfl ?_
          refine V_iast (f' := upd z2 i 1000) (ws' := [ob kq 0 [.ref ktq, .long kw, .long kc], ai g ktq 36 (upd z2 i 1000)]) (pc := 60) X dX0_improve_60 1 rfl (vp_in_nI (by omega) (by omega)) (by rw [nI_clamp (by omega)]) rfl ?_
          refine V_iconst (v := 1) (pc := 61) X dX0_improve_61 (by decide) ?_
          refine V_istore_n (lv' := [(1, .int 1), (4, .int 1000), (0, .ref kq), (2, .int (nI i)), (3, .int (nI j))]) (pc := 62) X dX0_improve_62 rfl (Nat.le_of_ble_eq_true rfl) rfl ?_
          refine V_iinc (v := nI (j + 1)) (lv' := [(3, .int (nI (j + 1))), (1, .int 1), (4, .int 1000), (0, .ref kq), (2, .int (nI i))]) (pc := 63) X dX0_improve_63 4 rfl (nI_add j 1) (Nat.le_of_ble_eq_true rfl) rfl ?_
          refine V_goto (tgt := 12) (pc := 66) X dX0_improve_66 (by decide) ?_
          refine V_lv [3, 1, 4, 0] rfl ?_
          exact ih12 (j + 1, true, upd z2 i 1000) ⟨(by
                try dsimp only
                all_goals omega), (by
                try dsimp only
                rw [sdF, ← hz2]; simp [rlx, n_3, n_6, b_8, c_9])⟩ (by
                try dsimp only
                all_goals omega)
      · skip
        have b_10 : firmB kw (nI i) = true := bI1 c_7
        refine V_aload_n (pc := 25) X dX0_improve_25 rfl 0 rfl ?_
        refine V_iload_n (pc := 26) X dX0_improve_26 rfl 2 rfl ?_
        refine V_iload_n (pc := 27) X dX0_improve_27 rfl 3 rfl ?_
        refine V_ng (pc := 28) (nA := 2) (As := [.int (nI i), .int (nI j)]) (rest := [.ref kq]) X (c_X9_neighbour l g (x := nI i) (y := nI j) ) gX0_improve_X9_neighbour_n44 dX0_improve_28 rfl (by decide +kernel) rfl (by decide +kernel) (by decide +kernel) (by decide +kernel) ⟨rfl, rfl⟩ ⟨Nat.le_of_ble_eq_true rfl, Nat.le_of_ble_eq_true rfl⟩ ⟨Nat.le_of_ble_eq_true rfl, Nat.le_of_ble_eq_true rfl⟩ [] (by decide) rfl rfl (Nat.le_of_ble_eq_true rfl) (st' := [.int (nbr (nI i) (nI j)), .ref kq]) rfl ?_
        refine V_vg (pc := 31) (nA := 1) (As := [.int (nbr (nI i) (nI j))]) (rest := []) X (c_X0_costOver l g (kq := kq) (ktq := ktq) (kt := z2) (kw := kw) (kc := kc) (x := nbr (nI i) (nI j)) (hx := by exact nbr_lt (by omega) (by omega))) gX0_improve_X0_costOver dX0_improve_31 rfl (by decide +kernel) rfl (qb := 0) rfl rfl rfl ⟨rfl, rfl⟩ ⟨Nat.le_of_ble_eq_true rfl, Nat.le_of_ble_eq_true rfl⟩ ⟨Nat.le_of_ble_eq_true rfl, Nat.le_of_ble_eq_true rfl⟩ [0, 1] (by decide) rfl rfl (Nat.le_of_ble_eq_true rfl) (st' := [.int (cov z2 kw kc (nbr (nI i) (nI j)))]) rfl ?_
        refine V_goto (tgt := 40) (pc := 34) X dX0_improve_34 (by decide) ?_
        refine V_istore (lv' := [(4, .int (cov z2 kw kc (nbr (nI i) (nI j)))), (0, .ref kq), (1, .int (bI b2)), (2, .int (nI i)), (3, .int (nI j))]) (pc := 40) X dX0_improve_40 (Nat.le_of_ble_eq_true rfl) rfl ?_
        refine V_iload (pc := 42) X dX0_improve_42 0 rfl ?_
        refine V_aload_n (pc := 44) X dX0_improve_44 rfl 1 rfl ?_
        refine V_get (C := RX0) (T := TX0) (N := 3) (ci := 0) (pc := 45) X dX0_improve_45 in0 0 rfl rfl 0 (by decide) (by decide +kernel) rfl rfl ?_
        refine V_iload_n (pc := 48) X dX0_improve_48 rfl 3 rfl ?_
        refine V_iald (v := z2 i) (pc := 49) X dX0_improve_49 1 rfl (vp_in_nI (by omega) (by omega)) (by rw [nI_clamp (by omega)]) ?_
        refine V_icmp_ge (tgt := 63) (pc := 50) X dX0_improve_50 (by decide) (fun c_11 => ?_) (fun c_11 => ?_)
        · skip
          refine V_iinc (v := nI (j + 1)) (lv' := [(3, .int (nI (j + 1))), (4, .int (cov z2 kw kc (nbr (nI i) (nI j)))), (0, .ref kq), (1, .int (bI b2)), (2, .int (nI i))]) (pc := 63) X dX0_improve_63 4 rfl (nI_add j 1) (Nat.le_of_ble_eq_true rfl) rfl ?_
          refine V_goto (tgt := 12) (pc := 66) X dX0_improve_66 (by decide) ?_
          refine V_lv [2, 3, 4, 0] rfl ?_
          exact ih12 (j + 1, b2, z2) ⟨(by
                try dsimp only
                all_goals omega), (by
                try dsimp only
                rw [sdF, ← hz2]; simp [rlx, n_3, n_6, b_10, c_11])⟩ (by
                try dsimp only
                all_goals omega)
        · skip
          refine V_aload_n (pc := 53) X dX0_improve_53 rfl 1 rfl ?_
          refine V_get (C := RX0) (T := TX0) (N := 3) (ci := 0) (pc := 54) X dX0_improve_54 in0 0 rfl rfl 0 (by decide) (by decide +kernel) rfl rfl ?_
          refine V_iload_n (pc := 57) X dX0_improve_57 rfl 3 rfl ?_
          refine V_iload (pc := 58) X dX0_improve_58 0 rfl ?_
          refine V_iast (f' := upd z2 i (cov z2 kw kc (nbr (nI i) (nI j)))) (ws' := [ob kq 0 [.ref ktq, .long kw, .long kc], ai g ktq 36 (upd z2 i (cov z2 kw kc (nbr (nI i) (nI j))))]) (pc := 60) X dX0_improve_60 1 rfl (vp_in_nI (by omega) (by omega)) (by rw [nI_clamp (by omega)]) rfl ?_
          refine V_iconst (v := 1) (pc := 61) X dX0_improve_61 (by decide) ?_
          refine V_istore_n (lv' := [(1, .int 1), (4, .int (cov z2 kw kc (nbr (nI i) (nI j)))), (0, .ref kq), (2, .int (nI i)), (3, .int (nI j))]) (pc := 62) X dX0_improve_62 rfl (Nat.le_of_ble_eq_true rfl) rfl ?_
          refine V_iinc (v := nI (j + 1)) (lv' := [(3, .int (nI (j + 1))), (1, .int 1), (4, .int (cov z2 kw kc (nbr (nI i) (nI j)))), (0, .ref kq), (2, .int (nI i))]) (pc := 63) X dX0_improve_63 4 rfl (nI_add j 1) (Nat.le_of_ble_eq_true rfl) rfl ?_
          refine V_goto (tgt := 12) (pc := 66) X dX0_improve_66 (by decide) ?_
          refine V_lv [3, 1, 4, 0] rfl ?_
          exact ih12 (j + 1, true, upd z2 i (cov z2 kw kc (nbr (nI i) (nI j)))) ⟨(by
                try dsimp only
                all_goals omega), (by
                try dsimp only
                rw [sdF, ← hz2]; simp [rlx, n_3, n_6, b_10, c_11])⟩ (by
                try dsimp only
                all_goals omega)
set_option maxHeartbeats 4000000 in
set_option maxRecDepth 100000 in
theorem c_X0_measure (l : Launch) (g : XG) (kq : Nat) (ktq : Nat) (kt : Nat → Int32) (kw : Int64) (kc : Int64) (bq : Nat) (bmq : Nat) (bf : Int64) (bt : Nat) (bz : Int32) (bm : Nat → Int32) (x : Int32) (ht : bt ≤ 6) (hx : vp_in x 36) : Ke l g yX0_measure wsX0_measure ({ frames := 4, cells := 0, slots := 0, locals := 86 } : Room) 0 0 [.ref kq, .ref bq, .int x] [ob kq 0 [.ref ktq, .long kw, .long kc], ai g ktq 36 kt, ob bq 4 [.long bf, .int (nI bt), .int bz, .ref bmq], ai g bmq 6 bm] (fun u : Unit => none) (fun u => [ob kq 0 [.ref ktq, .long (wkX bz bf bm bt (-1)), .long (kcX bz bf)], ai g ktq 36 (rdS (wkX bz bf bm bt (-1)) (kcX bz bf) 36 true (inF kt (wkX bz bf bm bt (-1)) x)), ob bq 4 [.long bf, .int (nI bt), .int bz, .ref bmq], ai g bmq 6 bm]) (fun u => True) := by
  refine Ke.of (cc := cX0_measure) (maxL := 5) (ret := none) (lv := [(0, .ref kq), (1, .ref bq), (2, .int x)]) RX0 rfl (by decide) rfl (Nat.le_of_ble_eq_true rfl) rfl ?_
  intro p e s m below meth c A sz hA9 X hr hin2
  have in0 : ∀ w ∈ u_ws RX0 TX0 3, w ∈ wsX0_measure := by decide +kernel
  have in4 : ∀ w ∈ u_ws RX4 TX4 4, w ∈ wsX0_measure := by decide +kernel
  refine V_aload_n (pc := 0) X dX0_measure_0 rfl 0 rfl ?_
  refine V_aload_n (pc := 1) X dX0_measure_1 rfl 1 rfl ?_
  refine V_vg (pc := 2) (nA := 0) (As := []) (rest := [.ref kq]) X (c_X4_walkable l g (bq := bq) (bmq := bmq) (bf := bf) (bt := bt) (bz := bz) (bm := bm) (ht := by first | assumption | omega)) gX0_measure_X4_walkable dX0_measure_2 rfl (by decide +kernel) rfl (qb := 2) rfl rfl rfl ⟨rfl, rfl⟩ ⟨Nat.le_of_ble_eq_true rfl, Nat.le_of_ble_eq_true rfl⟩ ⟨Nat.le_of_ble_eq_true rfl, Nat.le_of_ble_eq_true rfl⟩ [2, 3] (by decide) rfl rfl (Nat.le_of_ble_eq_true rfl) (st' := [.long (wkX bz bf bm bt (-1)), .ref kq]) rfl ?_
  refine V_put (C := RX0) (T := TX0) (N := 3) (ci := 0) (ws' := [ob kq 0 [.ref ktq, .long (wkX bz bf bm bt (-1)), .long kc], ai g ktq 36 kt, ob bq 4 [.long bf, .int (nI bt), .int bz, .ref bmq], ai g bmq 6 bm]) (pc := 5) X dX0_measure_5 in0 tyX0 tyX0_ok nmX0 0 rfl rfl 1 (by decide) (by decide +kernel) rfl rfl rfl rfl rfl (Nat.le_of_ble_eq_true rfl) rfl ?_
  refine V_aload_n (pc := 8) X dX0_measure_8 rfl 0 rfl ?_
  refine V_aload_n (pc := 9) X dX0_measure_9 rfl 1 rfl ?_
  refine V_get (C := RX4) (T := TX4) (N := 4) (ci := 4) (pc := 10) X dX0_measure_10 in4 2 rfl rfl 2 (by decide) (by decide +kernel) rfl rfl ?_
  refine V_if_le (tgt := 22) (pc := 13) X dX0_measure_13 (by decide) (fun c_1 => ?_) (fun c_1 => ?_)
  · skip
    refine V_aload_n (pc := 22) X dX0_measure_22 rfl 1 rfl ?_
    refine V_get (C := RX4) (T := TX4) (N := 4) (ci := 4) (pc := 23) X dX0_measure_23 in4 2 rfl rfl 0 (by decide) (by decide +kernel) rfl rfl ?_
    refine V_setl (y := kcX bz bf) (by simp [kcX, c_1]) ?_
    refine V_put (C := RX0) (T := TX0) (N := 3) (ci := 0) (ws' := [ob kq 0 [.ref ktq, .long (wkX bz bf bm bt (-1)), .long (kcX bz bf)], ai g ktq 36 kt, ob bq 4 [.long bf, .int (nI bt), .int bz, .ref bmq], ai g bmq 6 bm]) (pc := 26) X dX0_measure_26 in0 tyX0 tyX0_ok nmX0 0 rfl rfl 2 (by decide) (by decide +kernel) rfl rfl rfl rfl rfl (Nat.le_of_ble_eq_true rfl) rfl ?_
    refine V_iconst (v := 0) (pc := 29) X dX0_measure_29 (by decide) ?_
    refine V_istore_n (lv' := [(3, .int 0), (0, .ref kq), (1, .ref bq), (2, .int x)]) (pc := 30) X dX0_measure_30 rfl (Nat.le_of_ble_eq_true rfl) rfl ?_
    refine V_loop (pc := 31) (σ := Nat × (Nat → Int32)) (fun v9 => [(0, .ref kq), (1, .ref bq), (2, .int x), (3, .int (nI v9.1))]) (fun v9 => [ob kq 0 [.ref ktq, .long (wkX bz bf bm bt (-1)), .long (kcX bz bf)], ai g ktq 36 v9.2, ob bq 4 [.long bf, .int (nI bt), .int bz, .ref bmq], ai g bmq 6 bm]) (fun v9 => (v9.1 ≤ 36) ∧ (v9.2 = cpF kt (fun _ => 1000) v9.1)) (fun v9 => 36 - v9.1) (0, kt) ⟨(by
          try dsimp only
          all_goals omega), (by
          try dsimp only
          exact cpF_0 _ _)⟩ rfl [1, 2, 3, 0] rfl ?_
    rintro ⟨k, z⟩ ⟨hk, hz⟩ ih31
    try dsimp only at hk
    try dsimp only at hz
    refine V_eqw (ws2 := [ob kq 0 [.ref ktq, .long (wkX bz bf bm bt (-1)), .long (kcX bz bf)], ai g ktq 36 z, ob bq 4 [.long bf, .int (nI bt), .int bz, .ref bmq], ai g bmq 6 bm]) rfl (V_eql (lv' := [(0, .ref kq), (1, .ref bq), (2, .int x), (3, .int (nI k))]) rfl ?_)
    refine V_iload_n (pc := 31) X dX0_measure_31 rfl 3 rfl ?_
    refine V_bipush (v := 36) (pc := 32) X dX0_measure_32 (by decide) ?_
    refine V_icmp_ge (tgt := 52) (pc := 34) X dX0_measure_34 (by decide) (fun c_2 => ?_) (fun c_2 => ?_)
    · skip
      have n_3 : 36 ≤ k := nJ_le (a := 36) (b := k) (by omega) (by omega) c_2
      refine V_aload_n (pc := 52) X dX0_measure_52 rfl 0 rfl ?_
      refine V_iload_n (pc := 53) X dX0_measure_53 rfl 2 rfl ?_
      refine V_vg (pc := 54) (nA := 1) (As := [.int x]) (rest := []) X (c_X0_canWalk l g (kq := kq) (ktq := ktq) (kt := z) (kw := wkX bz bf bm bt (-1)) (kc := kcX bz bf) (x := x) ) gX0_measure_X0_canWalk dX0_measure_54 rfl (by decide +kernel) rfl (qb := 0) rfl rfl rfl ⟨rfl, rfl⟩ ⟨Nat.le_of_ble_eq_true rfl, Nat.le_of_ble_eq_true rfl⟩ ⟨Nat.le_of_ble_eq_true rfl, Nat.le_of_ble_eq_true rfl⟩ [0, 1] (by decide) rfl rfl (Nat.le_of_ble_eq_true rfl) (st' := [.int (bI (firmB (wkX bz bf bm bt (-1)) x))]) rfl ?_
      refine V_if_eq (tgt := 67) (pc := 57) X dX0_measure_57 (by decide) (fun c_4 => ?_) (fun c_4 => ?_)
      · skip
        have b_5 : firmB (wkX bz bf bm bt (-1)) x = false := bI0 c_4
        refine V_iconst (v := 1) (pc := 67) X dX0_measure_67 (by decide) ?_
        refine V_istore_n (lv' := [(3, .int 1), (0, .ref kq), (1, .ref bq), (2, .int x)]) (pc := 68) X dX0_measure_68 rfl (Nat.le_of_ble_eq_true rfl) rfl ?_
        refine V_iconst (v := 0) (pc := 69) X dX0_measure_69 (by decide) ?_
        refine V_istore (lv' := [(4, .int 0), (3, .int 1), (0, .ref kq), (1, .ref bq), (2, .int x)]) (pc := 70) X dX0_measure_70 (Nat.le_of_ble_eq_true rfl) rfl ?_
        refine V_loop (pc := 72) (σ := Nat × Bool × (Nat → Int32)) (fun v9 => [(0, .ref kq), (3, .int (bI v9.2.1)), (4, .int (nI v9.1))]) (fun v9 => [ob kq 0 [.ref ktq, .long (wkX bz bf bm bt (-1)), .long (kcX bz bf)], ai g ktq 36 v9.2.2, ob bq 4 [.long bf, .int (nI bt), .int bz, .ref bmq], ai g bmq 6 bm]) (fun v9 => (v9.1 ≤ 36) ∧ (rdS (wkX bz bf bm bt (-1)) (kcX bz bf) (36 - v9.1) v9.2.1 v9.2.2 = rdS (wkX bz bf bm bt (-1)) (kcX bz bf) 36 true (inF kt (wkX bz bf bm bt (-1)) x))) (fun v9 => 36 - v9.1) (0, true, z) ⟨(by
              try dsimp only
              all_goals omega), (by
              try dsimp only
              (rw [hz, show k = 36 by omega]; simp [inF, c_1, n_3, b_5]))⟩ rfl [2, 1, 0] rfl ?_
        rintro ⟨i, b, z2⟩ ⟨hi, hs⟩ ih72
        try dsimp only at hi
        try dsimp only at hs
        refine V_eqw (ws2 := [ob kq 0 [.ref ktq, .long (wkX bz bf bm bt (-1)), .long (kcX bz bf)], ai g ktq 36 z2, ob bq 4 [.long bf, .int (nI bt), .int bz, .ref bmq], ai g bmq 6 bm]) rfl (V_eql (lv' := [(0, .ref kq), (3, .int (bI b)), (4, .int (nI i))]) rfl ?_)
        refine V_iload (pc := 72) X dX0_measure_72 2 rfl ?_
        refine V_bipush (v := 36) (pc := 74) X dX0_measure_74 (by decide) ?_
        refine V_icmp_ge (tgt := 94) (pc := 76) X dX0_measure_76 (by decide) (fun c_6 => ?_) (fun c_6 => ?_)
        · skip
          have n_7 : 36 ≤ i := nJ_le (a := 36) (b := i) (by omega) (by omega) c_6
          exact Ve_vret (pc := 94) X hA9 dX0_measure_94 hr () rfl trivial (by first | (rw [← hs, show 36 - i = 0 by omega]; rfl) | (rw [← hs, show b = false by assumption, rdS_f]))
        · skip
          have n_8 : i < 36 := nJ_nle (a := 36) (b := i) (by omega) (by omega) c_6
          refine V_iload_n (pc := 79) X dX0_measure_79 rfl 1 rfl ?_
          refine V_if_eq (tgt := 94) (pc := 80) X dX0_measure_80 (by decide) (fun c_9 => ?_) (fun c_9 => ?_)
          · skip
            have b_10 : b = false := bI0 c_9
            exact Ve_vret (pc := 94) X hA9 dX0_measure_94 hr () rfl trivial (by first | (rw [← hs, show 36 - i = 0 by omega]; rfl) | (rw [← hs, show b = false by assumption, rdS_f]))
          · skip
            have b_11 : b = true := bI1 c_9
            refine V_aload_n (pc := 83) X dX0_measure_83 rfl 0 rfl ?_
            refine V_ve (pc := 84) (nA := 0) (As := []) (rest := []) X (c_X0_improve l g (kq := kq) (ktq := ktq) (kt := z2) (kw := wkX bz bf bm bt (-1)) (kc := kcX bz bf) ) gX0_measure_X0_improve dX0_measure_84 rfl (by decide +kernel) rfl (qb := 0) rfl rfl rfl ⟨rfl, rfl⟩ ⟨Nat.le_of_ble_eq_true rfl, Nat.le_of_ble_eq_true rfl⟩ ⟨Nat.le_of_ble_eq_true rfl, Nat.le_of_ble_eq_true rfl⟩ [0, 1] (by decide) rfl [2, 3] (by decide) (by decide) [ob bq 4 [.long bf, .int (nI bt), .int bz, .ref bmq], ai g bmq 6 bm] rfl [2, 3, 0, 1] (by decide) (fun u => [ob kq 0 [.ref ktq, .long (wkX bz bf bm bt (-1)), .long (kcX bz bf)], ai g ktq 36 ((clF (wkX bz bf bm bt (-1)) (kcX bz bf) (z2, false) 36).1), ob bq 4 [.long bf, .int (nI bt), .int bz, .ref bmq], ai g bmq 6 bm]) (fun _ => rfl) rfl (Nat.le_of_ble_eq_true rfl) (fun u => [.int (bI ((clF (wkX bz bf bm bt (-1)) (kcX bz bf) (z2, false) 36).2))]) (fun _ => rfl) (fun u hu_12 => ?_)
            refine V_eqw (ws2 := [ob kq 0 [.ref ktq, .long (wkX bz bf bm bt (-1)), .long (kcX bz bf)], ai g ktq 36 ((clF (wkX bz bf bm bt (-1)) (kcX bz bf) (z2, false) 36).1), ob bq 4 [.long bf, .int (nI bt), .int bz, .ref bmq], ai g bmq 6 bm]) rfl (V_eqs (st2 := [.int (bI ((clF (wkX bz bf bm bt (-1)) (kcX bz bf) (z2, false) 36).2))]) rfl ?_)
            refine V_istore_n (lv' := [(3, .int (bI ((clF (wkX bz bf bm bt (-1)) (kcX bz bf) (z2, false) 36).2))), (0, .ref kq), (4, .int (nI i))]) (pc := 87) X dX0_measure_87 rfl (Nat.le_of_ble_eq_true rfl) rfl ?_
            refine V_iinc (v := nI (i + 1)) (lv' := [(4, .int (nI (i + 1))), (3, .int (bI ((clF (wkX bz bf bm bt (-1)) (kcX bz bf) (z2, false) 36).2))), (0, .ref kq)]) (pc := 88) X dX0_measure_88 2 rfl (nI_add i 1) (Nat.le_of_ble_eq_true rfl) rfl ?_
            refine V_goto (tgt := 72) (pc := 91) X dX0_measure_91 (by decide) ?_
            refine V_lv [2, 1, 0] rfl ?_
            exact ih72 (i + 1, (clF (wkX bz bf bm bt (-1)) (kcX bz bf) (z2, false) 36).2, (clF (wkX bz bf bm bt (-1)) (kcX bz bf) (z2, false) 36).1) ⟨(by
                  try dsimp only
                  all_goals omega), (by
                  try dsimp only
                  rw [← hs, show 36 - i = (36 - (i + 1)) + 1 by omega, rdS, if_pos (by assumption)])⟩ (by
                  try dsimp only
                  all_goals omega)
      · skip
        have b_13 : firmB (wkX bz bf bm bt (-1)) x = true := bI1 c_4
        refine V_aload_n (pc := 60) X dX0_measure_60 rfl 0 rfl ?_
        refine V_get (C := RX0) (T := TX0) (N := 3) (ci := 0) (pc := 61) X dX0_measure_61 in0 0 rfl rfl 0 (by decide) (by decide +kernel) rfl rfl ?_
        refine V_iload_n (pc := 64) X dX0_measure_64 rfl 2 rfl ?_
        refine V_iconst (v := 0) (pc := 65) X dX0_measure_65 (by decide) ?_
        refine V_iast (f' := upd z x.toNatClampNeg 0) (ws' := [ob kq 0 [.ref ktq, .long (wkX bz bf bm bt (-1)), .long (kcX bz bf)], ai g ktq 36 (upd z x.toNatClampNeg 0), ob bq 4 [.long bf, .int (nI bt), .int bz, .ref bmq], ai g bmq 6 bm]) (pc := 66) X dX0_measure_66 1 rfl (by first | assumption) rfl rfl ?_
        refine V_iconst (v := 1) (pc := 67) X dX0_measure_67 (by decide) ?_
        refine V_istore_n (lv' := [(3, .int 1), (0, .ref kq), (1, .ref bq), (2, .int x)]) (pc := 68) X dX0_measure_68 rfl (Nat.le_of_ble_eq_true rfl) rfl ?_
        refine V_iconst (v := 0) (pc := 69) X dX0_measure_69 (by decide) ?_
        refine V_istore (lv' := [(4, .int 0), (3, .int 1), (0, .ref kq), (1, .ref bq), (2, .int x)]) (pc := 70) X dX0_measure_70 (Nat.le_of_ble_eq_true rfl) rfl ?_
        refine V_loop (pc := 72) (σ := Nat × Bool × (Nat → Int32)) (fun v9 => [(0, .ref kq), (3, .int (bI v9.2.1)), (4, .int (nI v9.1))]) (fun v9 => [ob kq 0 [.ref ktq, .long (wkX bz bf bm bt (-1)), .long (kcX bz bf)], ai g ktq 36 v9.2.2, ob bq 4 [.long bf, .int (nI bt), .int bz, .ref bmq], ai g bmq 6 bm]) (fun v9 => (v9.1 ≤ 36) ∧ (rdS (wkX bz bf bm bt (-1)) (kcX bz bf) (36 - v9.1) v9.2.1 v9.2.2 = rdS (wkX bz bf bm bt (-1)) (kcX bz bf) 36 true (inF kt (wkX bz bf bm bt (-1)) x))) (fun v9 => 36 - v9.1) (0, true, upd z x.toNatClampNeg 0) ⟨(by
              try dsimp only
              all_goals omega), (by
              try dsimp only
              (rw [hz, show k = 36 by omega]; simp [inF, c_1, n_3, b_13]))⟩ rfl [2, 1, 0] rfl ?_
        rintro ⟨i, b, z2⟩ ⟨hi, hs⟩ ih72
        try dsimp only at hi
        try dsimp only at hs
        refine V_eqw (ws2 := [ob kq 0 [.ref ktq, .long (wkX bz bf bm bt (-1)), .long (kcX bz bf)], ai g ktq 36 z2, ob bq 4 [.long bf, .int (nI bt), .int bz, .ref bmq], ai g bmq 6 bm]) rfl (V_eql (lv' := [(0, .ref kq), (3, .int (bI b)), (4, .int (nI i))]) rfl ?_)
        refine V_iload (pc := 72) X dX0_measure_72 2 rfl ?_
        refine V_bipush (v := 36) (pc := 74) X dX0_measure_74 (by decide) ?_
        refine V_icmp_ge (tgt := 94) (pc := 76) X dX0_measure_76 (by decide) (fun c_14 => ?_) (fun c_14 => ?_)
        · skip
          have n_15 : 36 ≤ i := nJ_le (a := 36) (b := i) (by omega) (by omega) c_14
          exact Ve_vret (pc := 94) X hA9 dX0_measure_94 hr () rfl trivial (by first | (rw [← hs, show 36 - i = 0 by omega]; rfl) | (rw [← hs, show b = false by assumption, rdS_f]))
        · skip
          have n_16 : i < 36 := nJ_nle (a := 36) (b := i) (by omega) (by omega) c_14
          refine V_iload_n (pc := 79) X dX0_measure_79 rfl 1 rfl ?_
          refine V_if_eq (tgt := 94) (pc := 80) X dX0_measure_80 (by decide) (fun c_17 => ?_) (fun c_17 => ?_)
          · skip
            have b_18 : b = false := bI0 c_17
            exact Ve_vret (pc := 94) X hA9 dX0_measure_94 hr () rfl trivial (by first | (rw [← hs, show 36 - i = 0 by omega]; rfl) | (rw [← hs, show b = false by assumption, rdS_f]))
          · skip
            have b_19 : b = true := bI1 c_17
            refine V_aload_n (pc := 83) X dX0_measure_83 rfl 0 rfl ?_
            refine V_ve (pc := 84) (nA := 0) (As := []) (rest := []) X (c_X0_improve l g (kq := kq) (ktq := ktq) (kt := z2) (kw := wkX bz bf bm bt (-1)) (kc := kcX bz bf) ) gX0_measure_X0_improve dX0_measure_84 rfl (by decide +kernel) rfl (qb := 0) rfl rfl rfl ⟨rfl, rfl⟩ ⟨Nat.le_of_ble_eq_true rfl, Nat.le_of_ble_eq_true rfl⟩ ⟨Nat.le_of_ble_eq_true rfl, Nat.le_of_ble_eq_true rfl⟩ [0, 1] (by decide) rfl [2, 3] (by decide) (by decide) [ob bq 4 [.long bf, .int (nI bt), .int bz, .ref bmq], ai g bmq 6 bm] rfl [2, 3, 0, 1] (by decide) (fun u => [ob kq 0 [.ref ktq, .long (wkX bz bf bm bt (-1)), .long (kcX bz bf)], ai g ktq 36 ((clF (wkX bz bf bm bt (-1)) (kcX bz bf) (z2, false) 36).1), ob bq 4 [.long bf, .int (nI bt), .int bz, .ref bmq], ai g bmq 6 bm]) (fun _ => rfl) rfl (Nat.le_of_ble_eq_true rfl) (fun u => [.int (bI ((clF (wkX bz bf bm bt (-1)) (kcX bz bf) (z2, false) 36).2))]) (fun _ => rfl) (fun u hu_20 => ?_)
            refine V_eqw (ws2 := [ob kq 0 [.ref ktq, .long (wkX bz bf bm bt (-1)), .long (kcX bz bf)], ai g ktq 36 ((clF (wkX bz bf bm bt (-1)) (kcX bz bf) (z2, false) 36).1), ob bq 4 [.long bf, .int (nI bt), .int bz, .ref bmq], ai g bmq 6 bm]) rfl (V_eqs (st2 := [.int (bI ((clF (wkX bz bf bm bt (-1)) (kcX bz bf) (z2, false) 36).2))]) rfl ?_)
            refine V_istore_n (lv' := [(3, .int (bI ((clF (wkX bz bf bm bt (-1)) (kcX bz bf) (z2, false) 36).2))), (0, .ref kq), (4, .int (nI i))]) (pc := 87) X dX0_measure_87 rfl (Nat.le_of_ble_eq_true rfl) rfl ?_
            refine V_iinc (v := nI (i + 1)) (lv' := [(4, .int (nI (i + 1))), (3, .int (bI ((clF (wkX bz bf bm bt (-1)) (kcX bz bf) (z2, false) 36).2))), (0, .ref kq)]) (pc := 88) X dX0_measure_88 2 rfl (nI_add i 1) (Nat.le_of_ble_eq_true rfl) rfl ?_
            refine V_goto (tgt := 72) (pc := 91) X dX0_measure_91 (by decide) ?_
            refine V_lv [2, 1, 0] rfl ?_
            exact ih72 (i + 1, (clF (wkX bz bf bm bt (-1)) (kcX bz bf) (z2, false) 36).2, (clF (wkX bz bf bm bt (-1)) (kcX bz bf) (z2, false) 36).1) ⟨(by
                  try dsimp only
                  all_goals omega), (by
                  try dsimp only
                  rw [← hs, show 36 - i = (36 - (i + 1)) + 1 by omega, rdS, if_pos (by assumption)])⟩ (by
                  try dsimp only
                  all_goals omega)
    · skip
      have n_21 : k < 36 := nJ_nle (a := 36) (b := k) (by omega) (by omega) c_2
      refine V_aload_n (pc := 37) X dX0_measure_37 rfl 0 rfl ?_
      refine V_get (C := RX0) (T := TX0) (N := 3) (ci := 0) (pc := 38) X dX0_measure_38 in0 0 rfl rfl 0 (by decide) (by decide +kernel) rfl rfl ?_
      refine V_iload_n (pc := 41) X dX0_measure_41 rfl 3 rfl ?_
      refine V_sipush (v := 1000) (pc := 42) X dX0_measure_42 (by decide) ?_
      refine V_iast (f' := upd z k 1000) (ws' := [ob kq 0 [.ref ktq, .long (wkX bz bf bm bt (-1)), .long (kcX bz bf)], ai g ktq 36 (upd z k 1000), ob bq 4 [.long bf, .int (nI bt), .int bz, .ref bmq], ai g bmq 6 bm]) (pc := 45) X dX0_measure_45 1 rfl (vp_in_nI (by omega) (by omega)) (by rw [nI_clamp (by omega)]) rfl ?_
      refine V_iinc (v := nI (k + 1)) (lv' := [(3, .int (nI (k + 1))), (0, .ref kq), (1, .ref bq), (2, .int x)]) (pc := 46) X dX0_measure_46 3 rfl (nI_add k 1) (Nat.le_of_ble_eq_true rfl) rfl ?_
      refine V_goto (tgt := 31) (pc := 49) X dX0_measure_49 (by decide) ?_
      refine V_lv [1, 2, 3, 0] rfl ?_
      exact ih31 (k + 1, upd z k 1000) ⟨(by
            try dsimp only
            all_goals omega), (by
            try dsimp only
            rw [hz]; exact cpF_s kt (fun _ => 1000) k)⟩ (by
            try dsimp only
            all_goals omega)
  · skip
    refine V_ldc2 (v := 68719476735) (pc := 16) X dX0_measure_16 (by decide +kernel) ?_
    refine V_goto (tgt := 26) (pc := 19) X dX0_measure_19 (by decide) ?_
    refine V_setl (y := kcX bz bf) (by simp [kcX, c_1]) ?_
    refine V_put (C := RX0) (T := TX0) (N := 3) (ci := 0) (ws' := [ob kq 0 [.ref ktq, .long (wkX bz bf bm bt (-1)), .long (kcX bz bf)], ai g ktq 36 kt, ob bq 4 [.long bf, .int (nI bt), .int bz, .ref bmq], ai g bmq 6 bm]) (pc := 26) X dX0_measure_26 in0 tyX0 tyX0_ok nmX0 0 rfl rfl 2 (by decide) (by decide +kernel) rfl rfl rfl rfl rfl (Nat.le_of_ble_eq_true rfl) rfl ?_
    refine V_iconst (v := 0) (pc := 29) X dX0_measure_29 (by decide) ?_
    refine V_istore_n (lv' := [(3, .int 0), (0, .ref kq), (1, .ref bq), (2, .int x)]) (pc := 30) X dX0_measure_30 rfl (Nat.le_of_ble_eq_true rfl) rfl ?_
    refine V_loop (pc := 31) (σ := Nat × (Nat → Int32)) (fun v9 => [(0, .ref kq), (1, .ref bq), (2, .int x), (3, .int (nI v9.1))]) (fun v9 => [ob kq 0 [.ref ktq, .long (wkX bz bf bm bt (-1)), .long (kcX bz bf)], ai g ktq 36 v9.2, ob bq 4 [.long bf, .int (nI bt), .int bz, .ref bmq], ai g bmq 6 bm]) (fun v9 => (v9.1 ≤ 36) ∧ (v9.2 = cpF kt (fun _ => 1000) v9.1)) (fun v9 => 36 - v9.1) (0, kt) ⟨(by
          try dsimp only
          all_goals omega), (by
          try dsimp only
          exact cpF_0 _ _)⟩ rfl [1, 2, 3, 0] rfl ?_
    rintro ⟨k, z⟩ ⟨hk, hz⟩ ih31
    try dsimp only at hk
    try dsimp only at hz
    refine V_eqw (ws2 := [ob kq 0 [.ref ktq, .long (wkX bz bf bm bt (-1)), .long (kcX bz bf)], ai g ktq 36 z, ob bq 4 [.long bf, .int (nI bt), .int bz, .ref bmq], ai g bmq 6 bm]) rfl (V_eql (lv' := [(0, .ref kq), (1, .ref bq), (2, .int x), (3, .int (nI k))]) rfl ?_)
    refine V_iload_n (pc := 31) X dX0_measure_31 rfl 3 rfl ?_
    refine V_bipush (v := 36) (pc := 32) X dX0_measure_32 (by decide) ?_
    refine V_icmp_ge (tgt := 52) (pc := 34) X dX0_measure_34 (by decide) (fun c_22 => ?_) (fun c_22 => ?_)
    · skip
      have n_23 : 36 ≤ k := nJ_le (a := 36) (b := k) (by omega) (by omega) c_22
      refine V_aload_n (pc := 52) X dX0_measure_52 rfl 0 rfl ?_
      refine V_iload_n (pc := 53) X dX0_measure_53 rfl 2 rfl ?_
      refine V_vg (pc := 54) (nA := 1) (As := [.int x]) (rest := []) X (c_X0_canWalk l g (kq := kq) (ktq := ktq) (kt := z) (kw := wkX bz bf bm bt (-1)) (kc := kcX bz bf) (x := x) ) gX0_measure_X0_canWalk dX0_measure_54 rfl (by decide +kernel) rfl (qb := 0) rfl rfl rfl ⟨rfl, rfl⟩ ⟨Nat.le_of_ble_eq_true rfl, Nat.le_of_ble_eq_true rfl⟩ ⟨Nat.le_of_ble_eq_true rfl, Nat.le_of_ble_eq_true rfl⟩ [0, 1] (by decide) rfl rfl (Nat.le_of_ble_eq_true rfl) (st' := [.int (bI (firmB (wkX bz bf bm bt (-1)) x))]) rfl ?_
      refine V_if_eq (tgt := 67) (pc := 57) X dX0_measure_57 (by decide) (fun c_24 => ?_) (fun c_24 => ?_)
      · skip
        have b_25 : firmB (wkX bz bf bm bt (-1)) x = false := bI0 c_24
        refine V_iconst (v := 1) (pc := 67) X dX0_measure_67 (by decide) ?_
        refine V_istore_n (lv' := [(3, .int 1), (0, .ref kq), (1, .ref bq), (2, .int x)]) (pc := 68) X dX0_measure_68 rfl (Nat.le_of_ble_eq_true rfl) rfl ?_
        refine V_iconst (v := 0) (pc := 69) X dX0_measure_69 (by decide) ?_
        refine V_istore (lv' := [(4, .int 0), (3, .int 1), (0, .ref kq), (1, .ref bq), (2, .int x)]) (pc := 70) X dX0_measure_70 (Nat.le_of_ble_eq_true rfl) rfl ?_
        refine V_loop (pc := 72) (σ := Nat × Bool × (Nat → Int32)) (fun v9 => [(0, .ref kq), (3, .int (bI v9.2.1)), (4, .int (nI v9.1))]) (fun v9 => [ob kq 0 [.ref ktq, .long (wkX bz bf bm bt (-1)), .long (kcX bz bf)], ai g ktq 36 v9.2.2, ob bq 4 [.long bf, .int (nI bt), .int bz, .ref bmq], ai g bmq 6 bm]) (fun v9 => (v9.1 ≤ 36) ∧ (rdS (wkX bz bf bm bt (-1)) (kcX bz bf) (36 - v9.1) v9.2.1 v9.2.2 = rdS (wkX bz bf bm bt (-1)) (kcX bz bf) 36 true (inF kt (wkX bz bf bm bt (-1)) x))) (fun v9 => 36 - v9.1) (0, true, z) ⟨(by
              try dsimp only
              all_goals omega), (by
              try dsimp only
              (rw [hz, show k = 36 by omega]; simp [inF, c_1, n_23, b_25]))⟩ rfl [2, 1, 0] rfl ?_
        rintro ⟨i, b, z2⟩ ⟨hi, hs⟩ ih72
        try dsimp only at hi
        try dsimp only at hs
        refine V_eqw (ws2 := [ob kq 0 [.ref ktq, .long (wkX bz bf bm bt (-1)), .long (kcX bz bf)], ai g ktq 36 z2, ob bq 4 [.long bf, .int (nI bt), .int bz, .ref bmq], ai g bmq 6 bm]) rfl (V_eql (lv' := [(0, .ref kq), (3, .int (bI b)), (4, .int (nI i))]) rfl ?_)
        refine V_iload (pc := 72) X dX0_measure_72 2 rfl ?_
        refine V_bipush (v := 36) (pc := 74) X dX0_measure_74 (by decide) ?_
        refine V_icmp_ge (tgt := 94) (pc := 76) X dX0_measure_76 (by decide) (fun c_26 => ?_) (fun c_26 => ?_)
        · skip
          have n_27 : 36 ≤ i := nJ_le (a := 36) (b := i) (by omega) (by omega) c_26
          exact Ve_vret (pc := 94) X hA9 dX0_measure_94 hr () rfl trivial (by first | (rw [← hs, show 36 - i = 0 by omega]; rfl) | (rw [← hs, show b = false by assumption, rdS_f]))
        · skip
          have n_28 : i < 36 := nJ_nle (a := 36) (b := i) (by omega) (by omega) c_26
          refine V_iload_n (pc := 79) X dX0_measure_79 rfl 1 rfl ?_
          refine V_if_eq (tgt := 94) (pc := 80) X dX0_measure_80 (by decide) (fun c_29 => ?_) (fun c_29 => ?_)
          · skip
            have b_30 : b = false := bI0 c_29
            exact Ve_vret (pc := 94) X hA9 dX0_measure_94 hr () rfl trivial (by first | (rw [← hs, show 36 - i = 0 by omega]; rfl) | (rw [← hs, show b = false by assumption, rdS_f]))
          · skip
            have b_31 : b = true := bI1 c_29
            refine V_aload_n (pc := 83) X dX0_measure_83 rfl 0 rfl ?_
            refine V_ve (pc := 84) (nA := 0) (As := []) (rest := []) X (c_X0_improve l g (kq := kq) (ktq := ktq) (kt := z2) (kw := wkX bz bf bm bt (-1)) (kc := kcX bz bf) ) gX0_measure_X0_improve dX0_measure_84 rfl (by decide +kernel) rfl (qb := 0) rfl rfl rfl ⟨rfl, rfl⟩ ⟨Nat.le_of_ble_eq_true rfl, Nat.le_of_ble_eq_true rfl⟩ ⟨Nat.le_of_ble_eq_true rfl, Nat.le_of_ble_eq_true rfl⟩ [0, 1] (by decide) rfl [2, 3] (by decide) (by decide) [ob bq 4 [.long bf, .int (nI bt), .int bz, .ref bmq], ai g bmq 6 bm] rfl [2, 3, 0, 1] (by decide) (fun u => [ob kq 0 [.ref ktq, .long (wkX bz bf bm bt (-1)), .long (kcX bz bf)], ai g ktq 36 ((clF (wkX bz bf bm bt (-1)) (kcX bz bf) (z2, false) 36).1), ob bq 4 [.long bf, .int (nI bt), .int bz, .ref bmq], ai g bmq 6 bm]) (fun _ => rfl) rfl (Nat.le_of_ble_eq_true rfl) (fun u => [.int (bI ((clF (wkX bz bf bm bt (-1)) (kcX bz bf) (z2, false) 36).2))]) (fun _ => rfl) (fun u hu_32 => ?_)
            refine V_eqw (ws2 := [ob kq 0 [.ref ktq, .long (wkX bz bf bm bt (-1)), .long (kcX bz bf)], ai g ktq 36 ((clF (wkX bz bf bm bt (-1)) (kcX bz bf) (z2, false) 36).1), ob bq 4 [.long bf, .int (nI bt), .int bz, .ref bmq], ai g bmq 6 bm]) rfl (V_eqs (st2 := [.int (bI ((clF (wkX bz bf bm bt (-1)) (kcX bz bf) (z2, false) 36).2))]) rfl ?_)
            refine V_istore_n (lv' := [(3, .int (bI ((clF (wkX bz bf bm bt (-1)) (kcX bz bf) (z2, false) 36).2))), (0, .ref kq), (4, .int (nI i))]) (pc := 87) X dX0_measure_87 rfl (Nat.le_of_ble_eq_true rfl) rfl ?_
            refine V_iinc (v := nI (i + 1)) (lv' := [(4, .int (nI (i + 1))), (3, .int (bI ((clF (wkX bz bf bm bt (-1)) (kcX bz bf) (z2, false) 36).2))), (0, .ref kq)]) (pc := 88) X dX0_measure_88 2 rfl (nI_add i 1) (Nat.le_of_ble_eq_true rfl) rfl ?_
            refine V_goto (tgt := 72) (pc := 91) X dX0_measure_91 (by decide) ?_
            refine V_lv [2, 1, 0] rfl ?_
            exact ih72 (i + 1, (clF (wkX bz bf bm bt (-1)) (kcX bz bf) (z2, false) 36).2, (clF (wkX bz bf bm bt (-1)) (kcX bz bf) (z2, false) 36).1) ⟨(by
                  try dsimp only
                  all_goals omega), (by
                  try dsimp only
                  rw [← hs, show 36 - i = (36 - (i + 1)) + 1 by omega, rdS, if_pos (by assumption)])⟩ (by
                  try dsimp only
                  all_goals omega)
      · skip
        have b_33 : firmB (wkX bz bf bm bt (-1)) x = true := bI1 c_24
        refine V_aload_n (pc := 60) X dX0_measure_60 rfl 0 rfl ?_
        refine V_get (C := RX0) (T := TX0) (N := 3) (ci := 0) (pc := 61) X dX0_measure_61 in0 0 rfl rfl 0 (by decide) (by decide +kernel) rfl rfl ?_
        refine V_iload_n (pc := 64) X dX0_measure_64 rfl 2 rfl ?_
        refine V_iconst (v := 0) (pc := 65) X dX0_measure_65 (by decide) ?_
        refine V_iast (f' := upd z x.toNatClampNeg 0) (ws' := [ob kq 0 [.ref ktq, .long (wkX bz bf bm bt (-1)), .long (kcX bz bf)], ai g ktq 36 (upd z x.toNatClampNeg 0), ob bq 4 [.long bf, .int (nI bt), .int bz, .ref bmq], ai g bmq 6 bm]) (pc := 66) X dX0_measure_66 1 rfl (by first | assumption) rfl rfl ?_
        refine V_iconst (v := 1) (pc := 67) X dX0_measure_67 (by decide) ?_
        refine V_istore_n (lv' := [(3, .int 1), (0, .ref kq), (1, .ref bq), (2, .int x)]) (pc := 68) X dX0_measure_68 rfl (Nat.le_of_ble_eq_true rfl) rfl ?_
        refine V_iconst (v := 0) (pc := 69) X dX0_measure_69 (by decide) ?_
        refine V_istore (lv' := [(4, .int 0), (3, .int 1), (0, .ref kq), (1, .ref bq), (2, .int x)]) (pc := 70) X dX0_measure_70 (Nat.le_of_ble_eq_true rfl) rfl ?_
        refine V_loop (pc := 72) (σ := Nat × Bool × (Nat → Int32)) (fun v9 => [(0, .ref kq), (3, .int (bI v9.2.1)), (4, .int (nI v9.1))]) (fun v9 => [ob kq 0 [.ref ktq, .long (wkX bz bf bm bt (-1)), .long (kcX bz bf)], ai g ktq 36 v9.2.2, ob bq 4 [.long bf, .int (nI bt), .int bz, .ref bmq], ai g bmq 6 bm]) (fun v9 => (v9.1 ≤ 36) ∧ (rdS (wkX bz bf bm bt (-1)) (kcX bz bf) (36 - v9.1) v9.2.1 v9.2.2 = rdS (wkX bz bf bm bt (-1)) (kcX bz bf) 36 true (inF kt (wkX bz bf bm bt (-1)) x))) (fun v9 => 36 - v9.1) (0, true, upd z x.toNatClampNeg 0) ⟨(by
              try dsimp only
              all_goals omega), (by
              try dsimp only
              (rw [hz, show k = 36 by omega]; simp [inF, c_1, n_23, b_33]))⟩ rfl [2, 1, 0] rfl ?_
        rintro ⟨i, b, z2⟩ ⟨hi, hs⟩ ih72
        try dsimp only at hi
        try dsimp only at hs
        refine V_eqw (ws2 := [ob kq 0 [.ref ktq, .long (wkX bz bf bm bt (-1)), .long (kcX bz bf)], ai g ktq 36 z2, ob bq 4 [.long bf, .int (nI bt), .int bz, .ref bmq], ai g bmq 6 bm]) rfl (V_eql (lv' := [(0, .ref kq), (3, .int (bI b)), (4, .int (nI i))]) rfl ?_)
        refine V_iload (pc := 72) X dX0_measure_72 2 rfl ?_
        refine V_bipush (v := 36) (pc := 74) X dX0_measure_74 (by decide) ?_
        refine V_icmp_ge (tgt := 94) (pc := 76) X dX0_measure_76 (by decide) (fun c_34 => ?_) (fun c_34 => ?_)
        · skip
          have n_35 : 36 ≤ i := nJ_le (a := 36) (b := i) (by omega) (by omega) c_34
          exact Ve_vret (pc := 94) X hA9 dX0_measure_94 hr () rfl trivial (by first | (rw [← hs, show 36 - i = 0 by omega]; rfl) | (rw [← hs, show b = false by assumption, rdS_f]))
        · skip
          have n_36 : i < 36 := nJ_nle (a := 36) (b := i) (by omega) (by omega) c_34
          refine V_iload_n (pc := 79) X dX0_measure_79 rfl 1 rfl ?_
          refine V_if_eq (tgt := 94) (pc := 80) X dX0_measure_80 (by decide) (fun c_37 => ?_) (fun c_37 => ?_)
          · skip
            have b_38 : b = false := bI0 c_37
            exact Ve_vret (pc := 94) X hA9 dX0_measure_94 hr () rfl trivial (by first | (rw [← hs, show 36 - i = 0 by omega]; rfl) | (rw [← hs, show b = false by assumption, rdS_f]))
          · skip
            have b_39 : b = true := bI1 c_37
            refine V_aload_n (pc := 83) X dX0_measure_83 rfl 0 rfl ?_
            refine V_ve (pc := 84) (nA := 0) (As := []) (rest := []) X (c_X0_improve l g (kq := kq) (ktq := ktq) (kt := z2) (kw := wkX bz bf bm bt (-1)) (kc := kcX bz bf) ) gX0_measure_X0_improve dX0_measure_84 rfl (by decide +kernel) rfl (qb := 0) rfl rfl rfl ⟨rfl, rfl⟩ ⟨Nat.le_of_ble_eq_true rfl, Nat.le_of_ble_eq_true rfl⟩ ⟨Nat.le_of_ble_eq_true rfl, Nat.le_of_ble_eq_true rfl⟩ [0, 1] (by decide) rfl [2, 3] (by decide) (by decide) [ob bq 4 [.long bf, .int (nI bt), .int bz, .ref bmq], ai g bmq 6 bm] rfl [2, 3, 0, 1] (by decide) (fun u => [ob kq 0 [.ref ktq, .long (wkX bz bf bm bt (-1)), .long (kcX bz bf)], ai g ktq 36 ((clF (wkX bz bf bm bt (-1)) (kcX bz bf) (z2, false) 36).1), ob bq 4 [.long bf, .int (nI bt), .int bz, .ref bmq], ai g bmq 6 bm]) (fun _ => rfl) rfl (Nat.le_of_ble_eq_true rfl) (fun u => [.int (bI ((clF (wkX bz bf bm bt (-1)) (kcX bz bf) (z2, false) 36).2))]) (fun _ => rfl) (fun u hu_40 => ?_)
            refine V_eqw (ws2 := [ob kq 0 [.ref ktq, .long (wkX bz bf bm bt (-1)), .long (kcX bz bf)], ai g ktq 36 ((clF (wkX bz bf bm bt (-1)) (kcX bz bf) (z2, false) 36).1), ob bq 4 [.long bf, .int (nI bt), .int bz, .ref bmq], ai g bmq 6 bm]) rfl (V_eqs (st2 := [.int (bI ((clF (wkX bz bf bm bt (-1)) (kcX bz bf) (z2, false) 36).2))]) rfl ?_)
            refine V_istore_n (lv' := [(3, .int (bI ((clF (wkX bz bf bm bt (-1)) (kcX bz bf) (z2, false) 36).2))), (0, .ref kq), (4, .int (nI i))]) (pc := 87) X dX0_measure_87 rfl (Nat.le_of_ble_eq_true rfl) rfl ?_
            refine V_iinc (v := nI (i + 1)) (lv' := [(4, .int (nI (i + 1))), (3, .int (bI ((clF (wkX bz bf bm bt (-1)) (kcX bz bf) (z2, false) 36).2))), (0, .ref kq)]) (pc := 88) X dX0_measure_88 2 rfl (nI_add i 1) (Nat.le_of_ble_eq_true rfl) rfl ?_
            refine V_goto (tgt := 72) (pc := 91) X dX0_measure_91 (by decide) ?_
            refine V_lv [2, 1, 0] rfl ?_
            exact ih72 (i + 1, (clF (wkX bz bf bm bt (-1)) (kcX bz bf) (z2, false) 36).2, (clF (wkX bz bf bm bt (-1)) (kcX bz bf) (z2, false) 36).1) ⟨(by
                  try dsimp only
                  all_goals omega), (by
                  try dsimp only
                  rw [← hs, show 36 - i = (36 - (i + 1)) + 1 by omega, rdS, if_pos (by assumption)])⟩ (by
                  try dsimp only
                  all_goals omega)
    · skip
      have n_41 : k < 36 := nJ_nle (a := 36) (b := k) (by omega) (by omega) c_22
      refine V_aload_n (pc := 37) X dX0_measure_37 rfl 0 rfl ?_
      refine V_get (C := RX0) (T := TX0) (N := 3) (ci := 0) (pc := 38) X dX0_measure_38 in0 0 rfl rfl 0 (by decide) (by decide +kernel) rfl rfl ?_
      refine V_iload_n (pc := 41) X dX0_measure_41 rfl 3 rfl ?_
      refine V_sipush (v := 1000) (pc := 42) X dX0_measure_42 (by decide) ?_
      refine V_iast (f' := upd z k 1000) (ws' := [ob kq 0 [.ref ktq, .long (wkX bz bf bm bt (-1)), .long (kcX bz bf)], ai g ktq 36 (upd z k 1000), ob bq 4 [.long bf, .int (nI bt), .int bz, .ref bmq], ai g bmq 6 bm]) (pc := 45) X dX0_measure_45 1 rfl (vp_in_nI (by omega) (by omega)) (by rw [nI_clamp (by omega)]) rfl ?_
      refine V_iinc (v := nI (k + 1)) (lv' := [(3, .int (nI (k + 1))), (0, .ref kq), (1, .ref bq), (2, .int x)]) (pc := 46) X dX0_measure_46 3 rfl (nI_add k 1) (Nat.le_of_ble_eq_true rfl) rfl ?_
      refine V_goto (tgt := 31) (pc := 49) X dX0_measure_49 (by decide) ?_
      refine V_lv [1, 2, 3, 0] rfl ?_
      exact ih31 (k + 1, upd z k 1000) ⟨(by
            try dsimp only
            all_goals omega), (by
            try dsimp only
            rw [hz]; exact cpF_s kt (fun _ => 1000) k)⟩ (by
            try dsimp only
            all_goals omega)
set_option maxHeartbeats 4000000 in
set_option maxRecDepth 100000 in
theorem c_X0_nextStop (l : Launch) (g : XG) (kq : Nat) (ktq : Nat) (kt : Nat → Int32) (kw : Int64) (kc : Int64) (x : Int32) (hx : vp_in x 36) : Kg l g yX0_nextStop wsX0_nextStop ({ frames := 3, cells := 0, slots := 0, locals := 62 } : Room) [.ref kq, .int x] [ob kq 0 [.ref ktq, .long kw, .long kc], ai g ktq 36 kt] (some (.int (nxF kt kw kc x))) := by
  refine Kg.of (cc := cX0_nextStop) (maxL := 4) (ret := (some .int)) (lv := [(0, .ref kq), (1, .int x)]) RX0 rfl (by decide) rfl (Nat.le_of_ble_eq_true rfl) rfl ?_
  intro p e s m below meth c A X hr
  have in0 : ∀ w ∈ u_ws RX0 TX0 3, w ∈ wsX0_nextStop := by decide +kernel
  refine V_aload_n (pc := 0) X dX0_nextStop_0 rfl 0 rfl ?_
  refine V_get (C := RX0) (T := TX0) (N := 3) (ci := 0) (pc := 1) X dX0_nextStop_1 in0 0 rfl rfl 0 (by decide) (by decide +kernel) rfl rfl ?_
  refine V_iload_n (pc := 4) X dX0_nextStop_4 rfl 1 rfl ?_
  refine V_iald (v := kt x.toNatClampNeg) (pc := 5) X dX0_nextStop_5 1 rfl (by first | assumption) rfl ?_
  refine V_if_ne (tgt := 12) (pc := 6) X dX0_nextStop_6 (by decide) (fun c_1 => ?_) (fun c_1 => ?_)
  · skip
    refine V_iconst (v := 0) (pc := 12) X dX0_nextStop_12 (by decide) ?_
    refine V_istore_n (lv' := [(2, .int 0), (0, .ref kq), (1, .int x)]) (pc := 13) X dX0_nextStop_13 rfl (Nat.le_of_ble_eq_true rfl) rfl ?_
    refine V_loop (pc := 14) (σ := Nat) (fun v9 => [(0, .ref kq), (1, .int x), (2, .int (nI v9))]) (fun v9 => [ob kq 0 [.ref ktq, .long kw, .long kc], ai g ktq 36 kt]) (fun v9 => (v9 ≤ 4) ∧ (nsS kt kw kc x (4 - v9) v9 = nxF kt kw kc x)) (fun v9 => 4 - v9) 0 ⟨(by
          try dsimp only
          all_goals omega), (by
          try dsimp only
          simp [nxF, c_1])⟩ rfl [1, 2, 0] rfl ?_
    rintro k ⟨hk, hs⟩ ih14
    refine V_eqw (ws2 := [ob kq 0 [.ref ktq, .long kw, .long kc], ai g ktq 36 kt]) rfl (V_eql (lv' := [(0, .ref kq), (1, .int x), (2, .int (nI k))]) rfl ?_)
    refine V_iload_n (pc := 14) X dX0_nextStop_14 rfl 2 rfl ?_
    refine V_iconst (v := 4) (pc := 15) X dX0_nextStop_15 (by decide) ?_
    refine V_icmp_ge (tgt := 47) (pc := 16) X dX0_nextStop_16 (by decide) (fun c_2 => ?_) (fun c_2 => ?_)
    · skip
      have n_3 : 4 ≤ k := nJ_le (a := 4) (b := k) (by omega) (by omega) c_2
      refine V_bipush (v := (-4)) (pc := 47) X dX0_nextStop_47 (by decide) ?_
      exact Vg_iret (pc := 49) X dX0_nextStop_49 hr (by first | (simp [nxF, c_1, n_3]; done) | (rw [← hs, show 4 - k = 0 by omega]; rfl) | (rw [← hs, show 4 - k = (4 - (k + 1)) + 1 by omega, nsS, if_pos (by assumption)]))
    · skip
      have n_4 : k < 4 := nJ_nle (a := 4) (b := k) (by omega) (by omega) c_2
      refine V_iload_n (pc := 19) X dX0_nextStop_19 rfl 1 rfl ?_
      refine V_iload_n (pc := 20) X dX0_nextStop_20 rfl 2 rfl ?_
      refine V_ng (pc := 21) (nA := 2) (As := [.int x, .int (nI k)]) (rest := []) X (c_X9_neighbour l g (x := x) (y := nI k) ) gX0_nextStop_X9_neighbour_n44 dX0_nextStop_21 rfl (by decide +kernel) rfl (by decide +kernel) (by decide +kernel) (by decide +kernel) ⟨rfl, rfl⟩ ⟨Nat.le_of_ble_eq_true rfl, Nat.le_of_ble_eq_true rfl⟩ ⟨Nat.le_of_ble_eq_true rfl, Nat.le_of_ble_eq_true rfl⟩ [] (by decide) rfl rfl (Nat.le_of_ble_eq_true rfl) (st' := [.int (nbr x (nI k))]) rfl ?_
      refine V_istore_n (lv' := [(3, .int (nbr x (nI k))), (0, .ref kq), (1, .int x), (2, .int (nI k))]) (pc := 24) X dX0_nextStop_24 rfl (Nat.le_of_ble_eq_true rfl) rfl ?_
      refine V_aload_n (pc := 25) X dX0_nextStop_25 rfl 1 rfl ?_
      refine V_iload_n (pc := 26) X dX0_nextStop_26 rfl 0 rfl ?_
      refine V_vg (pc := 27) (nA := 1) (As := [.int (nbr x (nI k))]) (rest := []) X (c_X0_costOver l g (kq := kq) (ktq := ktq) (kt := kt) (kw := kw) (kc := kc) (x := nbr x (nI k)) (hx := by exact nbr_lt2 hx (by omega))) gX0_nextStop_X0_costOver dX0_nextStop_27 rfl (by decide +kernel) rfl (qb := 0) rfl rfl rfl ⟨rfl, rfl⟩ ⟨Nat.le_of_ble_eq_true rfl, Nat.le_of_ble_eq_true rfl⟩ ⟨Nat.le_of_ble_eq_true rfl, Nat.le_of_ble_eq_true rfl⟩ [0, 1] (by decide) rfl rfl (Nat.le_of_ble_eq_true rfl) (st' := [.int (cov kt kw kc (nbr x (nI k)))]) rfl ?_
      refine V_aload_n (pc := 30) X dX0_nextStop_30 rfl 1 rfl ?_
      refine V_get (C := RX0) (T := TX0) (N := 3) (ci := 0) (pc := 31) X dX0_nextStop_31 in0 0 rfl rfl 0 (by decide) (by decide +kernel) rfl rfl ?_
      refine V_iload_n (pc := 34) X dX0_nextStop_34 rfl 2 rfl ?_
      refine V_iald (v := kt x.toNatClampNeg) (pc := 35) X dX0_nextStop_35 1 rfl (by first | assumption) rfl ?_
      refine V_icmp_ne (tgt := 41) (pc := 36) X dX0_nextStop_36 (by decide) (fun c_5 => ?_) (fun c_5 => ?_)
      · skip
        refine V_iinc (v := nI (k + 1)) (lv' := [(2, .int (nI (k + 1))), (3, .int (nbr x (nI k))), (0, .ref kq), (1, .int x)]) (pc := 41) X dX0_nextStop_41 3 rfl (nI_add k 1) (Nat.le_of_ble_eq_true rfl) rfl ?_
        refine V_goto (tgt := 14) (pc := 44) X dX0_nextStop_44 (by decide) ?_
        refine V_lv [2, 3, 0] rfl ?_
        exact ih14 (k + 1) ⟨(by
              try dsimp only
              all_goals omega), (by
              try dsimp only
              rw [← hs, show 4 - k = (4 - (k + 1)) + 1 by omega, nsS, if_neg (by assumption)])⟩ (by
              try dsimp only
              all_goals omega)
      · skip
        refine V_iload_n (pc := 39) X dX0_nextStop_39 rfl 0 rfl ?_
        exact Vg_iret (pc := 40) X dX0_nextStop_40 hr (by first | (simp [nxF, c_1, n_4, c_5]; done) | (rw [← hs, show 4 - k = 0 by omega]; rfl) | (rw [← hs, show 4 - k = (4 - (k + 1)) + 1 by omega, nsS, if_pos (by assumption)]))
  · skip
    refine V_bipush (v := (-4)) (pc := 9) X dX0_nextStop_9 (by decide) ?_
    exact Vg_iret (pc := 11) X dX0_nextStop_11 hr (by first | (simp [nxF, c_1]; done) | (rw [← hs, show 4 - k = 0 by omega]; rfl) | (rw [← hs, show 4 - k = (4 - (k + 1)) + 1 by omega, nsS, if_pos (by assumption)]))
set_option maxHeartbeats 4000000 in
set_option maxRecDepth 100000 in
theorem c_X0_stop (l : Launch) (g : XG) (kq : Nat) (ktq : Nat) (kt : Nat → Int32) (kw : Int64) (kc : Int64) (x : Int32) (i : Nat) (hx : vp_in x 36) (hi : i ≤ 34) : Kg l g yX0_stop wsX0_stop ({ frames := 4, cells := 0, slots := 0, locals := 85 } : Room) [.ref kq, .int x, .int (nI i)] [ob kq 0 [.ref ktq, .long kw, .long kc], ai g ktq 36 kt] (some (.int (spF kt kw kc (i + 1) x))) := by
  refine Kg.of (cc := cX0_stop) (maxL := 5) (ret := (some .int)) (lv := [(0, .ref kq), (1, .int x), (2, .int (nI i))]) RX0 rfl (by decide) rfl (Nat.le_of_ble_eq_true rfl) rfl ?_
  intro p e s m below meth c A X hr
  refine V_iload_n (pc := 0) X dX0_stop_0 rfl 1 rfl ?_
  refine V_istore_n (lv' := [(3, .int x), (0, .ref kq), (1, .int x), (2, .int (nI i))]) (pc := 1) X dX0_stop_1 rfl (Nat.le_of_ble_eq_true rfl) rfl ?_
  refine V_iconst (v := 0) (pc := 2) X dX0_stop_2 (by decide) ?_
  refine V_istore (lv' := [(4, .int 0), (3, .int x), (0, .ref kq), (1, .int x), (2, .int (nI i))]) (pc := 3) X dX0_stop_3 (Nat.le_of_ble_eq_true rfl) rfl ?_
  refine V_loop (pc := 5) (σ := Nat × Int32) (fun v9 => [(0, .ref kq), (2, .int (nI i)), (3, .int v9.2), (4, .int (nI v9.1))]) (fun v9 => [ob kq 0 [.ref ktq, .long kw, .long kc], ai g ktq 36 kt]) (fun v9 => (v9.1 ≤ i + 1) ∧ (v9.2 < 0 ∨ vp_in v9.2 36) ∧ (spF kt kw kc (i + 1 - v9.1) v9.2 = spF kt kw kc (i + 1) x)) (fun v9 => i + 1 - v9.1) (0, x) ⟨(by
        try dsimp only
        all_goals omega), (by
        try dsimp only
        exact Or.inr hx), (by
        try dsimp only
        all_goals rfl)⟩ rfl [2, 4, 1, 0] rfl ?_
  rintro ⟨k, y⟩ ⟨hk, hr2, hs⟩ ih5
  try dsimp only at hk
  try dsimp only at hr2
  try dsimp only at hs
  refine V_eqw (ws2 := [ob kq 0 [.ref ktq, .long kw, .long kc], ai g ktq 36 kt]) rfl (V_eql (lv' := [(0, .ref kq), (2, .int (nI i)), (3, .int y), (4, .int (nI k))]) rfl ?_)
  refine V_iload (pc := 5) X dX0_stop_5 3 rfl ?_
  refine V_iload_n (pc := 7) X dX0_stop_7 rfl 1 rfl ?_
  refine V_icmp_gt (tgt := 27) (pc := 8) X dX0_stop_8 (by decide) (fun c_1 => ?_) (fun c_1 => ?_)
  · skip
    have n_2 : i < k := nJ_lt (a := i) (b := k) (by omega) (by omega) c_1
    refine V_iload_n (pc := 27) X dX0_stop_27 rfl 2 rfl ?_
    exact Vg_iret (pc := 28) X dX0_stop_28 hr (by first | (rw [← hs, show i + 1 - k = 0 by omega]; rfl) | (rw [← hs]; generalize i + 1 - k = q9; cases q9 with
  | zero => rfl
  | succ n => rw [spF, if_pos (by assumption)]))
  · skip
    have n_3 : k ≤ i := nJ_nlt (a := i) (b := k) (by omega) (by omega) c_1
    refine V_iload_n (pc := 11) X dX0_stop_11 rfl 2 rfl ?_
    refine V_if_lt (tgt := 27) (pc := 12) X dX0_stop_12 (by decide) (fun c_4 => ?_) (fun c_4 => ?_)
    · skip
      refine V_iload_n (pc := 27) X dX0_stop_27 rfl 2 rfl ?_
      exact Vg_iret (pc := 28) X dX0_stop_28 hr (by first | (rw [← hs, show i + 1 - k = 0 by omega]; rfl) | (rw [← hs]; generalize i + 1 - k = q9; cases q9 with
  | zero => rfl
  | succ n => rw [spF, if_pos (by assumption)]))
    · skip
      refine V_aload_n (pc := 15) X dX0_stop_15 rfl 0 rfl ?_
      refine V_iload_n (pc := 16) X dX0_stop_16 rfl 2 rfl ?_
      refine V_vg (pc := 17) (nA := 1) (As := [.int y]) (rest := []) X (c_X0_nextStop l g (kq := kq) (ktq := ktq) (kt := kt) (kw := kw) (kc := kc) (x := y) (hx := by exact hr2.resolve_left (by assumption))) gX0_stop_X0_nextStop dX0_stop_17 rfl (by decide +kernel) rfl (qb := 0) rfl rfl rfl ⟨rfl, rfl⟩ ⟨Nat.le_of_ble_eq_true rfl, Nat.le_of_ble_eq_true rfl⟩ ⟨Nat.le_of_ble_eq_true rfl, Nat.le_of_ble_eq_true rfl⟩ [0, 1] (by decide) rfl rfl (Nat.le_of_ble_eq_true rfl) (st' := [.int (nxF kt kw kc y)]) rfl ?_
      refine V_istore_n (lv' := [(3, .int (nxF kt kw kc y)), (0, .ref kq), (2, .int (nI i)), (4, .int (nI k))]) (pc := 20) X dX0_stop_20 rfl (Nat.le_of_ble_eq_true rfl) rfl ?_
      refine V_iinc (v := nI (k + 1)) (lv' := [(4, .int (nI (k + 1))), (3, .int (nxF kt kw kc y)), (0, .ref kq), (2, .int (nI i))]) (pc := 21) X dX0_stop_21 3 rfl (nI_add k 1) (Nat.le_of_ble_eq_true rfl) rfl ?_
      refine V_goto (tgt := 5) (pc := 24) X dX0_stop_24 (by decide) ?_
      refine V_lv [2, 3, 1, 0] rfl ?_
      exact ih5 (k + 1, nxF kt kw kc y) ⟨(by
            try dsimp only
            all_goals omega), (by
            try dsimp only
            exact nxF_rng (hr2.resolve_left (by assumption))), (by
            try dsimp only
            rw [← hs, show i + 1 - k = (i + 1 - (k + 1)) + 1 by omega, spF, if_neg (by assumption)])⟩ (by
            try dsimp only
            all_goals omega)
