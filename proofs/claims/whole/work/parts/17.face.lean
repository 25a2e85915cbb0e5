set_option maxHeartbeats 4000000 in
set_option maxRecDepth 100000 in
theorem c_X9_least (l : Launch) (g : XG) (xq : Nat) (tq : Nat) (wq : Nat) (vq : Nat) (xi : Bool) (fq : Nat) (dq : Nat) (kq : Nat) (xsq : Nat) (fbq : Nat) (faq : Nat) (fsq : Nat) (lw : Int64) (la : Int32) (lb : Int32) (ls : Int32) (fbf : Int64) (fbt : Nat) (fbz : Int32) (fbmq : Nat) (fbm : Nat → Int32) (fan : Nat) (fakq : Nat) (facq : Nat) (fahq : Nat) (faaq : Nat) (fakd : Nat → Int32) (face : Nat → Int32) (faho : Nat → Int32) (faac : Nat → Int32) (fsn : Nat) (fscq : Nat) (fswq : Nat) (fsce : Nat → Int32) (fswe : Nat → Int32) (wbq : Nat) (waq : Nat) (wy : Int32) (wbf : Int64) (wbt : Nat) (wbz : Int32) (wbmq : Nat) (wbm : Nat → Int32) (wan : Nat) (wakq : Nat) (wacq : Nat) (wahq : Nat) (waaq : Nat) (wakd : Nat → Int32) (wace : Nat → Int32) (waho : Nat → Int32) (waac : Nat → Int32) (o : Int32) (x : Int32) (y : Int32) (w : Int32) (ht : wbt ≤ 6) (hn : wan ≤ 6) (hcc : ls = stX lw la lb) : Ke l g yX9_least wsX9_least ({ frames := 6, cells := 0, slots := 0, locals := 145 } : Room) 0 0 [.ref xq, .int o, .int x, .int y, .int w] [ob xq 9 [.ref tq, .ref wq, .ref vq, .int (bI xi), .ref fq, .ref dq, .ref kq, .ref xsq], ob fq 3 [.ref fbq, .ref faq, .ref fsq, .long lw, .int la, .int lb, .int ls], ob fbq 4 [.long fbf, .int (nI fbt), .int fbz, .ref fbmq], ai g fbmq 6 fbm, ob faq 1 [.int (nI fan), .ref fakq, .ref facq, .ref fahq, .ref faaq], ai g fakq 6 fakd, ai g facq 6 face, ai g fahq 6 faho, ai g faaq 6 faac, ob fsq 5 [.int (nI fsn), .ref fscq, .ref fswq], ai g fscq 6 fsce, ai g fswq 6 fswe, ob wq 8 [.ref wbq, .ref waq, .int wy], ob wbq 4 [.long wbf, .int (nI wbt), .int wbz, .ref wbmq], ai g wbmq 6 wbm, ob waq 1 [.int (nI wan), .ref wakq, .ref wacq, .ref wahq, .ref waaq], ai g wakq 6 wakd, ai g wacq 6 wace, ai g wahq 6 waho, ai g waaq 6 waac] (fun u : Int32 × Int64 × Nat × Int32 × (Nat → Int32) × Nat × (Nat → Int32) × (Nat → Int32) × (Nat → Int32) × (Nat → Int32) × Nat × (Nat → Int32) × (Nat → Int32) × Int64 × Int32 × Int32 × Int32 => some (.int u.1)) (fun u => [ob xq 9 [.ref tq, .ref wq, .ref vq, .int (bI xi), .ref fq, .ref dq, .ref kq, .ref xsq], ob fq 3 [.ref fbq, .ref faq, .ref fsq, .long u.2.2.2.2.2.2.2.2.2.2.2.2.2.1, .int u.2.2.2.2.2.2.2.2.2.2.2.2.2.2.1, .int u.2.2.2.2.2.2.2.2.2.2.2.2.2.2.2.1, .int u.2.2.2.2.2.2.2.2.2.2.2.2.2.2.2.2], ob fbq 4 [.long u.2.1, .int (nI u.2.2.1), .int u.2.2.2.1, .ref fbmq], ai g fbmq 6 u.2.2.2.2.1, ob faq 1 [.int (nI u.2.2.2.2.2.1), .ref fakq, .ref facq, .ref fahq, .ref faaq], ai g fakq 6 u.2.2.2.2.2.2.1, ai g facq 6 u.2.2.2.2.2.2.2.1, ai g fahq 6 u.2.2.2.2.2.2.2.2.1, ai g faaq 6 u.2.2.2.2.2.2.2.2.2.1, ob fsq 5 [.int (nI u.2.2.2.2.2.2.2.2.2.2.1), .ref fscq, .ref fswq], ai g fscq 6 u.2.2.2.2.2.2.2.2.2.2.2.1, ai g fswq 6 u.2.2.2.2.2.2.2.2.2.2.2.2.1, ob wq 8 [.ref wbq, .ref waq, .int wy], ob wbq 4 [.long wbf, .int (nI wbt), .int wbz, .ref wbmq], ai g wbmq 6 wbm, ob waq 1 [.int (nI wan), .ref wakq, .ref wacq, .ref wahq, .ref waaq], ai g wakq 6 wakd, ai g wacq 6 wace, ai g wahq 6 waho, ai g waaq 6 waac]) (fun u => (u.1 = leastF o x y w wakd wace waho wan wbz wbf wbm wbt) ∧ (u.2.2.2.2.2.2.2.2.2.2.2.2.2.2.2.2 = stX u.2.2.2.2.2.2.2.2.2.2.2.2.2.1 u.2.2.2.2.2.2.2.2.2.2.2.2.2.2.1 u.2.2.2.2.2.2.2.2.2.2.2.2.2.2.2.1)) := by
  refine Ke.of (cc := cX9_least) (maxL := 6) (ret := (some .int)) (lv := [(0, .ref xq), (1, .int o), (2, .int x), (3, .int y), (4, .int w)]) RX9 rfl (by decide) rfl (Nat.le_of_ble_eq_true rfl) rfl ?_
  intro p e s m below meth c A sz hA9 X hr hin2
  refine V_aload_n (pc := 0) X dX9_least_0 rfl 0 rfl ?_
  refine V_iload_n (pc := 1) X dX9_least_1 rfl 1 rfl ?_
  refine V_vg (pc := 2) (nA := 1) (As := [.int o]) (rest := []) X (c_X9_isPerson l g (xq := xq) (tq := tq) (wq := wq) (vq := vq) (xi := xi) (fq := fq) (dq := dq) (kq := kq) (xsq := xsq) (wbq := wbq) (waq := waq) (wy := wy) (wan := wan) (wakq := wakq) (wacq := wacq) (wahq := wahq) (waaq := waaq) (wakd := wakd) (wace := wace) (waho := waho) (waac := waac) (x := o) ) gX9_least_X9_isPerson dX9_least_2 rfl (by decide +kernel) rfl (qb := 0) rfl rfl rfl ⟨rfl, rfl⟩ ⟨Nat.le_of_ble_eq_true rfl, Nat.le_of_ble_eq_true rfl⟩ ⟨Nat.le_of_ble_eq_true rfl, Nat.le_of_ble_eq_true rfl⟩ [0, 12, 15, 16, 17, 18, 19] (by decide) rfl rfl (Nat.le_of_ble_eq_true rfl) (st' := [.int (bI (bel o (nI wan)))]) rfl ?_
  refine V_if_eq (tgt := 31) (pc := 5) X dX9_least_5 (by decide) (fun c_1 => ?_) (fun c_1 => ?_)
  · skip
    have b_2 : (bel o (nI wan)) = false := bI0 c_1
    refine V_iconst (v := (-1)) (pc := 31) X dX9_least_31 (by decide) ?_
    exact Ve_iret (pc := 32) X hA9 dX9_least_32 hr ((-1), fbf, fbt, fbz, fbm, fan, fakd, face, faho, faac, fsn, fsce, fswe, lw, la, lb, ls) (by first | rfl | (simp [b_2]; done)) ⟨(by
          try dsimp only
          exact leastF_b (by simp [b_2])), (by
          try dsimp only
          all_goals assumption)⟩ (by rfl)
  · skip
    have b_3 : (bel o (nI wan)) = true := bI1 c_1
    refine V_iload_n (pc := 8) X dX9_least_8 rfl 2 rfl ?_
    refine V_sg (pc := 9) (nA := 1) (As := [.int x]) (rest := []) X (c_X9_isCell l g (x := x) ) gX9_least_X9_isCell dX9_least_9 rfl (by decide +kernel) rfl ⟨rfl, rfl⟩ ⟨Nat.le_of_ble_eq_true rfl, Nat.le_of_ble_eq_true rfl⟩ ⟨Nat.le_of_ble_eq_true rfl, Nat.le_of_ble_eq_true rfl⟩ [] (by decide) rfl rfl (Nat.le_of_ble_eq_true rfl) (st' := [.int (bI (bel x 36))]) rfl ?_
    refine V_if_eq (tgt := 31) (pc := 12) X dX9_least_12 (by decide) (fun c_4 => ?_) (fun c_4 => ?_)
    · skip
      have b_5 : (bel x 36) = false := bI0 c_4
      refine V_iconst (v := (-1)) (pc := 31) X dX9_least_31 (by decide) ?_
      exact Ve_iret (pc := 32) X hA9 dX9_least_32 hr ((-1), fbf, fbt, fbz, fbm, fan, fakd, face, faho, faac, fsn, fsce, fswe, lw, la, lb, ls) (by first | rfl | (simp [b_3, b_5]; done)) ⟨(by
            try dsimp only
            exact leastF_b (by simp [b_3, b_5])), (by
            try dsimp only
            all_goals assumption)⟩ (by rfl)
    · skip
      have b_6 : (bel x 36) = true := bI1 c_4
      refine V_iload_n (pc := 15) X dX9_least_15 rfl 3 rfl ?_
      refine V_sg (pc := 16) (nA := 1) (As := [.int y]) (rest := []) X (c_X9_isCell l g (x := y) ) gX9_least_X9_isCell dX9_least_16 rfl (by decide +kernel) rfl ⟨rfl, rfl⟩ ⟨Nat.le_of_ble_eq_true rfl, Nat.le_of_ble_eq_true rfl⟩ ⟨Nat.le_of_ble_eq_true rfl, Nat.le_of_ble_eq_true rfl⟩ [] (by decide) rfl rfl (Nat.le_of_ble_eq_true rfl) (st' := [.int (bI (bel y 36))]) rfl ?_
      refine V_if_eq (tgt := 31) (pc := 19) X dX9_least_19 (by decide) (fun c_7 => ?_) (fun c_7 => ?_)
      · skip
        have b_8 : (bel y 36) = false := bI0 c_7
        refine V_iconst (v := (-1)) (pc := 31) X dX9_least_31 (by decide) ?_
        exact Ve_iret (pc := 32) X hA9 dX9_least_32 hr ((-1), fbf, fbt, fbz, fbm, fan, fakd, face, faho, faac, fsn, fsce, fswe, lw, la, lb, ls) (by first | rfl | (simp [b_3, b_6, b_8]; done)) ⟨(by
              try dsimp only
              exact leastF_b (by simp [b_3, b_6, b_8])), (by
              try dsimp only
              all_goals assumption)⟩ (by rfl)
      · skip
        have b_9 : (bel y 36) = true := bI1 c_7
        refine V_iload (pc := 22) X dX9_least_22 4 rfl ?_
        refine V_iconst (v := 2) (pc := 24) X dX9_least_24 (by decide) ?_
        refine V_sg (pc := 25) (nA := 2) (As := [.int w, .int 2]) (rest := []) X (c_X9_isBelow l g (x := w) (b := 2) ) gX9_least_X9_isBelow dX9_least_25 rfl (by decide +kernel) rfl ⟨rfl, rfl⟩ ⟨Nat.le_of_ble_eq_true rfl, Nat.le_of_ble_eq_true rfl⟩ ⟨Nat.le_of_ble_eq_true rfl, Nat.le_of_ble_eq_true rfl⟩ [] (by decide) rfl rfl (Nat.le_of_ble_eq_true rfl) (st' := [.int (bI (bel w 2))]) rfl ?_
        refine V_if_ne (tgt := 33) (pc := 28) X dX9_least_28 (by decide) (fun c_10 => ?_) (fun c_10 => ?_)
        · skip
          have b_11 : (bel w 2) = true := bI1 c_10
          obtain ⟨j_12, hj_13, rfl⟩ := bel_nat (n := wan) (by omega) b_3
          refine V_aload_n (pc := 33) X dX9_least_33 rfl 0 rfl ?_
          refine V_iload_n (pc := 34) X dX9_least_34 rfl 1 rfl ?_
          refine V_iload_n (pc := 35) X dX9_least_35 rfl 2 rfl ?_
          refine V_iload_n (pc := 36) X dX9_least_36 rfl 3 rfl ?_
          refine V_ve (pc := 37) (nA := 3) (As := [.int (nI j_12), .int x, .int y]) (rest := []) X (c_X9_fewestHours l g (xq := xq) (tq := tq) (wq := wq) (vq := vq) (xi := xi) (fq := fq) (dq := dq) (kq := kq) (xsq := xsq) (fbq := fbq) (faq := faq) (fsq := fsq) (lw := lw) (la := la) (lb := lb) (ls := ls) (fbf := fbf) (fbt := fbt) (fbz := fbz) (fbmq := fbmq) (fbm := fbm) (fan := fan) (fakq := fakq) (facq := facq) (fahq := fahq) (faaq := faaq) (fakd := fakd) (face := face) (faho := faho) (faac := faac) (fsn := fsn) (fscq := fscq) (fswq := fswq) (fsce := fsce) (fswe := fswe) (wbq := wbq) (waq := waq) (wy := wy) (wbf := wbf) (wbt := wbt) (wbz := wbz) (wbmq := wbmq) (wbm := wbm) (wan := wan) (wakq := wakq) (wacq := wacq) (wahq := wahq) (waaq := waaq) (wakd := wakd) (wace := wace) (waho := waho) (waac := waac) (j := j_12) (x := x) (y := y) (ht := by first | assumption | omega) (hn := by first | assumption | omega) (hj := by first | assumption | omega) (hc := by first | assumption | omega)) gX9_least_X9_fewestHours dX9_least_37 rfl (by decide +kernel) rfl (qb := 0) rfl rfl rfl ⟨rfl, rfl⟩ ⟨Nat.le_of_ble_eq_true rfl, Nat.le_of_ble_eq_true rfl⟩ ⟨Nat.le_of_ble_eq_true rfl, Nat.le_of_ble_eq_true rfl⟩ [0, 1, 2, 3, 4, 5, 6, 7, 8, 9, 10, 11, 12, 13, 14, 15, 16, 17, 18, 19] (by decide) rfl [] (by decide) (by decide) [] rfl [0, 1, 2, 3, 4, 5, 6, 7, 8, 9, 10, 11, 12, 13, 14, 15, 16, 17, 18, 19] (by decide) (fun u => [ob xq 9 [.ref tq, .ref wq, .ref vq, .int (bI xi), .ref fq, .ref dq, .ref kq, .ref xsq], ob fq 3 [.ref fbq, .ref faq, .ref fsq, .long u.2.2.2.2.2.2.2.2.2.2.2.2.2.1, .int u.2.2.2.2.2.2.2.2.2.2.2.2.2.2.1, .int u.2.2.2.2.2.2.2.2.2.2.2.2.2.2.2.1, .int u.2.2.2.2.2.2.2.2.2.2.2.2.2.2.2.2], ob fbq 4 [.long u.2.1, .int (nI u.2.2.1), .int u.2.2.2.1, .ref fbmq], ai g fbmq 6 u.2.2.2.2.1, ob faq 1 [.int (nI u.2.2.2.2.2.1), .ref fakq, .ref facq, .ref fahq, .ref faaq], ai g fakq 6 u.2.2.2.2.2.2.1, ai g facq 6 u.2.2.2.2.2.2.2.1, ai g fahq 6 u.2.2.2.2.2.2.2.2.1, ai g faaq 6 u.2.2.2.2.2.2.2.2.2.1, ob fsq 5 [.int (nI u.2.2.2.2.2.2.2.2.2.2.1), .ref fscq, .ref fswq], ai g fscq 6 u.2.2.2.2.2.2.2.2.2.2.2.1, ai g fswq 6 u.2.2.2.2.2.2.2.2.2.2.2.2.1, ob wq 8 [.ref wbq, .ref waq, .int wy], ob wbq 4 [.long wbf, .int (nI wbt), .int wbz, .ref wbmq], ai g wbmq 6 wbm, ob waq 1 [.int (nI wan), .ref wakq, .ref wacq, .ref wahq, .ref waaq], ai g wakq 6 wakd, ai g wacq 6 wace, ai g wahq 6 waho, ai g waaq 6 waac]) (fun _ => rfl) rfl (Nat.le_of_ble_eq_true rfl) (fun u => [.int u.1]) (fun _ => rfl) (fun u hu_31 => ?_)
          obtain ⟨r_14, gf_15, gt_16, gz_17, gm_18, pn_19, pk_20, pc_21, ph_22, pa_23, sn2_24, sc2_25, sw2_26, lw2_27, la2_28, lb2_29, ls2_30⟩ := u
          try dsimp only at hu_31
          obtain ⟨hrp_32, hcc_33⟩ := hu_31
          refine V_eqw (ws2 := [ob xq 9 [.ref tq, .ref wq, .ref vq, .int (bI xi), .ref fq, .ref dq, .ref kq, .ref xsq], ob fq 3 [.ref fbq, .ref faq, .ref fsq, .long lw2_27, .int la2_28, .int lb2_29, .int ls2_30], ob fbq 4 [.long gf_15, .int (nI gt_16), .int gz_17, .ref fbmq], ai g fbmq 6 gm_18, ob faq 1 [.int (nI pn_19), .ref fakq, .ref facq, .ref fahq, .ref faaq], ai g fakq 6 pk_20, ai g facq 6 pc_21, ai g fahq 6 ph_22, ai g faaq 6 pa_23, ob fsq 5 [.int (nI sn2_24), .ref fscq, .ref fswq], ai g fscq 6 sc2_25, ai g fswq 6 sw2_26, ob wq 8 [.ref wbq, .ref waq, .int wy], ob wbq 4 [.long wbf, .int (nI wbt), .int wbz, .ref wbmq], ai g wbmq 6 wbm, ob waq 1 [.int (nI wan), .ref wakq, .ref wacq, .ref wahq, .ref waaq], ai g wakq 6 wakd, ai g wacq 6 wace, ai g wahq 6 waho, ai g waaq 6 waac]) rfl (V_eqs (st2 := [.int r_14]) rfl ?_)
          subst hrp_32
          refine V_istore (lv' := [(5, .int (lsF (TL j_12 wakd wace waho wan wbz wbf wbm wbt x y))), (0, .ref xq), (1, .int (nI j_12)), (2, .int x), (3, .int y), (4, .int w)]) (pc := 40) X dX9_least_40 (Nat.le_of_ble_eq_true rfl) rfl ?_
          refine V_iload (pc := 42) X dX9_least_42 0 rfl ?_
          refine V_if_ge (tgt := 50) (pc := 44) X dX9_least_44 (by decide) (fun c_34 => ?_) (fun c_34 => ?_)
          · skip
            refine V_iload (pc := 50) X dX9_least_50 5 rfl ?_
            refine V_if_ne (tgt := 63) (pc := 52) X dX9_least_52 (by decide) (fun c_35 => ?_) (fun c_35 => ?_)
            · skip
              refine V_iload (pc := 63) X dX9_least_63 0 rfl ?_
              refine V_bipush (v := 36) (pc := 65) X dX9_least_65 (by decide) ?_
              refine V_irem (pc := 67) X dX9_least_67 (by decide) ?_
              exact Ve_iret (pc := 68) X hA9 dX9_least_68 hr ((lsF (TL j_12 wakd wace waho wan wbz wbf wbm wbt x y)) - (lsF (TL j_12 wakd wace waho wan wbz wbf wbm wbt x y)) / 36 * 36, gf_15, gt_16, gz_17, gm_18, pn_19, pk_20, pc_21, ph_22, pa_23, sn2_24, sc2_25, sw2_26, lw2_27, la2_28, lb2_29, ls2_30) (by first | rfl | (simp [b_3, b_6, b_9, b_11, hj_13, hcc_33, c_34, c_35]; done)) ⟨(by
                    try dsimp only
                    (rw [leastF_c (by assumption) (by assumption) (by assumption) (by assumption), nI_clamp (n := j_12) (by omega), if_pos (by assumption), if_neg (by assumption)]; all_goals rfl)), (by
                    try dsimp only
                    all_goals assumption)⟩ (by rfl)
            · skip
              refine V_iload (pc := 55) X dX9_least_55 0 rfl ?_
              refine V_bipush (v := 36) (pc := 57) X dX9_least_57 (by decide) ?_
              refine V_idiv (pc := 59) X dX9_least_59 (by decide) ?_
              refine V_goto (tgt := 68) (pc := 60) X dX9_least_60 (by decide) ?_
              exact Ve_iret (pc := 68) X hA9 dX9_least_68 hr ((lsF (TL j_12 wakd wace waho wan wbz wbf wbm wbt x y)) / 36, gf_15, gt_16, gz_17, gm_18, pn_19, pk_20, pc_21, ph_22, pa_23, sn2_24, sc2_25, sw2_26, lw2_27, la2_28, lb2_29, ls2_30) (by first | rfl | (simp [b_3, b_6, b_9, b_11, hj_13, hcc_33, c_34, c_35]; done)) ⟨(by
                    try dsimp only
                    (rw [leastF_c (by assumption) (by assumption) (by assumption) (by assumption), nI_clamp (n := j_12) (by omega), if_pos (by assumption), if_pos (by assumption)]; all_goals rfl)), (by
                    try dsimp only
                    all_goals assumption)⟩ (by rfl)
          · skip
            refine V_bipush (v := (-4)) (pc := 47) X dX9_least_47 (by decide) ?_
            exact Ve_iret (pc := 49) X hA9 dX9_least_49 hr ((-4), gf_15, gt_16, gz_17, gm_18, pn_19, pk_20, pc_21, ph_22, pa_23, sn2_24, sc2_25, sw2_26, lw2_27, la2_28, lb2_29, ls2_30) (by first | rfl | (simp [b_3, b_6, b_9, b_11, hj_13, hcc_33, c_34]; done)) ⟨(by
                  try dsimp only
                  (rw [leastF_c (by assumption) (by assumption) (by assumption) (by assumption), nI_clamp (n := j_12) (by omega), if_neg (by assumption)]; all_goals rfl)), (by
                  try dsimp only
                  all_goals assumption)⟩ (by rfl)
        · skip
          have b_36 : (bel w 2) = false := bI0 c_10
          refine V_iconst (v := (-1)) (pc := 31) X dX9_least_31 (by decide) ?_
          exact Ve_iret (pc := 32) X hA9 dX9_least_32 hr ((-1), fbf, fbt, fbz, fbm, fan, fakd, face, faho, faac, fsn, fsce, fswe, lw, la, lb, ls) (by first | rfl | (simp [b_3, b_6, b_9, b_36]; done)) ⟨(by
                try dsimp only
                exact leastF_b (by simp [b_3, b_6, b_9, b_36])), (by
                try dsimp only
                all_goals assumption)⟩ (by rfl)
set_option maxHeartbeats 4000000 in
set_option maxRecDepth 100000 in
theorem c_X9_game (l : Launch) (g : XG) (xq : Nat) (tq : Nat) (wq : Nat) (vq : Nat) (xi : Bool) (fq : Nat) (dq : Nat) (kq : Nat) (xsq : Nat) (fbq : Nat) (faq : Nat) (fsq : Nat) (lw : Int64) (la : Int32) (lb : Int32) (ls : Int32) (fbf : Int64) (fbt : Nat) (fbz : Int32) (fbmq : Nat) (fbm : Nat → Int32) (fan : Nat) (fakq : Nat) (facq : Nat) (fahq : Nat) (faaq : Nat) (fakd : Nat → Int32) (face : Nat → Int32) (faho : Nat → Int32) (faac : Nat → Int32) (fsn : Nat) (fscq : Nat) (fswq : Nat) (fsce : Nat → Int32) (fswe : Nat → Int32) (wbq : Nat) (waq : Nat) (wy : Int32) (wbf : Int64) (wbt : Nat) (wbz : Int32) (wbmq : Nat) (wbm : Nat → Int32) (wan : Nat) (wakq : Nat) (wacq : Nat) (wahq : Nat) (waaq : Nat) (wakd : Nat → Int32) (wace : Nat → Int32) (waho : Nat → Int32) (waac : Nat → Int32) (dsq : Nat) (dfq : Nat) (dmq : Nat) (ds : Nat → Int32) (df : Nat → Int32) (dm : Nat → Int32) (o : Int32) (o2 : Int32) (h1 : Int32) (h2 : Int32) (x : Int32) (y : Int32) (w : Int32) (ht : wbt ≤ 6) (hn : wan ≤ 6) (hcc : ls = stX lw la lb) : Ke l g yX9_game wsX9_game ({ frames := 5, cells := 0, slots := 0, locals := 120 } : Room) 0 0 [.ref xq, .int o, .int o2, .int h1, .int h2, .int x, .int y, .int w] [ob xq 9 [.ref tq, .ref wq, .ref vq, .int (bI xi), .ref fq, .ref dq, .ref kq, .ref xsq], ob fq 3 [.ref fbq, .ref faq, .ref fsq, .long lw, .int la, .int lb, .int ls], ob fbq 4 [.long fbf, .int (nI fbt), .int fbz, .ref fbmq], ai g fbmq 6 fbm, ob faq 1 [.int (nI fan), .ref fakq, .ref facq, .ref fahq, .ref faaq], ai g fakq 6 fakd, ai g facq 6 face, ai g fahq 6 faho, ai g faaq 6 faac, ob fsq 5 [.int (nI fsn), .ref fscq, .ref fswq], ai g fscq 6 fsce, ai g fswq 6 fswe, ob wq 8 [.ref wbq, .ref waq, .int wy], ob wbq 4 [.long wbf, .int (nI wbt), .int wbz, .ref wbmq], ai g wbmq 6 wbm, ob waq 1 [.int (nI wan), .ref wakq, .ref wacq, .ref wahq, .ref waaq], ai g wakq 6 wakd, ai g wacq 6 wace, ai g wahq 6 waho, ai g waaq 6 waac, ob dq 2 [.ref dsq, .ref dfq, .ref dmq], ai g dsq 1296 ds, ai g dfq 36 df, ai g dmq 36 dm] (fun u : Int32 × Int64 × Nat × Int32 × (Nat → Int32) × Nat × (Nat → Int32) × (Nat → Int32) × (Nat → Int32) × (Nat → Int32) × Nat × (Nat → Int32) × (Nat → Int32) × Int64 × Int32 × Int32 × Int32 × (Nat → Int32) × (Nat → Int32) × (Nat → Int32) => some (.int u.1)) (fun u => [ob xq 9 [.ref tq, .ref wq, .ref vq, .int (bI xi), .ref fq, .ref dq, .ref kq, .ref xsq], ob fq 3 [.ref fbq, .ref faq, .ref fsq, .long u.2.2.2.2.2.2.2.2.2.2.2.2.2.1, .int u.2.2.2.2.2.2.2.2.2.2.2.2.2.2.1, .int u.2.2.2.2.2.2.2.2.2.2.2.2.2.2.2.1, .int u.2.2.2.2.2.2.2.2.2.2.2.2.2.2.2.2.1], ob fbq 4 [.long u.2.1, .int (nI u.2.2.1), .int u.2.2.2.1, .ref fbmq], ai g fbmq 6 u.2.2.2.2.1, ob faq 1 [.int (nI u.2.2.2.2.2.1), .ref fakq, .ref facq, .ref fahq, .ref faaq], ai g fakq 6 u.2.2.2.2.2.2.1, ai g facq 6 u.2.2.2.2.2.2.2.1, ai g fahq 6 u.2.2.2.2.2.2.2.2.1, ai g faaq 6 u.2.2.2.2.2.2.2.2.2.1, ob fsq 5 [.int (nI u.2.2.2.2.2.2.2.2.2.2.1), .ref fscq, .ref fswq], ai g fscq 6 u.2.2.2.2.2.2.2.2.2.2.2.1, ai g fswq 6 u.2.2.2.2.2.2.2.2.2.2.2.2.1, ob wq 8 [.ref wbq, .ref waq, .int wy], ob wbq 4 [.long wbf, .int (nI wbt), .int wbz, .ref wbmq], ai g wbmq 6 wbm, ob waq 1 [.int (nI wan), .ref wakq, .ref wacq, .ref wahq, .ref waaq], ai g wakq 6 wakd, ai g wacq 6 wace, ai g wahq 6 waho, ai g waaq 6 waac, ob dq 2 [.ref dsq, .ref dfq, .ref dmq], ai g dsq 1296 u.2.2.2.2.2.2.2.2.2.2.2.2.2.2.2.2.2.1, ai g dfq 36 u.2.2.2.2.2.2.2.2.2.2.2.2.2.2.2.2.2.2.1, ai g dmq 36 u.2.2.2.2.2.2.2.2.2.2.2.2.2.2.2.2.2.2.2]) (fun u => (R_game o o2 h1 h2 x y w wakd wace waho wan wbz wbf wbm wbt u.1) ∧ (u.2.2.2.2.2.2.2.2.2.2.2.2.2.2.2.2.1 = stX u.2.2.2.2.2.2.2.2.2.2.2.2.2.1 u.2.2.2.2.2.2.2.2.2.2.2.2.2.2.1 u.2.2.2.2.2.2.2.2.2.2.2.2.2.2.2.1)) := by
  refine Ke.of (cc := cX9_game) (maxL := 11) (ret := (some .int)) (lv := [(0, .ref xq), (1, .int o), (2, .int o2), (3, .int h1), (4, .int h2), (5, .int x), (6, .int y), (7, .int w)]) RX9 rfl (by decide) rfl (Nat.le_of_ble_eq_true rfl) rfl ?_
  intro p e s m below meth c A sz hA9 X hr hin2
  have in2 : ∀ w ∈ u_ws RX2 TX2 3, w ∈ wsX9_game := by decide +kernel
  have in3 : ∀ w ∈ u_ws RX3 TX3 7, w ∈ wsX9_game := by decide +kernel
  have in9 : ∀ w ∈ u_ws RX9 TX9 8, w ∈ wsX9_game := by decide +kernel
  refine V_aload_n (pc := 0) X dX9_game_0 rfl 0 rfl ?_
  refine V_iload_n (pc := 1) X dX9_game_1 rfl 1 rfl ?_
  refine V_vg (pc := 2) (nA := 1) (As := [.int o]) (rest := []) X (c_X9_isPerson l g (xq := xq) (tq := tq) (wq := wq) (vq := vq) (xi := xi) (fq := fq) (dq := dq) (kq := kq) (xsq := xsq) (wbq := wbq) (waq := waq) (wy := wy) (wan := wan) (wakq := wakq) (wacq := wacq) (wahq := wahq) (waaq := waaq) (wakd := wakd) (wace := wace) (waho := waho) (waac := waac) (x := o) ) gX9_game_X9_isPerson dX9_game_2 rfl (by decide +kernel) rfl (qb := 0) rfl rfl rfl ⟨rfl, rfl⟩ ⟨Nat.le_of_ble_eq_true rfl, Nat.le_of_ble_eq_true rfl⟩ ⟨Nat.le_of_ble_eq_true rfl, Nat.le_of_ble_eq_true rfl⟩ [0, 12, 15, 16, 17, 18, 19] (by decide) rfl rfl (Nat.le_of_ble_eq_true rfl) (st' := [.int (bI (bel o (nI wan)))]) rfl ?_
  refine V_if_eq (tgt := 61) (pc := 5) X dX9_game_5 (by decide) (fun c_1 => ?_) (fun c_1 => ?_)
  · skip
    have b_2 : (bel o (nI wan)) = false := bI0 c_1
    refine V_iconst (v := (-1)) (pc := 61) X dX9_game_61 (by decide) ?_
    exact Ve_iret (pc := 62) X hA9 dX9_game_62 hr ((-1), fbf, fbt, fbz, fbm, fan, fakd, face, faho, faac, fsn, fsce, fswe, lw, la, lb, ls, ds, df, dm) (by first | rfl | (simp [b_2]; done)) ⟨(by
          try dsimp only
          unfold R_game
          exact Or.inl ⟨by simp [gameG, b_2], rfl⟩), (by
          try dsimp only
          all_goals assumption)⟩ (by rfl)
  · skip
    have b_3 : (bel o (nI wan)) = true := bI1 c_1
    refine V_aload_n (pc := 8) X dX9_game_8 rfl 0 rfl ?_
    refine V_iload_n (pc := 9) X dX9_game_9 rfl 2 rfl ?_
    refine V_vg (pc := 10) (nA := 1) (As := [.int o2]) (rest := []) X (c_X9_isPerson l g (xq := xq) (tq := tq) (wq := wq) (vq := vq) (xi := xi) (fq := fq) (dq := dq) (kq := kq) (xsq := xsq) (wbq := wbq) (waq := waq) (wy := wy) (wan := wan) (wakq := wakq) (wacq := wacq) (wahq := wahq) (waaq := waaq) (wakd := wakd) (wace := wace) (waho := waho) (waac := waac) (x := o2) ) gX9_game_X9_isPerson dX9_game_10 rfl (by decide +kernel) rfl (qb := 0) rfl rfl rfl ⟨rfl, rfl⟩ ⟨Nat.le_of_ble_eq_true rfl, Nat.le_of_ble_eq_true rfl⟩ ⟨Nat.le_of_ble_eq_true rfl, Nat.le_of_ble_eq_true rfl⟩ [0, 12, 15, 16, 17, 18, 19] (by decide) rfl rfl (Nat.le_of_ble_eq_true rfl) (st' := [.int (bI (bel o2 (nI wan)))]) rfl ?_
    refine V_if_eq (tgt := 61) (pc := 13) X dX9_game_13 (by decide) (fun c_4 => ?_) (fun c_4 => ?_)
    · skip
      have b_5 : (bel o2 (nI wan)) = false := bI0 c_4
      refine V_iconst (v := (-1)) (pc := 61) X dX9_game_61 (by decide) ?_
      exact Ve_iret (pc := 62) X hA9 dX9_game_62 hr ((-1), fbf, fbt, fbz, fbm, fan, fakd, face, faho, faac, fsn, fsce, fswe, lw, la, lb, ls, ds, df, dm) (by first | rfl | (simp [b_3, b_5]; done)) ⟨(by
            try dsimp only
            unfold R_game
            exact Or.inl ⟨by simp [gameG, b_3, b_5], rfl⟩), (by
            try dsimp only
            all_goals assumption)⟩ (by rfl)
    · skip
      have b_6 : (bel o2 (nI wan)) = true := bI1 c_4
      refine V_iload_n (pc := 16) X dX9_game_16 rfl 1 rfl ?_
      refine V_iload_n (pc := 17) X dX9_game_17 rfl 2 rfl ?_
      refine V_icmp_eq (tgt := 61) (pc := 18) X dX9_game_18 (by decide) (fun c_7 => ?_) (fun c_7 => ?_)
      · skip
        refine V_iconst (v := (-1)) (pc := 61) X dX9_game_61 (by decide) ?_
        exact Ve_iret (pc := 62) X hA9 dX9_game_62 hr ((-1), fbf, fbt, fbz, fbm, fan, fakd, face, faho, faac, fsn, fsce, fswe, lw, la, lb, ls, ds, df, dm) (by first | rfl | (simp [b_3, b_6, c_7]; done)) ⟨(by
              try dsimp only
              unfold R_game
              exact Or.inl ⟨by simp [gameG, b_3, b_6, c_7], rfl⟩), (by
              try dsimp only
              all_goals assumption)⟩ (by rfl)
      · skip
        refine V_iload_n (pc := 21) X dX9_game_21 rfl 3 rfl ?_
        refine V_sg (pc := 22) (nA := 1) (As := [.int h1]) (rest := []) X (c_X9_isStay l g (x := h1) ) gX9_game_X9_isStay dX9_game_22 rfl (by decide +kernel) rfl ⟨rfl, rfl⟩ ⟨Nat.le_of_ble_eq_true rfl, Nat.le_of_ble_eq_true rfl⟩ ⟨Nat.le_of_ble_eq_true rfl, Nat.le_of_ble_eq_true rfl⟩ [] (by decide) rfl rfl (Nat.le_of_ble_eq_true rfl) (st' := [.int (bI (stay h1))]) rfl ?_
        refine V_if_eq (tgt := 61) (pc := 25) X dX9_game_25 (by decide) (fun c_8 => ?_) (fun c_8 => ?_)
        · skip
          have b_9 : (stay h1) = false := bI0 c_8
          refine V_iconst (v := (-1)) (pc := 61) X dX9_game_61 (by decide) ?_
          exact Ve_iret (pc := 62) X hA9 dX9_game_62 hr ((-1), fbf, fbt, fbz, fbm, fan, fakd, face, faho, faac, fsn, fsce, fswe, lw, la, lb, ls, ds, df, dm) (by first | rfl | (simp [b_3, b_6, c_7, b_9]; done)) ⟨(by
                try dsimp only
                unfold R_game
                exact Or.inl ⟨by simp [gameG, b_3, b_6, c_7, b_9], rfl⟩), (by
                try dsimp only
                all_goals assumption)⟩ (by rfl)
        · skip
          have b_10 : (stay h1) = true := bI1 c_8
          refine V_iload (pc := 28) X dX9_game_28 4 rfl ?_
          refine V_sg (pc := 30) (nA := 1) (As := [.int h2]) (rest := []) X (c_X9_isStay l g (x := h2) ) gX9_game_X9_isStay dX9_game_30 rfl (by decide +kernel) rfl ⟨rfl, rfl⟩ ⟨Nat.le_of_ble_eq_true rfl, Nat.le_of_ble_eq_true rfl⟩ ⟨Nat.le_of_ble_eq_true rfl, Nat.le_of_ble_eq_true rfl⟩ [] (by decide) rfl rfl (Nat.le_of_ble_eq_true rfl) (st' := [.int (bI (stay h2))]) rfl ?_
          refine V_if_eq (tgt := 61) (pc := 33) X dX9_game_33 (by decide) (fun c_11 => ?_) (fun c_11 => ?_)
          · skip
            have b_12 : (stay h2) = false := bI0 c_11
            refine V_iconst (v := (-1)) (pc := 61) X dX9_game_61 (by decide) ?_
            exact Ve_iret (pc := 62) X hA9 dX9_game_62 hr ((-1), fbf, fbt, fbz, fbm, fan, fakd, face, faho, faac, fsn, fsce, fswe, lw, la, lb, ls, ds, df, dm) (by first | rfl | (simp [b_3, b_6, c_7, b_10, b_12]; done)) ⟨(by
                  try dsimp only
                  unfold R_game
                  exact Or.inl ⟨by simp [gameG, b_3, b_6, c_7, b_10, b_12], rfl⟩), (by
                  try dsimp only
                  all_goals assumption)⟩ (by rfl)
          · skip
            have b_13 : (stay h2) = true := bI1 c_11
            refine V_iload (pc := 36) X dX9_game_36 5 rfl ?_
            refine V_sg (pc := 38) (nA := 1) (As := [.int x]) (rest := []) X (c_X9_isCell l g (x := x) ) gX9_game_X9_isCell dX9_game_38 rfl (by decide +kernel) rfl ⟨rfl, rfl⟩ ⟨Nat.le_of_ble_eq_true rfl, Nat.le_of_ble_eq_true rfl⟩ ⟨Nat.le_of_ble_eq_true rfl, Nat.le_of_ble_eq_true rfl⟩ [] (by decide) rfl rfl (Nat.le_of_ble_eq_true rfl) (st' := [.int (bI (bel x 36))]) rfl ?_
            refine V_if_eq (tgt := 61) (pc := 41) X dX9_game_41 (by decide) (fun c_14 => ?_) (fun c_14 => ?_)
            · skip
              have b_15 : (bel x 36) = false := bI0 c_14
              refine V_iconst (v := (-1)) (pc := 61) X dX9_game_61 (by decide) ?_
              exact Ve_iret (pc := 62) X hA9 dX9_game_62 hr ((-1), fbf, fbt, fbz, fbm, fan, fakd, face, faho, faac, fsn, fsce, fswe, lw, la, lb, ls, ds, df, dm) (by first | rfl | (simp [b_3, b_6, c_7, b_10, b_13, b_15]; done)) ⟨(by
                    try dsimp only
                    unfold R_game
                    exact Or.inl ⟨by simp [gameG, b_3, b_6, c_7, b_10, b_13, b_15], rfl⟩), (by
                    try dsimp only
                    all_goals assumption)⟩ (by rfl)
            · skip
              have b_16 : (bel x 36) = true := bI1 c_14
              refine V_iload (pc := 44) X dX9_game_44 6 rfl ?_
              refine V_sg (pc := 46) (nA := 1) (As := [.int y]) (rest := []) X (c_X9_isCell l g (x := y) ) gX9_game_X9_isCell dX9_game_46 rfl (by decide +kernel) rfl ⟨rfl, rfl⟩ ⟨Nat.le_of_ble_eq_true rfl, Nat.le_of_ble_eq_true rfl⟩ ⟨Nat.le_of_ble_eq_true rfl, Nat.le_of_ble_eq_true rfl⟩ [] (by decide) rfl rfl (Nat.le_of_ble_eq_true rfl) (st' := [.int (bI (bel y 36))]) rfl ?_
              refine V_if_eq (tgt := 61) (pc := 49) X dX9_game_49 (by decide) (fun c_17 => ?_) (fun c_17 => ?_)
              · skip
                have b_18 : (bel y 36) = false := bI0 c_17
                refine V_iconst (v := (-1)) (pc := 61) X dX9_game_61 (by decide) ?_
                exact Ve_iret (pc := 62) X hA9 dX9_game_62 hr ((-1), fbf, fbt, fbz, fbm, fan, fakd, face, faho, faac, fsn, fsce, fswe, lw, la, lb, ls, ds, df, dm) (by first | rfl | (simp [b_3, b_6, c_7, b_10, b_13, b_16, b_18]; done)) ⟨(by
                      try dsimp only
                      unfold R_game
                      exact Or.inl ⟨by simp [gameG, b_3, b_6, c_7, b_10, b_13, b_16, b_18], rfl⟩), (by
                      try dsimp only
                      all_goals assumption)⟩ (by rfl)
              · skip
                have b_19 : (bel y 36) = true := bI1 c_17
                refine V_iload (pc := 52) X dX9_game_52 7 rfl ?_
                refine V_iconst (v := 2) (pc := 54) X dX9_game_54 (by decide) ?_
                refine V_sg (pc := 55) (nA := 2) (As := [.int w, .int 2]) (rest := []) X (c_X9_isBelow l g (x := w) (b := 2) ) gX9_game_X9_isBelow dX9_game_55 rfl (by decide +kernel) rfl ⟨rfl, rfl⟩ ⟨Nat.le_of_ble_eq_true rfl, Nat.le_of_ble_eq_true rfl⟩ ⟨Nat.le_of_ble_eq_true rfl, Nat.le_of_ble_eq_true rfl⟩ [] (by decide) rfl rfl (Nat.le_of_ble_eq_true rfl) (st' := [.int (bI (bel w 2))]) rfl ?_
                refine V_if_ne (tgt := 63) (pc := 58) X dX9_game_58 (by decide) (fun c_20 => ?_) (fun c_20 => ?_)
                · skip
                  have b_21 : (bel w 2) = true := bI1 c_20
                  obtain ⟨j_22, hj_23, rfl⟩ := bel_nat (n := wan) (by omega) b_3
                  obtain ⟨j_24, hj_25, rfl⟩ := bel_nat (n := wan) (by omega) b_6
                  have hne : ¬ j_22 = j_24 := fun q => c_7 (by rw [q])
                  refine V_aload_n (pc := 63) X dX9_game_63 rfl 0 rfl ?_
                  refine V_get (C := RX9) (T := TX9) (N := 8) (ci := 9) (pc := 64) X dX9_game_64 in9 0 rfl rfl 4 (by decide) (by decide +kernel) rfl rfl ?_
                  refine V_aload_n (pc := 67) X dX9_game_67 rfl 0 rfl ?_
                  refine V_get (C := RX9) (T := TX9) (N := 8) (ci := 9) (pc := 68) X dX9_game_68 in9 0 rfl rfl 1 (by decide) (by decide +kernel) rfl rfl ?_
                  refine V_ve (pc := 71) (nA := 1) (As := [.ref wq]) (rest := []) X (c_X3_begin l g (fq := fq) (fbq := fbq) (fbmq := fbmq) (fbf := fbf) (fbt := fbt) (fbz := fbz) (fbm := fbm) (faq := faq) (fakq := fakq) (facq := facq) (fahq := fahq) (faaq := faaq) (fan := fan) (fakd := fakd) (face := face) (faho := faho) (faac := faac) (fsq := fsq) (fscq := fscq) (fswq := fswq) (fsn := fsn) (fsce := fsce) (fswe := fswe) (lw := lw) (la := la) (lb := lb) (ls := ls) (wq := wq) (wbq := wbq) (wbmq := wbmq) (wbf := wbf) (wbt := wbt) (wbz := wbz) (wbm := wbm) (waq := waq) (wakq := wakq) (wacq := wacq) (wahq := wahq) (waaq := waaq) (wan := wan) (wakd := wakd) (wace := wace) (waho := waho) (waac := waac) (wy := wy) (hn := by first | assumption | omega)) gX9_game_X3_begin dX9_game_71 rfl (by decide +kernel) rfl (qb := 1) rfl rfl rfl ⟨rfl, rfl⟩ ⟨Nat.le_of_ble_eq_true rfl, Nat.le_of_ble_eq_true rfl⟩ ⟨Nat.le_of_ble_eq_true rfl, Nat.le_of_ble_eq_true rfl⟩ [1, 2, 3, 4, 5, 6, 7, 8, 9, 10, 11, 12, 13, 14, 15, 16, 17, 18, 19] (by decide) rfl [0, 20, 21, 22, 23] (by decide) (by decide) [ob xq 9 [.ref tq, .ref wq, .ref vq, .int (bI xi), .ref fq, .ref dq, .ref kq, .ref xsq], ob dq 2 [.ref dsq, .ref dfq, .ref dmq], ai g dsq 1296 ds, ai g dfq 36 df, ai g dmq 36 dm] rfl [0, 5, 6, 7, 8, 9, 10, 11, 12, 13, 14, 15, 16, 17, 18, 19, 20, 21, 22, 23, 1, 2, 3, 4] (by decide) (fun u => [ob xq 9 [.ref tq, .ref wq, .ref vq, .int (bI xi), .ref fq, .ref dq, .ref kq, .ref xsq], ob fq 3 [.ref fbq, .ref faq, .ref fsq, .long lw, .int la, .int lb, .int ls], ob fbq 4 [.long fbf, .int (nI fbt), .int fbz, .ref fbmq], ai g fbmq 6 fbm, ob faq 1 [.int (nI wan), .ref fakq, .ref facq, .ref fahq, .ref faaq], ai g fakq 6 (cpF fakd wakd wan), ai g facq 6 (cpF face wace wan), ai g fahq 6 (cpF faho waho wan), ai g faaq 6 (cpF faac waac wan), ob fsq 5 [.int (nI fsn), .ref fscq, .ref fswq], ai g fscq 6 fsce, ai g fswq 6 fswe, ob wq 8 [.ref wbq, .ref waq, .int wy], ob wbq 4 [.long wbf, .int (nI wbt), .int wbz, .ref wbmq], ai g wbmq 6 wbm, ob waq 1 [.int (nI wan), .ref wakq, .ref wacq, .ref wahq, .ref waaq], ai g wakq 6 wakd, ai g wacq 6 wace, ai g wahq 6 waho, ai g waaq 6 waac, ob dq 2 [.ref dsq, .ref dfq, .ref dmq], ai g dsq 1296 ds, ai g dfq 36 df, ai g dmq 36 dm]) (fun _ => rfl) rfl (Nat.le_of_ble_eq_true rfl) (fun u => []) (fun _ => rfl) (fun u hu_26 => ?_)
                  refine V_eqw (ws2 := [ob xq 9 [.ref tq, .ref wq, .ref vq, .int (bI xi), .ref fq, .ref dq, .ref kq, .ref xsq], ob fq 3 [.ref fbq, .ref faq, .ref fsq, .long lw, .int la, .int lb, .int ls], ob fbq 4 [.long fbf, .int (nI fbt), .int fbz, .ref fbmq], ai g fbmq 6 fbm, ob faq 1 [.int (nI wan), .ref fakq, .ref facq, .ref fahq, .ref faaq], ai g fakq 6 (cpF fakd wakd wan), ai g facq 6 (cpF face wace wan), ai g fahq 6 (cpF faho waho wan), ai g faaq 6 (cpF faac waac wan), ob fsq 5 [.int (nI fsn), .ref fscq, .ref fswq], ai g fscq 6 fsce, ai g fswq 6 fswe, ob wq 8 [.ref wbq, .ref waq, .int wy], ob wbq 4 [.long wbf, .int (nI wbt), .int wbz, .ref wbmq], ai g wbmq 6 wbm, ob waq 1 [.int (nI wan), .ref wakq, .ref wacq, .ref wahq, .ref waaq], ai g wakq 6 wakd, ai g wacq 6 wace, ai g wahq 6 waho, ai g waaq 6 waac, ob dq 2 [.ref dsq, .ref dfq, .ref dmq], ai g dsq 1296 ds, ai g dfq 36 df, ai g dmq 36 dm]) rfl (V_eqs (st2 := []) rfl ?_)
                  refine V_iconst (v := 0) (pc := 74) X dX9_game_74 (by decide) ?_
                  refine V_istore (lv' := [(8, .int 0), (0, .ref xq), (1, .int (nI j_22)), (2, .int (nI j_24)), (3, .int h1), (4, .int h2), (5, .int x), (6, .int y), (7, .int w)]) (pc := 75) X dX9_game_75 (Nat.le_of_ble_eq_true rfl) rfl ?_
                  refine V_loop (pc := 77) (σ := Nat × Nat × Int32 × Int64 × (Nat → Int32) × (Nat → Int32) × (Nat → Int32) × Nat × (Nat → Int32) × (Nat → Int32) × Int64 × Int32 × Int32 × Int32 × (Nat → Int32)) (fun v9 => [(0, .ref xq), (1, .int (nI j_22)), (2, .int (nI j_24)), (3, .int h1), (4, .int h2), (5, .int x), (6, .int y), (7, .int w), (8, .int (nI v9.1))]) (fun v9 => [ob xq 9 [.ref tq, .ref wq, .ref vq, .int (bI xi), .ref fq, .ref dq, .ref kq, .ref xsq], ob fq 3 [.ref fbq, .ref faq, .ref fsq, .long v9.2.2.2.2.2.2.2.2.2.2.1, .int v9.2.2.2.2.2.2.2.2.2.2.2.1, .int v9.2.2.2.2.2.2.2.2.2.2.2.2.1, .int v9.2.2.2.2.2.2.2.2.2.2.2.2.2.1], ob fbq 4 [.long v9.2.2.2.1, .int (nI v9.2.1), .int v9.2.2.1, .ref fbmq], ai g fbmq 6 v9.2.2.2.2.1, ob faq 1 [.int (nI wan), .ref fakq, .ref facq, .ref fahq, .ref faaq], ai g fakq 6 (cpF fakd wakd wan), ai g facq 6 v9.2.2.2.2.2.1, ai g fahq 6 v9.2.2.2.2.2.2.1, ai g faaq 6 (cpF faac waac wan), ob fsq 5 [.int (nI v9.2.2.2.2.2.2.2.1), .ref fscq, .ref fswq], ai g fscq 6 v9.2.2.2.2.2.2.2.2.1, ai g fswq 6 v9.2.2.2.2.2.2.2.2.2.1, ob wq 8 [.ref wbq, .ref waq, .int wy], ob wbq 4 [.long wbf, .int (nI wbt), .int wbz, .ref wbmq], ai g wbmq 6 wbm, ob waq 1 [.int (nI wan), .ref wakq, .ref wacq, .ref wahq, .ref waaq], ai g wakq 6 wakd, ai g wacq 6 wace, ai g wahq 6 waho, ai g waaq 6 waac, ob dq 2 [.ref dsq, .ref dfq, .ref dmq], ai g dsq 1296 v9.2.2.2.2.2.2.2.2.2.2.2.2.2.2, ai g dfq 36 df, ai g dmq 36 dm]) (fun v9 => (v9.1 ≤ 36) ∧ (∀ a b, upd (upd v9.2.2.2.2.2.1 j_22 a) j_24 b = upd (upd (cpF face wace wan) j_22 a) j_24 b) ∧ (∀ a b, upd (upd v9.2.2.2.2.2.2.1 j_22 a) j_24 b = upd (upd (cpF faho waho wan) j_22 a) j_24 b) ∧ (v9.2.2.2.2.2.2.2.2.2.2.2.2.2.1 = stX v9.2.2.2.2.2.2.2.2.2.2.1 v9.2.2.2.2.2.2.2.2.2.2.2.1 v9.2.2.2.2.2.2.2.2.2.2.2.2.1) ∧ (∀ a b, b < 36 → a < v9.1 → v9.2.2.2.2.2.2.2.2.2.2.2.2.2.2 (a * 36 + b) = n99 (TG j_22 j_24 h1 h2 wakd wace waho wan wbz wbf wbm wbt x y a b))) (fun v9 => 36 - v9.1) (0, fbt, fbz, fbf, fbm, cpF face wace wan, cpF faho waho wan, fsn, fsce, fswe, lw, la, lb, ls, ds) ⟨(by
                        try dsimp only
                        all_goals omega), (by
                        try dsimp only
                        exact fun _ _ => rfl), (by
                        try dsimp only
                        exact fun _ _ => rfl), (by
                        try dsimp only
                        assumption), (by
                        try dsimp only
                        exact fun a b _ h => absurd h (Nat.not_lt_zero _))⟩ rfl [1, 2, 3, 4, 5, 6, 7, 8, 0] rfl ?_
                  rintro ⟨i, zt1, ze1, zf1, zm1, zc1, zh1, zn1, zs1, zw1, zl1, za1, zb1, zz1, zd1⟩ ⟨hi, hr1, hs1, hq1, hD1⟩ ih77
                  try dsimp only at hi
                  try dsimp only at hr1
                  try dsimp only at hs1
                  try dsimp only at hq1
                  try dsimp only at hD1
                  refine V_eqw (ws2 := [ob xq 9 [.ref tq, .ref wq, .ref vq, .int (bI xi), .ref fq, .ref dq, .ref kq, .ref xsq], ob fq 3 [.ref fbq, .ref faq, .ref fsq, .long zl1, .int za1, .int zb1, .int zz1], ob fbq 4 [.long zf1, .int (nI zt1), .int ze1, .ref fbmq], ai g fbmq 6 zm1, ob faq 1 [.int (nI wan), .ref fakq, .ref facq, .ref fahq, .ref faaq], ai g fakq 6 (cpF fakd wakd wan), ai g facq 6 zc1, ai g fahq 6 zh1, ai g faaq 6 (cpF faac waac wan), ob fsq 5 [.int (nI zn1), .ref fscq, .ref fswq], ai g fscq 6 zs1, ai g fswq 6 zw1, ob wq 8 [.ref wbq, .ref waq, .int wy], ob wbq 4 [.long wbf, .int (nI wbt), .int wbz, .ref wbmq], ai g wbmq 6 wbm, ob waq 1 [.int (nI wan), .ref wakq, .ref wacq, .ref wahq, .ref waaq], ai g wakq 6 wakd, ai g wacq 6 wace, ai g wahq 6 waho, ai g waaq 6 waac, ob dq 2 [.ref dsq, .ref dfq, .ref dmq], ai g dsq 1296 zd1, ai g dfq 36 df, ai g dmq 36 dm]) rfl (V_eql (lv' := [(0, .ref xq), (1, .int (nI j_22)), (2, .int (nI j_24)), (3, .int h1), (4, .int h2), (5, .int x), (6, .int y), (7, .int w), (8, .int (nI i))]) rfl ?_)
                  refine V_iload (pc := 77) X dX9_game_77 8 rfl ?_
                  refine V_bipush (v := 36) (pc := 79) X dX9_game_79 (by decide) ?_
                  refine V_icmp_ge (tgt := 180) (pc := 81) X dX9_game_81 (by decide) (fun c_27 => ?_) (fun c_27 => ?_)
                  · skip
                    have n_28 : 36 ≤ i := nJ_le (a := 36) (b := i) (by omega) (by omega) c_27
                    refine V_aload_n (pc := 180) X dX9_game_180 rfl 0 rfl ?_
                    refine V_get (C := RX9) (T := TX9) (N := 8) (ci := 9) (pc := 181) X dX9_game_181 in9 0 rfl rfl 5 (by decide) (by decide +kernel) rfl rfl ?_
                    refine V_ve (pc := 184) (nA := 0) (As := []) (rest := []) X (c_X2_weigh l g (dq := dq) (dsq := dsq) (dfq := dfq) (dmq := dmq) (ds := zd1) (df := df) (dm := dm) ) gX9_game_X2_weigh dX9_game_184 rfl (by decide +kernel) rfl (qb := 20) rfl rfl rfl ⟨rfl, rfl⟩ ⟨Nat.le_of_ble_eq_true rfl, Nat.le_of_ble_eq_true rfl⟩ ⟨Nat.le_of_ble_eq_true rfl, Nat.le_of_ble_eq_true rfl⟩ [20, 21, 22, 23] (by decide) rfl [0, 1, 2, 3, 4, 5, 6, 7, 8, 9, 10, 11, 12, 13, 14, 15, 16, 17, 18, 19] (by decide) (by decide) [ob xq 9 [.ref tq, .ref wq, .ref vq, .int (bI xi), .ref fq, .ref dq, .ref kq, .ref xsq], ob fq 3 [.ref fbq, .ref faq, .ref fsq, .long zl1, .int za1, .int zb1, .int zz1], ob fbq 4 [.long zf1, .int (nI zt1), .int ze1, .ref fbmq], ai g fbmq 6 zm1, ob faq 1 [.int (nI wan), .ref fakq, .ref facq, .ref fahq, .ref faaq], ai g fakq 6 (cpF fakd wakd wan), ai g facq 6 zc1, ai g fahq 6 zh1, ai g faaq 6 (cpF faac waac wan), ob fsq 5 [.int (nI zn1), .ref fscq, .ref fswq], ai g fscq 6 zs1, ai g fswq 6 zw1, ob wq 8 [.ref wbq, .ref waq, .int wy], ob wbq 4 [.long wbf, .int (nI wbt), .int wbz, .ref wbmq], ai g wbmq 6 wbm, ob waq 1 [.int (nI wan), .ref wakq, .ref wacq, .ref wahq, .ref waaq], ai g wakq 6 wakd, ai g wacq 6 wace, ai g wahq 6 waho, ai g waaq 6 waac] rfl [0, 1, 2, 3, 4, 5, 6, 7, 8, 9, 10, 11, 12, 13, 14, 15, 16, 17, 18, 19, 20, 21, 22, 23] (by decide) (fun u => [ob xq 9 [.ref tq, .ref wq, .ref vq, .int (bI xi), .ref fq, .ref dq, .ref kq, .ref xsq], ob fq 3 [.ref fbq, .ref faq, .ref fsq, .long zl1, .int za1, .int zb1, .int zz1], ob fbq 4 [.long zf1, .int (nI zt1), .int ze1, .ref fbmq], ai g fbmq 6 zm1, ob faq 1 [.int (nI wan), .ref fakq, .ref facq, .ref fahq, .ref faaq], ai g fakq 6 (cpF fakd wakd wan), ai g facq 6 zc1, ai g fahq 6 zh1, ai g faaq 6 (cpF faac waac wan), ob fsq 5 [.int (nI zn1), .ref fscq, .ref fswq], ai g fscq 6 zs1, ai g fswq 6 zw1, ob wq 8 [.ref wbq, .ref waq, .int wy], ob wbq 4 [.long wbf, .int (nI wbt), .int wbz, .ref wbmq], ai g wbmq 6 wbm, ob waq 1 [.int (nI wan), .ref wakq, .ref wacq, .ref wahq, .ref waaq], ai g wakq 6 wakd, ai g wacq 6 wace, ai g wahq 6 waho, ai g waaq 6 waac, ob dq 2 [.ref dsq, .ref dfq, .ref dmq], ai g dsq 1296 zd1, ai g dfq 36 ((dwF zd1 df dm 36).1), ai g dmq 36 ((dwF zd1 df dm 36).2)]) (fun _ => rfl) rfl (Nat.le_of_ble_eq_true rfl) (fun u => []) (fun _ => rfl) (fun u hu_29 => ?_)
                    refine V_eqw (ws2 := [ob xq 9 [.ref tq, .ref wq, .ref vq, .int (bI xi), .ref fq, .ref dq, .ref kq, .ref xsq], ob fq 3 [.ref fbq, .ref faq, .ref fsq, .long zl1, .int za1, .int zb1, .int zz1], ob fbq 4 [.long zf1, .int (nI zt1), .int ze1, .ref fbmq], ai g fbmq 6 zm1, ob faq 1 [.int (nI wan), .ref fakq, .ref facq, .ref fahq, .ref faaq], ai g fakq 6 (cpF fakd wakd wan), ai g facq 6 zc1, ai g fahq 6 zh1, ai g faaq 6 (cpF faac waac wan), ob fsq 5 [.int (nI zn1), .ref fscq, .ref fswq], ai g fscq 6 zs1, ai g fswq 6 zw1, ob wq 8 [.ref wbq, .ref waq, .int wy], ob wbq 4 [.long wbf, .int (nI wbt), .int wbz, .ref wbmq], ai g wbmq 6 wbm, ob waq 1 [.int (nI wan), .ref wakq, .ref wacq, .ref wahq, .ref waaq], ai g wakq 6 wakd, ai g wacq 6 wace, ai g wahq 6 waho, ai g waaq 6 waac, ob dq 2 [.ref dsq, .ref dfq, .ref dmq], ai g dsq 1296 zd1, ai g dfq 36 ((dwF zd1 df dm 36).1), ai g dmq 36 ((dwF zd1 df dm 36).2)]) rfl (V_eqs (st2 := []) rfl ?_)
                    refine V_iload (pc := 187) X dX9_game_187 7 rfl ?_
                    refine V_if_ne (tgt := 202) (pc := 189) X dX9_game_189 (by decide) (fun c_30 => ?_) (fun c_30 => ?_)
                    · skip
                      refine V_aload_n (pc := 202) X dX9_game_202 rfl 0 rfl ?_
                      refine V_get (C := RX9) (T := TX9) (N := 8) (ci := 9) (pc := 203) X dX9_game_203 in9 0 rfl rfl 5 (by decide) (by decide +kernel) rfl rfl ?_
                      refine V_vg (pc := 206) (nA := 0) (As := []) (rest := []) X (c_X2_firstRest l g (dq := dq) (dsq := dsq) (dfq := dfq) (dmq := dmq) (ds := zd1) (df := (dwF zd1 df dm 36).1) (dm := (dwF zd1 df dm 36).2) ) gX9_game_X2_firstRest dX9_game_206 rfl (by decide +kernel) rfl (qb := 20) rfl rfl rfl ⟨rfl, rfl⟩ ⟨Nat.le_of_ble_eq_true rfl, Nat.le_of_ble_eq_true rfl⟩ ⟨Nat.le_of_ble_eq_true rfl, Nat.le_of_ble_eq_true rfl⟩ [20, 21, 22, 23] (by decide) rfl rfl (Nat.le_of_ble_eq_true rfl) (st' := [.int (fsF (restB zd1 ((dwF zd1 df dm 36).1) ((dwF zd1 df dm 36).2)) 1296 0)]) rfl ?_
                      refine V_topi (fun rr_31 hrr_31 => ?_)
                      exact Ve_iret (pc := 209) X hA9 dX9_game_209 hr (rr_31, zf1, zt1, ze1, zm1, wan, cpF fakd wakd wan, zc1, zh1, cpF faac waac wan, zn1, zs1, zw1, zl1, za1, zb1, zz1, zd1, (dwF zd1 df dm 36).1, (dwF zd1 df dm 36).2) (by first | rfl | (simp [b_3, b_6, c_7, b_10, b_13, b_16, b_19, b_21, hj_23, hj_25, hne, n_28, c_30, hrr_31]; done)) ⟨(by
                            try dsimp only
                            unfold R_game
                            refine Or.inr ⟨by simp [gameG, b_3, b_6, c_7, b_10, b_13, b_16, b_19, b_21, hj_23, hj_25, hne, n_28, c_30, hrr_31, show bel (0 : Int32) 2 = true from by decide], zd1, df, dm, ?_, (by rw [if_neg (by assumption)]; exact hrr_31)⟩
                            intro a b ha hb
                            rw [nI_clamp (n := j_22) (by omega), nI_clamp (n := j_24) (by omega)]
                            exact hD1 a b hb (by omega)), (by
                            try dsimp only
                            all_goals assumption)⟩ (by rfl)
                    · skip
                      refine V_aload_n (pc := 192) X dX9_game_192 rfl 0 rfl ?_
                      refine V_get (C := RX9) (T := TX9) (N := 8) (ci := 9) (pc := 193) X dX9_game_193 in9 0 rfl rfl 5 (by decide) (by decide +kernel) rfl rfl ?_
                      refine V_vg (pc := 196) (nA := 0) (As := []) (rest := []) X (c_X2_rests l g (dq := dq) (dsq := dsq) (dfq := dfq) (dmq := dmq) (ds := zd1) (df := (dwF zd1 df dm 36).1) (dm := (dwF zd1 df dm 36).2) ) gX9_game_X2_rests dX9_game_196 rfl (by decide +kernel) rfl (qb := 20) rfl rfl rfl ⟨rfl, rfl⟩ ⟨Nat.le_of_ble_eq_true rfl, Nat.le_of_ble_eq_true rfl⟩ ⟨Nat.le_of_ble_eq_true rfl, Nat.le_of_ble_eq_true rfl⟩ [20, 21, 22, 23] (by decide) rfl rfl (Nat.le_of_ble_eq_true rfl) (st' := [.int (nI (rsC (restB zd1 ((dwF zd1 df dm 36).1) ((dwF zd1 df dm 36).2)) 36))]) rfl ?_
                      refine V_goto (tgt := 209) (pc := 199) X dX9_game_199 (by decide) ?_
                      refine V_topi (fun rr_32 hrr_32 => ?_)
                      exact Ve_iret (pc := 209) X hA9 dX9_game_209 hr (rr_32, zf1, zt1, ze1, zm1, wan, cpF fakd wakd wan, zc1, zh1, cpF faac waac wan, zn1, zs1, zw1, zl1, za1, zb1, zz1, zd1, (dwF zd1 df dm 36).1, (dwF zd1 df dm 36).2) (by first | rfl | (simp [b_3, b_6, c_7, b_10, b_13, b_16, b_19, b_21, hj_23, hj_25, hne, n_28, c_30, hrr_32]; done)) ⟨(by
                            try dsimp only
                            unfold R_game
                            refine Or.inr ⟨by simp [gameG, b_3, b_6, c_7, b_10, b_13, b_16, b_19, b_21, hj_23, hj_25, hne, n_28, c_30, hrr_32, show bel (0 : Int32) 2 = true from by decide], zd1, df, dm, ?_, (by rw [if_pos (by assumption)]; exact hrr_32)⟩
                            intro a b ha hb
                            rw [nI_clamp (n := j_22) (by omega), nI_clamp (n := j_24) (by omega)]
                            exact hD1 a b hb (by omega)), (by
                            try dsimp only
                            all_goals assumption)⟩ (by rfl)
                  · skip
                    have n_33 : i < 36 := nJ_nle (a := 36) (b := i) (by omega) (by omega) c_27
                    refine V_aload_n (pc := 84) X dX9_game_84 rfl 0 rfl ?_
                    refine V_get (C := RX9) (T := TX9) (N := 8) (ci := 9) (pc := 85) X dX9_game_85 in9 0 rfl rfl 4 (by decide) (by decide +kernel) rfl rfl ?_
                    refine V_get (C := RX3) (T := TX3) (N := 7) (ci := 3) (pc := 88) X dX9_game_88 in3 1 rfl rfl 1 (by decide) (by decide +kernel) rfl rfl ?_
                    refine V_iload_n (pc := 91) X dX9_game_91 rfl 1 rfl ?_
                    refine V_iload (pc := 92) X dX9_game_92 8 rfl ?_
                    refine V_iload_n (pc := 94) X dX9_game_94 rfl 3 rfl ?_
                    refine V_ve (pc := 95) (nA := 3) (As := [.int (nI j_22), .int (nI i), .int h1]) (rest := []) X (c_X1_seat l g (aq := faq) (akq := fakq) (acq := facq) (ahq := fahq) (aaq := faaq) (an := wan) (akd := cpF fakd wakd wan) (ace := zc1) (aho := zh1) (aac := cpF faac waac wan) (j := j_22) (w := nI i) (h := h1) (hj := by first | assumption | omega)) gX9_game_X1_seat dX9_game_95 rfl (by decide +kernel) rfl (qb := 4) rfl rfl rfl ⟨rfl, rfl⟩ ⟨Nat.le_of_ble_eq_true rfl, Nat.le_of_ble_eq_true rfl⟩ ⟨Nat.le_of_ble_eq_true rfl, Nat.le_of_ble_eq_true rfl⟩ [4, 5, 6, 7, 8] (by decide) rfl [0, 1, 2, 3, 9, 10, 11, 12, 13, 14, 15, 16, 17, 18, 19, 20, 21, 22, 23] (by decide) (by decide) [ob xq 9 [.ref tq, .ref wq, .ref vq, .int (bI xi), .ref fq, .ref dq, .ref kq, .ref xsq], ob fq 3 [.ref fbq, .ref faq, .ref fsq, .long zl1, .int za1, .int zb1, .int zz1], ob fbq 4 [.long zf1, .int (nI zt1), .int ze1, .ref fbmq], ai g fbmq 6 zm1, ob fsq 5 [.int (nI zn1), .ref fscq, .ref fswq], ai g fscq 6 zs1, ai g fswq 6 zw1, ob wq 8 [.ref wbq, .ref waq, .int wy], ob wbq 4 [.long wbf, .int (nI wbt), .int wbz, .ref wbmq], ai g wbmq 6 wbm, ob waq 1 [.int (nI wan), .ref wakq, .ref wacq, .ref wahq, .ref waaq], ai g wakq 6 wakd, ai g wacq 6 wace, ai g wahq 6 waho, ai g waaq 6 waac, ob dq 2 [.ref dsq, .ref dfq, .ref dmq], ai g dsq 1296 zd1, ai g dfq 36 df, ai g dmq 36 dm] rfl [0, 1, 2, 3, 19, 20, 21, 22, 23, 4, 5, 6, 7, 8, 9, 10, 11, 12, 13, 14, 15, 16, 17, 18] (by decide) (fun u => [ob xq 9 [.ref tq, .ref wq, .ref vq, .int (bI xi), .ref fq, .ref dq, .ref kq, .ref xsq], ob fq 3 [.ref fbq, .ref faq, .ref fsq, .long zl1, .int za1, .int zb1, .int zz1], ob fbq 4 [.long zf1, .int (nI zt1), .int ze1, .ref fbmq], ai g fbmq 6 zm1, ob faq 1 [.int (nI wan), .ref fakq, .ref facq, .ref fahq, .ref faaq], ai g fakq 6 (cpF fakd wakd wan), ai g facq 6 (upd zc1 j_22 (nI i)), ai g fahq 6 (upd zh1 j_22 h1), ai g faaq 6 (cpF faac waac wan), ob fsq 5 [.int (nI zn1), .ref fscq, .ref fswq], ai g fscq 6 zs1, ai g fswq 6 zw1, ob wq 8 [.ref wbq, .ref waq, .int wy], ob wbq 4 [.long wbf, .int (nI wbt), .int wbz, .ref wbmq], ai g wbmq 6 wbm, ob waq 1 [.int (nI wan), .ref wakq, .ref wacq, .ref wahq, .ref waaq], ai g wakq 6 wakd, ai g wacq 6 wace, ai g wahq 6 waho, ai g waaq 6 waac, ob dq 2 [.ref dsq, .ref dfq, .ref dmq], ai g dsq 1296 zd1, ai g dfq 36 df, ai g dmq 36 dm]) (fun _ => rfl) rfl (Nat.le_of_ble_eq_true rfl) (fun u => []) (fun _ => rfl) (fun u hu_34 => ?_)
                    refine V_eqw (ws2 := [ob xq 9 [.ref tq, .ref wq, .ref vq, .int (bI xi), .ref fq, .ref dq, .ref kq, .ref xsq], ob fq 3 [.ref fbq, .ref faq, .ref fsq, .long zl1, .int za1, .int zb1, .int zz1], ob fbq 4 [.long zf1, .int (nI zt1), .int ze1, .ref fbmq], ai g fbmq 6 zm1, ob faq 1 [.int (nI wan), .ref fakq, .ref facq, .ref fahq, .ref faaq], ai g fakq 6 (cpF fakd wakd wan), ai g facq 6 (upd zc1 j_22 (nI i)), ai g fahq 6 (upd zh1 j_22 h1), ai g faaq 6 (cpF faac waac wan), ob fsq 5 [.int (nI zn1), .ref fscq, .ref fswq], ai g fscq 6 zs1, ai g fswq 6 zw1, ob wq 8 [.ref wbq, .ref waq, .int wy], ob wbq 4 [.long wbf, .int (nI wbt), .int wbz, .ref wbmq], ai g wbmq 6 wbm, ob waq 1 [.int (nI wan), .ref wakq, .ref wacq, .ref wahq, .ref waaq], ai g wakq 6 wakd, ai g wacq 6 wace, ai g wahq 6 waho, ai g waaq 6 waac, ob dq 2 [.ref dsq, .ref dfq, .ref dmq], ai g dsq 1296 zd1, ai g dfq 36 df, ai g dmq 36 dm]) rfl (V_eqs (st2 := []) rfl ?_)
                    refine V_iconst (v := 0) (pc := 98) X dX9_game_98 (by decide) ?_
                    refine V_istore (lv' := [(9, .int 0), (0, .ref xq), (1, .int (nI j_22)), (2, .int (nI j_24)), (3, .int h1), (4, .int h2), (5, .int x), (6, .int y), (7, .int w), (8, .int (nI i))]) (pc := 99) X dX9_game_99 (Nat.le_of_ble_eq_true rfl) rfl ?_
                    refine V_loop (pc := 101) (σ := Nat × Nat × Int32 × Int64 × (Nat → Int32) × (Nat → Int32) × (Nat → Int32) × Nat × (Nat → Int32) × (Nat → Int32) × Int64 × Int32 × Int32 × Int32 × (Nat → Int32)) (fun v9 => [(0, .ref xq), (1, .int (nI j_22)), (2, .int (nI j_24)), (3, .int h1), (4, .int h2), (5, .int x), (6, .int y), (7, .int w), (8, .int (nI i)), (9, .int (nI v9.1))]) (fun v9 => [ob xq 9 [.ref tq, .ref wq, .ref vq, .int (bI xi), .ref fq, .ref dq, .ref kq, .ref xsq], ob fq 3 [.ref fbq, .ref faq, .ref fsq, .long v9.2.2.2.2.2.2.2.2.2.2.1, .int v9.2.2.2.2.2.2.2.2.2.2.2.1, .int v9.2.2.2.2.2.2.2.2.2.2.2.2.1, .int v9.2.2.2.2.2.2.2.2.2.2.2.2.2.1], ob fbq 4 [.long v9.2.2.2.1, .int (nI v9.2.1), .int v9.2.2.1, .ref fbmq], ai g fbmq 6 v9.2.2.2.2.1, ob faq 1 [.int (nI wan), .ref fakq, .ref facq, .ref fahq, .ref faaq], ai g fakq 6 (cpF fakd wakd wan), ai g facq 6 v9.2.2.2.2.2.1, ai g fahq 6 v9.2.2.2.2.2.2.1, ai g faaq 6 (cpF faac waac wan), ob fsq 5 [.int (nI v9.2.2.2.2.2.2.2.1), .ref fscq, .ref fswq], ai g fscq 6 v9.2.2.2.2.2.2.2.2.1, ai g fswq 6 v9.2.2.2.2.2.2.2.2.2.1, ob wq 8 [.ref wbq, .ref waq, .int wy], ob wbq 4 [.long wbf, .int (nI wbt), .int wbz, .ref wbmq], ai g wbmq 6 wbm, ob waq 1 [.int (nI wan), .ref wakq, .ref wacq, .ref wahq, .ref waaq], ai g wakq 6 wakd, ai g wacq 6 wace, ai g wahq 6 waho, ai g waaq 6 waac, ob dq 2 [.ref dsq, .ref dfq, .ref dmq], ai g dsq 1296 v9.2.2.2.2.2.2.2.2.2.2.2.2.2.2, ai g dfq 36 df, ai g dmq 36 dm]) (fun v9 => (v9.1 ≤ 36) ∧ (∀ v, upd v9.2.2.2.2.2.1 j_24 v = upd (upd (cpF face wace wan) j_22 (nI i)) j_24 v) ∧ (∀ v, upd v9.2.2.2.2.2.2.1 j_24 v = upd (upd (cpF faho waho wan) j_22 h1) j_24 v) ∧ (v9.2.2.2.2.2.2.2.2.2.2.2.2.2.1 = stX v9.2.2.2.2.2.2.2.2.2.2.1 v9.2.2.2.2.2.2.2.2.2.2.2.1 v9.2.2.2.2.2.2.2.2.2.2.2.2.1) ∧ (∀ a b, b < 36 → (a < i ∨ (a = i ∧ b < v9.1)) → v9.2.2.2.2.2.2.2.2.2.2.2.2.2.2 (a * 36 + b) = n99 (TG j_22 j_24 h1 h2 wakd wace waho wan wbz wbf wbm wbt x y a b))) (fun v9 => 36 - v9.1) (0, zt1, ze1, zf1, zm1, upd zc1 j_22 (nI i), upd zh1 j_22 h1, zn1, zs1, zw1, zl1, za1, zb1, zz1, zd1) ⟨(by
                          try dsimp only
                          all_goals omega), (by
                          try dsimp only
                          exact fun v => hr1 _ v), (by
                          try dsimp only
                          exact fun v => hs1 _ v), (by
                          try dsimp only
                          assumption), (by
                          try dsimp only
                          exact fun a b hb h => hD1 a b hb (by omega))⟩ rfl [1, 2, 3, 4, 5, 6, 7, 8, 9, 0] rfl ?_
                    rintro ⟨j, zt2, ze2, zf2, zm2, zc2, zh2, zn2, zs2, zw2, zl2, za2, zb2, zz2, zd2⟩ ⟨hj, hc2, hh2, hq2, hD2⟩ ih101
                    try dsimp only at hj
                    try dsimp only at hc2
                    try dsimp only at hh2
                    try dsimp only at hq2
                    try dsimp only at hD2
                    refine V_eqw (ws2 := [ob xq 9 [.ref tq, .ref wq, .ref vq, .int (bI xi), .ref fq, .ref dq, .ref kq, .ref xsq], ob fq 3 [.ref fbq, .ref faq, .ref fsq, .long zl2, .int za2, .int zb2, .int zz2], ob fbq 4 [.long zf2, .int (nI zt2), .int ze2, .ref fbmq], ai g fbmq 6 zm2, ob faq 1 [.int (nI wan), .ref fakq, .ref facq, .ref fahq, .ref faaq], ai g fakq 6 (cpF fakd wakd wan), ai g facq 6 zc2, ai g fahq 6 zh2, ai g faaq 6 (cpF faac waac wan), ob fsq 5 [.int (nI zn2), .ref fscq, .ref fswq], ai g fscq 6 zs2, ai g fswq 6 zw2, ob wq 8 [.ref wbq, .ref waq, .int wy], ob wbq 4 [.long wbf, .int (nI wbt), .int wbz, .ref wbmq], ai g wbmq 6 wbm, ob waq 1 [.int (nI wan), .ref wakq, .ref wacq, .ref wahq, .ref waaq], ai g wakq 6 wakd, ai g wacq 6 wace, ai g wahq 6 waho, ai g waaq 6 waac, ob dq 2 [.ref dsq, .ref dfq, .ref dmq], ai g dsq 1296 zd2, ai g dfq 36 df, ai g dmq 36 dm]) rfl (V_eql (lv' := [(0, .ref xq), (1, .int (nI j_22)), (2, .int (nI j_24)), (3, .int h1), (4, .int h2), (5, .int x), (6, .int y), (7, .int w), (8, .int (nI i)), (9, .int (nI j))]) rfl ?_)
                    refine V_iload (pc := 101) X dX9_game_101 9 rfl ?_
                    refine V_bipush (v := 36) (pc := 103) X dX9_game_103 (by decide) ?_
                    refine V_icmp_ge (tgt := 174) (pc := 105) X dX9_game_105 (by decide) (fun c_35 => ?_) (fun c_35 => ?_)
                    · skip
                      have n_36 : 36 ≤ j := nJ_le (a := 36) (b := j) (by omega) (by omega) c_35
                      refine V_iinc (v := nI (i + 1)) (lv' := [(8, .int (nI (i + 1))), (0, .ref xq), (1, .int (nI j_22)), (2, .int (nI j_24)), (3, .int h1), (4, .int h2), (5, .int x), (6, .int y), (7, .int w), (9, .int (nI j))]) (pc := 174) X dX9_game_174 8 rfl (nI_add i 1) (Nat.le_of_ble_eq_true rfl) rfl ?_
                      refine V_goto (tgt := 77) (pc := 177) X dX9_game_177 (by decide) ?_
                      refine V_lv [1, 2, 3, 4, 5, 6, 7, 8, 0] rfl ?_
                      exact ih77 (i + 1, zt2, ze2, zf2, zm2, zc2, zh2, zn2, zs2, zw2, zl2, za2, zb2, zz2, zd2) ⟨(by
                            try dsimp only
                            all_goals omega), (by
                            try dsimp only
                            exact fun a b => g_upd hne hc2 a b), (by
                            try dsimp only
                            exact fun a b => g_upd hne hh2 a b), (by
                            try dsimp only
                            assumption), (by
                            try dsimp only
                            exact fun a b hb ha => hD2 a b hb (by omega))⟩ (by
                            try dsimp only
                            all_goals omega)
                    · skip
                      have n_37 : j < 36 := nJ_nle (a := 36) (b := j) (by omega) (by omega) c_35
                      refine V_aload_n (pc := 108) X dX9_game_108 rfl 0 rfl ?_
                      refine V_get (C := RX9) (T := TX9) (N := 8) (ci := 9) (pc := 109) X dX9_game_109 in9 0 rfl rfl 4 (by decide) (by decide +kernel) rfl rfl ?_
                      refine V_get (C := RX3) (T := TX3) (N := 7) (ci := 3) (pc := 112) X dX9_game_112 in3 1 rfl rfl 1 (by decide) (by decide +kernel) rfl rfl ?_
                      refine V_iload_n (pc := 115) X dX9_game_115 rfl 2 rfl ?_
                      refine V_iload (pc := 116) X dX9_game_116 9 rfl ?_
                      refine V_iload (pc := 118) X dX9_game_118 4 rfl ?_
                      refine V_ve (pc := 120) (nA := 3) (As := [.int (nI j_24), .int (nI j), .int h2]) (rest := []) X (c_X1_seat l g (aq := faq) (akq := fakq) (acq := facq) (ahq := fahq) (aaq := faaq) (an := wan) (akd := (cpF fakd wakd wan)) (ace := zc2) (aho := zh2) (aac := (cpF faac waac wan)) (j := j_24) (w := nI j) (h := h2) (hj := by first | assumption | omega)) gX9_game_X1_seat dX9_game_120 rfl (by decide +kernel) rfl (qb := 4) rfl rfl rfl ⟨rfl, rfl⟩ ⟨Nat.le_of_ble_eq_true rfl, Nat.le_of_ble_eq_true rfl⟩ ⟨Nat.le_of_ble_eq_true rfl, Nat.le_of_ble_eq_true rfl⟩ [4, 5, 6, 7, 8] (by decide) rfl [0, 1, 2, 3, 9, 10, 11, 12, 13, 14, 15, 16, 17, 18, 19, 20, 21, 22, 23] (by decide) (by decide) [ob xq 9 [.ref tq, .ref wq, .ref vq, .int (bI xi), .ref fq, .ref dq, .ref kq, .ref xsq], ob fq 3 [.ref fbq, .ref faq, .ref fsq, .long zl2, .int za2, .int zb2, .int zz2], ob fbq 4 [.long zf2, .int (nI zt2), .int ze2, .ref fbmq], ai g fbmq 6 zm2, ob fsq 5 [.int (nI zn2), .ref fscq, .ref fswq], ai g fscq 6 zs2, ai g fswq 6 zw2, ob wq 8 [.ref wbq, .ref waq, .int wy], ob wbq 4 [.long wbf, .int (nI wbt), .int wbz, .ref wbmq], ai g wbmq 6 wbm, ob waq 1 [.int (nI wan), .ref wakq, .ref wacq, .ref wahq, .ref waaq], ai g wakq 6 wakd, ai g wacq 6 wace, ai g wahq 6 waho, ai g waaq 6 waac, ob dq 2 [.ref dsq, .ref dfq, .ref dmq], ai g dsq 1296 zd2, ai g dfq 36 df, ai g dmq 36 dm] rfl [0, 1, 2, 3, 19, 20, 21, 22, 23, 4, 5, 6, 7, 8, 9, 10, 11, 12, 13, 14, 15, 16, 17, 18] (by decide) (fun u => [ob xq 9 [.ref tq, .ref wq, .ref vq, .int (bI xi), .ref fq, .ref dq, .ref kq, .ref xsq], ob fq 3 [.ref fbq, .ref faq, .ref fsq, .long zl2, .int za2, .int zb2, .int zz2], ob fbq 4 [.long zf2, .int (nI zt2), .int ze2, .ref fbmq], ai g fbmq 6 zm2, ob faq 1 [.int (nI wan), .ref fakq, .ref facq, .ref fahq, .ref faaq], ai g fakq 6 (cpF fakd wakd wan), ai g facq 6 (upd zc2 j_24 (nI j)), ai g fahq 6 (upd zh2 j_24 h2), ai g faaq 6 (cpF faac waac wan), ob fsq 5 [.int (nI zn2), .ref fscq, .ref fswq], ai g fscq 6 zs2, ai g fswq 6 zw2, ob wq 8 [.ref wbq, .ref waq, .int wy], ob wbq 4 [.long wbf, .int (nI wbt), .int wbz, .ref wbmq], ai g wbmq 6 wbm, ob waq 1 [.int (nI wan), .ref wakq, .ref wacq, .ref wahq, .ref waaq], ai g wakq 6 wakd, ai g wacq 6 wace, ai g wahq 6 waho, ai g waaq 6 waac, ob dq 2 [.ref dsq, .ref dfq, .ref dmq], ai g dsq 1296 zd2, ai g dfq 36 df, ai g dmq 36 dm]) (fun _ => rfl) rfl (Nat.le_of_ble_eq_true rfl) (fun u => []) (fun _ => rfl) (fun u hu_38 => ?_)
                      refine V_eqw (ws2 := [ob xq 9 [.ref tq, .ref wq, .ref vq, .int (bI xi), .ref fq, .ref dq, .ref kq, .ref xsq], ob fq 3 [.ref fbq, .ref faq, .ref fsq, .long zl2, .int za2, .int zb2, .int zz2], ob fbq 4 [.long zf2, .int (nI zt2), .int ze2, .ref fbmq], ai g fbmq 6 zm2, ob faq 1 [.int (nI wan), .ref fakq, .ref facq, .ref fahq, .ref faaq], ai g fakq 6 (cpF fakd wakd wan), ai g facq 6 (upd zc2 j_24 (nI j)), ai g fahq 6 (upd zh2 j_24 h2), ai g faaq 6 (cpF faac waac wan), ob fsq 5 [.int (nI zn2), .ref fscq, .ref fswq], ai g fscq 6 zs2, ai g fswq 6 zw2, ob wq 8 [.ref wbq, .ref waq, .int wy], ob wbq 4 [.long wbf, .int (nI wbt), .int wbz, .ref wbmq], ai g wbmq 6 wbm, ob waq 1 [.int (nI wan), .ref wakq, .ref wacq, .ref wahq, .ref waaq], ai g wakq 6 wakd, ai g wacq 6 wace, ai g wahq 6 waho, ai g waaq 6 waac, ob dq 2 [.ref dsq, .ref dfq, .ref dmq], ai g dsq 1296 zd2, ai g dfq 36 df, ai g dmq 36 dm]) rfl (V_eqs (st2 := []) rfl ?_)
                      refine V_aload_n (pc := 123) X dX9_game_123 rfl 0 rfl ?_
                      refine V_get (C := RX9) (T := TX9) (N := 8) (ci := 9) (pc := 124) X dX9_game_124 in9 0 rfl rfl 4 (by decide) (by decide +kernel) rfl rfl ?_
                      refine V_aload_n (pc := 127) X dX9_game_127 rfl 0 rfl ?_
                      refine V_get (C := RX9) (T := TX9) (N := 8) (ci := 9) (pc := 128) X dX9_game_128 in9 0 rfl rfl 1 (by decide) (by decide +kernel) rfl rfl ?_
                      refine V_iload (pc := 131) X dX9_game_131 5 rfl ?_
                      refine V_iload (pc := 133) X dX9_game_133 6 rfl ?_
                      refine V_ve (pc := 135) (nA := 3) (As := [.ref wq, .int x, .int y]) (rest := []) X (c_X3_stepsThen l g (fq := fq) (fbq := fbq) (fbmq := fbmq) (fbf := zf2) (fbt := zt2) (fbz := ze2) (fbm := zm2) (faq := faq) (fakq := fakq) (facq := facq) (fahq := fahq) (faaq := faaq) (fan := wan) (fakd := (cpF fakd wakd wan)) (face := upd zc2 j_24 (nI j)) (faho := upd zh2 j_24 h2) (faac := (cpF faac waac wan)) (fsq := fsq) (fscq := fscq) (fswq := fswq) (fsn := zn2) (fsce := zs2) (fswe := zw2) (lw := zl2) (la := za2) (lb := zb2) (ls := zz2) (wq := wq) (wbq := wbq) (wbmq := wbmq) (wbf := wbf) (wbt := wbt) (wbz := wbz) (wbm := wbm) (waq := waq) (wakq := wakq) (wacq := wacq) (wahq := wahq) (waaq := waaq) (wan := wan) (wakd := wakd) (wace := wace) (waho := waho) (waac := waac) (wy := wy) (x := x) (y := y) (ht := by first | assumption | omega) (hn := by first | assumption | omega) (hc := by first | assumption | omega)) gX9_game_X3_stepsThen dX9_game_135 rfl (by decide +kernel) rfl (qb := 1) rfl rfl rfl ⟨rfl, rfl⟩ ⟨Nat.le_of_ble_eq_true rfl, Nat.le_of_ble_eq_true rfl⟩ ⟨Nat.le_of_ble_eq_true rfl, Nat.le_of_ble_eq_true rfl⟩ [1, 2, 3, 4, 5, 6, 7, 8, 9, 10, 11, 12, 13, 14, 15, 16, 17, 18, 19] (by decide) rfl [0, 20, 21, 22, 23] (by decide) (by decide) [ob xq 9 [.ref tq, .ref wq, .ref vq, .int (bI xi), .ref fq, .ref dq, .ref kq, .ref xsq], ob dq 2 [.ref dsq, .ref dfq, .ref dmq], ai g dsq 1296 zd2, ai g dfq 36 df, ai g dmq 36 dm] rfl [0, 5, 6, 7, 8, 9, 10, 11, 12, 13, 14, 15, 16, 17, 18, 19, 20, 21, 22, 23, 1, 2, 3, 4] (by decide) (fun u => [ob xq 9 [.ref tq, .ref wq, .ref vq, .int (bI xi), .ref fq, .ref dq, .ref kq, .ref xsq], ob fq 3 [.ref fbq, .ref faq, .ref fsq, .long u.2.2.2.2.1, .int u.2.2.2.2.2.1, .int u.2.2.2.2.2.2.1, .int u.2.2.2.2.2.2.2], ob fbq 4 [.long (wbf ||| strF (cpF fakd wakd wan) (upd zc2 j_24 (nI j)) (upd zh2 j_24 h2) wan), .int (nI wbt), .int (frX wbz), .ref fbmq], ai g fbmq 6 u.2.2.2.1, ob faq 1 [.int (nI wan), .ref fakq, .ref facq, .ref fahq, .ref faaq], ai g fakq 6 (cpF fakd wakd wan), ai g facq 6 (upd zc2 j_24 (nI j)), ai g fahq 6 (upd zh2 j_24 h2), ai g faaq 6 (cpF faac waac wan), ob fsq 5 [.int (nI u.1), .ref fscq, .ref fswq], ai g fscq 6 u.2.1, ai g fswq 6 u.2.2.1, ob wq 8 [.ref wbq, .ref waq, .int wy], ob wbq 4 [.long wbf, .int (nI wbt), .int wbz, .ref wbmq], ai g wbmq 6 wbm, ob waq 1 [.int (nI wan), .ref wakq, .ref wacq, .ref wahq, .ref waaq], ai g wakq 6 wakd, ai g wacq 6 wace, ai g wahq 6 waho, ai g waaq 6 waac, ob dq 2 [.ref dsq, .ref dfq, .ref dmq], ai g dsq 1296 zd2, ai g dfq 36 df, ai g dmq 36 dm]) (fun _ => rfl) rfl (Nat.le_of_ble_eq_true rfl) (fun u => [.int (stX (thW (cpF fakd wakd wan) (upd zc2 j_24 (nI j)) (upd zh2 j_24 h2) wan wbz wbf wbm wbt) x y)]) (fun _ => rfl) (fun u hu_47 => ?_)
                      obtain ⟨nn_39, nc_40, nw_41, nm_42, lw2_43, la2_44, lb2_45, ls2_46⟩ := u
                      try dsimp only at hu_47
                      have hcc_48 := hu_47
                      refine V_eqw (ws2 := [ob xq 9 [.ref tq, .ref wq, .ref vq, .int (bI xi), .ref fq, .ref dq, .ref kq, .ref xsq], ob fq 3 [.ref fbq, .ref faq, .ref fsq, .long lw2_43, .int la2_44, .int lb2_45, .int ls2_46], ob fbq 4 [.long (wbf ||| strF (cpF fakd wakd wan) (upd zc2 j_24 (nI j)) (upd zh2 j_24 h2) wan), .int (nI wbt), .int (frX wbz), .ref fbmq], ai g fbmq 6 nm_42, ob faq 1 [.int (nI wan), .ref fakq, .ref facq, .ref fahq, .ref faaq], ai g fakq 6 (cpF fakd wakd wan), ai g facq 6 (upd zc2 j_24 (nI j)), ai g fahq 6 (upd zh2 j_24 h2), ai g faaq 6 (cpF faac waac wan), ob fsq 5 [.int (nI nn_39), .ref fscq, .ref fswq], ai g fscq 6 nc_40, ai g fswq 6 nw_41, ob wq 8 [.ref wbq, .ref waq, .int wy], ob wbq 4 [.long wbf, .int (nI wbt), .int wbz, .ref wbmq], ai g wbmq 6 wbm, ob waq 1 [.int (nI wan), .ref wakq, .ref wacq, .ref wahq, .ref waaq], ai g wakq 6 wakd, ai g wacq 6 wace, ai g wahq 6 waho, ai g waaq 6 waac, ob dq 2 [.ref dsq, .ref dfq, .ref dmq], ai g dsq 1296 zd2, ai g dfq 36 df, ai g dmq 36 dm]) rfl (V_eqs (st2 := [.int (stX (thW (cpF fakd wakd wan) (upd zc2 j_24 (nI j)) (upd zh2 j_24 h2) wan wbz wbf wbm wbt) x y)]) rfl ?_)
                      refine V_seti (y := TG j_22 j_24 h1 h2 wakd wace waho wan wbz wbf wbm wbt x y i j) (by rw [hc2, hh2]; exact TG_of) ?_
                      refine V_istore (lv' := [(10, .int (TG j_22 j_24 h1 h2 wakd wace waho wan wbz wbf wbm wbt x y i j)), (0, .ref xq), (1, .int (nI j_22)), (2, .int (nI j_24)), (3, .int h1), (4, .int h2), (5, .int x), (6, .int y), (7, .int w), (8, .int (nI i)), (9, .int (nI j))]) (pc := 138) X dX9_game_138 (Nat.le_of_ble_eq_true rfl) rfl ?_
                      refine V_aload_n (pc := 140) X dX9_game_140 rfl 1 rfl ?_
                      refine V_get (C := RX9) (T := TX9) (N := 8) (ci := 9) (pc := 141) X dX9_game_141 in9 0 rfl rfl 5 (by decide) (by decide +kernel) rfl rfl ?_
                      refine V_get (C := RX2) (T := TX2) (N := 3) (ci := 2) (pc := 144) X dX9_game_144 in2 20 rfl rfl 0 (by decide) (by decide +kernel) rfl rfl ?_
                      refine V_iload (pc := 147) X dX9_game_147 9 rfl ?_
                      refine V_bipush (v := 36) (pc := 149) X dX9_game_149 (by decide) ?_
                      refine V_imul (pc := 151) X dX9_game_151 ?_
                      refine V_seti (y := nI (i * 36)) (pk_mul i 36) ?_
                      refine V_iload (pc := 152) X dX9_game_152 10 rfl ?_
                      refine V_iadd (pc := 154) X dX9_game_154 ?_
                      refine V_seti (y := nI ((i * 36) + j)) (nI_add (i * 36) j) ?_
                      refine V_iload (pc := 155) X dX9_game_155 0 rfl ?_
                      refine V_if_ge (tgt := 165) (pc := 157) X dX9_game_157 (by decide) (fun c_49 => ?_) (fun c_49 => ?_)
                      · skip
                        refine V_iload (pc := 165) X dX9_game_165 0 rfl ?_
                        refine V_iast (f' := upd zd2 ((i * 36) + j) (TG j_22 j_24 h1 h2 wakd wace waho wan wbz wbf wbm wbt x y i j)) (ws' := [ob xq 9 [.ref tq, .ref wq, .ref vq, .int (bI xi), .ref fq, .ref dq, .ref kq, .ref xsq], ob fq 3 [.ref fbq, .ref faq, .ref fsq, .long lw2_43, .int la2_44, .int lb2_45, .int ls2_46], ob fbq 4 [.long (wbf ||| strF (cpF fakd wakd wan) (upd zc2 j_24 (nI j)) (upd zh2 j_24 h2) wan), .int (nI wbt), .int (frX wbz), .ref fbmq], ai g fbmq 6 nm_42, ob faq 1 [.int (nI wan), .ref fakq, .ref facq, .ref fahq, .ref faaq], ai g fakq 6 (cpF fakd wakd wan), ai g facq 6 (upd zc2 j_24 (nI j)), ai g fahq 6 (upd zh2 j_24 h2), ai g faaq 6 (cpF faac waac wan), ob fsq 5 [.int (nI nn_39), .ref fscq, .ref fswq], ai g fscq 6 nc_40, ai g fswq 6 nw_41, ob wq 8 [.ref wbq, .ref waq, .int wy], ob wbq 4 [.long wbf, .int (nI wbt), .int wbz, .ref wbmq], ai g wbmq 6 wbm, ob waq 1 [.int (nI wan), .ref wakq, .ref wacq, .ref wahq, .ref waaq], ai g wakq 6 wakd, ai g wacq 6 wace, ai g wahq 6 waho, ai g waaq 6 waac, ob dq 2 [.ref dsq, .ref dfq, .ref dmq], ai g dsq 1296 (upd zd2 ((i * 36) + j) (TG j_22 j_24 h1 h2 wakd wace waho wan wbz wbf wbm wbt x y i j)), ai g dfq 36 df, ai g dmq 36 dm]) (pc := 167) X dX9_game_167 21 rfl (vp_in_nI (by omega) (by omega)) (by rw [nI_clamp (by omega)]) rfl ?_
                        refine V_iinc (v := nI (j + 1)) (lv' := [(9, .int (nI (j + 1))), (10, .int (TG j_22 j_24 h1 h2 wakd wace waho wan wbz wbf wbm wbt x y i j)), (0, .ref xq), (1, .int (nI j_22)), (2, .int (nI j_24)), (3, .int h1), (4, .int h2), (5, .int x), (6, .int y), (7, .int w), (8, .int (nI i))]) (pc := 168) X dX9_game_168 10 rfl (nI_add j 1) (Nat.le_of_ble_eq_true rfl) rfl ?_
                        refine V_goto (tgt := 101) (pc := 171) X dX9_game_171 (by decide) ?_
                        refine V_lv [2, 3, 4, 5, 6, 7, 8, 9, 10, 0] rfl ?_
                        exact ih101 (j + 1, wbt, frX wbz, wbf ||| strF (cpF fakd wakd wan) (upd zc2 j_24 (nI j)) (upd zh2 j_24 h2) wan, nm_42, (upd zc2 j_24 (nI j)), (upd zh2 j_24 h2), nn_39, nc_40, nw_41, lw2_43, la2_44, lb2_45, ls2_46, upd zd2 ((i * 36) + j) (TG j_22 j_24 h1 h2 wakd wace waho wan wbz wbf wbm wbt x y i j)) ⟨(by
                              try dsimp only
                              all_goals omega), (by
                              try dsimp only
                              exact fun v => (upd_upd _ _ _ _).trans (hc2 v)), (by
                              try dsimp only
                              exact fun v => (upd_upd _ _ _ _).trans (hh2 v)), (by
                              try dsimp only
                              assumption), (by
                              try dsimp only
                              exact D_step (by omega) hD2 (by simp [n99, b_3, b_6, c_7, b_10, b_13, b_16, b_19, b_21, hj_23, hj_25, hne, n_33, n_37, hcc_48, c_49]))⟩ (by
                              try dsimp only
                              all_goals omega)
                      · skip
                        refine V_bipush (v := 99) (pc := 160) X dX9_game_160 (by decide) ?_
                        refine V_goto (tgt := 167) (pc := 162) X dX9_game_162 (by decide) ?_
                        refine V_iast (f' := upd zd2 ((i * 36) + j) 99) (ws' := [ob xq 9 [.ref tq, .ref wq, .ref vq, .int (bI xi), .ref fq, .ref dq, .ref kq, .ref xsq], ob fq 3 [.ref fbq, .ref faq, .ref fsq, .long lw2_43, .int la2_44, .int lb2_45, .int ls2_46], ob fbq 4 [.long (wbf ||| strF (cpF fakd wakd wan) (upd zc2 j_24 (nI j)) (upd zh2 j_24 h2) wan), .int (nI wbt), .int (frX wbz), .ref fbmq], ai g fbmq 6 nm_42, ob faq 1 [.int (nI wan), .ref fakq, .ref facq, .ref fahq, .ref faaq], ai g fakq 6 (cpF fakd wakd wan), ai g facq 6 (upd zc2 j_24 (nI j)), ai g fahq 6 (upd zh2 j_24 h2), ai g faaq 6 (cpF faac waac wan), ob fsq 5 [.int (nI nn_39), .ref fscq, .ref fswq], ai g fscq 6 nc_40, ai g fswq 6 nw_41, ob wq 8 [.ref wbq, .ref waq, .int wy], ob wbq 4 [.long wbf, .int (nI wbt), .int wbz, .ref wbmq], ai g wbmq 6 wbm, ob waq 1 [.int (nI wan), .ref wakq, .ref wacq, .ref wahq, .ref waaq], ai g wakq 6 wakd, ai g wacq 6 wace, ai g wahq 6 waho, ai g waaq 6 waac, ob dq 2 [.ref dsq, .ref dfq, .ref dmq], ai g dsq 1296 (upd zd2 ((i * 36) + j) 99), ai g dfq 36 df, ai g dmq 36 dm]) (pc := 167) X dX9_game_167 21 rfl (vp_in_nI (by omega) (by omega)) (by rw [nI_clamp (by omega)]) rfl ?_
                        refine V_iinc (v := nI (j + 1)) (lv' := [(9, .int (nI (j + 1))), (10, .int (TG j_22 j_24 h1 h2 wakd wace waho wan wbz wbf wbm wbt x y i j)), (0, .ref xq), (1, .int (nI j_22)), (2, .int (nI j_24)), (3, .int h1), (4, .int h2), (5, .int x), (6, .int y), (7, .int w), (8, .int (nI i))]) (pc := 168) X dX9_game_168 10 rfl (nI_add j 1) (Nat.le_of_ble_eq_true rfl) rfl ?_
                        refine V_goto (tgt := 101) (pc := 171) X dX9_game_171 (by decide) ?_
                        refine V_lv [2, 3, 4, 5, 6, 7, 8, 9, 10, 0] rfl ?_
                        exact ih101 (j + 1, wbt, frX wbz, wbf ||| strF (cpF fakd wakd wan) (upd zc2 j_24 (nI j)) (upd zh2 j_24 h2) wan, nm_42, (upd zc2 j_24 (nI j)), (upd zh2 j_24 h2), nn_39, nc_40, nw_41, lw2_43, la2_44, lb2_45, ls2_46, upd zd2 ((i * 36) + j) 99) ⟨(by
                              try dsimp only
                              all_goals omega), (by
                              try dsimp only
                              exact fun v => (upd_upd _ _ _ _).trans (hc2 v)), (by
                              try dsimp only
                              exact fun v => (upd_upd _ _ _ _).trans (hh2 v)), (by
                              try dsimp only
                              assumption), (by
                              try dsimp only
                              exact D_step (by omega) hD2 (by simp [n99, b_3, b_6, c_7, b_10, b_13, b_16, b_19, b_21, hj_23, hj_25, hne, n_33, n_37, hcc_48, c_49]))⟩ (by
                              try dsimp only
                              all_goals omega)
                · skip
                  have b_50 : (bel w 2) = false := bI0 c_20
                  refine V_iconst (v := (-1)) (pc := 61) X dX9_game_61 (by decide) ?_
                  exact Ve_iret (pc := 62) X hA9 dX9_game_62 hr ((-1), fbf, fbt, fbz, fbm, fan, fakd, face, faho, faac, fsn, fsce, fswe, lw, la, lb, ls, ds, df, dm) (by first | rfl | (simp [b_3, b_6, c_7, b_10, b_13, b_16, b_19, b_50]; done)) ⟨(by
                        try dsimp only
                        unfold R_game
                        exact Or.inl ⟨by simp [gameG, b_3, b_6, c_7, b_10, b_13, b_16, b_19, b_50], rfl⟩), (by
                        try dsimp only
                        all_goals assumption)⟩ (by rfl)
set_option maxHeartbeats 4000000 in
set_option maxRecDepth 100000 in
theorem c_X9_sat (l : Launch) (g : XG) (xq : Nat) (tq : Nat) (wq : Nat) (vq : Nat) (xi : Bool) (fq : Nat) (dq : Nat) (kq : Nat) (xsq : Nat) (fbq : Nat) (faq : Nat) (fsq : Nat) (lw : Int64) (la : Int32) (lb : Int32) (ls : Int32) (fbf : Int64) (fbt : Nat) (fbz : Int32) (fbmq : Nat) (fbm : Nat → Int32) (fan : Nat) (fakq : Nat) (facq : Nat) (fahq : Nat) (faaq : Nat) (fakd : Nat → Int32) (face : Nat → Int32) (faho : Nat → Int32) (faac : Nat → Int32) (fsn : Nat) (fscq : Nat) (fswq : Nat) (fsce : Nat → Int32) (fswe : Nat → Int32) (wbq : Nat) (waq : Nat) (wy : Int32) (wbf : Int64) (wbt : Nat) (wbz : Int32) (wbmq : Nat) (wbm : Nat → Int32) (wan : Nat) (wakq : Nat) (wacq : Nat) (wahq : Nat) (waaq : Nat) (wakd : Nat → Int32) (wace : Nat → Int32) (waho : Nat → Int32) (waac : Nat → Int32) (xs : Nat → Option Nat) (hq : Nat) (hh : Bool) (hl : Int32) (hn : Nat) (hiq : Nat) (hi : Nat → Int64) (o : Int32) (h : Int32) (x : Int32) (l0 : Int32) (i : Int32) (ht7 : wbt ≤ 6) (hn7 : wan ≤ 6) (hs9 : bel x 4 = true → xs x.toNatClampNeg = some hq) (hn9 : hn ≤ 16) : Ke l g yX9_sat wsX9_sat ({ frames := 4, cells := 0, slots := 0, locals := 95 } : Room) 0 0 [.ref xq, .int o, .int h, .int x, .int l0, .int i] [ob xq 9 [.ref tq, .ref wq, .ref vq, .int (bI xi), .ref fq, .ref dq, .ref kq, .ref xsq], ob fq 3 [.ref fbq, .ref faq, .ref fsq, .long lw, .int la, .int lb, .int ls], ob fbq 4 [.long fbf, .int (nI fbt), .int fbz, .ref fbmq], ai g fbmq 6 fbm, ob faq 1 [.int (nI fan), .ref fakq, .ref facq, .ref fahq, .ref faaq], ai g fakq 6 fakd, ai g facq 6 face, ai g fahq 6 faho, ai g faaq 6 faac, ob fsq 5 [.int (nI fsn), .ref fscq, .ref fswq], ai g fscq 6 fsce, ai g fswq 6 fswe, ob wq 8 [.ref wbq, .ref waq, .int wy], ob wbq 4 [.long wbf, .int (nI wbt), .int wbz, .ref wbmq], ai g wbmq 6 wbm, ob waq 1 [.int (nI wan), .ref wakq, .ref wacq, .ref wahq, .ref waaq], ai g wakq 6 wakd, ai g wacq 6 wace, ai g wahq 6 waho, ai g waaq 6 waac, ao g xsq 4 xs, ob hq 6 [.int (bI hh), .int hl, .int (nI hn), .ref hiq], al g hiq 16 hi] (fun u : Int64 × Int64 × Nat × Int32 × (Nat → Int32) × Nat × (Nat → Int32) × (Nat → Int32) × (Nat → Int32) × (Nat → Int32) × Nat × (Nat → Int32) × (Nat → Int32) => some (.long u.1)) (fun u => [ob xq 9 [.ref tq, .ref wq, .ref vq, .int (bI xi), .ref fq, .ref dq, .ref kq, .ref xsq], ob fq 3 [.ref fbq, .ref faq, .ref fsq, .long lw, .int la, .int lb, .int ls], ob fbq 4 [.long u.2.1, .int (nI u.2.2.1), .int u.2.2.2.1, .ref fbmq], ai g fbmq 6 u.2.2.2.2.1, ob faq 1 [.int (nI u.2.2.2.2.2.1), .ref fakq, .ref facq, .ref fahq, .ref faaq], ai g fakq 6 u.2.2.2.2.2.2.1, ai g facq 6 u.2.2.2.2.2.2.2.1, ai g fahq 6 u.2.2.2.2.2.2.2.2.1, ai g faaq 6 u.2.2.2.2.2.2.2.2.2.1, ob fsq 5 [.int (nI u.2.2.2.2.2.2.2.2.2.2.1), .ref fscq, .ref fswq], ai g fscq 6 u.2.2.2.2.2.2.2.2.2.2.2.1, ai g fswq 6 u.2.2.2.2.2.2.2.2.2.2.2.2, ob wq 8 [.ref wbq, .ref waq, .int wy], ob wbq 4 [.long wbf, .int (nI wbt), .int wbz, .ref wbmq], ai g wbmq 6 wbm, ob waq 1 [.int (nI wan), .ref wakq, .ref wacq, .ref wahq, .ref waaq], ai g wakq 6 wakd, ai g wacq 6 wace, ai g wahq 6 waho, ai g waaq 6 waac, ao g xsq 4 xs, ob hq 6 [.int (bI hh), .int hl, .int (nI hn), .ref hiq], al g hiq 16 hi]) (fun u => (u.1 = satF o h x l0 i hh hl hn hi wakd wace waho wan wbz wbm wbt)) := by
  refine Ke.of (cc := cX9_sat) (maxL := 10) (ret := (some .long)) (lv := [(0, .ref xq), (1, .int o), (2, .int h), (3, .int x), (4, .int l0), (5, .int i)]) RX9 rfl (by decide) rfl (Nat.le_of_ble_eq_true rfl) rfl ?_
  intro p e s m below meth c A sz hA9 X hr hin2
  have in3 : ∀ w ∈ u_ws RX3 TX3 7, w ∈ wsX9_sat := by decide +kernel
  have in4 : ∀ w ∈ u_ws RX4 TX4 4, w ∈ wsX9_sat := by decide +kernel
  have in8 : ∀ w ∈ u_ws RX8 TX8 3, w ∈ wsX9_sat := by decide +kernel
  have in9 : ∀ w ∈ u_ws RX9 TX9 8, w ∈ wsX9_sat := by decide +kernel
  refine V_aload_n (pc := 0) X dX9_sat_0 rfl 0 rfl ?_
  refine V_iload_n (pc := 1) X dX9_sat_1 rfl 1 rfl ?_
  refine V_vg (pc := 2) (nA := 1) (As := [.int o]) (rest := []) X (c_X9_isPerson l g (xq := xq) (tq := tq) (wq := wq) (vq := vq) (xi := xi) (fq := fq) (dq := dq) (kq := kq) (xsq := xsq) (wbq := wbq) (waq := waq) (wy := wy) (wan := wan) (wakq := wakq) (wacq := wacq) (wahq := wahq) (waaq := waaq) (wakd := wakd) (wace := wace) (waho := waho) (waac := waac) (x := o) ) gX9_sat_X9_isPerson dX9_sat_2 rfl (by decide +kernel) rfl (qb := 0) rfl rfl rfl ⟨rfl, rfl⟩ ⟨Nat.le_of_ble_eq_true rfl, Nat.le_of_ble_eq_true rfl⟩ ⟨Nat.le_of_ble_eq_true rfl, Nat.le_of_ble_eq_true rfl⟩ [0, 12, 15, 16, 17, 18, 19] (by decide) rfl rfl (Nat.le_of_ble_eq_true rfl) (st' := [.int (bI (bel o (nI wan)))]) rfl ?_
  refine V_if_eq (tgt := 32) (pc := 5) X dX9_sat_5 (by decide) (fun c_1 => ?_) (fun c_1 => ?_)
  · skip
    have b_2 : (bel o (nI wan)) = false := bI0 c_1
    refine V_ldc2 (v := (-1)) (pc := 32) X dX9_sat_32 (by decide +kernel) ?_
    exact Ve_lret (pc := 35) X hA9 dX9_sat_35 hr ((-1), fbf, fbt, fbz, fbm, fan, fakd, face, faho, faac, fsn, fsce, fswe) (by first | rfl | (simp [b_2]; done)) (by
          try dsimp only
          exact satF_b (by simp [b_2])) (by rfl)
  · skip
    have b_3 : (bel o (nI wan)) = true := bI1 c_1
    refine V_iload_n (pc := 8) X dX9_sat_8 rfl 2 rfl ?_
    refine V_sg (pc := 9) (nA := 1) (As := [.int h]) (rest := []) X (c_X9_isStay l g (x := h) ) gX9_sat_X9_isStay dX9_sat_9 rfl (by decide +kernel) rfl ⟨rfl, rfl⟩ ⟨Nat.le_of_ble_eq_true rfl, Nat.le_of_ble_eq_true rfl⟩ ⟨Nat.le_of_ble_eq_true rfl, Nat.le_of_ble_eq_true rfl⟩ [] (by decide) rfl rfl (Nat.le_of_ble_eq_true rfl) (st' := [.int (bI (stay h))]) rfl ?_
    refine V_if_eq (tgt := 32) (pc := 12) X dX9_sat_12 (by decide) (fun c_4 => ?_) (fun c_4 => ?_)
    · skip
      have b_5 : (stay h) = false := bI0 c_4
      refine V_ldc2 (v := (-1)) (pc := 32) X dX9_sat_32 (by decide +kernel) ?_
      exact Ve_lret (pc := 35) X hA9 dX9_sat_35 hr ((-1), fbf, fbt, fbz, fbm, fan, fakd, face, faho, faac, fsn, fsce, fswe) (by first | rfl | (simp [b_3, b_5]; done)) (by
            try dsimp only
            exact satF_b (by simp [b_3, b_5])) (by rfl)
    · skip
      have b_6 : (stay h) = true := bI1 c_4
      refine V_iload_n (pc := 15) X dX9_sat_15 rfl 3 rfl ?_
      refine V_iconst (v := 4) (pc := 16) X dX9_sat_16 (by decide) ?_
      refine V_sg (pc := 17) (nA := 2) (As := [.int x, .int 4]) (rest := []) X (c_X9_isBelow l g (x := x) (b := 4) ) gX9_sat_X9_isBelow dX9_sat_17 rfl (by decide +kernel) rfl ⟨rfl, rfl⟩ ⟨Nat.le_of_ble_eq_true rfl, Nat.le_of_ble_eq_true rfl⟩ ⟨Nat.le_of_ble_eq_true rfl, Nat.le_of_ble_eq_true rfl⟩ [] (by decide) rfl rfl (Nat.le_of_ble_eq_true rfl) (st' := [.int (bI (bel x 4))]) rfl ?_
      refine V_if_eq (tgt := 32) (pc := 20) X dX9_sat_20 (by decide) (fun c_7 => ?_) (fun c_7 => ?_)
      · skip
        have b_8 : (bel x 4) = false := bI0 c_7
        refine V_ldc2 (v := (-1)) (pc := 32) X dX9_sat_32 (by decide +kernel) ?_
        exact Ve_lret (pc := 35) X hA9 dX9_sat_35 hr ((-1), fbf, fbt, fbz, fbm, fan, fakd, face, faho, faac, fsn, fsce, fswe) (by first | rfl | (simp [b_3, b_6, b_8]; done)) (by
              try dsimp only
              exact satF_b (by simp [b_3, b_6, b_8])) (by rfl)
      · skip
        have b_9 : (bel x 4) = true := bI1 c_7
        refine V_iload (pc := 23) X dX9_sat_23 4 rfl ?_
        refine V_iconst (v := 3) (pc := 25) X dX9_sat_25 (by decide) ?_
        refine V_sg (pc := 26) (nA := 2) (As := [.int l0, .int 3]) (rest := []) X (c_X9_isBelow l g (x := l0) (b := 3) ) gX9_sat_X9_isBelow dX9_sat_26 rfl (by decide +kernel) rfl ⟨rfl, rfl⟩ ⟨Nat.le_of_ble_eq_true rfl, Nat.le_of_ble_eq_true rfl⟩ ⟨Nat.le_of_ble_eq_true rfl, Nat.le_of_ble_eq_true rfl⟩ [] (by decide) rfl rfl (Nat.le_of_ble_eq_true rfl) (st' := [.int (bI (bel l0 3))]) rfl ?_
        refine V_if_ne (tgt := 36) (pc := 29) X dX9_sat_29 (by decide) (fun c_10 => ?_) (fun c_10 => ?_)
        · skip
          have b_11 : (bel l0 3) = true := bI1 c_10
          obtain ⟨j_12, hj_13, rfl⟩ := bel_nat (n := wan) (by omega) b_3
          refine V_aload_n (pc := 36) X dX9_sat_36 rfl 0 rfl ?_
          refine V_get (C := RX9) (T := TX9) (N := 8) (ci := 9) (pc := 37) X dX9_sat_37 in9 0 rfl rfl 7 (by decide) (by decide +kernel) rfl rfl ?_
          refine V_iload_n (pc := 40) X dX9_sat_40 rfl 3 rfl ?_
          refine V_aldq (v := hq) (pc := 41) X dX9_sat_41 20 rfl (by first | assumption | exact bel_vin (n := 4) (by omega) (by omega) (by omega) (by assumption)) (hs9 (by assumption)) ?_
          refine V_iload (pc := 42) X dX9_sat_42 4 rfl ?_
          refine V_iload (pc := 44) X dX9_sat_44 5 rfl ?_
          refine V_aload_n (pc := 46) X dX9_sat_46 rfl 0 rfl ?_
          refine V_get (C := RX9) (T := TX9) (N := 8) (ci := 9) (pc := 47) X dX9_sat_47 in9 0 rfl rfl 1 (by decide) (by decide +kernel) rfl rfl ?_
          refine V_get (C := RX8) (T := TX8) (N := 3) (ci := 8) (pc := 50) X dX9_sat_50 in8 12 rfl rfl 0 (by decide) (by decide +kernel) rfl rfl ?_
          refine V_get (C := RX4) (T := TX4) (N := 4) (ci := 4) (pc := 53) X dX9_sat_53 in4 13 rfl rfl 1 (by decide) (by decide +kernel) rfl rfl ?_
          refine V_vg (pc := 56) (nA := 3) (As := [.int l0, .int i, .int (nI wbt)]) (rest := []) X (c_X6_refusal l g (hq := hq) (hiq := hiq) (hh := hh) (hl := hl) (hn := hn) (hi := hi) (x := l0) (y := i) (w := nI wbt) ) gX9_sat_X6_refusal dX9_sat_56 rfl (by decide +kernel) rfl (qb := 21) rfl rfl rfl ⟨rfl, rfl⟩ ⟨Nat.le_of_ble_eq_true rfl, Nat.le_of_ble_eq_true rfl⟩ ⟨Nat.le_of_ble_eq_true rfl, Nat.le_of_ble_eq_true rfl⟩ [21, 22] (by decide) rfl rfl (Nat.le_of_ble_eq_true rfl) (st' := [.int (rfs hh hl hn l0 i (nI wbt))]) rfl ?_
          refine V_istore (lv' := [(6, .int (rfs hh hl hn l0 i (nI wbt))), (0, .ref xq), (1, .int (nI j_12)), (2, .int h), (3, .int x), (4, .int l0), (5, .int i)]) (pc := 59) X dX9_sat_59 (Nat.le_of_ble_eq_true rfl) rfl ?_
          refine V_iload (pc := 61) X dX9_sat_61 0 rfl ?_
          refine V_if_eq (tgt := 70) (pc := 63) X dX9_sat_63 (by decide) (fun c_14 => ?_) (fun c_14 => ?_)
          · skip
            obtain ⟨j_15, rfl, hj_16⟩ := rfs_nat (w := wbt) hn9 (by omega) c_14
            refine V_lconst (v := 0) (pc := 70) X dX9_sat_70 (by decide) ?_
            refine V_lstore (lv' := [(7, .long 0), (6, .int (rfs hh hl hn l0 (nI j_15) (nI wbt))), (0, .ref xq), (1, .int (nI j_12)), (2, .int h), (3, .int x), (4, .int l0), (5, .int (nI j_15))]) (pc := 71) X dX9_sat_71 (Nat.le_of_ble_eq_true rfl) rfl ?_
            refine V_aload_n (pc := 73) X dX9_sat_73 rfl 2 rfl ?_
            refine V_get (C := RX9) (T := TX9) (N := 8) (ci := 9) (pc := 74) X dX9_sat_74 in9 0 rfl rfl 4 (by decide) (by decide +kernel) rfl rfl ?_
            refine V_aload_n (pc := 77) X dX9_sat_77 rfl 2 rfl ?_
            refine V_get (C := RX9) (T := TX9) (N := 8) (ci := 9) (pc := 78) X dX9_sat_78 in9 0 rfl rfl 1 (by decide) (by decide +kernel) rfl rfl ?_
            refine V_ve (pc := 81) (nA := 1) (As := [.ref wq]) (rest := []) X (c_X3_begin l g (fq := fq) (fbq := fbq) (fbmq := fbmq) (fbf := fbf) (fbt := fbt) (fbz := fbz) (fbm := fbm) (faq := faq) (fakq := fakq) (facq := facq) (fahq := fahq) (faaq := faaq) (fan := fan) (fakd := fakd) (face := face) (faho := faho) (faac := faac) (fsq := fsq) (fscq := fscq) (fswq := fswq) (fsn := fsn) (fsce := fsce) (fswe := fswe) (lw := lw) (la := la) (lb := lb) (ls := ls) (wq := wq) (wbq := wbq) (wbmq := wbmq) (wbf := wbf) (wbt := wbt) (wbz := wbz) (wbm := wbm) (waq := waq) (wakq := wakq) (wacq := wacq) (wahq := wahq) (waaq := waaq) (wan := wan) (wakd := wakd) (wace := wace) (waho := waho) (waac := waac) (wy := wy) (hn := by first | assumption | omega)) gX9_sat_X3_begin dX9_sat_81 rfl (by decide +kernel) rfl (qb := 1) rfl rfl rfl ⟨rfl, rfl⟩ ⟨Nat.le_of_ble_eq_true rfl, Nat.le_of_ble_eq_true rfl⟩ ⟨Nat.le_of_ble_eq_true rfl, Nat.le_of_ble_eq_true rfl⟩ [1, 2, 3, 4, 5, 6, 7, 8, 9, 10, 11, 12, 13, 14, 15, 16, 17, 18, 19] (by decide) rfl [0, 20, 21, 22] (by decide) (by decide) [ob xq 9 [.ref tq, .ref wq, .ref vq, .int (bI xi), .ref fq, .ref dq, .ref kq, .ref xsq], ao g xsq 4 xs, ob hq 6 [.int (bI hh), .int hl, .int (nI hn), .ref hiq], al g hiq 16 hi] rfl [0, 4, 5, 6, 7, 8, 9, 10, 11, 12, 13, 14, 15, 16, 17, 18, 19, 20, 21, 22, 1, 2, 3] (by decide) (fun u => [ob xq 9 [.ref tq, .ref wq, .ref vq, .int (bI xi), .ref fq, .ref dq, .ref kq, .ref xsq], ob fq 3 [.ref fbq, .ref faq, .ref fsq, .long lw, .int la, .int lb, .int ls], ob fbq 4 [.long fbf, .int (nI fbt), .int fbz, .ref fbmq], ai g fbmq 6 fbm, ob faq 1 [.int (nI wan), .ref fakq, .ref facq, .ref fahq, .ref faaq], ai g fakq 6 (cpF fakd wakd wan), ai g facq 6 (cpF face wace wan), ai g fahq 6 (cpF faho waho wan), ai g faaq 6 (cpF faac waac wan), ob fsq 5 [.int (nI fsn), .ref fscq, .ref fswq], ai g fscq 6 fsce, ai g fswq 6 fswe, ob wq 8 [.ref wbq, .ref waq, .int wy], ob wbq 4 [.long wbf, .int (nI wbt), .int wbz, .ref wbmq], ai g wbmq 6 wbm, ob waq 1 [.int (nI wan), .ref wakq, .ref wacq, .ref wahq, .ref waaq], ai g wakq 6 wakd, ai g wacq 6 wace, ai g wahq 6 waho, ai g waaq 6 waac, ao g xsq 4 xs, ob hq 6 [.int (bI hh), .int hl, .int (nI hn), .ref hiq], al g hiq 16 hi]) (fun _ => rfl) rfl (Nat.le_of_ble_eq_true rfl) (fun u => []) (fun _ => rfl) (fun u hu_17 => ?_)
            refine V_eqw (ws2 := [ob xq 9 [.ref tq, .ref wq, .ref vq, .int (bI xi), .ref fq, .ref dq, .ref kq, .ref xsq], ob fq 3 [.ref fbq, .ref faq, .ref fsq, .long lw, .int la, .int lb, .int ls], ob fbq 4 [.long fbf, .int (nI fbt), .int fbz, .ref fbmq], ai g fbmq 6 fbm, ob faq 1 [.int (nI wan), .ref fakq, .ref facq, .ref fahq, .ref faaq], ai g fakq 6 (cpF fakd wakd wan), ai g facq 6 (cpF face wace wan), ai g fahq 6 (cpF faho waho wan), ai g faaq 6 (cpF faac waac wan), ob fsq 5 [.int (nI fsn), .ref fscq, .ref fswq], ai g fscq 6 fsce, ai g fswq 6 fswe, ob wq 8 [.ref wbq, .ref waq, .int wy], ob wbq 4 [.long wbf, .int (nI wbt), .int wbz, .ref wbmq], ai g wbmq 6 wbm, ob waq 1 [.int (nI wan), .ref wakq, .ref wacq, .ref wahq, .ref waaq], ai g wakq 6 wakd, ai g wacq 6 wace, ai g wahq 6 waho, ai g waaq 6 waac, ao g xsq 4 xs, ob hq 6 [.int (bI hh), .int hl, .int (nI hn), .ref hiq], al g hiq 16 hi]) rfl (V_eqs (st2 := []) rfl ?_)
            refine V_iconst (v := 0) (pc := 84) X dX9_sat_84 (by decide) ?_
            refine V_istore (lv' := [(9, .int 0), (7, .long 0), (6, .int (rfs hh hl hn l0 (nI j_15) (nI wbt))), (0, .ref xq), (1, .int (nI j_12)), (2, .int h), (3, .int x), (4, .int l0), (5, .int (nI j_15))]) (pc := 85) X dX9_sat_85 (Nat.le_of_ble_eq_true rfl) rfl ?_
            refine V_loop (pc := 87) (σ := Nat × Int64 × Nat × Int32 × Int64 × (Nat → Int32) × (Nat → Int32) × (Nat → Int32) × Nat × (Nat → Int32) × (Nat → Int32)) (fun v9 => [(0, .ref xq), (1, .int (nI j_12)), (2, .int h), (3, .int x), (5, .int (nI j_15)), (7, .long v9.2.1), (9, .int (nI v9.1))]) (fun v9 => [ob xq 9 [.ref tq, .ref wq, .ref vq, .int (bI xi), .ref fq, .ref dq, .ref kq, .ref xsq], ob fq 3 [.ref fbq, .ref faq, .ref fsq, .long lw, .int la, .int lb, .int ls], ob fbq 4 [.long v9.2.2.2.2.1, .int (nI v9.2.2.1), .int v9.2.2.2.1, .ref fbmq], ai g fbmq 6 v9.2.2.2.2.2.1, ob faq 1 [.int (nI wan), .ref fakq, .ref facq, .ref fahq, .ref faaq], ai g fakq 6 (cpF fakd wakd wan), ai g facq 6 v9.2.2.2.2.2.2.1, ai g fahq 6 v9.2.2.2.2.2.2.2.1, ai g faaq 6 (cpF faac waac wan), ob fsq 5 [.int (nI v9.2.2.2.2.2.2.2.2.1), .ref fscq, .ref fswq], ai g fscq 6 v9.2.2.2.2.2.2.2.2.2.1, ai g fswq 6 v9.2.2.2.2.2.2.2.2.2.2, ob wq 8 [.ref wbq, .ref waq, .int wy], ob wbq 4 [.long wbf, .int (nI wbt), .int wbz, .ref wbmq], ai g wbmq 6 wbm, ob waq 1 [.int (nI wan), .ref wakq, .ref wacq, .ref wahq, .ref waaq], ai g wakq 6 wakd, ai g wacq 6 wace, ai g wahq 6 waho, ai g waaq 6 waac, ao g xsq 4 xs, ob hq 6 [.int (bI hh), .int hl, .int (nI hn), .ref hiq], al g hiq 16 hi]) (fun v9 => (v9.1 ≤ 36) ∧ (v9.2.1 = satS j_12 h wakd wace waho wan wbz wbm wbt hi j_15 v9.1) ∧ (∀ v, upd v9.2.2.2.2.2.2.1 j_12 v = upd (cpF face wace wan) j_12 v) ∧ (∀ v, upd v9.2.2.2.2.2.2.2.1 j_12 v = upd (cpF faho waho wan) j_12 v)) (fun v9 => 36 - v9.1) (0, 0, fbt, fbz, fbf, fbm, cpF face wace wan, cpF faho waho wan, fsn, fsce, fswe) ⟨(by
                  try dsimp only
                  all_goals omega), (by
                  try dsimp only
                  all_goals rfl), (by
                  try dsimp only
                  exact fun _ => rfl), (by
                  try dsimp only
                  exact fun _ => rfl)⟩ rfl [3, 4, 5, 6, 8, 1, 0] rfl ?_
            rintro ⟨c0, zr, zt1, ze1, zf1, zm1, zc1, zh1, zn1, zs1, zw1⟩ ⟨hk, hz, hcs, hhs⟩ ih87
            try dsimp only at hk
            try dsimp only at hz
            try dsimp only at hcs
            try dsimp only at hhs
            refine V_eqw (ws2 := [ob xq 9 [.ref tq, .ref wq, .ref vq, .int (bI xi), .ref fq, .ref dq, .ref kq, .ref xsq], ob fq 3 [.ref fbq, .ref faq, .ref fsq, .long lw, .int la, .int lb, .int ls], ob fbq 4 [.long zf1, .int (nI zt1), .int ze1, .ref fbmq], ai g fbmq 6 zm1, ob faq 1 [.int (nI wan), .ref fakq, .ref facq, .ref fahq, .ref faaq], ai g fakq 6 (cpF fakd wakd wan), ai g facq 6 zc1, ai g fahq 6 zh1, ai g faaq 6 (cpF faac waac wan), ob fsq 5 [.int (nI zn1), .ref fscq, .ref fswq], ai g fscq 6 zs1, ai g fswq 6 zw1, ob wq 8 [.ref wbq, .ref waq, .int wy], ob wbq 4 [.long wbf, .int (nI wbt), .int wbz, .ref wbmq], ai g wbmq 6 wbm, ob waq 1 [.int (nI wan), .ref wakq, .ref wacq, .ref wahq, .ref waaq], ai g wakq 6 wakd, ai g wacq 6 wace, ai g wahq 6 waho, ai g waaq 6 waac, ao g xsq 4 xs, ob hq 6 [.int (bI hh), .int hl, .int (nI hn), .ref hiq], al g hiq 16 hi]) rfl (V_eql (lv' := [(0, .ref xq), (1, .int (nI j_12)), (2, .int h), (3, .int x), (5, .int (nI j_15)), (7, .long zr), (9, .int (nI c0))]) rfl ?_)
            refine V_iload (pc := 87) X dX9_sat_87 6 rfl ?_
            refine V_bipush (v := 36) (pc := 89) X dX9_sat_89 (by decide) ?_
            refine V_icmp_ge (tgt := 156) (pc := 91) X dX9_sat_91 (by decide) (fun c_18 => ?_) (fun c_18 => ?_)
            · skip
              have n_19 : 36 ≤ c0 := nJ_le (a := 36) (b := c0) (by omega) (by omega) c_18
              refine V_lload (pc := 156) X dX9_sat_156 5 rfl ?_
              exact Ve_lret (pc := 158) X hA9 dX9_sat_158 hr (zr, zf1, zt1, ze1, zm1, wan, cpF fakd wakd wan, zc1, zh1, cpF faac waac wan, zn1, zs1, zw1) (by first | rfl | (simp [b_3, b_6, b_9, b_11, hj_13, c_14, hj_16, n_19]; done)) (by
                    try dsimp only
                    rw [satF_c (by assumption) (by assumption) (by assumption) (by assumption), if_pos (by assumption), nI_clamp (n := j_12) (by omega), nI_clamp (n := j_15) (by omega), hz, show c0 = 36 by omega]) (by rfl)
            · skip
              have n_20 : c0 < 36 := nJ_nle (a := 36) (b := c0) (by omega) (by omega) c_18
              refine V_aload_n (pc := 94) X dX9_sat_94 rfl 0 rfl ?_
              refine V_get (C := RX9) (T := TX9) (N := 8) (ci := 9) (pc := 95) X dX9_sat_95 in9 0 rfl rfl 4 (by decide) (by decide +kernel) rfl rfl ?_
              refine V_get (C := RX3) (T := TX3) (N := 7) (ci := 3) (pc := 98) X dX9_sat_98 in3 1 rfl rfl 1 (by decide) (by decide +kernel) rfl rfl ?_
              refine V_iload_n (pc := 101) X dX9_sat_101 rfl 1 rfl ?_
              refine V_iload (pc := 102) X dX9_sat_102 6 rfl ?_
              refine V_iload_n (pc := 104) X dX9_sat_104 rfl 2 rfl ?_
              refine V_ve (pc := 105) (nA := 3) (As := [.int (nI j_12), .int (nI c0), .int h]) (rest := []) X (c_X1_seat l g (aq := faq) (akq := fakq) (acq := facq) (ahq := fahq) (aaq := faaq) (an := wan) (akd := cpF fakd wakd wan) (ace := zc1) (aho := zh1) (aac := cpF faac waac wan) (j := j_12) (w := nI c0) (h := h) (hj := by first | assumption | omega)) gX9_sat_X1_seat dX9_sat_105 rfl (by decide +kernel) rfl (qb := 4) rfl rfl rfl ⟨rfl, rfl⟩ ⟨Nat.le_of_ble_eq_true rfl, Nat.le_of_ble_eq_true rfl⟩ ⟨Nat.le_of_ble_eq_true rfl, Nat.le_of_ble_eq_true rfl⟩ [4, 5, 6, 7, 8] (by decide) rfl [0, 1, 2, 3, 9, 10, 11, 12, 13, 14, 15, 16, 17, 18, 19, 20, 21, 22] (by decide) (by decide) [ob xq 9 [.ref tq, .ref wq, .ref vq, .int (bI xi), .ref fq, .ref dq, .ref kq, .ref xsq], ob fq 3 [.ref fbq, .ref faq, .ref fsq, .long lw, .int la, .int lb, .int ls], ob fbq 4 [.long zf1, .int (nI zt1), .int ze1, .ref fbmq], ai g fbmq 6 zm1, ob fsq 5 [.int (nI zn1), .ref fscq, .ref fswq], ai g fscq 6 zs1, ai g fswq 6 zw1, ob wq 8 [.ref wbq, .ref waq, .int wy], ob wbq 4 [.long wbf, .int (nI wbt), .int wbz, .ref wbmq], ai g wbmq 6 wbm, ob waq 1 [.int (nI wan), .ref wakq, .ref wacq, .ref wahq, .ref waaq], ai g wakq 6 wakd, ai g wacq 6 wace, ai g wahq 6 waho, ai g waaq 6 waac, ao g xsq 4 xs, ob hq 6 [.int (bI hh), .int hl, .int (nI hn), .ref hiq], al g hiq 16 hi] rfl [0, 1, 2, 3, 18, 19, 20, 21, 22, 4, 5, 6, 7, 8, 9, 10, 11, 12, 13, 14, 15, 16, 17] (by decide) (fun u => [ob xq 9 [.ref tq, .ref wq, .ref vq, .int (bI xi), .ref fq, .ref dq, .ref kq, .ref xsq], ob fq 3 [.ref fbq, .ref faq, .ref fsq, .long lw, .int la, .int lb, .int ls], ob fbq 4 [.long zf1, .int (nI zt1), .int ze1, .ref fbmq], ai g fbmq 6 zm1, ob faq 1 [.int (nI wan), .ref fakq, .ref facq, .ref fahq, .ref faaq], ai g fakq 6 (cpF fakd wakd wan), ai g facq 6 (upd zc1 j_12 (nI c0)), ai g fahq 6 (upd zh1 j_12 h), ai g faaq 6 (cpF faac waac wan), ob fsq 5 [.int (nI zn1), .ref fscq, .ref fswq], ai g fscq 6 zs1, ai g fswq 6 zw1, ob wq 8 [.ref wbq, .ref waq, .int wy], ob wbq 4 [.long wbf, .int (nI wbt), .int wbz, .ref wbmq], ai g wbmq 6 wbm, ob waq 1 [.int (nI wan), .ref wakq, .ref wacq, .ref wahq, .ref waaq], ai g wakq 6 wakd, ai g wacq 6 wace, ai g wahq 6 waho, ai g waaq 6 waac, ao g xsq 4 xs, ob hq 6 [.int (bI hh), .int hl, .int (nI hn), .ref hiq], al g hiq 16 hi]) (fun _ => rfl) rfl (Nat.le_of_ble_eq_true rfl) (fun u => []) (fun _ => rfl) (fun u hu_21 => ?_)
              refine V_eqw (ws2 := [ob xq 9 [.ref tq, .ref wq, .ref vq, .int (bI xi), .ref fq, .ref dq, .ref kq, .ref xsq], ob fq 3 [.ref fbq, .ref faq, .ref fsq, .long lw, .int la, .int lb, .int ls], ob fbq 4 [.long zf1, .int (nI zt1), .int ze1, .ref fbmq], ai g fbmq 6 zm1, ob faq 1 [.int (nI wan), .ref fakq, .ref facq, .ref fahq, .ref faaq], ai g fakq 6 (cpF fakd wakd wan), ai g facq 6 (upd zc1 j_12 (nI c0)), ai g fahq 6 (upd zh1 j_12 h), ai g faaq 6 (cpF faac waac wan), ob fsq 5 [.int (nI zn1), .ref fscq, .ref fswq], ai g fscq 6 zs1, ai g fswq 6 zw1, ob wq 8 [.ref wbq, .ref waq, .int wy], ob wbq 4 [.long wbf, .int (nI wbt), .int wbz, .ref wbmq], ai g wbmq 6 wbm, ob waq 1 [.int (nI wan), .ref wakq, .ref wacq, .ref wahq, .ref waaq], ai g wakq 6 wakd, ai g wacq 6 wace, ai g wahq 6 waho, ai g waaq 6 waac, ao g xsq 4 xs, ob hq 6 [.int (bI hh), .int hl, .int (nI hn), .ref hiq], al g hiq 16 hi]) rfl (V_eqs (st2 := []) rfl ?_)
              refine V_aload_n (pc := 108) X dX9_sat_108 rfl 0 rfl ?_
              refine V_get (C := RX9) (T := TX9) (N := 8) (ci := 9) (pc := 109) X dX9_sat_109 in9 0 rfl rfl 4 (by decide) (by decide +kernel) rfl rfl ?_
              refine V_aload_n (pc := 112) X dX9_sat_112 rfl 0 rfl ?_
              refine V_get (C := RX9) (T := TX9) (N := 8) (ci := 9) (pc := 113) X dX9_sat_113 in9 0 rfl rfl 1 (by decide) (by decide +kernel) rfl rfl ?_
              refine V_ve (pc := 116) (nA := 1) (As := [.ref wq]) (rest := []) X (c_X3_look l g (fq := fq) (fbq := fbq) (fbmq := fbmq) (fbf := zf1) (fbt := zt1) (fbz := ze1) (fbm := zm1) (faq := faq) (fakq := fakq) (facq := facq) (fahq := fahq) (faaq := faaq) (fan := wan) (fakd := (cpF fakd wakd wan)) (face := upd zc1 j_12 (nI c0)) (faho := upd zh1 j_12 h) (faac := (cpF faac waac wan)) (fsq := fsq) (fscq := fscq) (fswq := fswq) (fsn := zn1) (fsce := zs1) (fswe := zw1) (lw := lw) (la := la) (lb := lb) (ls := ls) (wq := wq) (wbq := wbq) (wbmq := wbmq) (wbf := wbf) (wbt := wbt) (wbz := wbz) (wbm := wbm) (waq := waq) (wakq := wakq) (wacq := wacq) (wahq := wahq) (waaq := waaq) (wan := wan) (wakd := wakd) (wace := wace) (waho := waho) (waac := waac) (wy := wy) (ht := by first | assumption | omega) (hn := by first | assumption | omega)) gX9_sat_X3_look dX9_sat_116 rfl (by decide +kernel) rfl (qb := 1) rfl rfl rfl ⟨rfl, rfl⟩ ⟨Nat.le_of_ble_eq_true rfl, Nat.le_of_ble_eq_true rfl⟩ ⟨Nat.le_of_ble_eq_true rfl, Nat.le_of_ble_eq_true rfl⟩ [1, 2, 3, 4, 5, 6, 7, 8, 9, 10, 11, 12, 13, 14, 15, 16, 17, 18, 19] (by decide) rfl [0, 20, 21, 22] (by decide) (by decide) [ob xq 9 [.ref tq, .ref wq, .ref vq, .int (bI xi), .ref fq, .ref dq, .ref kq, .ref xsq], ao g xsq 4 xs, ob hq 6 [.int (bI hh), .int hl, .int (nI hn), .ref hiq], al g hiq 16 hi] rfl [0, 4, 5, 6, 7, 8, 9, 10, 11, 12, 13, 14, 15, 16, 17, 18, 19, 20, 21, 22, 1, 2, 3] (by decide) (fun u => [ob xq 9 [.ref tq, .ref wq, .ref vq, .int (bI xi), .ref fq, .ref dq, .ref kq, .ref xsq], ob fq 3 [.ref fbq, .ref faq, .ref fsq, .long lw, .int la, .int lb, .int ls], ob fbq 4 [.long (wbf ||| strF (cpF fakd wakd wan) (upd zc1 j_12 (nI c0)) (upd zh1 j_12 h) wan), .int (nI wbt), .int (frX wbz), .ref fbmq], ai g fbmq 6 u.2.2.2, ob faq 1 [.int (nI wan), .ref fakq, .ref facq, .ref fahq, .ref faaq], ai g fakq 6 (cpF fakd wakd wan), ai g facq 6 (upd zc1 j_12 (nI c0)), ai g fahq 6 (upd zh1 j_12 h), ai g faaq 6 (cpF faac waac wan), ob fsq 5 [.int (nI u.1), .ref fscq, .ref fswq], ai g fscq 6 u.2.1, ai g fswq 6 u.2.2.1, ob wq 8 [.ref wbq, .ref waq, .int wy], ob wbq 4 [.long wbf, .int (nI wbt), .int wbz, .ref wbmq], ai g wbmq 6 wbm, ob waq 1 [.int (nI wan), .ref wakq, .ref wacq, .ref wahq, .ref waaq], ai g wakq 6 wakd, ai g wacq 6 wace, ai g wahq 6 waho, ai g waaq 6 waac, ao g xsq 4 xs, ob hq 6 [.int (bI hh), .int hl, .int (nI hn), .ref hiq], al g hiq 16 hi]) (fun _ => rfl) rfl (Nat.le_of_ble_eq_true rfl) (fun u => []) (fun _ => rfl) (fun u hu_26 => ?_)
              obtain ⟨nn_22, nc_23, nw_24, nm_25⟩ := u
              try dsimp only at hu_26
              have hmm_27 := hu_26
              refine V_eqw (ws2 := [ob xq 9 [.ref tq, .ref wq, .ref vq, .int (bI xi), .ref fq, .ref dq, .ref kq, .ref xsq], ob fq 3 [.ref fbq, .ref faq, .ref fsq, .long lw, .int la, .int lb, .int ls], ob fbq 4 [.long (wbf ||| strF (cpF fakd wakd wan) (upd zc1 j_12 (nI c0)) (upd zh1 j_12 h) wan), .int (nI wbt), .int (frX wbz), .ref fbmq], ai g fbmq 6 nm_25, ob faq 1 [.int (nI wan), .ref fakq, .ref facq, .ref fahq, .ref faaq], ai g fakq 6 (cpF fakd wakd wan), ai g facq 6 (upd zc1 j_12 (nI c0)), ai g fahq 6 (upd zh1 j_12 h), ai g faaq 6 (cpF faac waac wan), ob fsq 5 [.int (nI nn_22), .ref fscq, .ref fswq], ai g fscq 6 nc_23, ai g fswq 6 nw_24, ob wq 8 [.ref wbq, .ref waq, .int wy], ob wbq 4 [.long wbf, .int (nI wbt), .int wbz, .ref wbmq], ai g wbmq 6 wbm, ob waq 1 [.int (nI wan), .ref wakq, .ref wacq, .ref wahq, .ref waaq], ai g wakq 6 wakd, ai g wacq 6 wace, ai g wahq 6 waho, ai g waaq 6 waac, ao g xsq 4 xs, ob hq 6 [.int (bI hh), .int hl, .int (nI hn), .ref hiq], al g hiq 16 hi]) rfl (V_eqs (st2 := []) rfl ?_)
              refine V_aload_n (pc := 119) X dX9_sat_119 rfl 0 rfl ?_
              refine V_get (C := RX9) (T := TX9) (N := 8) (ci := 9) (pc := 120) X dX9_sat_120 in9 0 rfl rfl 7 (by decide) (by decide +kernel) rfl rfl ?_
              refine V_iload_n (pc := 123) X dX9_sat_123 rfl 3 rfl ?_
              refine V_aldq (v := hq) (pc := 124) X dX9_sat_124 20 rfl (by first | assumption | exact bel_vin (n := 4) (by omega) (by omega) (by omega) (by assumption)) (hs9 (by assumption)) ?_
              refine V_iload (pc := 125) X dX9_sat_125 4 rfl ?_
              refine V_aload_n (pc := 127) X dX9_sat_127 rfl 0 rfl ?_
              refine V_get (C := RX9) (T := TX9) (N := 8) (ci := 9) (pc := 128) X dX9_sat_128 in9 0 rfl rfl 4 (by decide) (by decide +kernel) rfl rfl ?_
              refine V_get (C := RX3) (T := TX3) (N := 7) (ci := 3) (pc := 131) X dX9_sat_131 in3 1 rfl rfl 0 (by decide) (by decide +kernel) rfl rfl ?_
              refine V_vg (pc := 134) (nA := 2) (As := [.int (nI j_15), .ref fbq]) (rest := []) X (c_X6_tells l g (hq := hq) (hiq := hiq) (hh := hh) (hl := hl) (hn := hn) (hi := hi) (bq := fbq) (bmq := fbmq) (bf := wbf ||| strF (cpF fakd wakd wan) (upd zc1 j_12 (nI c0)) (upd zh1 j_12 h) wan) (bt := wbt) (bz := frX wbz) (bm := nm_25) (j := j_15) (hj := by first | assumption | omega) (ht := by first | assumption | omega)) gX9_sat_X6_tells dX9_sat_134 rfl (by decide +kernel) rfl (qb := 21) rfl rfl rfl ⟨rfl, rfl⟩ ⟨Nat.le_of_ble_eq_true rfl, Nat.le_of_ble_eq_true rfl⟩ ⟨Nat.le_of_ble_eq_true rfl, Nat.le_of_ble_eq_true rfl⟩ [21, 22, 2, 3] (by decide) rfl rfl (Nat.le_of_ble_eq_true rfl) (st' := [.int (bI (telF hi nm_25 j_15 wbt))]) rfl ?_
              refine V_seti (y := bI (TS j_12 h wakd wace waho wan wbz wbm wbt hi j_15 c0)) (congrArg bI (TS_of (hcs _) (hhs _) hmm_27)) ?_
              refine V_if_eq (tgt := 150) (pc := 137) X dX9_sat_137 (by decide) (fun c_28 => ?_) (fun c_28 => ?_)
              · skip
                have b_29 : (TS j_12 h wakd wace waho wan wbz wbm wbt hi j_15 c0) = false := bI0 c_28
                refine V_iinc (v := nI (c0 + 1)) (lv' := [(9, .int (nI (c0 + 1))), (0, .ref xq), (1, .int (nI j_12)), (2, .int h), (3, .int x), (5, .int (nI j_15)), (7, .long zr)]) (pc := 150) X dX9_sat_150 6 rfl (nI_add c0 1) (Nat.le_of_ble_eq_true rfl) rfl ?_
                refine V_goto (tgt := 87) (pc := 153) X dX9_sat_153 (by decide) ?_
                refine V_lv [1, 2, 3, 4, 5, 6, 0] rfl ?_
                exact ih87 (c0 + 1, zr, wbt, frX wbz, wbf ||| strF (cpF fakd wakd wan) (upd zc1 j_12 (nI c0)) (upd zh1 j_12 h) wan, nm_25, (upd zc1 j_12 (nI c0)), (upd zh1 j_12 h), nn_22, nc_23, nw_24) ⟨(by
                      try dsimp only
                      all_goals omega), (by
                      try dsimp only
                      first | exact hz.trans (satS_n (by assumption)) | (rw [hz]; exact satS_y (by assumption))), (by
                      try dsimp only
                      exact fun v => (upd_upd _ _ _ _).trans (hcs v)), (by
                      try dsimp only
                      exact fun v => (upd_upd _ _ _ _).trans (hhs v))⟩ (by
                      try dsimp only
                      all_goals omega)
              · skip
                have b_30 : (TS j_12 h wakd wace waho wan wbz wbm wbt hi j_15 c0) = true := bI1 c_28
                refine V_lload (pc := 140) X dX9_sat_140 5 rfl ?_
                refine V_iload (pc := 142) X dX9_sat_142 6 rfl ?_
                refine V_sg (pc := 144) (nA := 1) (As := [.int (nI c0)]) (rest := [.long zr]) X (c_X9_bit l g (x := nI c0) ) gX9_sat_X9_bit dX9_sat_144 rfl (by decide +kernel) rfl ⟨rfl, rfl⟩ ⟨Nat.le_of_ble_eq_true rfl, Nat.le_of_ble_eq_true rfl⟩ ⟨Nat.le_of_ble_eq_true rfl, Nat.le_of_ble_eq_true rfl⟩ [] (by decide) rfl rfl (Nat.le_of_ble_eq_true rfl) (st' := [.long (bitI (nI c0)), .long zr]) rfl ?_
                refine V_lor (pc := 147) X dX9_sat_147 ?_
                refine V_lstore (lv' := [(7, .long (zr ||| (bitI (nI c0)))), (0, .ref xq), (1, .int (nI j_12)), (2, .int h), (3, .int x), (5, .int (nI j_15)), (9, .int (nI c0))]) (pc := 148) X dX9_sat_148 (Nat.le_of_ble_eq_true rfl) rfl ?_
                refine V_iinc (v := nI (c0 + 1)) (lv' := [(9, .int (nI (c0 + 1))), (7, .long (zr ||| (bitI (nI c0)))), (0, .ref xq), (1, .int (nI j_12)), (2, .int h), (3, .int x), (5, .int (nI j_15))]) (pc := 150) X dX9_sat_150 6 rfl (nI_add c0 1) (Nat.le_of_ble_eq_true rfl) rfl ?_
                refine V_goto (tgt := 87) (pc := 153) X dX9_sat_153 (by decide) ?_
                refine V_lv [2, 3, 4, 5, 6, 1, 0] rfl ?_
                exact ih87 (c0 + 1, zr ||| (bitI (nI c0)), wbt, frX wbz, wbf ||| strF (cpF fakd wakd wan) (upd zc1 j_12 (nI c0)) (upd zh1 j_12 h) wan, nm_25, (upd zc1 j_12 (nI c0)), (upd zh1 j_12 h), nn_22, nc_23, nw_24) ⟨(by
                      try dsimp only
                      all_goals omega), (by
                      try dsimp only
                      first | exact hz.trans (satS_n (by assumption)) | (rw [hz]; exact satS_y (by assumption))), (by
                      try dsimp only
                      exact fun v => (upd_upd _ _ _ _).trans (hcs v)), (by
                      try dsimp only
                      exact fun v => (upd_upd _ _ _ _).trans (hhs v))⟩ (by
                      try dsimp only
                      all_goals omega)
          · skip
            refine V_iload (pc := 66) X dX9_sat_66 0 rfl ?_
            refine V_i2l (pc := 68) X dX9_sat_68 ?_
            exact Ve_lret (pc := 69) X hA9 dX9_sat_69 hr ((rfs hh hl hn l0 i (nI wbt)).toInt64, fbf, fbt, fbz, fbm, fan, fakd, face, faho, faac, fsn, fsce, fswe) (by first | rfl | (simp [b_3, b_6, b_9, b_11, hj_13, c_14]; done)) (by
                  try dsimp only
                  rw [satF_c (by assumption) (by assumption) (by assumption) (by assumption), if_neg (by assumption)]) (by rfl)
        · skip
          have b_31 : (bel l0 3) = false := bI0 c_10
          refine V_ldc2 (v := (-1)) (pc := 32) X dX9_sat_32 (by decide +kernel) ?_
          exact Ve_lret (pc := 35) X hA9 dX9_sat_35 hr ((-1), fbf, fbt, fbz, fbm, fan, fakd, face, faho, faac, fsn, fsce, fswe) (by first | rfl | (simp [b_3, b_6, b_9, b_31]; done)) (by
                try dsimp only
                exact satF_b (by simp [b_3, b_6, b_9, b_31])) (by rfl)
set_option maxHeartbeats 4000000 in
set_option maxRecDepth 100000 in
theorem c_X9_film (l : Launch) (g : XG) (xq : Nat) (tq : Nat) (wq : Nat) (vq : Nat) (xi : Bool) (fq : Nat) (dq : Nat) (kq : Nat) (xsq : Nat) (wbq : Nat) (waq : Nat) (wy : Int32) (wbf : Int64) (wbt : Nat) (wbz : Int32) (wbmq : Nat) (wbm : Nat → Int32) (xs : Nat → Option Nat) (hq : Nat) (hh : Bool) (hl : Int32) (hn : Nat) (hiq : Nat) (hi : Nat → Int64) (x : Int32) (l0 : Int32) (i : Int32) (ht : wbt ≤ 6) (hs9 : bel x 4 = true → xs x.toNatClampNeg = some hq) (hn9 : hn ≤ 16) : Ke l g yX9_film wsX9_film ({ frames := 2, cells := 0, slots := 0, locals := 45 } : Room) 0 0 [.ref xq, .int x, .int l0, .int i] [ob xq 9 [.ref tq, .ref wq, .ref vq, .int (bI xi), .ref fq, .ref dq, .ref kq, .ref xsq], ob wq 8 [.ref wbq, .ref waq, .int wy], ob wbq 4 [.long wbf, .int (nI wbt), .int wbz, .ref wbmq], ai g wbmq 6 wbm, ao g xsq 4 xs, ob hq 6 [.int (bI hh), .int hl, .int (nI hn), .ref hiq], al g hiq 16 hi] (fun u : Int32 × (Nat → Int64) => some (.int u.1)) (fun u => [ob xq 9 [.ref tq, .ref wq, .ref vq, .int (bI xi), .ref fq, .ref dq, .ref kq, .ref xsq], ob wq 8 [.ref wbq, .ref waq, .int wy], ob wbq 4 [.long wbf, .int (nI wbt), .int wbz, .ref wbmq], ai g wbmq 6 wbm, ao g xsq 4 xs, ob hq 6 [.int (bI hh), .int hl, .int (nI hn), .ref hiq], al g hiq 16 u.2]) (fun u => (R_film x l0 i hh hl hn hi wbt wbm u.1 u.2)) := by
  refine Ke.of (cc := cX9_film) (maxL := 7) (ret := (some .int)) (lv := [(0, .ref xq), (1, .int x), (2, .int l0), (3, .int i)]) RX9 rfl (by decide) rfl (Nat.le_of_ble_eq_true rfl) rfl ?_
  intro p e s m below meth c A sz hA9 X hr hin2
  have in4 : ∀ w ∈ u_ws RX4 TX4 4, w ∈ wsX9_film := by decide +kernel
  have in6 : ∀ w ∈ u_ws RX6 TX6 4, w ∈ wsX9_film := by decide +kernel
  have in8 : ∀ w ∈ u_ws RX8 TX8 3, w ∈ wsX9_film := by decide +kernel
  have in9 : ∀ w ∈ u_ws RX9 TX9 8, w ∈ wsX9_film := by decide +kernel
  refine V_iload_n (pc := 0) X dX9_film_0 rfl 1 rfl ?_
  refine V_iconst (v := 4) (pc := 1) X dX9_film_1 (by decide) ?_
  refine V_sg (pc := 2) (nA := 2) (As := [.int x, .int 4]) (rest := []) X (c_X9_isBelow l g (x := x) (b := 4) ) gX9_film_X9_isBelow dX9_film_2 rfl (by decide +kernel) rfl ⟨rfl, rfl⟩ ⟨Nat.le_of_ble_eq_true rfl, Nat.le_of_ble_eq_true rfl⟩ ⟨Nat.le_of_ble_eq_true rfl, Nat.le_of_ble_eq_true rfl⟩ [] (by decide) rfl rfl (Nat.le_of_ble_eq_true rfl) (st' := [.int (bI (bel x 4))]) rfl ?_
  refine V_if_eq (tgt := 16) (pc := 5) X dX9_film_5 (by decide) (fun c_1 => ?_) (fun c_1 => ?_)
  · skip
    have b_2 : (bel x 4) = false := bI0 c_1
    refine V_iconst (v := (-1)) (pc := 16) X dX9_film_16 (by decide) ?_
    exact Ve_iret (pc := 17) X hA9 dX9_film_17 hr ((-1), hi) (by first | rfl | (simp [b_2]; done)) (by
          try dsimp only
          (unfold R_film; first | exact Or.inl ⟨by simp [b_2], rfl, rfl⟩ | exact Or.inr (Or.inl ⟨by simp [b_2], by assumption, rfl, rfl⟩) | exact Or.inr (Or.inr ⟨by simp [b_2], by assumption, rfl, by rw [hz, nI_clamp (by omega), show k = wbt by omega]⟩))) (by rfl)
  · skip
    have b_3 : (bel x 4) = true := bI1 c_1
    refine V_iload_n (pc := 8) X dX9_film_8 rfl 2 rfl ?_
    refine V_iconst (v := 3) (pc := 9) X dX9_film_9 (by decide) ?_
    refine V_sg (pc := 10) (nA := 2) (As := [.int l0, .int 3]) (rest := []) X (c_X9_isBelow l g (x := l0) (b := 3) ) gX9_film_X9_isBelow dX9_film_10 rfl (by decide +kernel) rfl ⟨rfl, rfl⟩ ⟨Nat.le_of_ble_eq_true rfl, Nat.le_of_ble_eq_true rfl⟩ ⟨Nat.le_of_ble_eq_true rfl, Nat.le_of_ble_eq_true rfl⟩ [] (by decide) rfl rfl (Nat.le_of_ble_eq_true rfl) (st' := [.int (bI (bel l0 3))]) rfl ?_
    refine V_if_ne (tgt := 18) (pc := 13) X dX9_film_13 (by decide) (fun c_4 => ?_) (fun c_4 => ?_)
    · skip
      have b_5 : (bel l0 3) = true := bI1 c_4
      refine V_aload_n (pc := 18) X dX9_film_18 rfl 0 rfl ?_
      refine V_get (C := RX9) (T := TX9) (N := 8) (ci := 9) (pc := 19) X dX9_film_19 in9 0 rfl rfl 1 (by decide) (by decide +kernel) rfl rfl ?_
      refine V_get (C := RX8) (T := TX8) (N := 3) (ci := 8) (pc := 22) X dX9_film_22 in8 1 rfl rfl 0 (by decide) (by decide +kernel) rfl rfl ?_
      refine V_astore (lv' := [(4, .ref wbq), (0, .ref xq), (1, .int x), (2, .int l0), (3, .int i)]) (pc := 25) X dX9_film_25 (Nat.le_of_ble_eq_true rfl) rfl ?_
      refine V_aload_n (pc := 27) X dX9_film_27 rfl 1 rfl ?_
      refine V_get (C := RX9) (T := TX9) (N := 8) (ci := 9) (pc := 28) X dX9_film_28 in9 0 rfl rfl 7 (by decide) (by decide +kernel) rfl rfl ?_
      refine V_iload_n (pc := 31) X dX9_film_31 rfl 2 rfl ?_
      refine V_aldq (v := hq) (pc := 32) X dX9_film_32 4 rfl (by first | assumption | exact bel_vin (n := 4) (by omega) (by omega) (by omega) (by assumption)) (hs9 (by assumption)) ?_
      refine V_iload_n (pc := 33) X dX9_film_33 rfl 3 rfl ?_
      refine V_iload_n (pc := 34) X dX9_film_34 rfl 4 rfl ?_
      refine V_aload (pc := 35) X dX9_film_35 0 rfl ?_
      refine V_get (C := RX4) (T := TX4) (N := 4) (ci := 4) (pc := 37) X dX9_film_37 in4 2 rfl rfl 1 (by decide) (by decide +kernel) rfl rfl ?_
      refine V_vg (pc := 40) (nA := 3) (As := [.int l0, .int i, .int (nI wbt)]) (rest := []) X (c_X6_refusal l g (hq := hq) (hiq := hiq) (hh := hh) (hl := hl) (hn := hn) (hi := hi) (x := l0) (y := i) (w := nI wbt) ) gX9_film_X6_refusal dX9_film_40 rfl (by decide +kernel) rfl (qb := 5) rfl rfl rfl ⟨rfl, rfl⟩ ⟨Nat.le_of_ble_eq_true rfl, Nat.le_of_ble_eq_true rfl⟩ ⟨Nat.le_of_ble_eq_true rfl, Nat.le_of_ble_eq_true rfl⟩ [5, 6] (by decide) rfl rfl (Nat.le_of_ble_eq_true rfl) (st' := [.int (rfs hh hl hn l0 i (nI wbt))]) rfl ?_
      refine V_istore (lv' := [(5, .int (rfs hh hl hn l0 i (nI wbt))), (4, .ref wbq), (0, .ref xq), (1, .int x), (2, .int l0), (3, .int i)]) (pc := 43) X dX9_film_43 (Nat.le_of_ble_eq_true rfl) rfl ?_
      refine V_iload (pc := 45) X dX9_film_45 0 rfl ?_
      refine V_if_eq (tgt := 53) (pc := 47) X dX9_film_47 (by decide) (fun c_6 => ?_) (fun c_6 => ?_)
      · skip
        obtain ⟨j_7, rfl, hj_8⟩ := rfs_nat (w := wbt) hn9 (by omega) c_6
        refine V_iconst (v := 0) (pc := 53) X dX9_film_53 (by decide) ?_
        refine V_istore (lv' := [(6, .int 0), (5, .int (rfs hh hl hn l0 (nI j_7) (nI wbt))), (4, .ref wbq), (0, .ref xq), (1, .int x), (2, .int l0), (3, .int (nI j_7))]) (pc := 54) X dX9_film_54 (Nat.le_of_ble_eq_true rfl) rfl ?_
        refine V_loop (pc := 56) (σ := Nat × (Nat → Int64)) (fun v9 => [(0, .ref xq), (1, .int x), (3, .int (nI j_7)), (4, .ref wbq), (6, .int (nI v9.1))]) (fun v9 => [ob xq 9 [.ref tq, .ref wq, .ref vq, .int (bI xi), .ref fq, .ref dq, .ref kq, .ref xsq], ob wq 8 [.ref wbq, .ref waq, .int wy], ob wbq 4 [.long wbf, .int (nI wbt), .int wbz, .ref wbmq], ai g wbmq 6 wbm, ao g xsq 4 xs, ob hq 6 [.int (bI hh), .int hl, .int (nI hn), .ref hiq], al g hiq 16 v9.2]) (fun v9 => (v9.1 ≤ wbt) ∧ (v9.2 = flF hi wbm j_7 v9.1)) (fun v9 => wbt - v9.1) (0, hi) ⟨(by
              try dsimp only
              all_goals omega), (by
              try dsimp only
              exact flF_0 _ _ _)⟩ rfl [3, 4, 6, 2, 0] rfl ?_
        rintro ⟨k, z⟩ ⟨hk, hz⟩ ih56
        try dsimp only at hk
        try dsimp only at hz
        refine V_eqw (ws2 := [ob xq 9 [.ref tq, .ref wq, .ref vq, .int (bI xi), .ref fq, .ref dq, .ref kq, .ref xsq], ob wq 8 [.ref wbq, .ref waq, .int wy], ob wbq 4 [.long wbf, .int (nI wbt), .int wbz, .ref wbmq], ai g wbmq 6 wbm, ao g xsq 4 xs, ob hq 6 [.int (bI hh), .int hl, .int (nI hn), .ref hiq], al g hiq 16 z]) rfl (V_eql (lv' := [(0, .ref xq), (1, .int x), (3, .int (nI j_7)), (4, .ref wbq), (6, .int (nI k))]) rfl ?_)
        refine V_iload (pc := 56) X dX9_film_56 4 rfl ?_
        refine V_aload (pc := 58) X dX9_film_58 3 rfl ?_
        refine V_get (C := RX4) (T := TX4) (N := 4) (ci := 4) (pc := 60) X dX9_film_60 in4 2 rfl rfl 1 (by decide) (by decide +kernel) rfl rfl ?_
        refine V_icmp_ge (tgt := 95) (pc := 63) X dX9_film_63 (by decide) (fun c_9 => ?_) (fun c_9 => ?_)
        · skip
          have n_10 : wbt ≤ k := nJ_le (a := wbt) (b := k) (by omega) (by omega) c_9
          refine V_aload (pc := 95) X dX9_film_95 3 rfl ?_
          refine V_get (C := RX4) (T := TX4) (N := 4) (ci := 4) (pc := 97) X dX9_film_97 in4 2 rfl rfl 1 (by decide) (by decide +kernel) rfl rfl ?_
          exact Ve_iret (pc := 100) X hA9 dX9_film_100 hr (nI wbt, z) (by first | rfl | (simp [b_3, b_5, c_6, hj_8, n_10]; done)) (by
                try dsimp only
                (unfold R_film; first | exact Or.inl ⟨by simp [b_3, b_5, c_6, hj_8, n_10], rfl, rfl⟩ | exact Or.inr (Or.inl ⟨by simp [b_3, b_5, c_6, hj_8, n_10], by assumption, rfl, rfl⟩) | exact Or.inr (Or.inr ⟨by simp [b_3, b_5, c_6, hj_8, n_10], by assumption, rfl, by rw [hz, nI_clamp (by omega), show k = wbt by omega]⟩))) (by rfl)
        · skip
          have n_11 : k < wbt := nJ_nle (a := wbt) (b := k) (by omega) (by omega) c_9
          refine V_aload_n (pc := 66) X dX9_film_66 rfl 0 rfl ?_
          refine V_get (C := RX9) (T := TX9) (N := 8) (ci := 9) (pc := 67) X dX9_film_67 in9 0 rfl rfl 7 (by decide) (by decide +kernel) rfl rfl ?_
          refine V_iload_n (pc := 70) X dX9_film_70 rfl 1 rfl ?_
          refine V_aldq (v := hq) (pc := 71) X dX9_film_71 4 rfl (by first | assumption | exact bel_vin (n := 4) (by omega) (by omega) (by omega) (by assumption)) (hs9 (by assumption)) ?_
          refine V_get (C := RX6) (T := TX6) (N := 4) (ci := 6) (pc := 72) X dX9_film_72 in6 5 rfl rfl 3 (by decide) (by decide +kernel) rfl rfl ?_
          refine V_iload_n (pc := 75) X dX9_film_75 rfl 2 rfl ?_
          refine V_iload (pc := 76) X dX9_film_76 4 rfl ?_
          refine V_iadd (pc := 78) X dX9_film_78 ?_
          refine V_seti (y := nI (j_7 + k)) (nI_add j_7 k) ?_
          refine V_aload (pc := 79) X dX9_film_79 3 rfl ?_
          refine V_get (C := RX4) (T := TX4) (N := 4) (ci := 4) (pc := 81) X dX9_film_81 in4 2 rfl rfl 3 (by decide) (by decide +kernel) rfl rfl ?_
          refine V_iload (pc := 84) X dX9_film_84 4 rfl ?_
          refine V_iald (v := wbm k) (pc := 86) X dX9_film_86 3 rfl (vp_in_nI (by omega) (by omega)) (by rw [nI_clamp (by omega)]) ?_
          refine V_i2l (pc := 87) X dX9_film_87 ?_
          refine V_last (f' := vp_updL z (j_7 + k) ((wbm k).toInt64)) (ws' := [ob xq 9 [.ref tq, .ref wq, .ref vq, .int (bI xi), .ref fq, .ref dq, .ref kq, .ref xsq], ob wq 8 [.ref wbq, .ref waq, .int wy], ob wbq 4 [.long wbf, .int (nI wbt), .int wbz, .ref wbmq], ai g wbmq 6 wbm, ao g xsq 4 xs, ob hq 6 [.int (bI hh), .int hl, .int (nI hn), .ref hiq], al g hiq 16 (vp_updL z (j_7 + k) ((wbm k).toInt64))]) (pc := 88) X dX9_film_88 6 rfl (vp_in_nI (by omega) (by omega)) (by rw [nI_clamp (by omega)]) rfl ?_
          refine V_iinc (v := nI (k + 1)) (lv' := [(6, .int (nI (k + 1))), (0, .ref xq), (1, .int x), (3, .int (nI j_7)), (4, .ref wbq)]) (pc := 89) X dX9_film_89 4 rfl (nI_add k 1) (Nat.le_of_ble_eq_true rfl) rfl ?_
          refine V_goto (tgt := 56) (pc := 92) X dX9_film_92 (by decide) ?_
          refine V_lv [1, 2, 3, 4, 0] rfl ?_
          exact ih56 (k + 1, vp_updL z (j_7 + k) ((wbm k).toInt64)) ⟨(by
                try dsimp only
                all_goals omega), (by
                try dsimp only
                rw [hz]; exact flF_s _ _ _ _)⟩ (by
                try dsimp only
                all_goals omega)
      · skip
        refine V_iload (pc := 50) X dX9_film_50 0 rfl ?_
        exact Ve_iret (pc := 52) X hA9 dX9_film_52 hr (rfs hh hl hn l0 i (nI wbt), hi) (by first | rfl | (simp [b_3, b_5, c_6]; done)) (by
              try dsimp only
              (unfold R_film; first | exact Or.inl ⟨by simp [b_3, b_5, c_6], rfl, rfl⟩ | exact Or.inr (Or.inl ⟨by simp [b_3, b_5, c_6], by assumption, rfl, rfl⟩) | exact Or.inr (Or.inr ⟨by simp [b_3, b_5, c_6], by assumption, rfl, by rw [hz, nI_clamp (by omega), show k = wbt by omega]⟩))) (by rfl)
    · skip
      have b_12 : (bel l0 3) = false := bI0 c_4
      refine V_iconst (v := (-1)) (pc := 16) X dX9_film_16 (by decide) ?_
      exact Ve_iret (pc := 17) X hA9 dX9_film_17 hr ((-1), hi) (by first | rfl | (simp [b_3, b_12]; done)) (by
            try dsimp only
            (unfold R_film; first | exact Or.inl ⟨by simp [b_3, b_12], rfl, rfl⟩ | exact Or.inr (Or.inl ⟨by simp [b_3, b_12], by assumption, rfl, rfl⟩) | exact Or.inr (Or.inr ⟨by simp [b_3, b_12], by assumption, rfl, by rw [hz, nI_clamp (by omega), show k = wbt by omega]⟩))) (by rfl)
set_option maxHeartbeats 4000000 in
set_option maxRecDepth 100000 in
theorem c_X9_sheet (l : Launch) (g : XG) (xq : Nat) (tq : Nat) (wq : Nat) (vq : Nat) (xi : Bool) (fq : Nat) (dq : Nat) (kq : Nat) (xsq : Nat) (xs : Nat → Option Nat) (hq : Nat) (hh : Bool) (hl : Int32) (hn : Nat) (hiq : Nat) (hi : Nat → Int64) (x : Int32) (l0 : Int32) (y : Int32) (hs9 : bel x 4 = true → xs x.toNatClampNeg = some hq) (hn9 : hn ≤ 16) : Ke l g yX9_sheet wsX9_sheet ({ frames := 1, cells := 0, slots := 0, locals := 23 } : Room) 0 0 [.ref xq, .int x, .int l0, .int y] [ob xq 9 [.ref tq, .ref wq, .ref vq, .int (bI xi), .ref fq, .ref dq, .ref kq, .ref xsq], ao g xsq 4 xs, ob hq 6 [.int (bI hh), .int hl, .int (nI hn), .ref hiq], al g hiq 16 hi] (fun u : Int32 × Bool × Int32 × Nat × (Nat → Int64) => some (.int u.1)) (fun u => [ob xq 9 [.ref tq, .ref wq, .ref vq, .int (bI xi), .ref fq, .ref dq, .ref kq, .ref xsq], ao g xsq 4 xs, ob hq 6 [.int (bI u.2.1), .int u.2.2.1, .int (nI u.2.2.2.1), .ref hiq], al g hiq 16 u.2.2.2.2]) (fun u => (R_sheet x l0 y hh hl hn hi u.1 u.2.1 u.2.2.1 u.2.2.2.1 u.2.2.2.2)) := by
  refine Ke.of (cc := cX9_sheet) (maxL := 4) (ret := (some .int)) (lv := [(0, .ref xq), (1, .int x), (2, .int l0), (3, .int y)]) RX9 rfl (by decide) rfl (Nat.le_of_ble_eq_true rfl) rfl ?_
  intro p e s m below meth c A sz hA9 X hr hin2
  have in9 : ∀ w ∈ u_ws RX9 TX9 8, w ∈ wsX9_sheet := by decide +kernel
  refine V_iload_n (pc := 0) X dX9_sheet_0 rfl 1 rfl ?_
  refine V_iconst (v := 4) (pc := 1) X dX9_sheet_1 (by decide) ?_
  refine V_sg (pc := 2) (nA := 2) (As := [.int x, .int 4]) (rest := []) X (c_X9_isBelow l g (x := x) (b := 4) ) gX9_sheet_X9_isBelow dX9_sheet_2 rfl (by decide +kernel) rfl ⟨rfl, rfl⟩ ⟨Nat.le_of_ble_eq_true rfl, Nat.le_of_ble_eq_true rfl⟩ ⟨Nat.le_of_ble_eq_true rfl, Nat.le_of_ble_eq_true rfl⟩ [] (by decide) rfl rfl (Nat.le_of_ble_eq_true rfl) (st' := [.int (bI (bel x 4))]) rfl ?_
  refine V_if_eq (tgt := 22) (pc := 5) X dX9_sheet_5 (by decide) (fun c_1 => ?_) (fun c_1 => ?_)
  · skip
    have b_2 : (bel x 4) = false := bI0 c_1
    refine V_iconst (v := (-1)) (pc := 22) X dX9_sheet_22 (by decide) ?_
    exact Ve_iret (pc := 23) X hA9 dX9_sheet_23 hr ((-1), hh, hl, hn, hi) (by first | rfl | (simp [b_2]; done)) (by
          try dsimp only
          (unfold R_sheet; first | exact Or.inl ⟨by simp [b_2], rfl, rfl, rfl, rfl, rfl⟩ | exact Or.inr (Or.inl ⟨by simp [b_2], by assumption, rfl, rfl, rfl, rfl, rfl⟩) | exact Or.inr (Or.inr ⟨by simp [b_2], by assumption, rfl, rfl, rfl, rfl, by assumption, fun j hj => by simp [cpF, hj]⟩))) (by rfl)
  · skip
    have b_3 : (bel x 4) = true := bI1 c_1
    refine V_iload_n (pc := 8) X dX9_sheet_8 rfl 2 rfl ?_
    refine V_iconst (v := 3) (pc := 9) X dX9_sheet_9 (by decide) ?_
    refine V_sg (pc := 10) (nA := 2) (As := [.int l0, .int 3]) (rest := []) X (c_X9_isBelow l g (x := l0) (b := 3) ) gX9_sheet_X9_isBelow dX9_sheet_10 rfl (by decide +kernel) rfl ⟨rfl, rfl⟩ ⟨Nat.le_of_ble_eq_true rfl, Nat.le_of_ble_eq_true rfl⟩ ⟨Nat.le_of_ble_eq_true rfl, Nat.le_of_ble_eq_true rfl⟩ [] (by decide) rfl rfl (Nat.le_of_ble_eq_true rfl) (st' := [.int (bI (bel l0 3))]) rfl ?_
    refine V_if_eq (tgt := 22) (pc := 13) X dX9_sheet_13 (by decide) (fun c_4 => ?_) (fun c_4 => ?_)
    · skip
      have b_5 : (bel l0 3) = false := bI0 c_4
      refine V_iconst (v := (-1)) (pc := 22) X dX9_sheet_22 (by decide) ?_
      exact Ve_iret (pc := 23) X hA9 dX9_sheet_23 hr ((-1), hh, hl, hn, hi) (by first | rfl | (simp [b_3, b_5]; done)) (by
            try dsimp only
            (unfold R_sheet; first | exact Or.inl ⟨by simp [b_3, b_5], rfl, rfl, rfl, rfl, rfl⟩ | exact Or.inr (Or.inl ⟨by simp [b_3, b_5], by assumption, rfl, rfl, rfl, rfl, rfl⟩) | exact Or.inr (Or.inr ⟨by simp [b_3, b_5], by assumption, rfl, rfl, rfl, rfl, by assumption, fun j hj => by simp [cpF, hj]⟩))) (by rfl)
    · skip
      have b_6 : (bel l0 3) = true := bI1 c_4
      refine V_iload_n (pc := 16) X dX9_sheet_16 rfl 3 rfl ?_
      refine V_bipush (v := 16) (pc := 17) X dX9_sheet_17 (by decide) ?_
      refine V_icmp_le (tgt := 24) (pc := 19) X dX9_sheet_19 (by decide) (fun c_7 => ?_) (fun c_7 => ?_)
      · skip
        refine V_iload_n (pc := 24) X dX9_sheet_24 rfl 3 rfl ?_
        refine V_if_ge (tgt := 31) (pc := 25) X dX9_sheet_25 (by decide) (fun c_8 => ?_) (fun c_8 => ?_)
        · skip
          obtain ⟨j_9, rfl, hj_10⟩ := sh_nat c_8 c_7
          refine V_aload_n (pc := 31) X dX9_sheet_31 rfl 0 rfl ?_
          refine V_get (C := RX9) (T := TX9) (N := 8) (ci := 9) (pc := 32) X dX9_sheet_32 in9 0 rfl rfl 7 (by decide) (by decide +kernel) rfl rfl ?_
          refine V_iload_n (pc := 35) X dX9_sheet_35 rfl 1 rfl ?_
          refine V_aldq (v := hq) (pc := 36) X dX9_sheet_36 1 rfl (by first | assumption | exact bel_vin (n := 4) (by omega) (by omega) (by omega) (by assumption)) (hs9 (by assumption)) ?_
          refine V_iload_n (pc := 37) X dX9_sheet_37 rfl 2 rfl ?_
          refine V_iload_n (pc := 38) X dX9_sheet_38 rfl 3 rfl ?_
          refine V_ve (pc := 39) (nA := 2) (As := [.int l0, .int (nI j_9)]) (rest := []) X (c_X6_start l g (hq := hq) (hiq := hiq) (hh := hh) (hl := hl) (hn := hn) (hi := hi) (x := l0) (n := j_9) (hn9 := by first | assumption | omega)) gX9_sheet_X6_start dX9_sheet_39 rfl (by decide +kernel) rfl (qb := 2) rfl rfl rfl ⟨rfl, rfl⟩ ⟨Nat.le_of_ble_eq_true rfl, Nat.le_of_ble_eq_true rfl⟩ ⟨Nat.le_of_ble_eq_true rfl, Nat.le_of_ble_eq_true rfl⟩ [2, 3] (by decide) rfl [0, 1] (by decide) (by decide) [ob xq 9 [.ref tq, .ref wq, .ref vq, .int (bI xi), .ref fq, .ref dq, .ref kq, .ref xsq], ao g xsq 4 xs] rfl [0, 1, 2, 3] (by decide) (fun u => [ob xq 9 [.ref tq, .ref wq, .ref vq, .int (bI xi), .ref fq, .ref dq, .ref kq, .ref xsq], ao g xsq 4 xs, ob hq 6 [.int 1, .int l0, .int (nI j_9), .ref hiq], al g hiq 16 (cpF hi (fun _ => 0) j_9)]) (fun _ => rfl) rfl (Nat.le_of_ble_eq_true rfl) (fun u => []) (fun _ => rfl) (fun u hu_11 => ?_)
          refine V_eqw (ws2 := [ob xq 9 [.ref tq, .ref wq, .ref vq, .int (bI xi), .ref fq, .ref dq, .ref kq, .ref xsq], ao g xsq 4 xs, ob hq 6 [.int 1, .int l0, .int (nI j_9), .ref hiq], al g hiq 16 (cpF hi (fun _ => 0) j_9)]) rfl (V_eqs (st2 := []) rfl ?_)
          refine V_iload_n (pc := 42) X dX9_sheet_42 rfl 3 rfl ?_
          exact Ve_iret (pc := 43) X hA9 dX9_sheet_43 hr (nI j_9, true, l0, j_9, cpF hi (fun _ => 0) j_9) (by first | rfl | (simp [b_3, b_6, c_7, c_8, hj_10]; done)) (by
                try dsimp only
                (unfold R_sheet; first | exact Or.inl ⟨by simp [b_3, b_6, c_7, c_8, hj_10], rfl, rfl, rfl, rfl, rfl⟩ | exact Or.inr (Or.inl ⟨by simp [b_3, b_6, c_7, c_8, hj_10], by assumption, rfl, rfl, rfl, rfl, rfl⟩) | exact Or.inr (Or.inr ⟨by simp [b_3, b_6, c_7, c_8, hj_10], by assumption, rfl, rfl, rfl, rfl, by assumption, fun j hj => by simp [cpF, hj]⟩))) (by rfl)
        · skip
          refine V_bipush (v := (-14)) (pc := 28) X dX9_sheet_28 (by decide) ?_
          exact Ve_iret (pc := 30) X hA9 dX9_sheet_30 hr ((-14), hh, hl, hn, hi) (by first | rfl | (simp [b_3, b_6, c_7, c_8]; done)) (by
                try dsimp only
                (unfold R_sheet; first | exact Or.inl ⟨by simp [b_3, b_6, c_7, c_8], rfl, rfl, rfl, rfl, rfl⟩ | exact Or.inr (Or.inl ⟨by simp [b_3, b_6, c_7, c_8], by assumption, rfl, rfl, rfl, rfl, rfl⟩) | exact Or.inr (Or.inr ⟨by simp [b_3, b_6, c_7, c_8], by assumption, rfl, rfl, rfl, rfl, by assumption, fun j hj => by simp [cpF, hj]⟩))) (by rfl)
      · skip
        refine V_iconst (v := (-1)) (pc := 22) X dX9_sheet_22 (by decide) ?_
        exact Ve_iret (pc := 23) X hA9 dX9_sheet_23 hr ((-1), hh, hl, hn, hi) (by first | rfl | (simp [b_3, b_6, c_7]; done)) (by
              try dsimp only
              (unfold R_sheet; first | exact Or.inl ⟨by simp [b_3, b_6, c_7], rfl, rfl, rfl, rfl, rfl⟩ | exact Or.inr (Or.inl ⟨by simp [b_3, b_6, c_7], by assumption, rfl, rfl, rfl, rfl, rfl⟩) | exact Or.inr (Or.inr ⟨by simp [b_3, b_6, c_7], by assumption, rfl, rfl, rfl, rfl, by assumption, fun j hj => by simp [cpF, hj]⟩))) (by rfl)
set_option maxHeartbeats 4000000 in
set_option maxRecDepth 100000 in
theorem c_X9_drop (l : Launch) (g : XG) (xq : Nat) (tq : Nat) (wq : Nat) (vq : Nat) (xi : Bool) (fq : Nat) (dq : Nat) (kq : Nat) (xsq : Nat) (xs : Nat → Option Nat) (hq : Nat) (hh : Bool) (hl : Int32) (hn : Nat) (hiq : Nat) (hi : Nat → Int64) (x : Int32) (hs9 : bel x 4 = true → xs x.toNatClampNeg = some hq) : Ke l g yX9_drop wsX9_drop ({ frames := 1, cells := 0, slots := 0, locals := 21 } : Room) 0 0 [.ref xq, .int x] [ob xq 9 [.ref tq, .ref wq, .ref vq, .int (bI xi), .ref fq, .ref dq, .ref kq, .ref xsq], ao g xsq 4 xs, ob hq 6 [.int (bI hh), .int hl, .int (nI hn), .ref hiq], al g hiq 16 hi] (fun u : Int32 × Bool => some (.int u.1)) (fun u => [ob xq 9 [.ref tq, .ref wq, .ref vq, .int (bI xi), .ref fq, .ref dq, .ref kq, .ref xsq], ao g xsq 4 xs, ob hq 6 [.int (bI u.2), .int hl, .int (nI hn), .ref hiq], al g hiq 16 hi]) (fun u => (R_drop x hh hn u.1 u.2)) := by
  refine Ke.of (cc := cX9_drop) (maxL := 2) (ret := (some .int)) (lv := [(0, .ref xq), (1, .int x)]) RX9 rfl (by decide) rfl (Nat.le_of_ble_eq_true rfl) rfl ?_
  intro p e s m below meth c A sz hA9 X hr hin2
  have in6 : ∀ w ∈ u_ws RX6 TX6 4, w ∈ wsX9_drop := by decide +kernel
  have in9 : ∀ w ∈ u_ws RX9 TX9 8, w ∈ wsX9_drop := by decide +kernel
  refine V_iload_n (pc := 0) X dX9_drop_0 rfl 1 rfl ?_
  refine V_iconst (v := 4) (pc := 1) X dX9_drop_1 (by decide) ?_
  refine V_sg (pc := 2) (nA := 2) (As := [.int x, .int 4]) (rest := []) X (c_X9_isBelow l g (x := x) (b := 4) ) gX9_drop_X9_isBelow dX9_drop_2 rfl (by decide +kernel) rfl ⟨rfl, rfl⟩ ⟨Nat.le_of_ble_eq_true rfl, Nat.le_of_ble_eq_true rfl⟩ ⟨Nat.le_of_ble_eq_true rfl, Nat.le_of_ble_eq_true rfl⟩ [] (by decide) rfl rfl (Nat.le_of_ble_eq_true rfl) (st' := [.int (bI (bel x 4))]) rfl ?_
  refine V_if_ne (tgt := 10) (pc := 5) X dX9_drop_5 (by decide) (fun c_1 => ?_) (fun c_1 => ?_)
  · skip
    have b_2 : (bel x 4) = true := bI1 c_1
    refine V_aload_n (pc := 10) X dX9_drop_10 rfl 0 rfl ?_
    refine V_get (C := RX9) (T := TX9) (N := 8) (ci := 9) (pc := 11) X dX9_drop_11 in9 0 rfl rfl 7 (by decide) (by decide +kernel) rfl rfl ?_
    refine V_iload_n (pc := 14) X dX9_drop_14 rfl 1 rfl ?_
    refine V_aldq (v := hq) (pc := 15) X dX9_drop_15 1 rfl (by first | assumption | exact bel_vin (n := 4) (by omega) (by omega) (by omega) (by assumption)) (hs9 (by assumption)) ?_
    refine V_get (C := RX6) (T := TX6) (N := 4) (ci := 6) (pc := 16) X dX9_drop_16 in6 2 rfl rfl 0 (by decide) (by decide +kernel) rfl rfl ?_
    refine V_if_ne (tgt := 25) (pc := 19) X dX9_drop_19 (by decide) (fun c_3 => ?_) (fun c_3 => ?_)
    · skip
      have b_4 : hh = true := bI1 c_3
      refine V_aload_n (pc := 25) X dX9_drop_25 rfl 0 rfl ?_
      refine V_get (C := RX9) (T := TX9) (N := 8) (ci := 9) (pc := 26) X dX9_drop_26 in9 0 rfl rfl 7 (by decide) (by decide +kernel) rfl rfl ?_
      refine V_iload_n (pc := 29) X dX9_drop_29 rfl 1 rfl ?_
      refine V_aldq (v := hq) (pc := 30) X dX9_drop_30 1 rfl (by first | assumption | exact bel_vin (n := 4) (by omega) (by omega) (by omega) (by assumption)) (hs9 (by assumption)) ?_
      refine V_iconst (v := 0) (pc := 31) X dX9_drop_31 (by decide) ?_
      refine V_put (C := RX6) (T := TX6) (N := 4) (ci := 6) (ws' := [ob xq 9 [.ref tq, .ref wq, .ref vq, .int (bI xi), .ref fq, .ref dq, .ref kq, .ref xsq], ao g xsq 4 xs, ob hq 6 [.int 0, .int hl, .int (nI hn), .ref hiq], al g hiq 16 hi]) (pc := 32) X dX9_drop_32 in6 tyX6 tyX6_ok nmX6 2 rfl rfl 0 (by decide) (by decide +kernel) rfl rfl rfl rfl rfl (Nat.le_of_ble_eq_true rfl) rfl ?_
      refine V_aload_n (pc := 35) X dX9_drop_35 rfl 0 rfl ?_
      refine V_get (C := RX9) (T := TX9) (N := 8) (ci := 9) (pc := 36) X dX9_drop_36 in9 0 rfl rfl 7 (by decide) (by decide +kernel) rfl rfl ?_
      refine V_iload_n (pc := 39) X dX9_drop_39 rfl 1 rfl ?_
      refine V_aldq (v := hq) (pc := 40) X dX9_drop_40 1 rfl (by first | assumption | exact bel_vin (n := 4) (by omega) (by omega) (by omega) (by assumption)) (hs9 (by assumption)) ?_
      refine V_get (C := RX6) (T := TX6) (N := 4) (ci := 6) (pc := 41) X dX9_drop_41 in6 2 rfl rfl 2 (by decide) (by decide +kernel) rfl rfl ?_
      exact Ve_iret (pc := 44) X hA9 dX9_drop_44 hr (nI hn, false) (by first | rfl | (simp [b_2, b_4]; done)) (by
            try dsimp only
            (unfold R_drop; first | (refine Or.inl ⟨?_, ?_, ?_⟩ <;> first | rfl | assumption | omega | (simp [b_2, b_4]; done)) | (refine Or.inr (Or.inl ⟨?_, ?_, ?_, ?_⟩) <;> first | rfl | assumption | omega | (simp [b_2, b_4]; done)) | (refine Or.inr (Or.inr (⟨?_, ?_, ?_, ?_⟩)) <;> first | rfl | assumption | omega | (simp [b_2, b_4]; done)))) (by rfl)
    · skip
      have b_5 : hh = false := bI0 c_3
      refine V_bipush (v := (-11)) (pc := 22) X dX9_drop_22 (by decide) ?_
      exact Ve_iret (pc := 24) X hA9 dX9_drop_24 hr ((-11), hh) (by first | rfl | (simp [b_2, b_5]; done)) (by
            try dsimp only
            (unfold R_drop; first | (refine Or.inl ⟨?_, ?_, ?_⟩ <;> first | rfl | assumption | omega | (simp [b_2, b_5]; done)) | (refine Or.inr (Or.inl ⟨?_, ?_, ?_, ?_⟩) <;> first | rfl | assumption | omega | (simp [b_2, b_5]; done)) | (refine Or.inr (Or.inr (⟨?_, ?_, ?_, ?_⟩)) <;> first | rfl | assumption | omega | (simp [b_2, b_5]; done)))) (by rfl)
  · skip
    have b_6 : (bel x 4) = false := bI0 c_1
    refine V_iconst (v := (-1)) (pc := 8) X dX9_drop_8 (by decide) ?_
    exact Ve_iret (pc := 9) X hA9 dX9_drop_9 hr ((-1), hh) (by first | rfl | (simp [b_6]; done)) (by
          try dsimp only
          (unfold R_drop; first | (refine Or.inl ⟨?_, ?_, ?_⟩ <;> first | rfl | assumption | omega | (simp [b_6]; done)) | (refine Or.inr (Or.inl ⟨?_, ?_, ?_, ?_⟩) <;> first | rfl | assumption | omega | (simp [b_6]; done)) | (refine Or.inr (Or.inr (⟨?_, ?_, ?_, ?_⟩)) <;> first | rfl | assumption | omega | (simp [b_6]; done)))) (by rfl)
set_option maxHeartbeats 4000000 in
set_option maxRecDepth 100000 in
theorem c_X9_item (l : Launch) (g : XG) (xq : Nat) (tq : Nat) (wq : Nat) (vq : Nat) (xi : Bool) (fq : Nat) (dq : Nat) (kq : Nat) (xsq : Nat) (xs : Nat → Option Nat) (hq : Nat) (hh : Bool) (hl : Int32) (hn : Nat) (hiq : Nat) (hi : Nat → Int64) (x : Int32) (l0 : Int32) (i : Int32) (v : Int64) (hs9 : bel x 4 = true → xs x.toNatClampNeg = some hq) (hn9 : hn ≤ 16) : Ke l g yX9_item wsX9_item ({ frames := 2, cells := 0, slots := 0, locals := 45 } : Room) 0 0 [.ref xq, .int x, .int l0, .int i, .long v] [ob xq 9 [.ref tq, .ref wq, .ref vq, .int (bI xi), .ref fq, .ref dq, .ref kq, .ref xsq], ao g xsq 4 xs, ob hq 6 [.int (bI hh), .int hl, .int (nI hn), .ref hiq], al g hiq 16 hi] (fun u : Int32 × (Nat → Int64) => some (.int u.1)) (fun u => [ob xq 9 [.ref tq, .ref wq, .ref vq, .int (bI xi), .ref fq, .ref dq, .ref kq, .ref xsq], ao g xsq 4 xs, ob hq 6 [.int (bI hh), .int hl, .int (nI hn), .ref hiq], al g hiq 16 u.2]) (fun u => (R_item x l0 i v hh hl hn hi u.1 u.2)) := by
  refine Ke.of (cc := cX9_item) (maxL := 7) (ret := (some .int)) (lv := [(0, .ref xq), (1, .int x), (2, .int l0), (3, .int i), (4, .long v)]) RX9 rfl (by decide) rfl (Nat.le_of_ble_eq_true rfl) rfl ?_
  intro p e s m below meth c A sz hA9 X hr hin2
  have in9 : ∀ w ∈ u_ws RX9 TX9 8, w ∈ wsX9_item := by decide +kernel
  refine V_iload_n (pc := 0) X dX9_item_0 rfl 1 rfl ?_
  refine V_iconst (v := 4) (pc := 1) X dX9_item_1 (by decide) ?_
  refine V_sg (pc := 2) (nA := 2) (As := [.int x, .int 4]) (rest := []) X (c_X9_isBelow l g (x := x) (b := 4) ) gX9_item_X9_isBelow dX9_item_2 rfl (by decide +kernel) rfl ⟨rfl, rfl⟩ ⟨Nat.le_of_ble_eq_true rfl, Nat.le_of_ble_eq_true rfl⟩ ⟨Nat.le_of_ble_eq_true rfl, Nat.le_of_ble_eq_true rfl⟩ [] (by decide) rfl rfl (Nat.le_of_ble_eq_true rfl) (st' := [.int (bI (bel x 4))]) rfl ?_
  refine V_if_eq (tgt := 16) (pc := 5) X dX9_item_5 (by decide) (fun c_1 => ?_) (fun c_1 => ?_)
  · skip
    have b_2 : (bel x 4) = false := bI0 c_1
    refine V_iconst (v := (-1)) (pc := 16) X dX9_item_16 (by decide) ?_
    exact Ve_iret (pc := 17) X hA9 dX9_item_17 hr ((-1), hi) (by first | rfl | (simp [b_2]; done)) (by
          try dsimp only
          (unfold R_item; first | (refine Or.inl ⟨?_, ?_, ?_⟩ <;> first | rfl | assumption | omega | (simp [b_2]; done)) | (refine Or.inr (Or.inl ⟨?_, ?_, ?_, ?_⟩) <;> first | rfl | assumption | omega | (simp [b_2]; done)) | (refine Or.inr (Or.inr (⟨?_, ?_, ?_, ?_⟩)) <;> first | rfl | assumption | omega | (simp [b_2]; done)))) (by rfl)
  · skip
    have b_3 : (bel x 4) = true := bI1 c_1
    refine V_iload_n (pc := 8) X dX9_item_8 rfl 2 rfl ?_
    refine V_iconst (v := 3) (pc := 9) X dX9_item_9 (by decide) ?_
    refine V_sg (pc := 10) (nA := 2) (As := [.int l0, .int 3]) (rest := []) X (c_X9_isBelow l g (x := l0) (b := 3) ) gX9_item_X9_isBelow dX9_item_10 rfl (by decide +kernel) rfl ⟨rfl, rfl⟩ ⟨Nat.le_of_ble_eq_true rfl, Nat.le_of_ble_eq_true rfl⟩ ⟨Nat.le_of_ble_eq_true rfl, Nat.le_of_ble_eq_true rfl⟩ [] (by decide) rfl rfl (Nat.le_of_ble_eq_true rfl) (st' := [.int (bI (bel l0 3))]) rfl ?_
    refine V_if_ne (tgt := 18) (pc := 13) X dX9_item_13 (by decide) (fun c_4 => ?_) (fun c_4 => ?_)
    · skip
      have b_5 : (bel l0 3) = true := bI1 c_4
      refine V_aload_n (pc := 18) X dX9_item_18 rfl 0 rfl ?_
      refine V_get (C := RX9) (T := TX9) (N := 8) (ci := 9) (pc := 19) X dX9_item_19 in9 0 rfl rfl 7 (by decide) (by decide +kernel) rfl rfl ?_
      refine V_iload_n (pc := 22) X dX9_item_22 rfl 1 rfl ?_
      refine V_aldq (v := hq) (pc := 23) X dX9_item_23 1 rfl (by first | assumption | exact bel_vin (n := 4) (by omega) (by omega) (by omega) (by assumption)) (hs9 (by assumption)) ?_
      refine V_iload_n (pc := 24) X dX9_item_24 rfl 2 rfl ?_
      refine V_iload_n (pc := 25) X dX9_item_25 rfl 3 rfl ?_
      refine V_iconst (v := 1) (pc := 26) X dX9_item_26 (by decide) ?_
      refine V_vg (pc := 27) (nA := 3) (As := [.int l0, .int i, .int 1]) (rest := []) X (c_X6_refusal l g (hq := hq) (hiq := hiq) (hh := hh) (hl := hl) (hn := hn) (hi := hi) (x := l0) (y := i) (w := 1) ) gX9_item_X6_refusal dX9_item_27 rfl (by decide +kernel) rfl (qb := 2) rfl rfl rfl ⟨rfl, rfl⟩ ⟨Nat.le_of_ble_eq_true rfl, Nat.le_of_ble_eq_true rfl⟩ ⟨Nat.le_of_ble_eq_true rfl, Nat.le_of_ble_eq_true rfl⟩ [2, 3] (by decide) rfl rfl (Nat.le_of_ble_eq_true rfl) (st' := [.int (rfs hh hl hn l0 i 1)]) rfl ?_
      refine V_istore (lv' := [(6, .int (rfs hh hl hn l0 i 1)), (0, .ref xq), (1, .int x), (2, .int l0), (3, .int i), (4, .long v)]) (pc := 30) X dX9_item_30 (Nat.le_of_ble_eq_true rfl) rfl ?_
      refine V_iload (pc := 32) X dX9_item_32 0 rfl ?_
      refine V_if_eq (tgt := 40) (pc := 34) X dX9_item_34 (by decide) (fun c_6 => ?_) (fun c_6 => ?_)
      · skip
        refine V_aload_n (pc := 40) X dX9_item_40 rfl 1 rfl ?_
        refine V_get (C := RX9) (T := TX9) (N := 8) (ci := 9) (pc := 41) X dX9_item_41 in9 0 rfl rfl 7 (by decide) (by decide +kernel) rfl rfl ?_
        refine V_iload_n (pc := 44) X dX9_item_44 rfl 2 rfl ?_
        refine V_aldq (v := hq) (pc := 45) X dX9_item_45 1 rfl (by first | assumption | exact bel_vin (n := 4) (by omega) (by omega) (by omega) (by assumption)) (hs9 (by assumption)) ?_
        refine V_iload_n (pc := 46) X dX9_item_46 rfl 4 rfl ?_
        refine V_lload (pc := 47) X dX9_item_47 5 rfl ?_
        refine V_ve (pc := 49) (nA := 2) (As := [.int i, .long v]) (rest := []) X (c_X6_put l g (hq := hq) (hiq := hiq) (hh := hh) (hl := hl) (hn := hn) (hi := hi) (x := i) (v := v) (hx := by exact rfs_vin hn9 (by assumption))) gX9_item_X6_put dX9_item_49 rfl (by decide +kernel) rfl (qb := 2) rfl rfl rfl ⟨rfl, rfl⟩ ⟨Nat.le_of_ble_eq_true rfl, Nat.le_of_ble_eq_true rfl⟩ ⟨Nat.le_of_ble_eq_true rfl, Nat.le_of_ble_eq_true rfl⟩ [2, 3] (by decide) rfl [0, 1] (by decide) (by decide) [ob xq 9 [.ref tq, .ref wq, .ref vq, .int (bI xi), .ref fq, .ref dq, .ref kq, .ref xsq], ao g xsq 4 xs] rfl [0, 1, 2, 3] (by decide) (fun u => [ob xq 9 [.ref tq, .ref wq, .ref vq, .int (bI xi), .ref fq, .ref dq, .ref kq, .ref xsq], ao g xsq 4 xs, ob hq 6 [.int (bI hh), .int hl, .int (nI hn), .ref hiq], al g hiq 16 (vp_updL hi i.toNatClampNeg (cutL hl v))]) (fun _ => rfl) rfl (Nat.le_of_ble_eq_true rfl) (fun u => []) (fun _ => rfl) (fun u hu_7 => ?_)
        refine V_eqw (ws2 := [ob xq 9 [.ref tq, .ref wq, .ref vq, .int (bI xi), .ref fq, .ref dq, .ref kq, .ref xsq], ao g xsq 4 xs, ob hq 6 [.int (bI hh), .int hl, .int (nI hn), .ref hiq], al g hiq 16 (vp_updL hi i.toNatClampNeg (cutL hl v))]) rfl (V_eqs (st2 := []) rfl ?_)
        refine V_iconst (v := 1) (pc := 52) X dX9_item_52 (by decide) ?_
        exact Ve_iret (pc := 53) X hA9 dX9_item_53 hr (1, vp_updL hi i.toNatClampNeg (cutL hl v)) (by first | rfl | (simp [b_3, b_5, c_6]; done)) (by
              try dsimp only
              (unfold R_item; first | (refine Or.inl ⟨?_, ?_, ?_⟩ <;> first | rfl | assumption | omega | (simp [b_3, b_5, c_6]; done)) | (refine Or.inr (Or.inl ⟨?_, ?_, ?_, ?_⟩) <;> first | rfl | assumption | omega | (simp [b_3, b_5, c_6]; done)) | (refine Or.inr (Or.inr (⟨?_, ?_, ?_, ?_⟩)) <;> first | rfl | assumption | omega | (simp [b_3, b_5, c_6]; done)))) (by rfl)
      · skip
        refine V_iload (pc := 37) X dX9_item_37 0 rfl ?_
        exact Ve_iret (pc := 39) X hA9 dX9_item_39 hr (rfs hh hl hn l0 i 1, hi) (by first | rfl | (simp [b_3, b_5, c_6]; done)) (by
              try dsimp only
              (unfold R_item; first | (refine Or.inl ⟨?_, ?_, ?_⟩ <;> first | rfl | assumption | omega | (simp [b_3, b_5, c_6]; done)) | (refine Or.inr (Or.inl ⟨?_, ?_, ?_, ?_⟩) <;> first | rfl | assumption | omega | (simp [b_3, b_5, c_6]; done)) | (refine Or.inr (Or.inr (⟨?_, ?_, ?_, ?_⟩)) <;> first | rfl | assumption | omega | (simp [b_3, b_5, c_6]; done)))) (by rfl)
    · skip
      have b_8 : (bel l0 3) = false := bI0 c_4
      refine V_iconst (v := (-1)) (pc := 16) X dX9_item_16 (by decide) ?_
      exact Ve_iret (pc := 17) X hA9 dX9_item_17 hr ((-1), hi) (by first | rfl | (simp [b_3, b_8]; done)) (by
            try dsimp only
            (unfold R_item; first | (refine Or.inl ⟨?_, ?_, ?_⟩ <;> first | rfl | assumption | omega | (simp [b_3, b_8]; done)) | (refine Or.inr (Or.inl ⟨?_, ?_, ?_, ?_⟩) <;> first | rfl | assumption | omega | (simp [b_3, b_8]; done)) | (refine Or.inr (Or.inr (⟨?_, ?_, ?_, ?_⟩)) <;> first | rfl | assumption | omega | (simp [b_3, b_8]; done)))) (by rfl)
set_option maxHeartbeats 4000000 in
set_option maxRecDepth 100000 in
theorem c_X9_copy_ne (l : Launch) (g : XG) (xq : Nat) (tq : Nat) (wq : Nat) (vq : Nat) (xi : Bool) (fq : Nat) (dq : Nat) (coq : Nat) (xsq : Nat) (xs : Nat → Option Nat) (hq : Nat) (hh : Bool) (hl : Int32) (hn : Nat) (hiq : Nat) (hi : Nat → Int64) (kq : Nat) (kh : Bool) (kl : Int32) (kn : Nat) (kiq : Nat) (ki : Nat → Int64) (x : Int32) (i : Int32) (y : Int32) (j : Int32) (k0 : Int32) (hs9 : bel x 4 = true → xs x.toNatClampNeg = some hq) (hs8 : bel y 4 = true → xs y.toNatClampNeg = some kq) (hn9 : hn ≤ 16) (hn8 : kn ≤ 16) : Ke l g yX9_copy wsX9_copy ({ frames := 1, cells := 0, slots := 0, locals := 60 } : Room) 0 0 [.ref xq, .int x, .int i, .int y, .int j, .int k0] [ob xq 9 [.ref tq, .ref wq, .ref vq, .int (bI xi), .ref fq, .ref dq, .ref coq, .ref xsq], ao g xsq 4 xs, ob hq 6 [.int (bI hh), .int hl, .int (nI hn), .ref hiq], al g hiq 16 hi, ob kq 6 [.int (bI kh), .int kl, .int (nI kn), .ref kiq], al g kiq 16 ki] (fun u : Int32 × (Nat → Int64) => some (.int u.1)) (fun u => [ob xq 9 [.ref tq, .ref wq, .ref vq, .int (bI xi), .ref fq, .ref dq, .ref coq, .ref xsq], ao g xsq 4 xs, ob hq 6 [.int (bI hh), .int hl, .int (nI hn), .ref hiq], al g hiq 16 hi, ob kq 6 [.int (bI kh), .int kl, .int (nI kn), .ref kiq], al g kiq 16 u.2]) (fun u => (R_copy x y i j k0 hh kh hl kl hn kn hi ki u.1 u.2)) := by
  refine Ke.of (cc := cX9_copy) (maxL := 8) (ret := (some .int)) (lv := [(0, .ref xq), (1, .int x), (2, .int i), (3, .int y), (4, .int j), (5, .int k0)]) RX9 rfl (by decide) rfl (Nat.le_of_ble_eq_true rfl) rfl ?_
  intro p e s m below meth c A sz hA9 X hr hin2
  have in6 : ∀ w ∈ u_ws RX6 TX6 4, w ∈ wsX9_copy := by decide +kernel
  have in9 : ∀ w ∈ u_ws RX9 TX9 8, w ∈ wsX9_copy := by decide +kernel
  refine V_iload_n (pc := 0) X dX9_copy_0 rfl 1 rfl ?_
  refine V_iconst (v := 4) (pc := 1) X dX9_copy_1 (by decide) ?_
  refine V_sg (pc := 2) (nA := 2) (As := [.int x, .int 4]) (rest := []) X (c_X9_isBelow l g (x := x) (b := 4) ) gX9_copy_X9_isBelow dX9_copy_2 rfl (by decide +kernel) rfl ⟨rfl, rfl⟩ ⟨Nat.le_of_ble_eq_true rfl, Nat.le_of_ble_eq_true rfl⟩ ⟨Nat.le_of_ble_eq_true rfl, Nat.le_of_ble_eq_true rfl⟩ [] (by decide) rfl rfl (Nat.le_of_ble_eq_true rfl) (st' := [.int (bI (bel x 4))]) rfl ?_
  refine V_if_eq (tgt := 16) (pc := 5) X dX9_copy_5 (by decide) (fun c_1 => ?_) (fun c_1 => ?_)
  · skip
    have b_2 : (bel x 4) = false := bI0 c_1
    refine V_iconst (v := (-1)) (pc := 16) X dX9_copy_16 (by decide) ?_
    exact Ve_iret (pc := 17) X hA9 dX9_copy_17 hr ((-1), ki) (by first | rfl | (simp [b_2]; done)) (by
          try dsimp only
          (unfold R_copy; exact Or.inl ⟨by simp [copyR, b_2], by simp [copyR, b_2], rfl⟩)) (by rfl)
  · skip
    have b_3 : (bel x 4) = true := bI1 c_1
    refine V_iload_n (pc := 8) X dX9_copy_8 rfl 3 rfl ?_
    refine V_iconst (v := 4) (pc := 9) X dX9_copy_9 (by decide) ?_
    refine V_sg (pc := 10) (nA := 2) (As := [.int y, .int 4]) (rest := []) X (c_X9_isBelow l g (x := y) (b := 4) ) gX9_copy_X9_isBelow dX9_copy_10 rfl (by decide +kernel) rfl ⟨rfl, rfl⟩ ⟨Nat.le_of_ble_eq_true rfl, Nat.le_of_ble_eq_true rfl⟩ ⟨Nat.le_of_ble_eq_true rfl, Nat.le_of_ble_eq_true rfl⟩ [] (by decide) rfl rfl (Nat.le_of_ble_eq_true rfl) (st' := [.int (bI (bel y 4))]) rfl ?_
    refine V_if_ne (tgt := 18) (pc := 13) X dX9_copy_13 (by decide) (fun c_4 => ?_) (fun c_4 => ?_)
    · skip
      have b_5 : (bel y 4) = true := bI1 c_4
      refine V_aload_n (pc := 18) X dX9_copy_18 rfl 0 rfl ?_
      refine V_get (C := RX9) (T := TX9) (N := 8) (ci := 9) (pc := 19) X dX9_copy_19 in9 0 rfl rfl 7 (by decide) (by decide +kernel) rfl rfl ?_
      refine V_iload_n (pc := 22) X dX9_copy_22 rfl 1 rfl ?_
      refine V_aldq (v := hq) (pc := 23) X dX9_copy_23 1 rfl (by first | assumption | exact bel_vin (n := 4) (by omega) (by omega) (by omega) (by assumption)) (hs9 (by assumption)) ?_
      refine V_astore (lv' := [(6, .ref hq), (0, .ref xq), (1, .int x), (2, .int i), (3, .int y), (4, .int j), (5, .int k0)]) (pc := 24) X dX9_copy_24 (Nat.le_of_ble_eq_true rfl) rfl ?_
      refine V_aload_n (pc := 26) X dX9_copy_26 rfl 1 rfl ?_
      refine V_get (C := RX9) (T := TX9) (N := 8) (ci := 9) (pc := 27) X dX9_copy_27 in9 0 rfl rfl 7 (by decide) (by decide +kernel) rfl rfl ?_
      refine V_iload_n (pc := 30) X dX9_copy_30 rfl 4 rfl ?_
      refine V_aldq (v := kq) (pc := 31) X dX9_copy_31 1 rfl (by first | assumption | exact bel_vin (n := 4) (by omega) (by omega) (by omega) (by assumption)) (hs8 (by assumption)) ?_
      refine V_astore (lv' := [(7, .ref kq), (6, .ref hq), (0, .ref xq), (1, .int x), (2, .int i), (3, .int y), (4, .int j), (5, .int k0)]) (pc := 32) X dX9_copy_32 (Nat.le_of_ble_eq_true rfl) rfl ?_
      refine V_aload (pc := 34) X dX9_copy_34 1 rfl ?_
      refine V_get (C := RX6) (T := TX6) (N := 4) (ci := 6) (pc := 36) X dX9_copy_36 in6 2 rfl rfl 0 (by decide) (by decide +kernel) rfl rfl ?_
      refine V_if_eq (tgt := 50) (pc := 39) X dX9_copy_39 (by decide) (fun c_6 => ?_) (fun c_6 => ?_)
      · skip
        have b_7 : hh = false := bI0 c_6
        refine V_bipush (v := (-11)) (pc := 50) X dX9_copy_50 (by decide) ?_
        exact Ve_iret (pc := 52) X hA9 dX9_copy_52 hr ((-11), ki) (by first | rfl | (simp [b_3, b_5, b_7]; done)) (by
              try dsimp only
              (unfold R_copy; exact Or.inl ⟨by simp [copyR, b_3, b_5, b_7], by simp [copyR, b_3, b_5, b_7], rfl⟩)) (by rfl)
      · skip
        have b_8 : hh = true := bI1 c_6
        refine V_aload (pc := 42) X dX9_copy_42 0 rfl ?_
        refine V_get (C := RX6) (T := TX6) (N := 4) (ci := 6) (pc := 44) X dX9_copy_44 in6 4 rfl rfl 0 (by decide) (by decide +kernel) rfl rfl ?_
        refine V_if_ne (tgt := 53) (pc := 47) X dX9_copy_47 (by decide) (fun c_9 => ?_) (fun c_9 => ?_)
        · skip
          have b_10 : kh = true := bI1 c_9
          refine V_aload (pc := 53) X dX9_copy_53 1 rfl ?_
          refine V_get (C := RX6) (T := TX6) (N := 4) (ci := 6) (pc := 55) X dX9_copy_55 in6 2 rfl rfl 1 (by decide) (by decide +kernel) rfl rfl ?_
          refine V_aload (pc := 58) X dX9_copy_58 0 rfl ?_
          refine V_get (C := RX6) (T := TX6) (N := 4) (ci := 6) (pc := 60) X dX9_copy_60 in6 4 rfl rfl 1 (by decide) (by decide +kernel) rfl rfl ?_
          refine V_icmp_eq (tgt := 69) (pc := 63) X dX9_copy_63 (by decide) (fun c_11 => ?_) (fun c_11 => ?_)
          · skip
            refine V_aload (pc := 69) X dX9_copy_69 1 rfl ?_
            refine V_iload_n (pc := 71) X dX9_copy_71 rfl 4 rfl ?_
            refine V_iload (pc := 72) X dX9_copy_72 7 rfl ?_
            refine V_vg (pc := 74) (nA := 2) (As := [.int i, .int k0]) (rest := []) X (c_X6_spans l g (hq := hq) (hiq := hiq) (hh := hh) (hl := hl) (hn := hn) (hi := hi) (x := i) (y := k0) ) gX9_copy_X6_spans dX9_copy_74 rfl (by decide +kernel) rfl (qb := 2) rfl rfl rfl ⟨rfl, rfl⟩ ⟨Nat.le_of_ble_eq_true rfl, Nat.le_of_ble_eq_true rfl⟩ ⟨Nat.le_of_ble_eq_true rfl, Nat.le_of_ble_eq_true rfl⟩ [2, 3] (by decide) rfl rfl (Nat.le_of_ble_eq_true rfl) (st' := [.int (bI (spn i k0 hn))]) rfl ?_
            refine V_if_eq (tgt := 92) (pc := 77) X dX9_copy_77 (by decide) (fun c_12 => ?_) (fun c_12 => ?_)
            · skip
              have b_13 : (spn i k0 hn) = false := bI0 c_12
              refine V_bipush (v := (-13)) (pc := 92) X dX9_copy_92 (by decide) ?_
              exact Ve_iret (pc := 94) X hA9 dX9_copy_94 hr ((-13), ki) (by first | rfl | (simp [b_3, b_5, b_8, b_10, c_11, b_13]; done)) (by
                    try dsimp only
                    (unfold R_copy; exact Or.inl ⟨by simp [copyR, b_3, b_5, b_8, b_10, c_11, b_13], by simp [copyR, b_3, b_5, b_8, b_10, c_11, b_13], rfl⟩)) (by rfl)
            · skip
              have b_14 : (spn i k0 hn) = true := bI1 c_12
              refine V_aload (pc := 80) X dX9_copy_80 0 rfl ?_
              refine V_iload (pc := 82) X dX9_copy_82 6 rfl ?_
              refine V_iload (pc := 84) X dX9_copy_84 7 rfl ?_
              refine V_vg (pc := 86) (nA := 2) (As := [.int j, .int k0]) (rest := []) X (c_X6_spans l g (hq := kq) (hiq := kiq) (hh := kh) (hl := kl) (hn := kn) (hi := ki) (x := j) (y := k0) ) gX9_copy_X6_spans dX9_copy_86 rfl (by decide +kernel) rfl (qb := 4) rfl rfl rfl ⟨rfl, rfl⟩ ⟨Nat.le_of_ble_eq_true rfl, Nat.le_of_ble_eq_true rfl⟩ ⟨Nat.le_of_ble_eq_true rfl, Nat.le_of_ble_eq_true rfl⟩ [4, 5] (by decide) rfl rfl (Nat.le_of_ble_eq_true rfl) (st' := [.int (bI (spn j k0 kn))]) rfl ?_
              refine V_if_ne (tgt := 95) (pc := 89) X dX9_copy_89 (by decide) (fun c_15 => ?_) (fun c_15 => ?_)
              · skip
                have b_16 : (spn j k0 kn) = true := bI1 c_15
                refine V_aload (pc := 95) X dX9_copy_95 1 rfl ?_
                refine V_get (C := RX6) (T := TX6) (N := 4) (ci := 6) (pc := 97) X dX9_copy_97 in6 2 rfl rfl 3 (by decide) (by decide +kernel) rfl rfl ?_
                refine V_iload_n (pc := 100) X dX9_copy_100 rfl 4 rfl ?_
                refine V_aload (pc := 101) X dX9_copy_101 0 rfl ?_
                refine V_get (C := RX6) (T := TX6) (N := 4) (ci := 6) (pc := 103) X dX9_copy_103 in6 4 rfl rfl 3 (by decide) (by decide +kernel) rfl rfl ?_
                refine V_iload (pc := 106) X dX9_copy_106 6 rfl ?_
                refine V_iload (pc := 108) X dX9_copy_108 7 rfl ?_
                have k1 := spn_3 hn9 b_14
                have k2 := spn_3 hn8 b_16
                refine V_copyl (f' := va_cpy hi ki i.toNatClampNeg j.toNatClampNeg k0.toNatClampNeg) (ws' := [ob xq 9 [.ref tq, .ref wq, .ref vq, .int (bI xi), .ref fq, .ref dq, .ref coq, .ref xsq], ao g xsq 4 xs, ob hq 6 [.int (bI hh), .int hl, .int (nI hn), .ref hiq], al g hiq 16 hi, ob kq 6 [.int (bI kh), .int kl, .int (nI kn), .ref kiq], al g kiq 16 (va_cpy hi ki i.toNatClampNeg j.toNatClampNeg k0.toNatClampNeg)]) (pc := 110) X dX9_copy_110 (by decide +kernel) (by decide +kernel) (by decide +kernel) (by decide +kernel) 3 5 rfl rfl k1.1 k2.1 k1.2.1 (Nat.le_trans k1.2.2 hn9) (Nat.le_trans k2.2.2 hn8) (Nat.le_of_ble_eq_true rfl) (by decide +kernel) rfl rfl ?_
                refine V_iload (pc := 113) X dX9_copy_113 7 rfl ?_
                exact Ve_iret (pc := 115) X hA9 dX9_copy_115 hr (k0, va_cpy hi ki i.toNatClampNeg j.toNatClampNeg k0.toNatClampNeg) (by first | rfl | (simp [b_3, b_5, b_8, b_10, c_11, b_14, b_16]; done)) (by
                      try dsimp only
                      (unfold R_copy; exact Or.inr ⟨copyR_0 (by assumption) (by assumption) (by assumption) (by assumption) (by first | assumption | rfl) (by assumption) (by assumption), rfl, rfl⟩)) (by rfl)
              · skip
                have b_17 : (spn j k0 kn) = false := bI0 c_15
                refine V_bipush (v := (-13)) (pc := 92) X dX9_copy_92 (by decide) ?_
                exact Ve_iret (pc := 94) X hA9 dX9_copy_94 hr ((-13), ki) (by first | rfl | (simp [b_3, b_5, b_8, b_10, c_11, b_14, b_17]; done)) (by
                      try dsimp only
                      (unfold R_copy; exact Or.inl ⟨by simp [copyR, b_3, b_5, b_8, b_10, c_11, b_14, b_17], by simp [copyR, b_3, b_5, b_8, b_10, c_11, b_14, b_17], rfl⟩)) (by rfl)
          · skip
            refine V_bipush (v := (-12)) (pc := 66) X dX9_copy_66 (by decide) ?_
            exact Ve_iret (pc := 68) X hA9 dX9_copy_68 hr ((-12), ki) (by first | rfl | (simp [b_3, b_5, b_8, b_10, c_11]; done)) (by
                  try dsimp only
                  (unfold R_copy; exact Or.inl ⟨by simp [copyR, b_3, b_5, b_8, b_10, c_11], by simp [copyR, b_3, b_5, b_8, b_10, c_11], rfl⟩)) (by rfl)
        · skip
          have b_18 : kh = false := bI0 c_9
          refine V_bipush (v := (-11)) (pc := 50) X dX9_copy_50 (by decide) ?_
          exact Ve_iret (pc := 52) X hA9 dX9_copy_52 hr ((-11), ki) (by first | rfl | (simp [b_3, b_5, b_8, b_18]; done)) (by
                try dsimp only
                (unfold R_copy; exact Or.inl ⟨by simp [copyR, b_3, b_5, b_8, b_18], by simp [copyR, b_3, b_5, b_8, b_18], rfl⟩)) (by rfl)
    · skip
      have b_19 : (bel y 4) = false := bI0 c_4
      refine V_iconst (v := (-1)) (pc := 16) X dX9_copy_16 (by decide) ?_
      exact Ve_iret (pc := 17) X hA9 dX9_copy_17 hr ((-1), ki) (by first | rfl | (simp [b_3, b_19]; done)) (by
            try dsimp only
            (unfold R_copy; exact Or.inl ⟨by simp [copyR, b_3, b_19], by simp [copyR, b_3, b_19], rfl⟩)) (by rfl)
set_option maxHeartbeats 4000000 in
set_option maxRecDepth 100000 in
theorem c_X9_copy_eq (l : Launch) (g : XG) (xq : Nat) (tq : Nat) (wq : Nat) (vq : Nat) (xi : Bool) (fq : Nat) (dq : Nat) (kq : Nat) (xsq : Nat) (xs : Nat → Option Nat) (hq : Nat) (hh : Bool) (hl : Int32) (hn : Nat) (hiq : Nat) (hi : Nat → Int64) (x : Int32) (i : Int32) (y : Int32) (j : Int32) (k0 : Int32) (hs9 : bel x 4 = true → xs x.toNatClampNeg = some hq) (hs7 : bel y 4 = true → xs y.toNatClampNeg = some hq) (hn9 : hn ≤ 16) : Ke l g yX9_copy wsX9_copy ({ frames := 1, cells := 0, slots := 0, locals := 60 } : Room) 0 0 [.ref xq, .int x, .int i, .int y, .int j, .int k0] [ob xq 9 [.ref tq, .ref wq, .ref vq, .int (bI xi), .ref fq, .ref dq, .ref kq, .ref xsq], ao g xsq 4 xs, ob hq 6 [.int (bI hh), .int hl, .int (nI hn), .ref hiq], al g hiq 16 hi] (fun u : Int32 × (Nat → Int64) => some (.int u.1)) (fun u => [ob xq 9 [.ref tq, .ref wq, .ref vq, .int (bI xi), .ref fq, .ref dq, .ref kq, .ref xsq], ao g xsq 4 xs, ob hq 6 [.int (bI hh), .int hl, .int (nI hn), .ref hiq], al g hiq 16 u.2]) (fun u => (R_copy x y i j k0 hh hh hl hl hn hn hi hi u.1 u.2)) := by
  refine Ke.of (cc := cX9_copy) (maxL := 8) (ret := (some .int)) (lv := [(0, .ref xq), (1, .int x), (2, .int i), (3, .int y), (4, .int j), (5, .int k0)]) RX9 rfl (by decide) rfl (Nat.le_of_ble_eq_true rfl) rfl ?_
  intro p e s m below meth c A sz hA9 X hr hin2
  have in6 : ∀ w ∈ u_ws RX6 TX6 4, w ∈ wsX9_copy := by decide +kernel
  have in9 : ∀ w ∈ u_ws RX9 TX9 8, w ∈ wsX9_copy := by decide +kernel
  refine V_iload_n (pc := 0) X dX9_copy_0 rfl 1 rfl ?_
  refine V_iconst (v := 4) (pc := 1) X dX9_copy_1 (by decide) ?_
  refine V_sg (pc := 2) (nA := 2) (As := [.int x, .int 4]) (rest := []) X (c_X9_isBelow l g (x := x) (b := 4) ) gX9_copy_X9_isBelow dX9_copy_2 rfl (by decide +kernel) rfl ⟨rfl, rfl⟩ ⟨Nat.le_of_ble_eq_true rfl, Nat.le_of_ble_eq_true rfl⟩ ⟨Nat.le_of_ble_eq_true rfl, Nat.le_of_ble_eq_true rfl⟩ [] (by decide) rfl rfl (Nat.le_of_ble_eq_true rfl) (st' := [.int (bI (bel x 4))]) rfl ?_
  refine V_if_eq (tgt := 16) (pc := 5) X dX9_copy_5 (by decide) (fun c_1 => ?_) (fun c_1 => ?_)
  · skip
    have b_2 : (bel x 4) = false := bI0 c_1
    refine V_iconst (v := (-1)) (pc := 16) X dX9_copy_16 (by decide) ?_
    exact Ve_iret (pc := 17) X hA9 dX9_copy_17 hr ((-1), hi) (by first | rfl | (simp [b_2]; done)) (by
          try dsimp only
          (unfold R_copy; exact Or.inl ⟨by simp [copyR, b_2], by simp [copyR, b_2], rfl⟩)) (by rfl)
  · skip
    have b_3 : (bel x 4) = true := bI1 c_1
    refine V_iload_n (pc := 8) X dX9_copy_8 rfl 3 rfl ?_
    refine V_iconst (v := 4) (pc := 9) X dX9_copy_9 (by decide) ?_
    refine V_sg (pc := 10) (nA := 2) (As := [.int y, .int 4]) (rest := []) X (c_X9_isBelow l g (x := y) (b := 4) ) gX9_copy_X9_isBelow dX9_copy_10 rfl (by decide +kernel) rfl ⟨rfl, rfl⟩ ⟨Nat.le_of_ble_eq_true rfl, Nat.le_of_ble_eq_true rfl⟩ ⟨Nat.le_of_ble_eq_true rfl, Nat.le_of_ble_eq_true rfl⟩ [] (by decide) rfl rfl (Nat.le_of_ble_eq_true rfl) (st' := [.int (bI (bel y 4))]) rfl ?_
    refine V_if_ne (tgt := 18) (pc := 13) X dX9_copy_13 (by decide) (fun c_4 => ?_) (fun c_4 => ?_)
    · skip
      have b_5 : (bel y 4) = true := bI1 c_4
      refine V_aload_n (pc := 18) X dX9_copy_18 rfl 0 rfl ?_
      refine V_get (C := RX9) (T := TX9) (N := 8) (ci := 9) (pc := 19) X dX9_copy_19 in9 0 rfl rfl 7 (by decide) (by decide +kernel) rfl rfl ?_
      refine V_iload_n (pc := 22) X dX9_copy_22 rfl 1 rfl ?_
      refine V_aldq (v := hq) (pc := 23) X dX9_copy_23 1 rfl (by first | assumption | exact bel_vin (n := 4) (by omega) (by omega) (by omega) (by assumption)) (hs9 (by assumption)) ?_
      refine V_astore (lv' := [(6, .ref hq), (0, .ref xq), (1, .int x), (2, .int i), (3, .int y), (4, .int j), (5, .int k0)]) (pc := 24) X dX9_copy_24 (Nat.le_of_ble_eq_true rfl) rfl ?_
      refine V_aload_n (pc := 26) X dX9_copy_26 rfl 1 rfl ?_
      refine V_get (C := RX9) (T := TX9) (N := 8) (ci := 9) (pc := 27) X dX9_copy_27 in9 0 rfl rfl 7 (by decide) (by decide +kernel) rfl rfl ?_
      refine V_iload_n (pc := 30) X dX9_copy_30 rfl 4 rfl ?_
      refine V_aldq (v := hq) (pc := 31) X dX9_copy_31 1 rfl (by first | assumption | exact bel_vin (n := 4) (by omega) (by omega) (by omega) (by assumption)) (hs7 (by assumption)) ?_
      refine V_astore (lv' := [(7, .ref hq), (6, .ref hq), (0, .ref xq), (1, .int x), (2, .int i), (3, .int y), (4, .int j), (5, .int k0)]) (pc := 32) X dX9_copy_32 (Nat.le_of_ble_eq_true rfl) rfl ?_
      refine V_aload (pc := 34) X dX9_copy_34 1 rfl ?_
      refine V_get (C := RX6) (T := TX6) (N := 4) (ci := 6) (pc := 36) X dX9_copy_36 in6 2 rfl rfl 0 (by decide) (by decide +kernel) rfl rfl ?_
      refine V_if_eq (tgt := 50) (pc := 39) X dX9_copy_39 (by decide) (fun c_6 => ?_) (fun c_6 => ?_)
      · skip
        have b_7 : hh = false := bI0 c_6
        refine V_bipush (v := (-11)) (pc := 50) X dX9_copy_50 (by decide) ?_
        exact Ve_iret (pc := 52) X hA9 dX9_copy_52 hr ((-11), hi) (by first | rfl | (simp [b_3, b_5, b_7]; done)) (by
              try dsimp only
              (unfold R_copy; exact Or.inl ⟨by simp [copyR, b_3, b_5, b_7], by simp [copyR, b_3, b_5, b_7], rfl⟩)) (by rfl)
      · skip
        have b_8 : hh = true := bI1 c_6
        refine V_aload (pc := 42) X dX9_copy_42 0 rfl ?_
        refine V_get (C := RX6) (T := TX6) (N := 4) (ci := 6) (pc := 44) X dX9_copy_44 in6 2 rfl rfl 0 (by decide) (by decide +kernel) rfl rfl ?_
        refine V_if_ne (tgt := 53) (pc := 47) X dX9_copy_47 (by decide) (fun c_9 => ?_) (fun c_9 => ?_)
        · skip
          have b_10 : hh = true := bI1 c_9
          refine V_aload (pc := 53) X dX9_copy_53 1 rfl ?_
          refine V_get (C := RX6) (T := TX6) (N := 4) (ci := 6) (pc := 55) X dX9_copy_55 in6 2 rfl rfl 1 (by decide) (by decide +kernel) rfl rfl ?_
          refine V_aload (pc := 58) X dX9_copy_58 0 rfl ?_
          refine V_get (C := RX6) (T := TX6) (N := 4) (ci := 6) (pc := 60) X dX9_copy_60 in6 2 rfl rfl 1 (by decide) (by decide +kernel) rfl rfl ?_
          refine V_icmp_eq (tgt := 69) (pc := 63) X dX9_copy_63 (by decide) (fun c_11 => ?_) (fun c_11 => ?_)
          · skip
            refine V_aload (pc := 69) X dX9_copy_69 1 rfl ?_
            refine V_iload_n (pc := 71) X dX9_copy_71 rfl 4 rfl ?_
            refine V_iload (pc := 72) X dX9_copy_72 7 rfl ?_
            refine V_vg (pc := 74) (nA := 2) (As := [.int i, .int k0]) (rest := []) X (c_X6_spans l g (hq := hq) (hiq := hiq) (hh := hh) (hl := hl) (hn := hn) (hi := hi) (x := i) (y := k0) ) gX9_copy_X6_spans dX9_copy_74 rfl (by decide +kernel) rfl (qb := 2) rfl rfl rfl ⟨rfl, rfl⟩ ⟨Nat.le_of_ble_eq_true rfl, Nat.le_of_ble_eq_true rfl⟩ ⟨Nat.le_of_ble_eq_true rfl, Nat.le_of_ble_eq_true rfl⟩ [2, 3] (by decide) rfl rfl (Nat.le_of_ble_eq_true rfl) (st' := [.int (bI (spn i k0 hn))]) rfl ?_
            refine V_if_eq (tgt := 92) (pc := 77) X dX9_copy_77 (by decide) (fun c_12 => ?_) (fun c_12 => ?_)
            · skip
              have b_13 : (spn i k0 hn) = false := bI0 c_12
              refine V_bipush (v := (-13)) (pc := 92) X dX9_copy_92 (by decide) ?_
              exact Ve_iret (pc := 94) X hA9 dX9_copy_94 hr ((-13), hi) (by first | rfl | (simp [b_3, b_5, b_8, b_10, c_11, b_13]; done)) (by
                    try dsimp only
                    (unfold R_copy; exact Or.inl ⟨by simp [copyR, b_3, b_5, b_8, b_10, c_11, b_13], by simp [copyR, b_3, b_5, b_8, b_10, c_11, b_13], rfl⟩)) (by rfl)
            · skip
              have b_14 : (spn i k0 hn) = true := bI1 c_12
              refine V_aload (pc := 80) X dX9_copy_80 0 rfl ?_
              refine V_iload (pc := 82) X dX9_copy_82 6 rfl ?_
              refine V_iload (pc := 84) X dX9_copy_84 7 rfl ?_
              refine V_vg (pc := 86) (nA := 2) (As := [.int j, .int k0]) (rest := []) X (c_X6_spans l g (hq := hq) (hiq := hiq) (hh := hh) (hl := hl) (hn := hn) (hi := hi) (x := j) (y := k0) ) gX9_copy_X6_spans dX9_copy_86 rfl (by decide +kernel) rfl (qb := 2) rfl rfl rfl ⟨rfl, rfl⟩ ⟨Nat.le_of_ble_eq_true rfl, Nat.le_of_ble_eq_true rfl⟩ ⟨Nat.le_of_ble_eq_true rfl, Nat.le_of_ble_eq_true rfl⟩ [2, 3] (by decide) rfl rfl (Nat.le_of_ble_eq_true rfl) (st' := [.int (bI (spn j k0 hn))]) rfl ?_
              refine V_if_ne (tgt := 95) (pc := 89) X dX9_copy_89 (by decide) (fun c_15 => ?_) (fun c_15 => ?_)
              · skip
                have b_16 : (spn j k0 hn) = true := bI1 c_15
                refine V_aload (pc := 95) X dX9_copy_95 1 rfl ?_
                refine V_get (C := RX6) (T := TX6) (N := 4) (ci := 6) (pc := 97) X dX9_copy_97 in6 2 rfl rfl 3 (by decide) (by decide +kernel) rfl rfl ?_
                refine V_iload_n (pc := 100) X dX9_copy_100 rfl 4 rfl ?_
                refine V_aload (pc := 101) X dX9_copy_101 0 rfl ?_
                refine V_get (C := RX6) (T := TX6) (N := 4) (ci := 6) (pc := 103) X dX9_copy_103 in6 2 rfl rfl 3 (by decide) (by decide +kernel) rfl rfl ?_
                refine V_iload (pc := 106) X dX9_copy_106 6 rfl ?_
                refine V_iload (pc := 108) X dX9_copy_108 7 rfl ?_
                have k1 := spn_3 hn9 b_14
                have k2 := spn_3 hn9 b_16
                refine V_copyl (f' := va_cpy hi hi i.toNatClampNeg j.toNatClampNeg k0.toNatClampNeg) (ws' := [ob xq 9 [.ref tq, .ref wq, .ref vq, .int (bI xi), .ref fq, .ref dq, .ref kq, .ref xsq], ao g xsq 4 xs, ob hq 6 [.int (bI hh), .int hl, .int (nI hn), .ref hiq], al g hiq 16 (va_cpy hi hi i.toNatClampNeg j.toNatClampNeg k0.toNatClampNeg)]) (pc := 110) X dX9_copy_110 (by decide +kernel) (by decide +kernel) (by decide +kernel) (by decide +kernel) 3 3 rfl rfl k1.1 k2.1 k1.2.1 (Nat.le_trans k1.2.2 hn9) (Nat.le_trans k2.2.2 hn9) (Nat.le_of_ble_eq_true rfl) (by decide +kernel) rfl rfl ?_
                refine V_iload (pc := 113) X dX9_copy_113 7 rfl ?_
                exact Ve_iret (pc := 115) X hA9 dX9_copy_115 hr (k0, va_cpy hi hi i.toNatClampNeg j.toNatClampNeg k0.toNatClampNeg) (by first | rfl | (simp [b_3, b_5, b_8, b_10, c_11, b_14, b_16]; done)) (by
                      try dsimp only
                      (unfold R_copy; exact Or.inr ⟨copyR_0 (by assumption) (by assumption) (by assumption) (by assumption) (by first | assumption | rfl) (by assumption) (by assumption), rfl, rfl⟩)) (by rfl)
              · skip
                have b_17 : (spn j k0 hn) = false := bI0 c_15
                refine V_bipush (v := (-13)) (pc := 92) X dX9_copy_92 (by decide) ?_
                exact Ve_iret (pc := 94) X hA9 dX9_copy_94 hr ((-13), hi) (by first | rfl | (simp [b_3, b_5, b_8, b_10, c_11, b_14, b_17]; done)) (by
                      try dsimp only
                      (unfold R_copy; exact Or.inl ⟨by simp [copyR, b_3, b_5, b_8, b_10, c_11, b_14, b_17], by simp [copyR, b_3, b_5, b_8, b_10, c_11, b_14, b_17], rfl⟩)) (by rfl)
          · exact absurd c_11 (fun q => q rfl)
        · exact absurd ((bI0 c_9).symm.trans b_8) (by decide)
    · skip
      have b_18 : (bel y 4) = false := bI0 c_4
      refine V_iconst (v := (-1)) (pc := 16) X dX9_copy_16 (by decide) ?_
      exact Ve_iret (pc := 17) X hA9 dX9_copy_17 hr ((-1), hi) (by first | rfl | (simp [b_3, b_18]; done)) (by
            try dsimp only
            (unfold R_copy; exact Or.inl ⟨by simp [copyR, b_3, b_18], by simp [copyR, b_3, b_18], rfl⟩)) (by rfl)
