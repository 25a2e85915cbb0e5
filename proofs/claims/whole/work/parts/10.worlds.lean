set_option maxHeartbeats 4000000 in
set_option maxRecDepth 100000 in
theorem c_X8_become (l : Launch) (g : XG) (wq : Nat) (wbq : Nat) (wbmq : Nat) (wbf : Int64) (wbt : Nat) (wbz : Int32) (wbm : Nat → Int32) (waq : Nat) (wakq : Nat) (wacq : Nat) (wahq : Nat) (waaq : Nat) (wan : Nat) (wakd : Nat → Int32) (wace : Nat → Int32) (waho : Nat → Int32) (waac : Nat → Int32) (wy : Int32) (vq : Nat) (vbq : Nat) (vbmq : Nat) (vbf : Int64) (vbt : Nat) (vbz : Int32) (vbm : Nat → Int32) (vaq : Nat) (vakq : Nat) (vacq : Nat) (vahq : Nat) (vaaq : Nat) (van : Nat) (vakd : Nat → Int32) (vace : Nat → Int32) (vaho : Nat → Int32) (vaac : Nat → Int32) (vy : Int32) (ht : vbt ≤ 6) (hn : van ≤ 6) : Ke l g yX8_become wsX8_become ({ frames := 2, cells := 0, slots := 0, locals := 46 } : Room) 0 0 [.ref wq, .ref vq] [ob wq 8 [.ref wbq, .ref waq, .int wy], ob wbq 4 [.long wbf, .int (nI wbt), .int wbz, .ref wbmq], ai g wbmq 6 wbm, ob waq 1 [.int (nI wan), .ref wakq, .ref wacq, .ref wahq, .ref waaq], ai g wakq 6 wakd, ai g wacq 6 wace, ai g wahq 6 waho, ai g waaq 6 waac, ob vq 8 [.ref vbq, .ref vaq, .int vy], ob vbq 4 [.long vbf, .int (nI vbt), .int vbz, .ref vbmq], ai g vbmq 6 vbm, ob vaq 1 [.int (nI van), .ref vakq, .ref vacq, .ref vahq, .ref vaaq], ai g vakq 6 vakd, ai g vacq 6 vace, ai g vahq 6 vaho, ai g vaaq 6 vaac] (fun u : Unit => none) (fun u => [ob wq 8 [.ref wbq, .ref waq, .int vy], ob wbq 4 [.long vbf, .int (nI vbt), .int vbz, .ref wbmq], ai g wbmq 6 (cpF wbm vbm vbt), ob waq 1 [.int (nI van), .ref wakq, .ref wacq, .ref wahq, .ref waaq], ai g wakq 6 (cpF wakd vakd van), ai g wacq 6 (cpF wace vace van), ai g wahq 6 (cpF waho vaho van), ai g waaq 6 (cpF waac vaac van), ob vq 8 [.ref vbq, .ref vaq, .int vy], ob vbq 4 [.long vbf, .int (nI vbt), .int vbz, .ref vbmq], ai g vbmq 6 vbm, ob vaq 1 [.int (nI van), .ref vakq, .ref vacq, .ref vahq, .ref vaaq], ai g vakq 6 vakd, ai g vacq 6 vace, ai g vahq 6 vaho, ai g vaaq 6 vaac]) (fun u => True) := by
  refine Ke.of (cc := cX8_become) (maxL := 2) (ret := none) (lv := [(0, .ref wq), (1, .ref vq)]) RX8 rfl (by decide) rfl (Nat.le_of_ble_eq_true rfl) rfl ?_
  intro p e s m below meth c A sz hA9 X hr hin2
  have in8 : ∀ w ∈ u_ws RX8 TX8 3, w ∈ wsX8_become := by decide +kernel
  refine V_aload_n (pc := 0) X dX8_become_0 rfl 0 rfl ?_
  refine V_get (C := RX8) (T := TX8) (N := 3) (ci := 8) (pc := 1) X dX8_become_1 in8 0 rfl rfl 0 (by decide) (by decide +kernel) rfl rfl ?_
  refine V_aload_n (pc := 4) X dX8_become_4 rfl 1 rfl ?_
  refine V_get (C := RX8) (T := TX8) (N := 3) (ci := 8) (pc := 5) X dX8_become_5 in8 8 rfl rfl 0 (by decide) (by decide +kernel) rfl rfl ?_
  refine V_ve (pc := 8) (nA := 1) (As := [.ref vbq]) (rest := []) X (c_X4_become l g (bq := wbq) (bmq := wbmq) (bf := wbf) (bt := wbt) (bz := wbz) (bm := wbm) (dq := vbq) (dmq := vbmq) (df := vbf) (dt := vbt) (dz := vbz) (dm := vbm) (hh := by first | assumption | omega)) gX8_become_X4_become dX8_become_8 rfl (by decide +kernel) rfl (qb := 1) rfl rfl rfl ⟨rfl, rfl⟩ ⟨Nat.le_of_ble_eq_true rfl, Nat.le_of_ble_eq_true rfl⟩ ⟨Nat.le_of_ble_eq_true rfl, Nat.le_of_ble_eq_true rfl⟩ [1, 2, 9, 10] (by decide) rfl [0, 3, 4, 5, 6, 7, 8, 11, 12, 13, 14, 15] (by decide) (by decide) [ob wq 8 [.ref wbq, .ref waq, .int wy], ob waq 1 [.int (nI wan), .ref wakq, .ref wacq, .ref wahq, .ref waaq], ai g wakq 6 wakd, ai g wacq 6 wace, ai g wahq 6 waho, ai g waaq 6 waac, ob vq 8 [.ref vbq, .ref vaq, .int vy], ob vaq 1 [.int (nI van), .ref vakq, .ref vacq, .ref vahq, .ref vaaq], ai g vakq 6 vakd, ai g vacq 6 vace, ai g vahq 6 vaho, ai g vaaq 6 vaac] rfl [0, 12, 13, 1, 2, 3, 4, 5, 6, 14, 15, 7, 8, 9, 10, 11] (by decide) (fun u => [ob wq 8 [.ref wbq, .ref waq, .int wy], ob wbq 4 [.long vbf, .int (nI vbt), .int vbz, .ref wbmq], ai g wbmq 6 (cpF wbm vbm vbt), ob waq 1 [.int (nI wan), .ref wakq, .ref wacq, .ref wahq, .ref waaq], ai g wakq 6 wakd, ai g wacq 6 wace, ai g wahq 6 waho, ai g waaq 6 waac, ob vq 8 [.ref vbq, .ref vaq, .int vy], ob vbq 4 [.long vbf, .int (nI vbt), .int vbz, .ref vbmq], ai g vbmq 6 vbm, ob vaq 1 [.int (nI van), .ref vakq, .ref vacq, .ref vahq, .ref vaaq], ai g vakq 6 vakd, ai g vacq 6 vace, ai g vahq 6 vaho, ai g vaaq 6 vaac]) (fun _ => rfl) rfl (Nat.le_of_ble_eq_true rfl) (fun u => []) (fun _ => rfl) (fun u hu_1 => ?_)
  refine V_eqw (ws2 := [ob wq 8 [.ref wbq, .ref waq, .int wy], ob wbq 4 [.long vbf, .int (nI vbt), .int vbz, .ref wbmq], ai g wbmq 6 (cpF wbm vbm vbt), ob waq 1 [.int (nI wan), .ref wakq, .ref wacq, .ref wahq, .ref waaq], ai g wakq 6 wakd, ai g wacq 6 wace, ai g wahq 6 waho, ai g waaq 6 waac, ob vq 8 [.ref vbq, .ref vaq, .int vy], ob vbq 4 [.long vbf, .int (nI vbt), .int vbz, .ref vbmq], ai g vbmq 6 vbm, ob vaq 1 [.int (nI van), .ref vakq, .ref vacq, .ref vahq, .ref vaaq], ai g vakq 6 vakd, ai g vacq 6 vace, ai g vahq 6 vaho, ai g vaaq 6 vaac]) rfl (V_eqs (st2 := []) rfl ?_)
  refine V_aload_n (pc := 11) X dX8_become_11 rfl 0 rfl ?_
  refine V_get (C := RX8) (T := TX8) (N := 3) (ci := 8) (pc := 12) X dX8_become_12 in8 0 rfl rfl 1 (by decide) (by decide +kernel) rfl rfl ?_
  refine V_aload_n (pc := 15) X dX8_become_15 rfl 1 rfl ?_
  refine V_get (C := RX8) (T := TX8) (N := 3) (ci := 8) (pc := 16) X dX8_become_16 in8 8 rfl rfl 1 (by decide) (by decide +kernel) rfl rfl ?_
  refine V_ve (pc := 19) (nA := 1) (As := [.ref vaq]) (rest := []) X (c_X1_become l g (aq := waq) (akq := wakq) (acq := wacq) (ahq := wahq) (aaq := waaq) (an := wan) (akd := wakd) (ace := wace) (aho := waho) (aac := waac) (dq := vaq) (dkq := vakq) (dcq := vacq) (dhq := vahq) (daq := vaaq) (dn := van) (dkd := vakd) (dce := vace) (dho := vaho) (dac := vaac) (hn := by first | assumption | omega)) gX8_become_X1_become dX8_become_19 rfl (by decide +kernel) rfl (qb := 3) rfl rfl rfl ⟨rfl, rfl⟩ ⟨Nat.le_of_ble_eq_true rfl, Nat.le_of_ble_eq_true rfl⟩ ⟨Nat.le_of_ble_eq_true rfl, Nat.le_of_ble_eq_true rfl⟩ [3, 4, 5, 6, 7, 11, 12, 13, 14, 15] (by decide) rfl [0, 1, 2, 8, 9, 10] (by decide) (by decide) [ob wq 8 [.ref wbq, .ref waq, .int wy], ob wbq 4 [.long vbf, .int (nI vbt), .int vbz, .ref wbmq], ai g wbmq 6 (cpF wbm vbm vbt), ob vq 8 [.ref vbq, .ref vaq, .int vy], ob vbq 4 [.long vbf, .int (nI vbt), .int vbz, .ref vbmq], ai g vbmq 6 vbm] rfl [0, 1, 2, 6, 7, 8, 9, 10, 3, 4, 5, 11, 12, 13, 14, 15] (by decide) (fun u => [ob wq 8 [.ref wbq, .ref waq, .int wy], ob wbq 4 [.long vbf, .int (nI vbt), .int vbz, .ref wbmq], ai g wbmq 6 (cpF wbm vbm vbt), ob waq 1 [.int (nI van), .ref wakq, .ref wacq, .ref wahq, .ref waaq], ai g wakq 6 (cpF wakd vakd van), ai g wacq 6 (cpF wace vace van), ai g wahq 6 (cpF waho vaho van), ai g waaq 6 (cpF waac vaac van), ob vq 8 [.ref vbq, .ref vaq, .int vy], ob vbq 4 [.long vbf, .int (nI vbt), .int vbz, .ref vbmq], ai g vbmq 6 vbm, ob vaq 1 [.int (nI van), .ref vakq, .ref vacq, .ref vahq, .ref vaaq], ai g vakq 6 vakd, ai g vacq 6 vace, ai g vahq 6 vaho, ai g vaaq 6 vaac]) (fun _ => rfl) rfl (Nat.le_of_ble_eq_true rfl) (fun u => []) (fun _ => rfl) (fun u hu_2 => ?_)
  refine V_eqw (ws2 := [ob wq 8 [.ref wbq, .ref waq, .int wy], ob wbq 4 [.long vbf, .int (nI vbt), .int vbz, .ref wbmq], ai g wbmq 6 (cpF wbm vbm vbt), ob waq 1 [.int (nI van), .ref wakq, .ref wacq, .ref wahq, .ref waaq], ai g wakq 6 (cpF wakd vakd van), ai g wacq 6 (cpF wace vace van), ai g wahq 6 (cpF waho vaho van), ai g waaq 6 (cpF waac vaac van), ob vq 8 [.ref vbq, .ref vaq, .int vy], ob vbq 4 [.long vbf, .int (nI vbt), .int vbz, .ref vbmq], ai g vbmq 6 vbm, ob vaq 1 [.int (nI van), .ref vakq, .ref vacq, .ref vahq, .ref vaaq], ai g vakq 6 vakd, ai g vacq 6 vace, ai g vahq 6 vaho, ai g vaaq 6 vaac]) rfl (V_eqs (st2 := []) rfl ?_)
  refine V_aload_n (pc := 22) X dX8_become_22 rfl 0 rfl ?_
  refine V_aload_n (pc := 23) X dX8_become_23 rfl 1 rfl ?_
  refine V_get (C := RX8) (T := TX8) (N := 3) (ci := 8) (pc := 24) X dX8_become_24 in8 8 rfl rfl 2 (by decide) (by decide +kernel) rfl rfl ?_
  refine V_put (C := RX8) (T := TX8) (N := 3) (ci := 8) (ws' := [ob wq 8 [.ref wbq, .ref waq, .int vy], ob wbq 4 [.long vbf, .int (nI vbt), .int vbz, .ref wbmq], ai g wbmq 6 (cpF wbm vbm vbt), ob waq 1 [.int (nI van), .ref wakq, .ref wacq, .ref wahq, .ref waaq], ai g wakq 6 (cpF wakd vakd van), ai g wacq 6 (cpF wace vace van), ai g wahq 6 (cpF waho vaho van), ai g waaq 6 (cpF waac vaac van), ob vq 8 [.ref vbq, .ref vaq, .int vy], ob vbq 4 [.long vbf, .int (nI vbt), .int vbz, .ref vbmq], ai g vbmq 6 vbm, ob vaq 1 [.int (nI van), .ref vakq, .ref vacq, .ref vahq, .ref vaaq], ai g vakq 6 vakd, ai g vacq 6 vace, ai g vahq 6 vaho, ai g vaaq 6 vaac]) (pc := 27) X dX8_become_27 in8 tyX8 tyX8_ok nmX8 0 rfl rfl 2 (by decide) (by decide +kernel) rfl rfl rfl rfl rfl (Nat.le_of_ble_eq_true rfl) rfl ?_
  exact Ve_vret (pc := 30) X hA9 dX8_become_30 hr () rfl trivial (by rfl)
set_option maxHeartbeats 4000000 in
set_option maxRecDepth 100000 in
theorem c_X8_pass (l : Launch) (g : XG) (wq : Nat) (wbq : Nat) (wbmq : Nat) (wbf : Int64) (wbt : Nat) (wbz : Int32) (wbm : Nat → Int32) (waq : Nat) (wakq : Nat) (wacq : Nat) (wahq : Nat) (waaq : Nat) (wan : Nat) (wakd : Nat → Int32) (wace : Nat → Int32) (waho : Nat → Int32) (waac : Nat → Int32) (wy : Int32) (sq : Nat) (scq : Nat) (swq : Nat) (sn : Nat) (sce : Nat → Int32) (swe : Nat → Int32) (ht : wbt ≤ 6) (hn : wan ≤ 6) : Ke l g yX8_pass wsX8_pass ({ frames := 3, cells := 0, slots := 0, locals := 74 } : Room) 0 0 [.ref wq, .ref sq] [ob wq 8 [.ref wbq, .ref waq, .int wy], ob wbq 4 [.long wbf, .int (nI wbt), .int wbz, .ref wbmq], ai g wbmq 6 wbm, ob waq 1 [.int (nI wan), .ref wakq, .ref wacq, .ref wahq, .ref waaq], ai g wakq 6 wakd, ai g wacq 6 wace, ai g wahq 6 waho, ai g waaq 6 waac, ob sq 5 [.int (nI sn), .ref scq, .ref swq], ai g scq 6 sce, ai g swq 6 swe] (fun u : Nat × (Nat → Int32) × (Nat → Int32) => some (.int (nI (mvC wakd wace waho wan wbz wbm wbt)))) (fun u => [ob wq 8 [.ref wbq, .ref waq, .int (wy + 1)], ob wbq 4 [.long (wbf ||| strF wakd wace waho wan), .int (nI wbt), .int (frX wbz), .ref wbmq], ai g wbmq 6 (cpF wbm (fun j => mvd wakd wace waho wan wbz (wbm j)) wbt), ob waq 1 [.int (nI wan), .ref wakq, .ref wacq, .ref wahq, .ref waaq], ai g wakq 6 wakd, ai g wacq 6 wace, ai g wahq 6 (cpF waho (fun _ => 0) wan), ai g waaq 6 (acF wbf wace waho waac wan), ob sq 5 [.int (nI u.1), .ref scq, .ref swq], ai g scq 6 u.2.1, ai g swq 6 u.2.2]) (fun u => True) := by
  refine Ke.of (cc := cX8_pass) (maxL := 3) (ret := (some .int)) (lv := [(0, .ref wq), (1, .ref sq)]) RX8 rfl (by decide) rfl (Nat.le_of_ble_eq_true rfl) rfl ?_
  intro p e s m below meth c A sz hA9 X hr hin2
  have in4 : ∀ w ∈ u_ws RX4 TX4 4, w ∈ wsX8_pass := by decide +kernel
  have in8 : ∀ w ∈ u_ws RX8 TX8 3, w ∈ wsX8_pass := by decide +kernel
  refine V_aload_n (pc := 0) X dX8_pass_0 rfl 0 rfl ?_
  refine V_get (C := RX8) (T := TX8) (N := 3) (ci := 8) (pc := 1) X dX8_pass_1 in8 0 rfl rfl 1 (by decide) (by decide +kernel) rfl rfl ?_
  refine V_aload_n (pc := 4) X dX8_pass_4 rfl 0 rfl ?_
  refine V_get (C := RX8) (T := TX8) (N := 3) (ci := 8) (pc := 5) X dX8_pass_5 in8 0 rfl rfl 0 (by decide) (by decide +kernel) rfl rfl ?_
  refine V_get (C := RX4) (T := TX4) (N := 4) (ci := 4) (pc := 8) X dX8_pass_8 in4 1 rfl rfl 0 (by decide) (by decide +kernel) rfl rfl ?_
  refine V_ve (pc := 11) (nA := 1) (As := [.long wbf]) (rest := []) X (c_X1_ache l g (aq := waq) (akq := wakq) (acq := wacq) (ahq := wahq) (aaq := waaq) (an := wan) (akd := wakd) (ace := wace) (aho := waho) (aac := waac) (f := wbf) (hn := by first | assumption | omega)) gX8_pass_X1_ache dX8_pass_11 rfl (by decide +kernel) rfl (qb := 3) rfl rfl rfl ⟨rfl, rfl⟩ ⟨Nat.le_of_ble_eq_true rfl, Nat.le_of_ble_eq_true rfl⟩ ⟨Nat.le_of_ble_eq_true rfl, Nat.le_of_ble_eq_true rfl⟩ [3, 4, 5, 6, 7] (by decide) rfl [0, 1, 2, 8, 9, 10] (by decide) (by decide) [ob wq 8 [.ref wbq, .ref waq, .int wy], ob wbq 4 [.long wbf, .int (nI wbt), .int wbz, .ref wbmq], ai g wbmq 6 wbm, ob sq 5 [.int (nI sn), .ref scq, .ref swq], ai g scq 6 sce, ai g swq 6 swe] rfl [0, 1, 2, 6, 7, 8, 9, 10, 3, 4, 5] (by decide) (fun u => [ob wq 8 [.ref wbq, .ref waq, .int wy], ob wbq 4 [.long wbf, .int (nI wbt), .int wbz, .ref wbmq], ai g wbmq 6 wbm, ob waq 1 [.int (nI wan), .ref wakq, .ref wacq, .ref wahq, .ref waaq], ai g wakq 6 wakd, ai g wacq 6 wace, ai g wahq 6 waho, ai g waaq 6 (acF wbf wace waho waac wan), ob sq 5 [.int (nI sn), .ref scq, .ref swq], ai g scq 6 sce, ai g swq 6 swe]) (fun _ => rfl) rfl (Nat.le_of_ble_eq_true rfl) (fun u => []) (fun _ => rfl) (fun u hu_1 => ?_)
  refine V_eqw (ws2 := [ob wq 8 [.ref wbq, .ref waq, .int wy], ob wbq 4 [.long wbf, .int (nI wbt), .int wbz, .ref wbmq], ai g wbmq 6 wbm, ob waq 1 [.int (nI wan), .ref wakq, .ref wacq, .ref wahq, .ref waaq], ai g wakq 6 wakd, ai g wacq 6 wace, ai g wahq 6 waho, ai g waaq 6 (acF wbf wace waho waac wan), ob sq 5 [.int (nI sn), .ref scq, .ref swq], ai g scq 6 sce, ai g swq 6 swe]) rfl (V_eqs (st2 := []) rfl ?_)
  refine V_aload_n (pc := 14) X dX8_pass_14 rfl 0 rfl ?_
  refine V_get (C := RX8) (T := TX8) (N := 3) (ci := 8) (pc := 15) X dX8_pass_15 in8 0 rfl rfl 0 (by decide) (by decide +kernel) rfl rfl ?_
  refine V_aload_n (pc := 18) X dX8_pass_18 rfl 0 rfl ?_
  refine V_get (C := RX8) (T := TX8) (N := 3) (ci := 8) (pc := 19) X dX8_pass_19 in8 0 rfl rfl 1 (by decide) (by decide +kernel) rfl rfl ?_
  refine V_aload_n (pc := 22) X dX8_pass_22 rfl 1 rfl ?_
  refine V_ve (pc := 23) (nA := 2) (As := [.ref waq, .ref sq]) (rest := []) X (c_X4_pass l g (bq := wbq) (bmq := wbmq) (bf := wbf) (bt := wbt) (bz := wbz) (bm := wbm) (aq := waq) (akq := wakq) (acq := wacq) (ahq := wahq) (aaq := waaq) (an := wan) (akd := wakd) (ace := wace) (aho := waho) (aac := acF wbf wace waho waac wan) (sq := sq) (scq := scq) (swq := swq) (sn := sn) (sce := sce) (swe := swe) (ht := by first | assumption | omega) (hn := by first | assumption | omega)) gX8_pass_X4_pass dX8_pass_23 rfl (by decide +kernel) rfl (qb := 1) rfl rfl rfl ⟨rfl, rfl⟩ ⟨Nat.le_of_ble_eq_true rfl, Nat.le_of_ble_eq_true rfl⟩ ⟨Nat.le_of_ble_eq_true rfl, Nat.le_of_ble_eq_true rfl⟩ [1, 2, 3, 4, 5, 6, 7, 8, 9, 10] (by decide) rfl [0] (by decide) (by decide) [ob wq 8 [.ref wbq, .ref waq, .int wy]] rfl [0, 1, 2, 3, 4, 5, 6, 7, 8, 9, 10] (by decide) (fun u => [ob wq 8 [.ref wbq, .ref waq, .int wy], ob wbq 4 [.long (wbf ||| strF wakd wace waho wan), .int (nI wbt), .int (frX wbz), .ref wbmq], ai g wbmq 6 (cpF wbm (fun j => mvd wakd wace waho wan wbz (wbm j)) wbt), ob waq 1 [.int (nI wan), .ref wakq, .ref wacq, .ref wahq, .ref waaq], ai g wakq 6 wakd, ai g wacq 6 wace, ai g wahq 6 waho, ai g waaq 6 (acF wbf wace waho waac wan), ob sq 5 [.int (nI u.1), .ref scq, .ref swq], ai g scq 6 u.2.1, ai g swq 6 u.2.2]) (fun _ => rfl) rfl (Nat.le_of_ble_eq_true rfl) (fun u => [.int (nI (mvC wakd wace waho wan wbz wbm wbt))]) (fun _ => rfl) (fun u hu_5 => ?_)
  obtain ⟨nn_2, nc_3, nw_4⟩ := u
  refine V_eqw (ws2 := [ob wq 8 [.ref wbq, .ref waq, .int wy], ob wbq 4 [.long (wbf ||| strF wakd wace waho wan), .int (nI wbt), .int (frX wbz), .ref wbmq], ai g wbmq 6 (cpF wbm (fun j => mvd wakd wace waho wan wbz (wbm j)) wbt), ob waq 1 [.int (nI wan), .ref wakq, .ref wacq, .ref wahq, .ref waaq], ai g wakq 6 wakd, ai g wacq 6 wace, ai g wahq 6 waho, ai g waaq 6 (acF wbf wace waho waac wan), ob sq 5 [.int (nI nn_2), .ref scq, .ref swq], ai g scq 6 nc_3, ai g swq 6 nw_4]) rfl (V_eqs (st2 := [.int (nI (mvC wakd wace waho wan wbz wbm wbt))]) rfl ?_)
  refine V_istore_n (lv' := [(2, .int (nI (mvC wakd wace waho wan wbz wbm wbt))), (0, .ref wq), (1, .ref sq)]) (pc := 26) X dX8_pass_26 rfl (Nat.le_of_ble_eq_true rfl) rfl ?_
  refine V_aload_n (pc := 27) X dX8_pass_27 rfl 1 rfl ?_
  refine V_get (C := RX8) (T := TX8) (N := 3) (ci := 8) (pc := 28) X dX8_pass_28 in8 0 rfl rfl 1 (by decide) (by decide +kernel) rfl rfl ?_
  refine V_ve (pc := 31) (nA := 0) (As := []) (rest := []) X (c_X1_rise l g (aq := waq) (akq := wakq) (acq := wacq) (ahq := wahq) (aaq := waaq) (an := wan) (akd := wakd) (ace := wace) (aho := waho) (aac := (acF wbf wace waho waac wan)) (hn := by first | assumption | omega)) gX8_pass_X1_rise dX8_pass_31 rfl (by decide +kernel) rfl (qb := 3) rfl rfl rfl ⟨rfl, rfl⟩ ⟨Nat.le_of_ble_eq_true rfl, Nat.le_of_ble_eq_true rfl⟩ ⟨Nat.le_of_ble_eq_true rfl, Nat.le_of_ble_eq_true rfl⟩ [3, 4, 5, 6, 7] (by decide) rfl [0, 1, 2, 8, 9, 10] (by decide) (by decide) [ob wq 8 [.ref wbq, .ref waq, .int wy], ob wbq 4 [.long (wbf ||| strF wakd wace waho wan), .int (nI wbt), .int (frX wbz), .ref wbmq], ai g wbmq 6 (cpF wbm (fun j => mvd wakd wace waho wan wbz (wbm j)) wbt), ob sq 5 [.int (nI nn_2), .ref scq, .ref swq], ai g scq 6 nc_3, ai g swq 6 nw_4] rfl [0, 1, 2, 6, 7, 8, 9, 10, 3, 4, 5] (by decide) (fun u => [ob wq 8 [.ref wbq, .ref waq, .int wy], ob wbq 4 [.long (wbf ||| strF wakd wace waho wan), .int (nI wbt), .int (frX wbz), .ref wbmq], ai g wbmq 6 (cpF wbm (fun j => mvd wakd wace waho wan wbz (wbm j)) wbt), ob waq 1 [.int (nI wan), .ref wakq, .ref wacq, .ref wahq, .ref waaq], ai g wakq 6 wakd, ai g wacq 6 wace, ai g wahq 6 (cpF waho (fun _ => 0) wan), ai g waaq 6 (acF wbf wace waho waac wan), ob sq 5 [.int (nI nn_2), .ref scq, .ref swq], ai g scq 6 nc_3, ai g swq 6 nw_4]) (fun _ => rfl) rfl (Nat.le_of_ble_eq_true rfl) (fun u => []) (fun _ => rfl) (fun u hu_6 => ?_)
  refine V_eqw (ws2 := [ob wq 8 [.ref wbq, .ref waq, .int wy], ob wbq 4 [.long (wbf ||| strF wakd wace waho wan), .int (nI wbt), .int (frX wbz), .ref wbmq], ai g wbmq 6 (cpF wbm (fun j => mvd wakd wace waho wan wbz (wbm j)) wbt), ob waq 1 [.int (nI wan), .ref wakq, .ref wacq, .ref wahq, .ref waaq], ai g wakq 6 wakd, ai g wacq 6 wace, ai g wahq 6 (cpF waho (fun _ => 0) wan), ai g waaq 6 (acF wbf wace waho waac wan), ob sq 5 [.int (nI nn_2), .ref scq, .ref swq], ai g scq 6 nc_3, ai g swq 6 nw_4]) rfl (V_eqs (st2 := []) rfl ?_)
  refine V_aload_n (pc := 34) X dX8_pass_34 rfl 1 rfl ?_
  refine V_dup (pc := 35) X dX8_pass_35 rfl ?_
  refine V_get (C := RX8) (T := TX8) (N := 3) (ci := 8) (pc := 36) X dX8_pass_36 in8 0 rfl rfl 2 (by decide) (by decide +kernel) rfl rfl ?_
  refine V_iconst (v := 1) (pc := 39) X dX8_pass_39 (by decide) ?_
  refine V_iadd (pc := 40) X dX8_pass_40 ?_
  refine V_put (C := RX8) (T := TX8) (N := 3) (ci := 8) (ws' := [ob wq 8 [.ref wbq, .ref waq, .int (wy + 1)], ob wbq 4 [.long (wbf ||| strF wakd wace waho wan), .int (nI wbt), .int (frX wbz), .ref wbmq], ai g wbmq 6 (cpF wbm (fun j => mvd wakd wace waho wan wbz (wbm j)) wbt), ob waq 1 [.int (nI wan), .ref wakq, .ref wacq, .ref wahq, .ref waaq], ai g wakq 6 wakd, ai g wacq 6 wace, ai g wahq 6 (cpF waho (fun _ => 0) wan), ai g waaq 6 (acF wbf wace waho waac wan), ob sq 5 [.int (nI nn_2), .ref scq, .ref swq], ai g scq 6 nc_3, ai g swq 6 nw_4]) (pc := 41) X dX8_pass_41 in8 tyX8 tyX8_ok nmX8 0 rfl rfl 2 (by decide) (by decide +kernel) rfl rfl rfl rfl rfl (Nat.le_of_ble_eq_true rfl) rfl ?_
  refine V_iload_n (pc := 44) X dX8_pass_44 rfl 0 rfl ?_
  exact Ve_iret (pc := 45) X hA9 dX8_pass_45 hr (nn_2, nc_3, nw_4) (by first | rfl | (simp []; done)) trivial (by rfl)
set_option maxHeartbeats 4000000 in
set_option maxRecDepth 100000 in
theorem c_X3_begin (l : Launch) (g : XG) (fq : Nat) (fbq : Nat) (fbmq : Nat) (fbf : Int64) (fbt : Nat) (fbz : Int32) (fbm : Nat → Int32) (faq : Nat) (fakq : Nat) (facq : Nat) (fahq : Nat) (faaq : Nat) (fan : Nat) (fakd : Nat → Int32) (face : Nat → Int32) (faho : Nat → Int32) (faac : Nat → Int32) (fsq : Nat) (fscq : Nat) (fswq : Nat) (fsn : Nat) (fsce : Nat → Int32) (fswe : Nat → Int32) (lw : Int64) (la : Int32) (lb : Int32) (ls : Int32) (wq : Nat) (wbq : Nat) (wbmq : Nat) (wbf : Int64) (wbt : Nat) (wbz : Int32) (wbm : Nat → Int32) (waq : Nat) (wakq : Nat) (wacq : Nat) (wahq : Nat) (waaq : Nat) (wan : Nat) (wakd : Nat → Int32) (wace : Nat → Int32) (waho : Nat → Int32) (waac : Nat → Int32) (wy : Int32) (hn : wan ≤ 6) : Ke l g yX3_begin wsX3_begin ({ frames := 1, cells := 0, slots := 0, locals := 22 } : Room) 0 0 [.ref fq, .ref wq] [ob fq 3 [.ref fbq, .ref faq, .ref fsq, .long lw, .int la, .int lb, .int ls], ob fbq 4 [.long fbf, .int (nI fbt), .int fbz, .ref fbmq], ai g fbmq 6 fbm, ob faq 1 [.int (nI fan), .ref fakq, .ref facq, .ref fahq, .ref faaq], ai g fakq 6 fakd, ai g facq 6 face, ai g fahq 6 faho, ai g faaq 6 faac, ob fsq 5 [.int (nI fsn), .ref fscq, .ref fswq], ai g fscq 6 fsce, ai g fswq 6 fswe, ob wq 8 [.ref wbq, .ref waq, .int wy], ob wbq 4 [.long wbf, .int (nI wbt), .int wbz, .ref wbmq], ai g wbmq 6 wbm, ob waq 1 [.int (nI wan), .ref wakq, .ref wacq, .ref wahq, .ref waaq], ai g wakq 6 wakd, ai g wacq 6 wace, ai g wahq 6 waho, ai g waaq 6 waac] (fun u : Unit => none) (fun u => [ob fq 3 [.ref fbq, .ref faq, .ref fsq, .long lw, .int la, .int lb, .int ls], ob fbq 4 [.long fbf, .int (nI fbt), .int fbz, .ref fbmq], ai g fbmq 6 fbm, ob faq 1 [.int (nI wan), .ref fakq, .ref facq, .ref fahq, .ref faaq], ai g fakq 6 (cpF fakd wakd wan), ai g facq 6 (cpF face wace wan), ai g fahq 6 (cpF faho waho wan), ai g faaq 6 (cpF faac waac wan), ob fsq 5 [.int (nI fsn), .ref fscq, .ref fswq], ai g fscq 6 fsce, ai g fswq 6 fswe, ob wq 8 [.ref wbq, .ref waq, .int wy], ob wbq 4 [.long wbf, .int (nI wbt), .int wbz, .ref wbmq], ai g wbmq 6 wbm, ob waq 1 [.int (nI wan), .ref wakq, .ref wacq, .ref wahq, .ref waaq], ai g wakq 6 wakd, ai g wacq 6 wace, ai g wahq 6 waho, ai g waaq 6 waac]) (fun u => True) := by
  refine Ke.of (cc := cX3_begin) (maxL := 2) (ret := none) (lv := [(0, .ref fq), (1, .ref wq)]) RX3 rfl (by decide) rfl (Nat.le_of_ble_eq_true rfl) rfl ?_
  intro p e s m below meth c A sz hA9 X hr hin2
  have in3 : ∀ w ∈ u_ws RX3 TX3 7, w ∈ wsX3_begin := by decide +kernel
  have in8 : ∀ w ∈ u_ws RX8 TX8 3, w ∈ wsX3_begin := by decide +kernel
  refine V_aload_n (pc := 0) X dX3_begin_0 rfl 0 rfl ?_
  refine V_get (C := RX3) (T := TX3) (N := 7) (ci := 3) (pc := 1) X dX3_begin_1 in3 0 rfl rfl 1 (by decide) (by decide +kernel) rfl rfl ?_
  refine V_aload_n (pc := 4) X dX3_begin_4 rfl 1 rfl ?_
  refine V_get (C := RX8) (T := TX8) (N := 3) (ci := 8) (pc := 5) X dX3_begin_5 in8 11 rfl rfl 1 (by decide) (by decide +kernel) rfl rfl ?_
  refine V_ve (pc := 8) (nA := 1) (As := [.ref waq]) (rest := []) X (c_X1_become l g (aq := faq) (akq := fakq) (acq := facq) (ahq := fahq) (aaq := faaq) (an := fan) (akd := fakd) (ace := face) (aho := faho) (aac := faac) (dq := waq) (dkq := wakq) (dcq := wacq) (dhq := wahq) (daq := waaq) (dn := wan) (dkd := wakd) (dce := wace) (dho := waho) (dac := waac) (hn := by first | assumption | omega)) gX3_begin_X1_become dX3_begin_8 rfl (by decide +kernel) rfl (qb := 3) rfl rfl rfl ⟨rfl, rfl⟩ ⟨Nat.le_of_ble_eq_true rfl, Nat.le_of_ble_eq_true rfl⟩ ⟨Nat.le_of_ble_eq_true rfl, Nat.le_of_ble_eq_true rfl⟩ [3, 4, 5, 6, 7, 14, 15, 16, 17, 18] (by decide) rfl [0, 1, 2, 8, 9, 10, 11, 12, 13] (by decide) (by decide) [ob fq 3 [.ref fbq, .ref faq, .ref fsq, .long lw, .int la, .int lb, .int ls], ob fbq 4 [.long fbf, .int (nI fbt), .int fbz, .ref fbmq], ai g fbmq 6 fbm, ob fsq 5 [.int (nI fsn), .ref fscq, .ref fswq], ai g fscq 6 fsce, ai g fswq 6 fswe, ob wq 8 [.ref wbq, .ref waq, .int wy], ob wbq 4 [.long wbf, .int (nI wbt), .int wbz, .ref wbmq], ai g wbmq 6 wbm] rfl [0, 1, 2, 9, 10, 11, 12, 13, 3, 4, 5, 6, 7, 8, 14, 15, 16, 17, 18] (by decide) (fun u => [ob fq 3 [.ref fbq, .ref faq, .ref fsq, .long lw, .int la, .int lb, .int ls], ob fbq 4 [.long fbf, .int (nI fbt), .int fbz, .ref fbmq], ai g fbmq 6 fbm, ob faq 1 [.int (nI wan), .ref fakq, .ref facq, .ref fahq, .ref faaq], ai g fakq 6 (cpF fakd wakd wan), ai g facq 6 (cpF face wace wan), ai g fahq 6 (cpF faho waho wan), ai g faaq 6 (cpF faac waac wan), ob fsq 5 [.int (nI fsn), .ref fscq, .ref fswq], ai g fscq 6 fsce, ai g fswq 6 fswe, ob wq 8 [.ref wbq, .ref waq, .int wy], ob wbq 4 [.long wbf, .int (nI wbt), .int wbz, .ref wbmq], ai g wbmq 6 wbm, ob waq 1 [.int (nI wan), .ref wakq, .ref wacq, .ref wahq, .ref waaq], ai g wakq 6 wakd, ai g wacq 6 wace, ai g wahq 6 waho, ai g waaq 6 waac]) (fun _ => rfl) rfl (Nat.le_of_ble_eq_true rfl) (fun u => []) (fun _ => rfl) (fun u hu_1 => ?_)
  refine V_eqw (ws2 := [ob fq 3 [.ref fbq, .ref faq, .ref fsq, .long lw, .int la, .int lb, .int ls], ob fbq 4 [.long fbf, .int (nI fbt), .int fbz, .ref fbmq], ai g fbmq 6 fbm, ob faq 1 [.int (nI wan), .ref fakq, .ref facq, .ref fahq, .ref faaq], ai g fakq 6 (cpF fakd wakd wan), ai g facq 6 (cpF face wace wan), ai g fahq 6 (cpF faho waho wan), ai g faaq 6 (cpF faac waac wan), ob fsq 5 [.int (nI fsn), .ref fscq, .ref fswq], ai g fscq 6 fsce, ai g fswq 6 fswe, ob wq 8 [.ref wbq, .ref waq, .int wy], ob wbq 4 [.long wbf, .int (nI wbt), .int wbz, .ref wbmq], ai g wbmq 6 wbm, ob waq 1 [.int (nI wan), .ref wakq, .ref wacq, .ref wahq, .ref waaq], ai g wakq 6 wakd, ai g wacq 6 wace, ai g wahq 6 waho, ai g waaq 6 waac]) rfl (V_eqs (st2 := []) rfl ?_)
  exact Ve_vret (pc := 11) X hA9 dX3_begin_11 hr () rfl trivial (by rfl)
set_option maxHeartbeats 4000000 in
set_option maxRecDepth 100000 in
theorem c_X3_look (l : Launch) (g : XG) (fq : Nat) (fbq : Nat) (fbmq : Nat) (fbf : Int64) (fbt : Nat) (fbz : Int32) (fbm : Nat → Int32) (faq : Nat) (fakq : Nat) (facq : Nat) (fahq : Nat) (faaq : Nat) (fan : Nat) (fakd : Nat → Int32) (face : Nat → Int32) (faho : Nat → Int32) (faac : Nat → Int32) (fsq : Nat) (fscq : Nat) (fswq : Nat) (fsn : Nat) (fsce : Nat → Int32) (fswe : Nat → Int32) (lw : Int64) (la : Int32) (lb : Int32) (ls : Int32) (wq : Nat) (wbq : Nat) (wbmq : Nat) (wbf : Int64) (wbt : Nat) (wbz : Int32) (wbm : Nat → Int32) (waq : Nat) (wakq : Nat) (wacq : Nat) (wahq : Nat) (waaq : Nat) (wan : Nat) (wakd : Nat → Int32) (wace : Nat → Int32) (waho : Nat → Int32) (waac : Nat → Int32) (wy : Int32) (ht : wbt ≤ 6) (hn : fan ≤ 6) : Ke l g yX3_look wsX3_look ({ frames := 3, cells := 0, slots := 0, locals := 74 } : Room) 0 0 [.ref fq, .ref wq] [ob fq 3 [.ref fbq, .ref faq, .ref fsq, .long lw, .int la, .int lb, .int ls], ob fbq 4 [.long fbf, .int (nI fbt), .int fbz, .ref fbmq], ai g fbmq 6 fbm, ob faq 1 [.int (nI fan), .ref fakq, .ref facq, .ref fahq, .ref faaq], ai g fakq 6 fakd, ai g facq 6 face, ai g fahq 6 faho, ai g faaq 6 faac, ob fsq 5 [.int (nI fsn), .ref fscq, .ref fswq], ai g fscq 6 fsce, ai g fswq 6 fswe, ob wq 8 [.ref wbq, .ref waq, .int wy], ob wbq 4 [.long wbf, .int (nI wbt), .int wbz, .ref wbmq], ai g wbmq 6 wbm, ob waq 1 [.int (nI wan), .ref wakq, .ref wacq, .ref wahq, .ref waaq], ai g wakq 6 wakd, ai g wacq 6 wace, ai g wahq 6 waho, ai g waaq 6 waac] (fun u : Nat × (Nat → Int32) × (Nat → Int32) × (Nat → Int32) => none) (fun u => [ob fq 3 [.ref fbq, .ref faq, .ref fsq, .long lw, .int la, .int lb, .int ls], ob fbq 4 [.long (wbf ||| strF fakd face faho fan), .int (nI wbt), .int (frX wbz), .ref fbmq], ai g fbmq 6 u.2.2.2, ob faq 1 [.int (nI fan), .ref fakq, .ref facq, .ref fahq, .ref faaq], ai g fakq 6 fakd, ai g facq 6 face, ai g fahq 6 faho, ai g faaq 6 faac, ob fsq 5 [.int (nI u.1), .ref fscq, .ref fswq], ai g fscq 6 u.2.1, ai g fswq 6 u.2.2.1, ob wq 8 [.ref wbq, .ref waq, .int wy], ob wbq 4 [.long wbf, .int (nI wbt), .int wbz, .ref wbmq], ai g wbmq 6 wbm, ob waq 1 [.int (nI wan), .ref wakq, .ref wacq, .ref wahq, .ref waaq], ai g wakq 6 wakd, ai g wacq 6 wace, ai g wahq 6 waho, ai g waaq 6 waac]) (fun u => (∀ j, j < wbt → u.2.2.2 j = mvd fakd face faho fan wbz (wbm j))) := by
  refine Ke.of (cc := cX3_look) (maxL := 2) (ret := none) (lv := [(0, .ref fq), (1, .ref wq)]) RX3 rfl (by decide) rfl (Nat.le_of_ble_eq_true rfl) rfl ?_
  intro p e s m below meth c A sz hA9 X hr hin2
  have in3 : ∀ w ∈ u_ws RX3 TX3 7, w ∈ wsX3_look := by decide +kernel
  have in8 : ∀ w ∈ u_ws RX8 TX8 3, w ∈ wsX3_look := by decide +kernel
  refine V_aload_n (pc := 0) X dX3_look_0 rfl 0 rfl ?_
  refine V_get (C := RX3) (T := TX3) (N := 7) (ci := 3) (pc := 1) X dX3_look_1 in3 0 rfl rfl 0 (by decide) (by decide +kernel) rfl rfl ?_
  refine V_aload_n (pc := 4) X dX3_look_4 rfl 1 rfl ?_
  refine V_get (C := RX8) (T := TX8) (N := 3) (ci := 8) (pc := 5) X dX3_look_5 in8 11 rfl rfl 0 (by decide) (by decide +kernel) rfl rfl ?_
  refine V_ve (pc := 8) (nA := 1) (As := [.ref wbq]) (rest := []) X (c_X4_become l g (bq := fbq) (bmq := fbmq) (bf := fbf) (bt := fbt) (bz := fbz) (bm := fbm) (dq := wbq) (dmq := wbmq) (df := wbf) (dt := wbt) (dz := wbz) (dm := wbm) (hh := by first | assumption | omega)) gX3_look_X4_become dX3_look_8 rfl (by decide +kernel) rfl (qb := 1) rfl rfl rfl ⟨rfl, rfl⟩ ⟨Nat.le_of_ble_eq_true rfl, Nat.le_of_ble_eq_true rfl⟩ ⟨Nat.le_of_ble_eq_true rfl, Nat.le_of_ble_eq_true rfl⟩ [1, 2, 12, 13] (by decide) rfl [0, 3, 4, 5, 6, 7, 8, 9, 10, 11, 14, 15, 16, 17, 18] (by decide) (by decide) [ob fq 3 [.ref fbq, .ref faq, .ref fsq, .long lw, .int la, .int lb, .int ls], ob faq 1 [.int (nI fan), .ref fakq, .ref facq, .ref fahq, .ref faaq], ai g fakq 6 fakd, ai g facq 6 face, ai g fahq 6 faho, ai g faaq 6 faac, ob fsq 5 [.int (nI fsn), .ref fscq, .ref fswq], ai g fscq 6 fsce, ai g fswq 6 fswe, ob wq 8 [.ref wbq, .ref waq, .int wy], ob waq 1 [.int (nI wan), .ref wakq, .ref wacq, .ref wahq, .ref waaq], ai g wakq 6 wakd, ai g wacq 6 wace, ai g wahq 6 waho, ai g waaq 6 waac] rfl [0, 15, 16, 1, 2, 3, 4, 5, 6, 7, 8, 9, 17, 18, 10, 11, 12, 13, 14] (by decide) (fun u => [ob fq 3 [.ref fbq, .ref faq, .ref fsq, .long lw, .int la, .int lb, .int ls], ob fbq 4 [.long wbf, .int (nI wbt), .int wbz, .ref fbmq], ai g fbmq 6 (cpF fbm wbm wbt), ob faq 1 [.int (nI fan), .ref fakq, .ref facq, .ref fahq, .ref faaq], ai g fakq 6 fakd, ai g facq 6 face, ai g fahq 6 faho, ai g faaq 6 faac, ob fsq 5 [.int (nI fsn), .ref fscq, .ref fswq], ai g fscq 6 fsce, ai g fswq 6 fswe, ob wq 8 [.ref wbq, .ref waq, .int wy], ob wbq 4 [.long wbf, .int (nI wbt), .int wbz, .ref wbmq], ai g wbmq 6 wbm, ob waq 1 [.int (nI wan), .ref wakq, .ref wacq, .ref wahq, .ref waaq], ai g wakq 6 wakd, ai g wacq 6 wace, ai g wahq 6 waho, ai g waaq 6 waac]) (fun _ => rfl) rfl (Nat.le_of_ble_eq_true rfl) (fun u => []) (fun _ => rfl) (fun u hu_1 => ?_)
  refine V_eqw (ws2 := [ob fq 3 [.ref fbq, .ref faq, .ref fsq, .long lw, .int la, .int lb, .int ls], ob fbq 4 [.long wbf, .int (nI wbt), .int wbz, .ref fbmq], ai g fbmq 6 (cpF fbm wbm wbt), ob faq 1 [.int (nI fan), .ref fakq, .ref facq, .ref fahq, .ref faaq], ai g fakq 6 fakd, ai g facq 6 face, ai g fahq 6 faho, ai g faaq 6 faac, ob fsq 5 [.int (nI fsn), .ref fscq, .ref fswq], ai g fscq 6 fsce, ai g fswq 6 fswe, ob wq 8 [.ref wbq, .ref waq, .int wy], ob wbq 4 [.long wbf, .int (nI wbt), .int wbz, .ref wbmq], ai g wbmq 6 wbm, ob waq 1 [.int (nI wan), .ref wakq, .ref wacq, .ref wahq, .ref waaq], ai g wakq 6 wakd, ai g wacq 6 wace, ai g wahq 6 waho, ai g waaq 6 waac]) rfl (V_eqs (st2 := []) rfl ?_)
  refine V_aload_n (pc := 11) X dX3_look_11 rfl 0 rfl ?_
  refine V_get (C := RX3) (T := TX3) (N := 7) (ci := 3) (pc := 12) X dX3_look_12 in3 0 rfl rfl 0 (by decide) (by decide +kernel) rfl rfl ?_
  refine V_aload_n (pc := 15) X dX3_look_15 rfl 0 rfl ?_
  refine V_get (C := RX3) (T := TX3) (N := 7) (ci := 3) (pc := 16) X dX3_look_16 in3 0 rfl rfl 1 (by decide) (by decide +kernel) rfl rfl ?_
  refine V_aload_n (pc := 19) X dX3_look_19 rfl 0 rfl ?_
  refine V_get (C := RX3) (T := TX3) (N := 7) (ci := 3) (pc := 20) X dX3_look_20 in3 0 rfl rfl 2 (by decide) (by decide +kernel) rfl rfl ?_
  refine V_ve (pc := 23) (nA := 2) (As := [.ref faq, .ref fsq]) (rest := []) X (c_X4_pass l g (bq := fbq) (bmq := fbmq) (bf := wbf) (bt := wbt) (bz := wbz) (bm := cpF fbm wbm wbt) (aq := faq) (akq := fakq) (acq := facq) (ahq := fahq) (aaq := faaq) (an := fan) (akd := fakd) (ace := face) (aho := faho) (aac := faac) (sq := fsq) (scq := fscq) (swq := fswq) (sn := fsn) (sce := fsce) (swe := fswe) (ht := by first | assumption | omega) (hn := by first | assumption | omega)) gX3_look_X4_pass dX3_look_23 rfl (by decide +kernel) rfl (qb := 1) rfl rfl rfl ⟨rfl, rfl⟩ ⟨Nat.le_of_ble_eq_true rfl, Nat.le_of_ble_eq_true rfl⟩ ⟨Nat.le_of_ble_eq_true rfl, Nat.le_of_ble_eq_true rfl⟩ [1, 2, 3, 4, 5, 6, 7, 8, 9, 10] (by decide) rfl [0, 11, 12, 13, 14, 15, 16, 17, 18] (by decide) (by decide) [ob fq 3 [.ref fbq, .ref faq, .ref fsq, .long lw, .int la, .int lb, .int ls], ob wq 8 [.ref wbq, .ref waq, .int wy], ob wbq 4 [.long wbf, .int (nI wbt), .int wbz, .ref wbmq], ai g wbmq 6 wbm, ob waq 1 [.int (nI wan), .ref wakq, .ref wacq, .ref wahq, .ref waaq], ai g wakq 6 wakd, ai g wacq 6 wace, ai g wahq 6 waho, ai g waaq 6 waac] rfl [0, 9, 10, 11, 12, 13, 14, 15, 16, 17, 18, 1, 2, 3, 4, 5, 6, 7, 8] (by decide) (fun u => [ob fq 3 [.ref fbq, .ref faq, .ref fsq, .long lw, .int la, .int lb, .int ls], ob fbq 4 [.long (wbf ||| strF fakd face faho fan), .int (nI wbt), .int (frX wbz), .ref fbmq], ai g fbmq 6 (cpF (cpF fbm wbm wbt) (fun j => mvd fakd face faho fan wbz ((cpF fbm wbm wbt) j)) wbt), ob faq 1 [.int (nI fan), .ref fakq, .ref facq, .ref fahq, .ref faaq], ai g fakq 6 fakd, ai g facq 6 face, ai g fahq 6 faho, ai g faaq 6 faac, ob fsq 5 [.int (nI u.1), .ref fscq, .ref fswq], ai g fscq 6 u.2.1, ai g fswq 6 u.2.2, ob wq 8 [.ref wbq, .ref waq, .int wy], ob wbq 4 [.long wbf, .int (nI wbt), .int wbz, .ref wbmq], ai g wbmq 6 wbm, ob waq 1 [.int (nI wan), .ref wakq, .ref wacq, .ref wahq, .ref waaq], ai g wakq 6 wakd, ai g wacq 6 wace, ai g wahq 6 waho, ai g waaq 6 waac]) (fun _ => rfl) rfl (Nat.le_of_ble_eq_true rfl) (fun u => [.int (nI (mvC fakd face faho fan wbz (cpF fbm wbm wbt) wbt))]) (fun _ => rfl) (fun u hu_5 => ?_)
  obtain ⟨nn_2, nc_3, nw_4⟩ := u
  refine V_eqw (ws2 := [ob fq 3 [.ref fbq, .ref faq, .ref fsq, .long lw, .int la, .int lb, .int ls], ob fbq 4 [.long (wbf ||| strF fakd face faho fan), .int (nI wbt), .int (frX wbz), .ref fbmq], ai g fbmq 6 (cpF (cpF fbm wbm wbt) (fun j => mvd fakd face faho fan wbz ((cpF fbm wbm wbt) j)) wbt), ob faq 1 [.int (nI fan), .ref fakq, .ref facq, .ref fahq, .ref faaq], ai g fakq 6 fakd, ai g facq 6 face, ai g fahq 6 faho, ai g faaq 6 faac, ob fsq 5 [.int (nI nn_2), .ref fscq, .ref fswq], ai g fscq 6 nc_3, ai g fswq 6 nw_4, ob wq 8 [.ref wbq, .ref waq, .int wy], ob wbq 4 [.long wbf, .int (nI wbt), .int wbz, .ref wbmq], ai g wbmq 6 wbm, ob waq 1 [.int (nI wan), .ref wakq, .ref wacq, .ref wahq, .ref waaq], ai g wakq 6 wakd, ai g wacq 6 wace, ai g wahq 6 waho, ai g waaq 6 waac]) rfl (V_eqs (st2 := [.int (nI (mvC fakd face faho fan wbz (cpF fbm wbm wbt) wbt))]) rfl ?_)
  refine V_pop (pc := 26) X dX3_look_26 rfl ?_
  exact Ve_vret (pc := 27) X hA9 dX3_look_27 hr (nn_2, nc_3, nw_4, cpF (cpF fbm wbm wbt) (fun j => mvd fakd face faho fan wbz ((cpF fbm wbm wbt) j)) wbt) rfl (by
        try dsimp only
        intro j hj; simp [cpF, hj]) (by rfl)
set_option maxHeartbeats 4000000 in
set_option maxRecDepth 100000 in
theorem c_X3_stepsThen (l : Launch) (g : XG) (fq : Nat) (fbq : Nat) (fbmq : Nat) (fbf : Int64) (fbt : Nat) (fbz : Int32) (fbm : Nat → Int32) (faq : Nat) (fakq : Nat) (facq : Nat) (fahq : Nat) (faaq : Nat) (fan : Nat) (fakd : Nat → Int32) (face : Nat → Int32) (faho : Nat → Int32) (faac : Nat → Int32) (fsq : Nat) (fscq : Nat) (fswq : Nat) (fsn : Nat) (fsce : Nat → Int32) (fswe : Nat → Int32) (lw : Int64) (la : Int32) (lb : Int32) (ls : Int32) (wq : Nat) (wbq : Nat) (wbmq : Nat) (wbf : Int64) (wbt : Nat) (wbz : Int32) (wbm : Nat → Int32) (waq : Nat) (wakq : Nat) (wacq : Nat) (wahq : Nat) (waaq : Nat) (wan : Nat) (wakd : Nat → Int32) (wace : Nat → Int32) (waho : Nat → Int32) (waac : Nat → Int32) (wy : Int32) (x : Int32) (y : Int32) (ht : wbt ≤ 6) (hn : fan ≤ 6) (hc : ls = stX lw la lb) : Ke l g yX3_stepsThen wsX3_stepsThen ({ frames := 4, cells := 0, slots := 0, locals := 95 } : Room) 0 0 [.ref fq, .ref wq, .int x, .int y] [ob fq 3 [.ref fbq, .ref faq, .ref fsq, .long lw, .int la, .int lb, .int ls], ob fbq 4 [.long fbf, .int (nI fbt), .int fbz, .ref fbmq], ai g fbmq 6 fbm, ob faq 1 [.int (nI fan), .ref fakq, .ref facq, .ref fahq, .ref faaq], ai g fakq 6 fakd, ai g facq 6 face, ai g fahq 6 faho, ai g faaq 6 faac, ob fsq 5 [.int (nI fsn), .ref fscq, .ref fswq], ai g fscq 6 fsce, ai g fswq 6 fswe, ob wq 8 [.ref wbq, .ref waq, .int wy], ob wbq 4 [.long wbf, .int (nI wbt), .int wbz, .ref wbmq], ai g wbmq 6 wbm, ob waq 1 [.int (nI wan), .ref wakq, .ref wacq, .ref wahq, .ref waaq], ai g wakq 6 wakd, ai g wacq 6 wace, ai g wahq 6 waho, ai g waaq 6 waac] (fun u : Nat × (Nat → Int32) × (Nat → Int32) × (Nat → Int32) × Int64 × Int32 × Int32 × Int32 => some (.int (stX (thW fakd face faho fan wbz wbf wbm wbt) x y))) (fun u => [ob fq 3 [.ref fbq, .ref faq, .ref fsq, .long u.2.2.2.2.1, .int u.2.2.2.2.2.1, .int u.2.2.2.2.2.2.1, .int u.2.2.2.2.2.2.2], ob fbq 4 [.long (wbf ||| strF fakd face faho fan), .int (nI wbt), .int (frX wbz), .ref fbmq], ai g fbmq 6 u.2.2.2.1, ob faq 1 [.int (nI fan), .ref fakq, .ref facq, .ref fahq, .ref faaq], ai g fakq 6 fakd, ai g facq 6 face, ai g fahq 6 faho, ai g faaq 6 faac, ob fsq 5 [.int (nI u.1), .ref fscq, .ref fswq], ai g fscq 6 u.2.1, ai g fswq 6 u.2.2.1, ob wq 8 [.ref wbq, .ref waq, .int wy], ob wbq 4 [.long wbf, .int (nI wbt), .int wbz, .ref wbmq], ai g wbmq 6 wbm, ob waq 1 [.int (nI wan), .ref wakq, .ref wacq, .ref wahq, .ref waaq], ai g wakq 6 wakd, ai g wacq 6 wace, ai g wahq 6 waho, ai g waaq 6 waac]) (fun u => (u.2.2.2.2.2.2.2 = stX u.2.2.2.2.1 u.2.2.2.2.2.1 u.2.2.2.2.2.2.1)) := by
  refine Ke.of (cc := cX3_stepsThen) (maxL := 6) (ret := (some .int)) (lv := [(0, .ref fq), (1, .ref wq), (2, .int x), (3, .int y)]) RX3 rfl (by decide) rfl (Nat.le_of_ble_eq_true rfl) rfl ?_
  intro p e s m below meth c A sz hA9 X hr hin2
  have in3 : ∀ w ∈ u_ws RX3 TX3 7, w ∈ wsX3_stepsThen := by decide +kernel
  refine V_aload_n (pc := 0) X dX3_stepsThen_0 rfl 0 rfl ?_
  refine V_aload_n (pc := 1) X dX3_stepsThen_1 rfl 1 rfl ?_
  refine V_ve (pc := 2) (nA := 1) (As := [.ref wq]) (rest := []) X (c_X3_look l g (fq := fq) (fbq := fbq) (fbmq := fbmq) (fbf := fbf) (fbt := fbt) (fbz := fbz) (fbm := fbm) (faq := faq) (fakq := fakq) (facq := facq) (fahq := fahq) (faaq := faaq) (fan := fan) (fakd := fakd) (face := face) (faho := faho) (faac := faac) (fsq := fsq) (fscq := fscq) (fswq := fswq) (fsn := fsn) (fsce := fsce) (fswe := fswe) (lw := lw) (la := la) (lb := lb) (ls := ls) (wq := wq) (wbq := wbq) (wbmq := wbmq) (wbf := wbf) (wbt := wbt) (wbz := wbz) (wbm := wbm) (waq := waq) (wakq := wakq) (wacq := wacq) (wahq := wahq) (waaq := waaq) (wan := wan) (wakd := wakd) (wace := wace) (waho := waho) (waac := waac) (wy := wy) (ht := by first | assumption | omega) (hn := by first | assumption | omega)) gX3_stepsThen_X3_look dX3_stepsThen_2 rfl (by decide +kernel) rfl (qb := 0) rfl rfl rfl ⟨rfl, rfl⟩ ⟨Nat.le_of_ble_eq_true rfl, Nat.le_of_ble_eq_true rfl⟩ ⟨Nat.le_of_ble_eq_true rfl, Nat.le_of_ble_eq_true rfl⟩ [0, 1, 2, 3, 4, 5, 6, 7, 8, 9, 10, 11, 12, 13, 14, 15, 16, 17, 18] (by decide) rfl [] (by decide) (by decide) [] rfl [0, 1, 2, 3, 4, 5, 6, 7, 8, 9, 10, 11, 12, 13, 14, 15, 16, 17, 18] (by decide) (fun u => [ob fq 3 [.ref fbq, .ref faq, .ref fsq, .long lw, .int la, .int lb, .int ls], ob fbq 4 [.long (wbf ||| strF fakd face faho fan), .int (nI wbt), .int (frX wbz), .ref fbmq], ai g fbmq 6 u.2.2.2, ob faq 1 [.int (nI fan), .ref fakq, .ref facq, .ref fahq, .ref faaq], ai g fakq 6 fakd, ai g facq 6 face, ai g fahq 6 faho, ai g faaq 6 faac, ob fsq 5 [.int (nI u.1), .ref fscq, .ref fswq], ai g fscq 6 u.2.1, ai g fswq 6 u.2.2.1, ob wq 8 [.ref wbq, .ref waq, .int wy], ob wbq 4 [.long wbf, .int (nI wbt), .int wbz, .ref wbmq], ai g wbmq 6 wbm, ob waq 1 [.int (nI wan), .ref wakq, .ref wacq, .ref wahq, .ref waaq], ai g wakq 6 wakd, ai g wacq 6 wace, ai g wahq 6 waho, ai g waaq 6 waac]) (fun _ => rfl) rfl (Nat.le_of_ble_eq_true rfl) (fun u => []) (fun _ => rfl) (fun u hu_5 => ?_)
  obtain ⟨nn_1, nc_2, nw_3, nm_4⟩ := u
  try dsimp only at hu_5
  have hmm_6 := hu_5
  refine V_eqw (ws2 := [ob fq 3 [.ref fbq, .ref faq, .ref fsq, .long lw, .int la, .int lb, .int ls], ob fbq 4 [.long (wbf ||| strF fakd face faho fan), .int (nI wbt), .int (frX wbz), .ref fbmq], ai g fbmq 6 nm_4, ob faq 1 [.int (nI fan), .ref fakq, .ref facq, .ref fahq, .ref faaq], ai g fakq 6 fakd, ai g facq 6 face, ai g fahq 6 faho, ai g faaq 6 faac, ob fsq 5 [.int (nI nn_1), .ref fscq, .ref fswq], ai g fscq 6 nc_2, ai g fswq 6 nw_3, ob wq 8 [.ref wbq, .ref waq, .int wy], ob wbq 4 [.long wbf, .int (nI wbt), .int wbz, .ref wbmq], ai g wbmq 6 wbm, ob waq 1 [.int (nI wan), .ref wakq, .ref wacq, .ref wahq, .ref waaq], ai g wakq 6 wakd, ai g wacq 6 wace, ai g wahq 6 waho, ai g waaq 6 waac]) rfl (V_eqs (st2 := []) rfl ?_)
  refine V_aload_n (pc := 5) X dX3_stepsThen_5 rfl 0 rfl ?_
  refine V_get (C := RX3) (T := TX3) (N := 7) (ci := 3) (pc := 6) X dX3_stepsThen_6 in3 0 rfl rfl 0 (by decide) (by decide +kernel) rfl rfl ?_
  refine V_vg (pc := 9) (nA := 0) (As := []) (rest := []) X (c_X4_walkable l g (bq := fbq) (bmq := fbmq) (bf := wbf ||| strF fakd face faho fan) (bt := wbt) (bz := frX wbz) (bm := nm_4) (ht := by first | assumption | omega)) gX3_stepsThen_X4_walkable dX3_stepsThen_9 rfl (by decide +kernel) rfl (qb := 1) rfl rfl rfl ⟨rfl, rfl⟩ ⟨Nat.le_of_ble_eq_true rfl, Nat.le_of_ble_eq_true rfl⟩ ⟨Nat.le_of_ble_eq_true rfl, Nat.le_of_ble_eq_true rfl⟩ [1, 2] (by decide) rfl rfl (Nat.le_of_ble_eq_true rfl) (st' := [.long (wkX (frX wbz) (wbf ||| strF fakd face faho fan) nm_4 wbt (-1))]) rfl ?_
  refine V_setl (y := thW fakd face faho fan wbz wbf wbm wbt) (thW_of hmm_6) ?_
  refine V_lstore (lv' := [(4, .long (thW fakd face faho fan wbz wbf wbm wbt)), (0, .ref fq), (1, .ref wq), (2, .int x), (3, .int y)]) (pc := 12) X dX3_stepsThen_12 (Nat.le_of_ble_eq_true rfl) rfl ?_
  refine V_lload (pc := 14) X dX3_stepsThen_14 0 rfl ?_
  refine V_aload_n (pc := 16) X dX3_stepsThen_16 rfl 1 rfl ?_
  refine V_get (C := RX3) (T := TX3) (N := 7) (ci := 3) (pc := 17) X dX3_stepsThen_17 in3 0 rfl rfl 3 (by decide) (by decide +kernel) rfl rfl ?_
  refine V_lcmp (pc := 20) X dX3_stepsThen_20 ?_
  refine V_if_ne (tgt := 40) (pc := 21) X dX3_stepsThen_21 (by decide) (fun c_7 => ?_) (fun c_7 => ?_)
  · skip
    have q_8 : ¬ (thW fakd face faho fan wbz wbf wbm wbt) = lw := cmp_ne_t c_7
    refine V_aload_n (pc := 40) X dX3_stepsThen_40 rfl 1 rfl ?_
    refine V_lload (pc := 41) X dX3_stepsThen_41 0 rfl ?_
    refine V_put (C := RX3) (T := TX3) (N := 7) (ci := 3) (ws' := [ob fq 3 [.ref fbq, .ref faq, .ref fsq, .long (thW fakd face faho fan wbz wbf wbm wbt), .int la, .int lb, .int ls], ob fbq 4 [.long (wbf ||| strF fakd face faho fan), .int (nI wbt), .int (frX wbz), .ref fbmq], ai g fbmq 6 nm_4, ob faq 1 [.int (nI fan), .ref fakq, .ref facq, .ref fahq, .ref faaq], ai g fakq 6 fakd, ai g facq 6 face, ai g fahq 6 faho, ai g faaq 6 faac, ob fsq 5 [.int (nI nn_1), .ref fscq, .ref fswq], ai g fscq 6 nc_2, ai g fswq 6 nw_3, ob wq 8 [.ref wbq, .ref waq, .int wy], ob wbq 4 [.long wbf, .int (nI wbt), .int wbz, .ref wbmq], ai g wbmq 6 wbm, ob waq 1 [.int (nI wan), .ref wakq, .ref wacq, .ref wahq, .ref waaq], ai g wakq 6 wakd, ai g wacq 6 wace, ai g wahq 6 waho, ai g waaq 6 waac]) (pc := 43) X dX3_stepsThen_43 in3 tyX3 tyX3_ok nmX3 0 rfl rfl 3 (by decide) (by decide +kernel) rfl rfl rfl rfl rfl (Nat.le_of_ble_eq_true rfl) rfl ?_
    refine V_aload_n (pc := 46) X dX3_stepsThen_46 rfl 1 rfl ?_
    refine V_iload_n (pc := 47) X dX3_stepsThen_47 rfl 3 rfl ?_
    refine V_put (C := RX3) (T := TX3) (N := 7) (ci := 3) (ws' := [ob fq 3 [.ref fbq, .ref faq, .ref fsq, .long (thW fakd face faho fan wbz wbf wbm wbt), .int x, .int lb, .int ls], ob fbq 4 [.long (wbf ||| strF fakd face faho fan), .int (nI wbt), .int (frX wbz), .ref fbmq], ai g fbmq 6 nm_4, ob faq 1 [.int (nI fan), .ref fakq, .ref facq, .ref fahq, .ref faaq], ai g fakq 6 fakd, ai g facq 6 face, ai g fahq 6 faho, ai g faaq 6 faac, ob fsq 5 [.int (nI nn_1), .ref fscq, .ref fswq], ai g fscq 6 nc_2, ai g fswq 6 nw_3, ob wq 8 [.ref wbq, .ref waq, .int wy], ob wbq 4 [.long wbf, .int (nI wbt), .int wbz, .ref wbmq], ai g wbmq 6 wbm, ob waq 1 [.int (nI wan), .ref wakq, .ref wacq, .ref wahq, .ref waaq], ai g wakq 6 wakd, ai g wacq 6 wace, ai g wahq 6 waho, ai g waaq 6 waac]) (pc := 48) X dX3_stepsThen_48 in3 tyX3 tyX3_ok nmX3 0 rfl rfl 4 (by decide) (by decide +kernel) rfl rfl rfl rfl rfl (Nat.le_of_ble_eq_true rfl) rfl ?_
    refine V_aload_n (pc := 51) X dX3_stepsThen_51 rfl 1 rfl ?_
    refine V_iload_n (pc := 52) X dX3_stepsThen_52 rfl 4 rfl ?_
    refine V_put (C := RX3) (T := TX3) (N := 7) (ci := 3) (ws' := [ob fq 3 [.ref fbq, .ref faq, .ref fsq, .long (thW fakd face faho fan wbz wbf wbm wbt), .int x, .int y, .int ls], ob fbq 4 [.long (wbf ||| strF fakd face faho fan), .int (nI wbt), .int (frX wbz), .ref fbmq], ai g fbmq 6 nm_4, ob faq 1 [.int (nI fan), .ref fakq, .ref facq, .ref fahq, .ref faaq], ai g fakq 6 fakd, ai g facq 6 face, ai g fahq 6 faho, ai g faaq 6 faac, ob fsq 5 [.int (nI nn_1), .ref fscq, .ref fswq], ai g fscq 6 nc_2, ai g fswq 6 nw_3, ob wq 8 [.ref wbq, .ref waq, .int wy], ob wbq 4 [.long wbf, .int (nI wbt), .int wbz, .ref wbmq], ai g wbmq 6 wbm, ob waq 1 [.int (nI wan), .ref wakq, .ref wacq, .ref wahq, .ref waaq], ai g wakq 6 wakd, ai g wacq 6 wace, ai g wahq 6 waho, ai g waaq 6 waac]) (pc := 53) X dX3_stepsThen_53 in3 tyX3 tyX3_ok nmX3 0 rfl rfl 5 (by decide) (by decide +kernel) rfl rfl rfl rfl rfl (Nat.le_of_ble_eq_true rfl) rfl ?_
    refine V_aload_n (pc := 56) X dX3_stepsThen_56 rfl 1 rfl ?_
    refine V_lload (pc := 57) X dX3_stepsThen_57 0 rfl ?_
    refine V_iload_n (pc := 59) X dX3_stepsThen_59 rfl 3 rfl ?_
    refine V_iload_n (pc := 60) X dX3_stepsThen_60 rfl 4 rfl ?_
    refine V_ng (pc := 61) (nA := 3) (As := [.long (thW fakd face faho fan wbz wbf wbm wbt), .int x, .int y]) (rest := [.ref fq]) X (c_X9_steps l g (w := thW fakd face faho fan wbz wbf wbm wbt) (x := x) (y := y) ) gX3_stepsThen_X9_steps_n66 dX3_stepsThen_61 rfl (by decide +kernel) rfl (by decide +kernel) (by decide +kernel) (by decide +kernel) ⟨rfl, rfl⟩ ⟨Nat.le_of_ble_eq_true rfl, Nat.le_of_ble_eq_true rfl⟩ ⟨Nat.le_of_ble_eq_true rfl, Nat.le_of_ble_eq_true rfl⟩ [] (by decide) rfl rfl (Nat.le_of_ble_eq_true rfl) (st' := [.int (stX (thW fakd face faho fan wbz wbf wbm wbt) x y), .ref fq]) rfl ?_
    refine V_put (C := RX3) (T := TX3) (N := 7) (ci := 3) (ws' := [ob fq 3 [.ref fbq, .ref faq, .ref fsq, .long (thW fakd face faho fan wbz wbf wbm wbt), .int x, .int y, .int (stX (thW fakd face faho fan wbz wbf wbm wbt) x y)], ob fbq 4 [.long (wbf ||| strF fakd face faho fan), .int (nI wbt), .int (frX wbz), .ref fbmq], ai g fbmq 6 nm_4, ob faq 1 [.int (nI fan), .ref fakq, .ref facq, .ref fahq, .ref faaq], ai g fakq 6 fakd, ai g facq 6 face, ai g fahq 6 faho, ai g faaq 6 faac, ob fsq 5 [.int (nI nn_1), .ref fscq, .ref fswq], ai g fscq 6 nc_2, ai g fswq 6 nw_3, ob wq 8 [.ref wbq, .ref waq, .int wy], ob wbq 4 [.long wbf, .int (nI wbt), .int wbz, .ref wbmq], ai g wbmq 6 wbm, ob waq 1 [.int (nI wan), .ref wakq, .ref wacq, .ref wahq, .ref waaq], ai g wakq 6 wakd, ai g wacq 6 wace, ai g wahq 6 waho, ai g waaq 6 waac]) (pc := 64) X dX3_stepsThen_64 in3 tyX3 tyX3_ok nmX3 0 rfl rfl 6 (by decide) (by decide +kernel) rfl rfl rfl rfl rfl (Nat.le_of_ble_eq_true rfl) rfl ?_
    refine V_aload_n (pc := 67) X dX3_stepsThen_67 rfl 1 rfl ?_
    refine V_get (C := RX3) (T := TX3) (N := 7) (ci := 3) (pc := 68) X dX3_stepsThen_68 in3 0 rfl rfl 6 (by decide) (by decide +kernel) rfl rfl ?_
    exact Ve_iret (pc := 71) X hA9 dX3_stepsThen_71 hr (nn_1, nc_2, nw_3, nm_4, thW fakd face faho fan wbz wbf wbm wbt, x, y, stX (thW fakd face faho fan wbz wbf wbm wbt) x y) (by first | rfl | (rw [hc]; simp only [hmm_6, q_8])) (by
          try dsimp only
          all_goals first | rfl | exact hc) (by rfl)
  · skip
    have q_9 : (thW fakd face faho fan wbz wbf wbm wbt) = lw := cmp_ne_f c_7
    refine V_iload_n (pc := 24) X dX3_stepsThen_24 rfl 3 rfl ?_
    refine V_aload_n (pc := 25) X dX3_stepsThen_25 rfl 1 rfl ?_
    refine V_get (C := RX3) (T := TX3) (N := 7) (ci := 3) (pc := 26) X dX3_stepsThen_26 in3 0 rfl rfl 4 (by decide) (by decide +kernel) rfl rfl ?_
    refine V_icmp_ne (tgt := 40) (pc := 29) X dX3_stepsThen_29 (by decide) (fun c_10 => ?_) (fun c_10 => ?_)
    · skip
      refine V_aload_n (pc := 40) X dX3_stepsThen_40 rfl 1 rfl ?_
      refine V_lload (pc := 41) X dX3_stepsThen_41 0 rfl ?_
      refine V_put (C := RX3) (T := TX3) (N := 7) (ci := 3) (ws' := [ob fq 3 [.ref fbq, .ref faq, .ref fsq, .long (thW fakd face faho fan wbz wbf wbm wbt), .int la, .int lb, .int ls], ob fbq 4 [.long (wbf ||| strF fakd face faho fan), .int (nI wbt), .int (frX wbz), .ref fbmq], ai g fbmq 6 nm_4, ob faq 1 [.int (nI fan), .ref fakq, .ref facq, .ref fahq, .ref faaq], ai g fakq 6 fakd, ai g facq 6 face, ai g fahq 6 faho, ai g faaq 6 faac, ob fsq 5 [.int (nI nn_1), .ref fscq, .ref fswq], ai g fscq 6 nc_2, ai g fswq 6 nw_3, ob wq 8 [.ref wbq, .ref waq, .int wy], ob wbq 4 [.long wbf, .int (nI wbt), .int wbz, .ref wbmq], ai g wbmq 6 wbm, ob waq 1 [.int (nI wan), .ref wakq, .ref wacq, .ref wahq, .ref waaq], ai g wakq 6 wakd, ai g wacq 6 wace, ai g wahq 6 waho, ai g waaq 6 waac]) (pc := 43) X dX3_stepsThen_43 in3 tyX3 tyX3_ok nmX3 0 rfl rfl 3 (by decide) (by decide +kernel) rfl rfl rfl rfl rfl (Nat.le_of_ble_eq_true rfl) rfl ?_
      refine V_aload_n (pc := 46) X dX3_stepsThen_46 rfl 1 rfl ?_
      refine V_iload_n (pc := 47) X dX3_stepsThen_47 rfl 3 rfl ?_
      refine V_put (C := RX3) (T := TX3) (N := 7) (ci := 3) (ws' := [ob fq 3 [.ref fbq, .ref faq, .ref fsq, .long (thW fakd face faho fan wbz wbf wbm wbt), .int x, .int lb, .int ls], ob fbq 4 [.long (wbf ||| strF fakd face faho fan), .int (nI wbt), .int (frX wbz), .ref fbmq], ai g fbmq 6 nm_4, ob faq 1 [.int (nI fan), .ref fakq, .ref facq, .ref fahq, .ref faaq], ai g fakq 6 fakd, ai g facq 6 face, ai g fahq 6 faho, ai g faaq 6 faac, ob fsq 5 [.int (nI nn_1), .ref fscq, .ref fswq], ai g fscq 6 nc_2, ai g fswq 6 nw_3, ob wq 8 [.ref wbq, .ref waq, .int wy], ob wbq 4 [.long wbf, .int (nI wbt), .int wbz, .ref wbmq], ai g wbmq 6 wbm, ob waq 1 [.int (nI wan), .ref wakq, .ref wacq, .ref wahq, .ref waaq], ai g wakq 6 wakd, ai g wacq 6 wace, ai g wahq 6 waho, ai g waaq 6 waac]) (pc := 48) X dX3_stepsThen_48 in3 tyX3 tyX3_ok nmX3 0 rfl rfl 4 (by decide) (by decide +kernel) rfl rfl rfl rfl rfl (Nat.le_of_ble_eq_true rfl) rfl ?_
      refine V_aload_n (pc := 51) X dX3_stepsThen_51 rfl 1 rfl ?_
      refine V_iload_n (pc := 52) X dX3_stepsThen_52 rfl 4 rfl ?_
      refine V_put (C := RX3) (T := TX3) (N := 7) (ci := 3) (ws' := [ob fq 3 [.ref fbq, .ref faq, .ref fsq, .long (thW fakd face faho fan wbz wbf wbm wbt), .int x, .int y, .int ls], ob fbq 4 [.long (wbf ||| strF fakd face faho fan), .int (nI wbt), .int (frX wbz), .ref fbmq], ai g fbmq 6 nm_4, ob faq 1 [.int (nI fan), .ref fakq, .ref facq, .ref fahq, .ref faaq], ai g fakq 6 fakd, ai g facq 6 face, ai g fahq 6 faho, ai g faaq 6 faac, ob fsq 5 [.int (nI nn_1), .ref fscq, .ref fswq], ai g fscq 6 nc_2, ai g fswq 6 nw_3, ob wq 8 [.ref wbq, .ref waq, .int wy], ob wbq 4 [.long wbf, .int (nI wbt), .int wbz, .ref wbmq], ai g wbmq 6 wbm, ob waq 1 [.int (nI wan), .ref wakq, .ref wacq, .ref wahq, .ref waaq], ai g wakq 6 wakd, ai g wacq 6 wace, ai g wahq 6 waho, ai g waaq 6 waac]) (pc := 53) X dX3_stepsThen_53 in3 tyX3 tyX3_ok nmX3 0 rfl rfl 5 (by decide) (by decide +kernel) rfl rfl rfl rfl rfl (Nat.le_of_ble_eq_true rfl) rfl ?_
      refine V_aload_n (pc := 56) X dX3_stepsThen_56 rfl 1 rfl ?_
      refine V_lload (pc := 57) X dX3_stepsThen_57 0 rfl ?_
      refine V_iload_n (pc := 59) X dX3_stepsThen_59 rfl 3 rfl ?_
      refine V_iload_n (pc := 60) X dX3_stepsThen_60 rfl 4 rfl ?_
      refine V_ng (pc := 61) (nA := 3) (As := [.long (thW fakd face faho fan wbz wbf wbm wbt), .int x, .int y]) (rest := [.ref fq]) X (c_X9_steps l g (w := thW fakd face faho fan wbz wbf wbm wbt) (x := x) (y := y) ) gX3_stepsThen_X9_steps_n66 dX3_stepsThen_61 rfl (by decide +kernel) rfl (by decide +kernel) (by decide +kernel) (by decide +kernel) ⟨rfl, rfl⟩ ⟨Nat.le_of_ble_eq_true rfl, Nat.le_of_ble_eq_true rfl⟩ ⟨Nat.le_of_ble_eq_true rfl, Nat.le_of_ble_eq_true rfl⟩ [] (by decide) rfl rfl (Nat.le_of_ble_eq_true rfl) (st' := [.int (stX (thW fakd face faho fan wbz wbf wbm wbt) x y), .ref fq]) rfl ?_
      refine V_put (C := RX3) (T := TX3) (N := 7) (ci := 3) (ws' := [ob fq 3 [.ref fbq, .ref faq, .ref fsq, .long (thW fakd face faho fan wbz wbf wbm wbt), .int x, .int y, .int (stX (thW fakd face faho fan wbz wbf wbm wbt) x y)], ob fbq 4 [.long (wbf ||| strF fakd face faho fan), .int (nI wbt), .int (frX wbz), .ref fbmq], ai g fbmq 6 nm_4, ob faq 1 [.int (nI fan), .ref fakq, .ref facq, .ref fahq, .ref faaq], ai g fakq 6 fakd, ai g facq 6 face, ai g fahq 6 faho, ai g faaq 6 faac, ob fsq 5 [.int (nI nn_1), .ref fscq, .ref fswq], ai g fscq 6 nc_2, ai g fswq 6 nw_3, ob wq 8 [.ref wbq, .ref waq, .int wy], ob wbq 4 [.long wbf, .int (nI wbt), .int wbz, .ref wbmq], ai g wbmq 6 wbm, ob waq 1 [.int (nI wan), .ref wakq, .ref wacq, .ref wahq, .ref waaq], ai g wakq 6 wakd, ai g wacq 6 wace, ai g wahq 6 waho, ai g waaq 6 waac]) (pc := 64) X dX3_stepsThen_64 in3 tyX3 tyX3_ok nmX3 0 rfl rfl 6 (by decide) (by decide +kernel) rfl rfl rfl rfl rfl (Nat.le_of_ble_eq_true rfl) rfl ?_
      refine V_aload_n (pc := 67) X dX3_stepsThen_67 rfl 1 rfl ?_
      refine V_get (C := RX3) (T := TX3) (N := 7) (ci := 3) (pc := 68) X dX3_stepsThen_68 in3 0 rfl rfl 6 (by decide) (by decide +kernel) rfl rfl ?_
      exact Ve_iret (pc := 71) X hA9 dX3_stepsThen_71 hr (nn_1, nc_2, nw_3, nm_4, thW fakd face faho fan wbz wbf wbm wbt, x, y, stX (thW fakd face faho fan wbz wbf wbm wbt) x y) (by first | rfl | (rw [hc]; simp only [hmm_6, q_9, c_10])) (by
            try dsimp only
            all_goals first | rfl | exact hc) (by rfl)
    · skip
      refine V_iload_n (pc := 32) X dX3_stepsThen_32 rfl 4 rfl ?_
      refine V_aload_n (pc := 33) X dX3_stepsThen_33 rfl 1 rfl ?_
      refine V_get (C := RX3) (T := TX3) (N := 7) (ci := 3) (pc := 34) X dX3_stepsThen_34 in3 0 rfl rfl 5 (by decide) (by decide +kernel) rfl rfl ?_
      refine V_icmp_eq (tgt := 67) (pc := 37) X dX3_stepsThen_37 (by decide) (fun c_11 => ?_) (fun c_11 => ?_)
      · skip
        refine V_aload_n (pc := 67) X dX3_stepsThen_67 rfl 1 rfl ?_
        refine V_get (C := RX3) (T := TX3) (N := 7) (ci := 3) (pc := 68) X dX3_stepsThen_68 in3 0 rfl rfl 6 (by decide) (by decide +kernel) rfl rfl ?_
        exact Ve_iret (pc := 71) X hA9 dX3_stepsThen_71 hr (nn_1, nc_2, nw_3, nm_4, lw, la, lb, ls) (by first | rfl | (rw [hc]; simp only [hmm_6, q_9, c_10, c_11])) (by
              try dsimp only
              all_goals first | rfl | exact hc) (by rfl)
      · skip
        refine V_aload_n (pc := 40) X dX3_stepsThen_40 rfl 1 rfl ?_
        refine V_lload (pc := 41) X dX3_stepsThen_41 0 rfl ?_
        refine V_put (C := RX3) (T := TX3) (N := 7) (ci := 3) (ws' := [ob fq 3 [.ref fbq, .ref faq, .ref fsq, .long (thW fakd face faho fan wbz wbf wbm wbt), .int la, .int lb, .int ls], ob fbq 4 [.long (wbf ||| strF fakd face faho fan), .int (nI wbt), .int (frX wbz), .ref fbmq], ai g fbmq 6 nm_4, ob faq 1 [.int (nI fan), .ref fakq, .ref facq, .ref fahq, .ref faaq], ai g fakq 6 fakd, ai g facq 6 face, ai g fahq 6 faho, ai g faaq 6 faac, ob fsq 5 [.int (nI nn_1), .ref fscq, .ref fswq], ai g fscq 6 nc_2, ai g fswq 6 nw_3, ob wq 8 [.ref wbq, .ref waq, .int wy], ob wbq 4 [.long wbf, .int (nI wbt), .int wbz, .ref wbmq], ai g wbmq 6 wbm, ob waq 1 [.int (nI wan), .ref wakq, .ref wacq, .ref wahq, .ref waaq], ai g wakq 6 wakd, ai g wacq 6 wace, ai g wahq 6 waho, ai g waaq 6 waac]) (pc := 43) X dX3_stepsThen_43 in3 tyX3 tyX3_ok nmX3 0 rfl rfl 3 (by decide) (by decide +kernel) rfl rfl rfl rfl rfl (Nat.le_of_ble_eq_true rfl) rfl ?_
        refine V_aload_n (pc := 46) X dX3_stepsThen_46 rfl 1 rfl ?_
        refine V_iload_n (pc := 47) X dX3_stepsThen_47 rfl 3 rfl ?_
        refine V_put (C := RX3) (T := TX3) (N := 7) (ci := 3) (ws' := [ob fq 3 [.ref fbq, .ref faq, .ref fsq, .long (thW fakd face faho fan wbz wbf wbm wbt), .int x, .int lb, .int ls], ob fbq 4 [.long (wbf ||| strF fakd face faho fan), .int (nI wbt), .int (frX wbz), .ref fbmq], ai g fbmq 6 nm_4, ob faq 1 [.int (nI fan), .ref fakq, .ref facq, .ref fahq, .ref faaq], ai g fakq 6 fakd, ai g facq 6 face, ai g fahq 6 faho, ai g faaq 6 faac, ob fsq 5 [.int (nI nn_1), .ref fscq, .ref fswq], ai g fscq 6 nc_2, ai g fswq 6 nw_3, ob wq 8 [.ref wbq, .ref waq, .int wy], ob wbq 4 [.long wbf, .int (nI wbt), .int wbz, .ref wbmq], ai g wbmq 6 wbm, ob waq 1 [.int (nI wan), .ref wakq, .ref wacq, .ref wahq, .ref waaq], ai g wakq 6 wakd, ai g wacq 6 wace, ai g wahq 6 waho, ai g waaq 6 waac]) (pc := 48) X dX3_stepsThen_48 in3 tyX3 tyX3_ok nmX3 0 rfl rfl 4 (by decide) (by decide +kernel) rfl rfl rfl rfl rfl (Nat.le_of_ble_eq_true rfl) rfl ?_
        refine V_aload_n (pc := 51) X dX3_stepsThen_51 rfl 1 rfl ?_
        refine V_iload_n (pc := 52) X dX3_stepsThen_52 rfl 4 rfl ?_
        refine V_put (C := RX3) (T := TX3) (N := 7) (ci := 3) (ws' := [ob fq 3 [.ref fbq, .ref faq, .ref fsq, .long (thW fakd face faho fan wbz wbf wbm wbt), .int x, .int y, .int ls], ob fbq 4 [.long (wbf ||| strF fakd face faho fan), .int (nI wbt), .int (frX wbz), .ref fbmq], ai g fbmq 6 nm_4, ob faq 1 [.int (nI fan), .ref fakq, .ref facq, .ref fahq, .ref faaq], ai g fakq 6 fakd, ai g facq 6 face, ai g fahq 6 faho, ai g faaq 6 faac, ob fsq 5 [.int (nI nn_1), .ref fscq, .ref fswq], ai g fscq 6 nc_2, ai g fswq 6 nw_3, ob wq 8 [.ref wbq, .ref waq, .int wy], ob wbq 4 [.long wbf, .int (nI wbt), .int wbz, .ref wbmq], ai g wbmq 6 wbm, ob waq 1 [.int (nI wan), .ref wakq, .ref wacq, .ref wahq, .ref waaq], ai g wakq 6 wakd, ai g wacq 6 wace, ai g wahq 6 waho, ai g waaq 6 waac]) (pc := 53) X dX3_stepsThen_53 in3 tyX3 tyX3_ok nmX3 0 rfl rfl 5 (by decide) (by decide +kernel) rfl rfl rfl rfl rfl (Nat.le_of_ble_eq_true rfl) rfl ?_
        refine V_aload_n (pc := 56) X dX3_stepsThen_56 rfl 1 rfl ?_
        refine V_lload (pc := 57) X dX3_stepsThen_57 0 rfl ?_
        refine V_iload_n (pc := 59) X dX3_stepsThen_59 rfl 3 rfl ?_
        refine V_iload_n (pc := 60) X dX3_stepsThen_60 rfl 4 rfl ?_
        refine V_ng (pc := 61) (nA := 3) (As := [.long (thW fakd face faho fan wbz wbf wbm wbt), .int x, .int y]) (rest := [.ref fq]) X (c_X9_steps l g (w := thW fakd face faho fan wbz wbf wbm wbt) (x := x) (y := y) ) gX3_stepsThen_X9_steps_n66 dX3_stepsThen_61 rfl (by decide +kernel) rfl (by decide +kernel) (by decide +kernel) (by decide +kernel) ⟨rfl, rfl⟩ ⟨Nat.le_of_ble_eq_true rfl, Nat.le_of_ble_eq_true rfl⟩ ⟨Nat.le_of_ble_eq_true rfl, Nat.le_of_ble_eq_true rfl⟩ [] (by decide) rfl rfl (Nat.le_of_ble_eq_true rfl) (st' := [.int (stX (thW fakd face faho fan wbz wbf wbm wbt) x y), .ref fq]) rfl ?_
        refine V_put (C := RX3) (T := TX3) (N := 7) (ci := 3) (ws' := [ob fq 3 [.ref fbq, .ref faq, .ref fsq, .long (thW fakd face faho fan wbz wbf wbm wbt), .int x, .int y, .int (stX (thW fakd face faho fan wbz wbf wbm wbt) x y)], ob fbq 4 [.long (wbf ||| strF fakd face faho fan), .int (nI wbt), .int (frX wbz), .ref fbmq], ai g fbmq 6 nm_4, ob faq 1 [.int (nI fan), .ref fakq, .ref facq, .ref fahq, .ref faaq], ai g fakq 6 fakd, ai g facq 6 face, ai g fahq 6 faho, ai g faaq 6 faac, ob fsq 5 [.int (nI nn_1), .ref fscq, .ref fswq], ai g fscq 6 nc_2, ai g fswq 6 nw_3, ob wq 8 [.ref wbq, .ref waq, .int wy], ob wbq 4 [.long wbf, .int (nI wbt), .int wbz, .ref wbmq], ai g wbmq 6 wbm, ob waq 1 [.int (nI wan), .ref wakq, .ref wacq, .ref wahq, .ref waaq], ai g wakq 6 wakd, ai g wacq 6 wace, ai g wahq 6 waho, ai g waaq 6 waac]) (pc := 64) X dX3_stepsThen_64 in3 tyX3 tyX3_ok nmX3 0 rfl rfl 6 (by decide) (by decide +kernel) rfl rfl rfl rfl rfl (Nat.le_of_ble_eq_true rfl) rfl ?_
        refine V_aload_n (pc := 67) X dX3_stepsThen_67 rfl 1 rfl ?_
        refine V_get (C := RX3) (T := TX3) (N := 7) (ci := 3) (pc := 68) X dX3_stepsThen_68 in3 0 rfl rfl 6 (by decide) (by decide +kernel) rfl rfl ?_
        exact Ve_iret (pc := 71) X hA9 dX3_stepsThen_71 hr (nn_1, nc_2, nw_3, nm_4, thW fakd face faho fan wbz wbf wbm wbt, x, y, stX (thW fakd face faho fan wbz wbf wbm wbt) x y) (by first | rfl | (rw [hc]; simp only [hmm_6, q_9, c_10, c_11])) (by
              try dsimp only
              all_goals first | rfl | exact hc) (by rfl)
set_option maxHeartbeats 4000000 in
set_option maxRecDepth 100000 in
theorem c_X7_canTake (l : Launch) (g : XG) (w : Int64) (n : Nat) (hn : n ≤ 8) : Kg l g yX7_canTake wsX7_canTake ({ frames := 0, cells := 0, slots := 0, locals := 0 } : Room) [.long w, .int (nI n)] [] (some (.int (bI (ctF w n)))) := by
  refine Kg.of (cc := cX7_canTake) (maxL := 6) (ret := (some .boolean)) (lv := [(0, .long w), (2, .int (nI n))]) RX7 rfl (by decide) rfl (Nat.le_of_ble_eq_true rfl) rfl ?_
  intro p e s m below meth c A X hr
  refine V_iconst (v := 0) (pc := 0) X dX7_canTake_0 (by decide) ?_
  refine V_istore_n (lv' := [(3, .int 0), (0, .long w), (2, .int (nI n))]) (pc := 1) X dX7_canTake_1 rfl (Nat.le_of_ble_eq_true rfl) rfl ?_
  refine V_loop (pc := 2) (σ := Nat) (fun v9 => [(0, .long w), (2, .int (nI n)), (3, .int (nI v9))]) (fun v9 => []) (fun v9 => (v9 ≤ n) ∧ (ctF w v9 = true)) (fun v9 => n - v9) 0 ⟨(by
        try dsimp only
        all_goals omega), (by
        try dsimp only
        all_goals rfl)⟩ rfl [1, 2, 0] rfl ?_
  rintro k ⟨hk, hs⟩ ih2
  refine V_eqw (ws2 := []) rfl (V_eql (lv' := [(0, .long w), (2, .int (nI n)), (3, .int (nI k))]) rfl ?_)
  refine V_iload_n (pc := 2) X dX7_canTake_2 rfl 2 rfl ?_
  refine V_iload_n (pc := 3) X dX7_canTake_3 rfl 1 rfl ?_
  refine V_icmp_ge (tgt := 45) (pc := 4) X dX7_canTake_4 (by decide) (fun c_1 => ?_) (fun c_1 => ?_)
  · skip
    have n_2 : n ≤ k := nJ_le (a := n) (b := k) (by omega) (by omega) c_1
    refine V_iconst (v := 1) (pc := 45) X dX7_canTake_45 (by decide) ?_
    exact Vg_zret (pc := 46) X dX7_canTake_46 hr (by first | (rw [show n = k by omega, hs]; all_goals rfl) | (rw [ctF_no (k := k) (Or.inl (by assumption)) (by assumption)]; all_goals rfl) | (rw [ctF_no (k := k) (Or.inr (by assumption)) (by assumption)]; all_goals rfl)) rfl
  · skip
    have n_3 : k < n := nJ_nle (a := n) (b := k) (by omega) (by omega) c_1
    refine V_lload_n (pc := 7) X dX7_canTake_7 rfl 0 rfl ?_
    refine V_bipush (v := 8) (pc := 8) X dX7_canTake_8 (by decide) ?_
    refine V_iload_n (pc := 10) X dX7_canTake_10 rfl 2 rfl ?_
    refine V_imul (pc := 11) X dX7_canTake_11 ?_
    refine V_seti (y := nI (8 * k)) (pk_mul 8 k) ?_
    refine V_lushr (pc := 12) X dX7_canTake_12 ?_
    refine V_ldc2 (v := 255) (pc := 13) X dX7_canTake_13 (by decide +kernel) ?_
    refine V_land (pc := 16) X dX7_canTake_16 ?_
    refine V_setl (y := sgn w k) rfl ?_
    refine V_lstore (lv' := [(4, .long (sgn w k)), (0, .long w), (2, .int (nI n)), (3, .int (nI k))]) (pc := 17) X dX7_canTake_17 (Nat.le_of_ble_eq_true rfl) rfl ?_
    refine V_lload (pc := 19) X dX7_canTake_19 0 rfl ?_
    refine V_ldc2 (v := 32) (pc := 21) X dX7_canTake_21 (by decide +kernel) ?_
    refine V_lcmp (pc := 24) X dX7_canTake_24 ?_
    refine V_if_lt (tgt := 37) (pc := 25) X dX7_canTake_25 (by decide) (fun c_4 => ?_) (fun c_4 => ?_)
    · skip
      have q_5 : (sgn w k) < 32 := cmp_lt_t c_4
      refine V_iconst (v := 0) (pc := 37) X dX7_canTake_37 (by decide) ?_
      exact Vg_zret (pc := 38) X dX7_canTake_38 hr (by first | (rw [show n = k by omega, hs]; all_goals rfl) | (rw [ctF_no (k := k) (Or.inl (by assumption)) (by assumption)]; all_goals rfl) | (rw [ctF_no (k := k) (Or.inr (by assumption)) (by assumption)]; all_goals rfl)) rfl
    · skip
      have q_6 : ¬ (sgn w k) < 32 := cmp_lt_f c_4
      refine V_lload (pc := 28) X dX7_canTake_28 0 rfl ?_
      refine V_ldc2 (v := 126) (pc := 30) X dX7_canTake_30 (by decide +kernel) ?_
      refine V_lcmp (pc := 33) X dX7_canTake_33 ?_
      refine V_if_le (tgt := 39) (pc := 34) X dX7_canTake_34 (by decide) (fun c_7 => ?_) (fun c_7 => ?_)
      · skip
        have q_8 : ¬ 126 < (sgn w k) := cmp_le_t c_7
        refine V_iinc (v := nI (k + 1)) (lv' := [(3, .int (nI (k + 1))), (4, .long (sgn w k)), (0, .long w), (2, .int (nI n))]) (pc := 39) X dX7_canTake_39 3 rfl (nI_add k 1) (Nat.le_of_ble_eq_true rfl) rfl ?_
        refine V_goto (tgt := 2) (pc := 42) X dX7_canTake_42 (by decide) ?_
        refine V_lv [2, 3, 0] rfl ?_
        exact ih2 (k + 1) ⟨(by
              try dsimp only
              all_goals omega), (by
              try dsimp only
              exact ctF_s hs (by assumption) (by assumption))⟩ (by
              try dsimp only
              all_goals omega)
      · skip
        have q_9 : 126 < (sgn w k) := cmp_le_f c_7
        refine V_iconst (v := 0) (pc := 37) X dX7_canTake_37 (by decide) ?_
        exact Vg_zret (pc := 38) X dX7_canTake_38 hr (by first | (rw [show n = k by omega, hs]; all_goals rfl) | (rw [ctF_no (k := k) (Or.inl (by assumption)) (by assumption)]; all_goals rfl) | (rw [ctF_no (k := k) (Or.inr (by assumption)) (by assumption)]; all_goals rfl)) rfl
set_option maxHeartbeats 4000000 in
set_option maxRecDepth 100000 in
theorem c_X7_append_full (l : Launch) (g : XG) (tq : Nat) (tbq : Nat) (tcq : Nat) (tn : Nat) (tb : Nat → Int32) (tf : Int64) (tm : Nat → Int32) (tu : Nat) (w : Int64) (n : Nat) (hn : n ≤ 8) (htn : tn ≤ 60) (hf : 60 - tn < n) : Kg l g yX7_append wsX7_append ({ frames := 0, cells := 0, slots := 0, locals := 0 } : Room) [.ref tq, .long w, .int (nI n)] [ob tq 7 [.ref tbq, .int (nI tn), .long tf, .ref tcq, .int (nI tu)], ab g tbq 60 tb, ai g tcq 6 tm] (some (.int (-3))) := by
  refine Kg.of (cc := cX7_append) (maxL := 5) (ret := (some .int)) (lv := [(0, .ref tq), (1, .long w), (3, .int (nI n))]) RX7 rfl (by decide) rfl (Nat.le_of_ble_eq_true rfl) rfl ?_
  intro p e s m below meth c A X hr
  have in7 : ∀ w ∈ u_ws RX7 TX7 5, w ∈ wsX7_append := by decide +kernel
  refine V_iload_n (pc := 0) X dX7_append_0 rfl 2 rfl ?_
  refine V_bipush (v := 60) (pc := 1) X dX7_append_1 (by decide) ?_
  refine V_aload_n (pc := 3) X dX7_append_3 rfl 0 rfl ?_
  refine V_get (C := RX7) (T := TX7) (N := 5) (ci := 7) (pc := 4) X dX7_append_4 in7 0 rfl rfl 1 (by decide) (by decide +kernel) rfl rfl ?_
  refine V_isub (pc := 7) X dX7_append_7 ?_
  refine V_seti (y := nI (60 - tn)) (pk_sub (by omega)) ?_
  refine V_icmp_le (tgt := 14) (pc := 8) X dX7_append_8 (by decide) (fun c_1 => ?_) (fun c_1 => ?_)
  · exact absurd c_1 (fun q => absurd (nJ_le (by omega) (by omega) q) (by omega))
  · skip
    have n_2 : (60 - tn) < n := nJ_nle (a := n) (b := 60 - tn) (by omega) (by omega) c_1
    refine V_bipush (v := (-3)) (pc := 11) X dX7_append_11 (by decide) ?_
    exact Vg_iret (pc := 13) X dX7_append_13 hr (by first | rfl | (simp [n_2]; done))
set_option maxHeartbeats 4000000 in
set_option maxRecDepth 100000 in
theorem c_X7_append_fits (l : Launch) (g : XG) (tq : Nat) (tbq : Nat) (tcq : Nat) (tn : Nat) (tb : Nat → Int32) (tf : Int64) (tm : Nat → Int32) (tu : Nat) (w : Int64) (n : Nat) (hn : n ≤ 8) (htn : tn ≤ 60) (hf : n ≤ 60 - tn) : Ke l g yX7_append wsX7_append ({ frames := 0, cells := 0, slots := 0, locals := 0 } : Room) 0 0 [.ref tq, .long w, .int (nI n)] [ob tq 7 [.ref tbq, .int (nI tn), .long tf, .ref tcq, .int (nI tu)], ab g tbq 60 tb, ai g tcq 6 tm] (fun u : Unit => some (.int (nI (tn + n)))) (fun u => [ob tq 7 [.ref tbq, .int (nI (tn + n)), .long tf, .ref tcq, .int (nI tu)], ab g tbq 60 (apF w n tb tn), ai g tcq 6 tm]) (fun u => True) := by
  refine Ke.of (cc := cX7_append) (maxL := 5) (ret := (some .int)) (lv := [(0, .ref tq), (1, .long w), (3, .int (nI n))]) RX7 rfl (by decide) rfl (Nat.le_of_ble_eq_true rfl) rfl ?_
  intro p e s m below meth c A sz hA9 X hr hin2
  have in7 : ∀ w ∈ u_ws RX7 TX7 5, w ∈ wsX7_append := by decide +kernel
  refine V_iload_n (pc := 0) X dX7_append_0 rfl 2 rfl ?_
  refine V_bipush (v := 60) (pc := 1) X dX7_append_1 (by decide) ?_
  refine V_aload_n (pc := 3) X dX7_append_3 rfl 0 rfl ?_
  refine V_get (C := RX7) (T := TX7) (N := 5) (ci := 7) (pc := 4) X dX7_append_4 in7 0 rfl rfl 1 (by decide) (by decide +kernel) rfl rfl ?_
  refine V_isub (pc := 7) X dX7_append_7 ?_
  refine V_seti (y := nI (60 - tn)) (pk_sub (by omega)) ?_
  refine V_icmp_le (tgt := 14) (pc := 8) X dX7_append_8 (by decide) (fun c_1 => ?_) (fun c_1 => ?_)
  · skip
    have n_2 : n ≤ (60 - tn) := nJ_le (a := n) (b := 60 - tn) (by omega) (by omega) c_1
    refine V_iload_n (pc := 14) X dX7_append_14 rfl 2 rfl ?_
    refine V_iconst (v := 1) (pc := 15) X dX7_append_15 (by decide) ?_
    refine V_isub (pc := 16) X dX7_append_16 ?_
    refine V_istore (lv' := [(4, .int ((nI n) - 1)), (0, .ref tq), (1, .long w), (3, .int (nI n))]) (pc := 17) X dX7_append_17 (Nat.le_of_ble_eq_true rfl) rfl ?_
    refine V_loop (pc := 19) (σ := Nat × Nat × (Nat → Int32)) (fun v9 => [(0, .ref tq), (1, .long w), (4, .int ((nI v9.1) - 1))]) (fun v9 => [ob tq 7 [.ref tbq, .int (nI v9.2.1), .long tf, .ref tcq, .int (nI tu)], ab g tbq 60 v9.2.2, ai g tcq 6 tm]) (fun v9 => (v9.2.1 + v9.1 = tn + n) ∧ (apF w v9.1 v9.2.2 v9.2.1 = apF w n tb tn)) (fun v9 => v9.1) (n, tn, tb) ⟨(by
          try dsimp only
          all_goals omega), (by
          try dsimp only
          all_goals rfl)⟩ rfl [1, 2, 0] rfl ?_
    rintro ⟨jr, mm, z⟩ ⟨hm, hs⟩ ih19
    try dsimp only at hm
    try dsimp only at hs
    refine V_eqw (ws2 := [ob tq 7 [.ref tbq, .int (nI mm), .long tf, .ref tcq, .int (nI tu)], ab g tbq 60 z, ai g tcq 6 tm]) rfl (V_eql (lv' := [(0, .ref tq), (1, .long w), (4, .int ((nI jr) - 1))]) rfl ?_)
    refine V_iload (pc := 19) X dX7_append_19 2 rfl ?_
    refine V_if_lt (tgt := 58) (pc := 21) X dX7_append_21 (by decide) (fun c_3 => ?_) (fun c_3 => ?_)
    · skip
      have hj0 := jr0 c_3 (by omega)
      refine V_aload_n (pc := 58) X dX7_append_58 rfl 0 rfl ?_
      refine V_get (C := RX7) (T := TX7) (N := 5) (ci := 7) (pc := 59) X dX7_append_59 in7 0 rfl rfl 1 (by decide) (by decide +kernel) rfl rfl ?_
      exact Ve_iret (pc := 62) X hA9 dX7_append_62 hr () (by (rw [show tn + n = mm by omega]; all_goals rfl)) trivial (by (rw [← hs, hj0, show tn + n = mm by omega]; all_goals rfl))
    · skip
      obtain ⟨j_4, rfl⟩ := jr1 c_3
      refine V_eql (lv' := [(0, .ref tq), (1, .long w), (4, .int (nI j_4))]) (by rw [nI_pred]) ?_
      refine V_aload_n (pc := 24) X dX7_append_24 rfl 0 rfl ?_
      refine V_get (C := RX7) (T := TX7) (N := 5) (ci := 7) (pc := 25) X dX7_append_25 in7 0 rfl rfl 0 (by decide) (by decide +kernel) rfl rfl ?_
      refine V_aload_n (pc := 28) X dX7_append_28 rfl 0 rfl ?_
      refine V_get (C := RX7) (T := TX7) (N := 5) (ci := 7) (pc := 29) X dX7_append_29 in7 0 rfl rfl 1 (by decide) (by decide +kernel) rfl rfl ?_
      refine V_lload_n (pc := 32) X dX7_append_32 rfl 1 rfl ?_
      refine V_bipush (v := 8) (pc := 33) X dX7_append_33 (by decide) ?_
      refine V_iload (pc := 35) X dX7_append_35 2 rfl ?_
      refine V_imul (pc := 37) X dX7_append_37 ?_
      refine V_seti (y := nI (8 * j_4)) (pk_mul 8 j_4) ?_
      refine V_lushr (pc := 38) X dX7_append_38 ?_
      refine V_l2i (pc := 39) X dX7_append_39 ?_
      refine V_i2b (pc := 40) X dX7_append_40 ?_
      refine V_bast (f' := upd z mm (vp_nar .byte ((((w.toUInt64 >>> ((nI (8 * j_4)).toInt64.toUInt64 &&& Int64.toUInt64 63)).toInt64).toInt32).toInt8.toInt32))) (ws' := [ob tq 7 [.ref tbq, .int (nI mm), .long tf, .ref tcq, .int (nI tu)], ab g tbq 60 (upd z mm (vp_nar .byte ((((w.toUInt64 >>> ((nI (8 * j_4)).toInt64.toUInt64 &&& Int64.toUInt64 63)).toInt64).toInt32).toInt8.toInt32))), ai g tcq 6 tm]) (pc := 41) X dX7_append_41 1 rfl (vp_in_nI (by omega) (by omega)) (by rw [nI_clamp (by omega)]) rfl ?_
      refine V_aload_n (pc := 42) X dX7_append_42 rfl 0 rfl ?_
      refine V_dup (pc := 43) X dX7_append_43 rfl ?_
      refine V_get (C := RX7) (T := TX7) (N := 5) (ci := 7) (pc := 44) X dX7_append_44 in7 0 rfl rfl 1 (by decide) (by decide +kernel) rfl rfl ?_
      refine V_iconst (v := 1) (pc := 47) X dX7_append_47 (by decide) ?_
      refine V_iadd (pc := 48) X dX7_append_48 ?_
      refine V_seti (y := nI (mm + 1)) (nI_add mm 1) ?_
      refine V_put (C := RX7) (T := TX7) (N := 5) (ci := 7) (ws' := [ob tq 7 [.ref tbq, .int (nI (mm + 1)), .long tf, .ref tcq, .int (nI tu)], ab g tbq 60 (upd z mm (vp_nar .byte ((((w.toUInt64 >>> ((nI (8 * j_4)).toInt64.toUInt64 &&& Int64.toUInt64 63)).toInt64).toInt32).toInt8.toInt32))), ai g tcq 6 tm]) (pc := 49) X dX7_append_49 in7 tyX7 tyX7_ok nmX7 0 rfl rfl 1 (by decide) (by decide +kernel) rfl rfl rfl rfl rfl (Nat.le_of_ble_eq_true rfl) rfl ?_
      refine V_iinc (v := (nI j_4) - 1) (lv' := [(4, .int ((nI j_4) - 1)), (0, .ref tq), (1, .long w)]) (pc := 52) X dX7_append_52 2 rfl (by rw [Int32.sub_eq_add_neg]; rfl) (Nat.le_of_ble_eq_true rfl) rfl ?_
      refine V_goto (tgt := 19) (pc := 55) X dX7_append_55 (by decide) ?_
      refine V_lv [1, 2, 0] rfl ?_
      exact ih19 (j_4, mm + 1, upd z mm (vp_nar .byte ((((w.toUInt64 >>> ((nI (8 * j_4)).toInt64.toUInt64 &&& Int64.toUInt64 63)).toInt64).toInt32).toInt8.toInt32))) ⟨(by
            try dsimp only
            all_goals omega), (by
            try dsimp only
            exact hs)⟩ (by
            try dsimp only
            all_goals omega)
  · exact absurd c_1 (fun q => q (nI_le (by omega) (by omega)))
set_option maxHeartbeats 4000000 in
set_option maxRecDepth 100000 in
theorem c_X7_takesTuft (l : Launch) (g : XG) (tq : Nat) (tbq : Nat) (tcq : Nat) (tn : Nat) (tb : Nat → Int32) (tf : Int64) (tm : Nat → Int32) (tu : Nat) (x : Int32) (hu : tu ≤ 6) : Ke l g yX7_takesTuft wsX7_takesTuft ({ frames := 0, cells := 0, slots := 0, locals := 0 } : Room) 0 0 [.ref tq, .int x] [ob tq 7 [.ref tbq, .int (nI tn), .long tf, .ref tcq, .int (nI tu)], ab g tbq 60 tb, ai g tcq 6 tm] (fun u : Unit => some (.int (bI ((ttF x (tf, tm, tu)).1)))) (fun u => [ob tq 7 [.ref tbq, .int (nI tn), .long ((ttF x (tf, tm, tu)).2.1), .ref tcq, .int (nI ((ttF x (tf, tm, tu)).2.2.2))], ab g tbq 60 tb, ai g tcq 6 ((ttF x (tf, tm, tu)).2.2.1)]) (fun u => True) := by
  refine Ke.of (cc := cX7_takesTuft) (maxL := 2) (ret := (some .boolean)) (lv := [(0, .ref tq), (1, .int x)]) RX7 rfl (by decide) rfl (Nat.le_of_ble_eq_true rfl) rfl ?_
  intro p e s m below meth c A sz hA9 X hr hin2
  have in7 : ∀ w ∈ u_ws RX7 TX7 5, w ∈ wsX7_takesTuft := by decide +kernel
  refine V_aload_n (pc := 0) X dX7_takesTuft_0 rfl 0 rfl ?_
  refine V_get (C := RX7) (T := TX7) (N := 5) (ci := 7) (pc := 1) X dX7_takesTuft_1 in7 0 rfl rfl 4 (by decide) (by decide +kernel) rfl rfl ?_
  refine V_bipush (v := 6) (pc := 4) X dX7_takesTuft_4 (by decide) ?_
  refine V_icmp_lt (tgt := 11) (pc := 6) X dX7_takesTuft_6 (by decide) (fun c_1 => ?_) (fun c_1 => ?_)
  · skip
    have n_2 : tu < 6 := nJ_lt (a := tu) (b := 6) (by omega) (by omega) c_1
    refine V_aload_n (pc := 11) X dX7_takesTuft_11 rfl 0 rfl ?_
    refine V_get (C := RX7) (T := TX7) (N := 5) (ci := 7) (pc := 12) X dX7_takesTuft_12 in7 0 rfl rfl 3 (by decide) (by decide +kernel) rfl rfl ?_
    refine V_aload_n (pc := 15) X dX7_takesTuft_15 rfl 0 rfl ?_
    refine V_get (C := RX7) (T := TX7) (N := 5) (ci := 7) (pc := 16) X dX7_takesTuft_16 in7 0 rfl rfl 4 (by decide) (by decide +kernel) rfl rfl ?_
    refine V_iload_n (pc := 19) X dX7_takesTuft_19 rfl 1 rfl ?_
    refine V_iast (f' := upd tm tu x) (ws' := [ob tq 7 [.ref tbq, .int (nI tn), .long tf, .ref tcq, .int (nI tu)], ab g tbq 60 tb, ai g tcq 6 (upd tm tu x)]) (pc := 20) X dX7_takesTuft_20 2 rfl (vp_in_nI (by omega) (by omega)) (by rw [nI_clamp (by omega)]) rfl ?_
    refine V_aload_n (pc := 21) X dX7_takesTuft_21 rfl 0 rfl ?_
    refine V_dup (pc := 22) X dX7_takesTuft_22 rfl ?_
    refine V_get (C := RX7) (T := TX7) (N := 5) (ci := 7) (pc := 23) X dX7_takesTuft_23 in7 0 rfl rfl 4 (by decide) (by decide +kernel) rfl rfl ?_
    refine V_iconst (v := 1) (pc := 26) X dX7_takesTuft_26 (by decide) ?_
    refine V_iadd (pc := 27) X dX7_takesTuft_27 ?_
    refine V_seti (y := nI (tu + 1)) (nI_add tu 1) ?_
    refine V_put (C := RX7) (T := TX7) (N := 5) (ci := 7) (ws' := [ob tq 7 [.ref tbq, .int (nI tn), .long tf, .ref tcq, .int (nI (tu + 1))], ab g tbq 60 tb, ai g tcq 6 (upd tm tu x)]) (pc := 28) X dX7_takesTuft_28 in7 tyX7 tyX7_ok nmX7 0 rfl rfl 4 (by decide) (by decide +kernel) rfl rfl rfl rfl rfl (Nat.le_of_ble_eq_true rfl) rfl ?_
    refine V_iconst (v := 1) (pc := 31) X dX7_takesTuft_31 (by decide) ?_
    exact Ve_zret (pc := 32) X hA9 dX7_takesTuft_32 hr () (by first | (simp [ttF, bI, show ¬ tu < 6 by omega]; done) | (simp [ttF, bI, show tu < 6 by omega]; done)) trivial rfl (by first | (simp [ttF, show ¬ tu < 6 by omega]; done) | (simp [ttF, show tu < 6 by omega]; done))
  · skip
    have n_3 : 6 ≤ tu := nJ_nlt (a := tu) (b := 6) (by omega) (by omega) c_1
    refine V_iconst (v := 0) (pc := 9) X dX7_takesTuft_9 (by decide) ?_
    exact Ve_zret (pc := 10) X hA9 dX7_takesTuft_10 hr () (by first | (simp [ttF, bI, show ¬ tu < 6 by omega]; done) | (simp [ttF, bI, show tu < 6 by omega]; done)) trivial rfl (by first | (simp [ttF, show ¬ tu < 6 by omega]; done) | (simp [ttF, show tu < 6 by omega]; done))
set_option maxHeartbeats 4000000 in
set_option maxRecDepth 100000 in
theorem c_X7_takesCell (l : Launch) (g : XG) (tq : Nat) (tbq : Nat) (tcq : Nat) (tn : Nat) (tb : Nat → Int32) (tf : Int64) (tm : Nat → Int32) (tu : Nat) (x : Int32) (y : Int32) (hu : tu ≤ 6) : Ke l g yX7_takesCell wsX7_takesCell ({ frames := 1, cells := 0, slots := 0, locals := 21 } : Room) 0 0 [.ref tq, .int x, .int y] [ob tq 7 [.ref tbq, .int (nI tn), .long tf, .ref tcq, .int (nI tu)], ab g tbq 60 tb, ai g tcq 6 tm] (fun u : Unit => some (.int (bI ((tcF x y (tf, tm, tu)).1)))) (fun u => [ob tq 7 [.ref tbq, .int (nI tn), .long ((tcF x y (tf, tm, tu)).2.1), .ref tcq, .int (nI ((tcF x y (tf, tm, tu)).2.2.2))], ab g tbq 60 tb, ai g tcq 6 ((tcF x y (tf, tm, tu)).2.2.1)]) (fun u => True) := by
  refine Ke.of (cc := cX7_takesCell) (maxL := 3) (ret := (some .boolean)) (lv := [(0, .ref tq), (1, .int x), (2, .int y)]) RX7 rfl (by decide) rfl (Nat.le_of_ble_eq_true rfl) rfl ?_
  intro p e s m below meth c A sz hA9 X hr hin2
  have in7 : ∀ w ∈ u_ws RX7 TX7 5, w ∈ wsX7_takesCell := by decide +kernel
  refine V_iload_n (pc := 0) X dX7_takesCell_0 rfl 2 rfl ?_
  by_cases w_1 : y = 35
  · refine V_lookup (off := 37) (tgt := 38) (pc := 1) X dX7_takesCell_1 (by decide) (by rw [w_1]; decide) (by decide) ?_
    refine V_aload_n (pc := 38) X dX7_takesCell_38 rfl 0 rfl ?_
    refine V_dup (pc := 39) X dX7_takesCell_39 rfl ?_
    refine V_get (C := RX7) (T := TX7) (N := 5) (ci := 7) (pc := 40) X dX7_takesCell_40 in7 0 rfl rfl 2 (by decide) (by decide +kernel) rfl rfl ?_
    refine V_iload_n (pc := 43) X dX7_takesCell_43 rfl 1 rfl ?_
    refine V_ng (pc := 44) (nA := 1) (As := [.int x]) (rest := [.long tf, .ref tq]) X (c_X9_bit l g (x := x) ) gX7_takesCell_X9_bit_n43 dX7_takesCell_44 rfl (by decide +kernel) rfl (by decide +kernel) (by decide +kernel) (by decide +kernel) ⟨rfl, rfl⟩ ⟨Nat.le_of_ble_eq_true rfl, Nat.le_of_ble_eq_true rfl⟩ ⟨Nat.le_of_ble_eq_true rfl, Nat.le_of_ble_eq_true rfl⟩ [] (by decide) rfl rfl (Nat.le_of_ble_eq_true rfl) (st' := [.long (bitI x), .long tf, .ref tq]) rfl ?_
    refine V_lor (pc := 47) X dX7_takesCell_47 ?_
    refine V_put (C := RX7) (T := TX7) (N := 5) (ci := 7) (ws' := [ob tq 7 [.ref tbq, .int (nI tn), .long (tf ||| (bitI x)), .ref tcq, .int (nI tu)], ab g tbq 60 tb, ai g tcq 6 tm]) (pc := 48) X dX7_takesCell_48 in7 tyX7 tyX7_ok nmX7 0 rfl rfl 2 (by decide) (by decide +kernel) rfl rfl rfl rfl rfl (Nat.le_of_ble_eq_true rfl) rfl ?_
    refine V_iconst (v := 1) (pc := 51) X dX7_takesCell_51 (by decide) ?_
    exact Ve_zret (pc := 52) X hA9 dX7_takesCell_52 hr () (by first | rfl | (simp [tcF, bI, w_1]; done)) trivial rfl (by simp [tcF, w_1])
  by_cases w_2 : y = 46
  · refine V_lookup (off := 35) (tgt := 36) (pc := 1) X dX7_takesCell_1 (by decide) (by rw [w_2]; decide) (by decide) ?_
    refine V_iconst (v := 1) (pc := 36) X dX7_takesCell_36 (by decide) ?_
    exact Ve_zret (pc := 37) X hA9 dX7_takesCell_37 hr () (by first | rfl | (simp [tcF, bI, w_2]; done)) trivial rfl (by simp [tcF, w_2])
  by_cases w_3 : y = 109
  · refine V_lookup (off := 52) (tgt := 53) (pc := 1) X dX7_takesCell_1 (by decide) (by rw [w_3]; decide) (by decide) ?_
    refine V_aload_n (pc := 53) X dX7_takesCell_53 rfl 0 rfl ?_
    refine V_iload_n (pc := 54) X dX7_takesCell_54 rfl 1 rfl ?_
    refine V_ve (pc := 55) (nA := 1) (As := [.int x]) (rest := []) X (c_X7_takesTuft l g (tq := tq) (tbq := tbq) (tcq := tcq) (tn := tn) (tb := tb) (tf := tf) (tm := tm) (tu := tu) (x := x) (hu := by first | assumption | omega)) gX7_takesCell_X7_takesTuft dX7_takesCell_55 rfl (by decide +kernel) rfl (qb := 0) rfl rfl rfl ⟨rfl, rfl⟩ ⟨Nat.le_of_ble_eq_true rfl, Nat.le_of_ble_eq_true rfl⟩ ⟨Nat.le_of_ble_eq_true rfl, Nat.le_of_ble_eq_true rfl⟩ [0, 1, 2] (by decide) rfl [] (by decide) (by decide) [] rfl [0, 1, 2] (by decide) (fun u => [ob tq 7 [.ref tbq, .int (nI tn), .long ((ttF x (tf, tm, tu)).2.1), .ref tcq, .int (nI ((ttF x (tf, tm, tu)).2.2.2))], ab g tbq 60 tb, ai g tcq 6 ((ttF x (tf, tm, tu)).2.2.1)]) (fun _ => rfl) rfl (Nat.le_of_ble_eq_true rfl) (fun u => [.int (bI ((ttF x (tf, tm, tu)).1))]) (fun _ => rfl) (fun u hu_4 => ?_)
    refine V_eqw (ws2 := [ob tq 7 [.ref tbq, .int (nI tn), .long ((ttF x (tf, tm, tu)).2.1), .ref tcq, .int (nI ((ttF x (tf, tm, tu)).2.2.2))], ab g tbq 60 tb, ai g tcq 6 ((ttF x (tf, tm, tu)).2.2.1)]) rfl (V_eqs (st2 := [.int (bI ((ttF x (tf, tm, tu)).1))]) rfl ?_)
    exact Ve_zret (pc := 58) X hA9 dX7_takesCell_58 hr () (by first | rfl | (simp [tcF, bI, w_3]; done)) trivial (bI_n _) (by simp [tcF, w_3])
  refine V_lookup (off := 58) (tgt := 59) (pc := 1) X dX7_takesCell_1 (by decide) (by
      exact ((lv_osw w_1 (by decide)).trans ((lv_osw w_2 (by decide)).trans ((lv_osw w_3 (by decide)).trans rfl)))) (by decide) ?_
  refine V_iconst (v := 0) (pc := 59) X dX7_takesCell_59 (by decide) ?_
  exact Ve_zret (pc := 60) X hA9 dX7_takesCell_60 hr () (by first | rfl | (simp [tcF, bI, w_1, w_2, w_3]; done)) trivial rfl (by simp [tcF, w_1, w_2, w_3])
set_option maxHeartbeats 4000000 in
set_option maxRecDepth 100000 in
theorem c_X7_takes (l : Launch) (g : XG) (tq : Nat) (tbq : Nat) (tcq : Nat) (tn : Nat) (tb : Nat → Int32) (tf : Int64) (tm : Nat → Int32) (tu : Nat) (pl : Nat) (y : Int32) (hp : pl ≤ 100) (hu : tu ≤ 6) : Ke l g yX7_takes wsX7_takes ({ frames := 2, cells := 0, slots := 0, locals := 43 } : Room) 0 0 [.ref tq, .int (nI pl), .int y] [ob tq 7 [.ref tbq, .int (nI tn), .long tf, .ref tcq, .int (nI tu)], ab g tbq 60 tb, ai g tcq 6 tm] (fun u : Unit => some (.int (bI ((tkF pl y (tf, tm, tu)).1)))) (fun u => [ob tq 7 [.ref tbq, .int (nI tn), .long ((tkF pl y (tf, tm, tu)).2.1), .ref tcq, .int (nI ((tkF pl y (tf, tm, tu)).2.2.2))], ab g tbq 60 tb, ai g tcq 6 ((tkF pl y (tf, tm, tu)).2.2.1)]) (fun u => True) := by
  refine Ke.of (cc := cX7_takes) (maxL := 5) (ret := (some .boolean)) (lv := [(0, .ref tq), (1, .int (nI pl)), (2, .int y)]) RX7 rfl (by decide) rfl (Nat.le_of_ble_eq_true rfl) rfl ?_
  intro p e s m below meth c A sz hA9 X hr hin2
  refine V_iload_n (pc := 0) X dX7_takes_0 rfl 1 rfl ?_
  refine V_bipush (v := 7) (pc := 1) X dX7_takes_1 (by decide) ?_
  refine V_idiv (pc := 3) X dX7_takes_3 (by decide) ?_
  refine V_seti (y := nI (pl / 7)) (pk_div (a := pl) (d := 7) (by omega) (by omega) (by omega)) ?_
  refine V_istore_n (lv' := [(3, .int (nI (pl / 7))), (0, .ref tq), (1, .int (nI pl)), (2, .int y)]) (pc := 4) X dX7_takes_4 rfl (Nat.le_of_ble_eq_true rfl) rfl ?_
  refine V_iload_n (pc := 5) X dX7_takes_5 rfl 2 rfl ?_
  refine V_bipush (v := 7) (pc := 6) X dX7_takes_6 (by decide) ?_
  refine V_irem (pc := 8) X dX7_takes_8 (by decide) ?_
  refine V_seti (y := nI (pl % 7)) (pk_rem (a := pl) (d := 7) (by omega) (by omega) (by omega)) ?_
  refine V_istore (lv' := [(4, .int (nI (pl % 7))), (3, .int (nI (pl / 7))), (0, .ref tq), (1, .int (nI pl)), (2, .int y)]) (pc := 9) X dX7_takes_9 (Nat.le_of_ble_eq_true rfl) rfl ?_
  refine V_iload_n (pc := 11) X dX7_takes_11 rfl 1 rfl ?_
  refine V_bipush (v := 6) (pc := 12) X dX7_takes_12 (by decide) ?_
  refine V_icmp_ge (tgt := 29) (pc := 14) X dX7_takes_14 (by decide) (fun c_1 => ?_) (fun c_1 => ?_)
  · skip
    have n_2 : 6 ≤ (pl / 7) := nJ_le (a := 6) (b := pl / 7) (by omega) (by omega) c_1
    refine V_iconst (v := 0) (pc := 29) X dX7_takes_29 (by decide) ?_
    exact Ve_zret (pc := 30) X hA9 dX7_takes_30 hr () (by first | (exfalso; omega) | (simp [tkF, bI, show 6 ≤ pl / 7 by omega]; done) | (simp [tkF, bI, show ¬ 6 ≤ pl / 7 by omega, show pl / 7 = 5 by omega, show pl % 7 = 6 by omega]; done) | (simp [tkF, bI, show ¬ 6 ≤ pl / 7 by omega, show ¬ pl / 7 = 5 by omega, show pl % 7 = 6 by omega, n_2]; done) | (simp [tkF, bI, show ¬ 6 ≤ pl / 7 by omega, show ¬ pl % 7 = 6 by omega]; done)) trivial rfl (by first | (exfalso; omega) | (simp [tkF, show 6 ≤ pl / 7 by omega]; done) | (simp [tkF, show ¬ 6 ≤ pl / 7 by omega, show pl / 7 = 5 by omega, show pl % 7 = 6 by omega]; done) | (simp [tkF, show ¬ 6 ≤ pl / 7 by omega, show ¬ pl / 7 = 5 by omega, show pl % 7 = 6 by omega, n_2]; done) | (simp [tkF, show ¬ 6 ≤ pl / 7 by omega, show ¬ pl % 7 = 6 by omega]; done))
  · skip
    have n_3 : (pl / 7) < 6 := nJ_nle (a := 6) (b := pl / 7) (by omega) (by omega) c_1
    refine V_iload_n (pc := 17) X dX7_takes_17 rfl 1 rfl ?_
    refine V_iconst (v := 5) (pc := 18) X dX7_takes_18 (by decide) ?_
    refine V_icmp_ne (tgt := 31) (pc := 19) X dX7_takes_19 (by decide) (fun c_4 => ?_) (fun c_4 => ?_)
    · skip
      have n_5 : (pl / 7) ≠ 5 := nJ_ne (a := pl / 7) (b := 5) (by omega) (by omega) c_4
      refine V_iload (pc := 31) X dX7_takes_31 0 rfl ?_
      refine V_bipush (v := 6) (pc := 33) X dX7_takes_33 (by decide) ?_
      refine V_icmp_ne (tgt := 52) (pc := 35) X dX7_takes_35 (by decide) (fun c_6 => ?_) (fun c_6 => ?_)
      · skip
        have n_7 : (pl % 7) ≠ 6 := nJ_ne (a := pl % 7) (b := 6) (by omega) (by omega) c_6
        refine V_aload_n (pc := 52) X dX7_takes_52 rfl 2 rfl ?_
        refine V_iload_n (pc := 53) X dX7_takes_53 rfl 1 rfl ?_
        refine V_bipush (v := 6) (pc := 54) X dX7_takes_54 (by decide) ?_
        refine V_imul (pc := 56) X dX7_takes_56 ?_
        refine V_seti (y := nI ((pl / 7) * 6)) (pk_mul (pl / 7) 6) ?_
        refine V_iload (pc := 57) X dX7_takes_57 0 rfl ?_
        refine V_iadd (pc := 59) X dX7_takes_59 ?_
        refine V_seti (y := nI (((pl / 7) * 6) + (pl % 7))) (nI_add ((pl / 7) * 6) (pl % 7)) ?_
        refine V_iload_n (pc := 60) X dX7_takes_60 rfl 4 rfl ?_
        refine V_ve (pc := 61) (nA := 2) (As := [.int (nI (((pl / 7) * 6) + (pl % 7))), .int y]) (rest := []) X (c_X7_takesCell l g (tq := tq) (tbq := tbq) (tcq := tcq) (tn := tn) (tb := tb) (tf := tf) (tm := tm) (tu := tu) (x := nI (((pl / 7) * 6) + (pl % 7))) (y := y) (hu := by first | assumption | omega)) gX7_takes_X7_takesCell dX7_takes_61 rfl (by decide +kernel) rfl (qb := 0) rfl rfl rfl ⟨rfl, rfl⟩ ⟨Nat.le_of_ble_eq_true rfl, Nat.le_of_ble_eq_true rfl⟩ ⟨Nat.le_of_ble_eq_true rfl, Nat.le_of_ble_eq_true rfl⟩ [0, 1, 2] (by decide) rfl [] (by decide) (by decide) [] rfl [0, 1, 2] (by decide) (fun u => [ob tq 7 [.ref tbq, .int (nI tn), .long ((tcF (nI (((pl / 7) * 6) + (pl % 7))) y (tf, tm, tu)).2.1), .ref tcq, .int (nI ((tcF (nI (((pl / 7) * 6) + (pl % 7))) y (tf, tm, tu)).2.2.2))], ab g tbq 60 tb, ai g tcq 6 ((tcF (nI (((pl / 7) * 6) + (pl % 7))) y (tf, tm, tu)).2.2.1)]) (fun _ => rfl) rfl (Nat.le_of_ble_eq_true rfl) (fun u => [.int (bI ((tcF (nI (((pl / 7) * 6) + (pl % 7))) y (tf, tm, tu)).1))]) (fun _ => rfl) (fun u hu_8 => ?_)
        refine V_eqw (ws2 := [ob tq 7 [.ref tbq, .int (nI tn), .long ((tcF (nI (((pl / 7) * 6) + (pl % 7))) y (tf, tm, tu)).2.1), .ref tcq, .int (nI ((tcF (nI (((pl / 7) * 6) + (pl % 7))) y (tf, tm, tu)).2.2.2))], ab g tbq 60 tb, ai g tcq 6 ((tcF (nI (((pl / 7) * 6) + (pl % 7))) y (tf, tm, tu)).2.2.1)]) rfl (V_eqs (st2 := [.int (bI ((tcF (nI (((pl / 7) * 6) + (pl % 7))) y (tf, tm, tu)).1))]) rfl ?_)
        exact Ve_zret (pc := 64) X hA9 dX7_takes_64 hr () (by first | (exfalso; omega) | (simp [tkF, bI, show 6 ≤ pl / 7 by omega]; done) | (simp [tkF, bI, show ¬ 6 ≤ pl / 7 by omega, show pl / 7 = 5 by omega, show pl % 7 = 6 by omega]; done) | (simp [tkF, bI, show ¬ 6 ≤ pl / 7 by omega, show ¬ pl / 7 = 5 by omega, show pl % 7 = 6 by omega, n_3, n_5, n_7]; done) | (simp [tkF, bI, show ¬ 6 ≤ pl / 7 by omega, show ¬ pl % 7 = 6 by omega]; done)) trivial (bI_n _) (by first | (exfalso; omega) | (simp [tkF, show 6 ≤ pl / 7 by omega]; done) | (simp [tkF, show ¬ 6 ≤ pl / 7 by omega, show pl / 7 = 5 by omega, show pl % 7 = 6 by omega]; done) | (simp [tkF, show ¬ 6 ≤ pl / 7 by omega, show ¬ pl / 7 = 5 by omega, show pl % 7 = 6 by omega, n_3, n_5, n_7]; done) | (simp [tkF, show ¬ 6 ≤ pl / 7 by omega, show ¬ pl % 7 = 6 by omega]; done))
      · skip
        have n_9 : (pl % 7) = 6 := nJ_eq (a := pl % 7) (b := 6) (by omega) (by omega) c_6
        refine V_iload_n (pc := 38) X dX7_takes_38 rfl 4 rfl ?_
        refine V_bipush (v := 47) (pc := 39) X dX7_takes_39 (by decide) ?_
        refine V_icmp_ne (tgt := 48) (pc := 41) X dX7_takes_41 (by decide) (fun c_10 => ?_) (fun c_10 => ?_)
        · skip
          refine V_iconst (v := 0) (pc := 48) X dX7_takes_48 (by decide) ?_
          refine V_goto (tgt := 64) (pc := 49) X dX7_takes_49 (by decide) ?_
          exact Ve_zret (pc := 64) X hA9 dX7_takes_64 hr () (by first | (exfalso; omega) | (simp [tkF, bI, show 6 ≤ pl / 7 by omega]; done) | (simp [tkF, bI, show ¬ 6 ≤ pl / 7 by omega, show pl / 7 = 5 by omega, show pl % 7 = 6 by omega]; done) | (simp [tkF, bI, show ¬ 6 ≤ pl / 7 by omega, show ¬ pl / 7 = 5 by omega, show pl % 7 = 6 by omega, n_3, n_5, n_9, c_10]; done) | (simp [tkF, bI, show ¬ 6 ≤ pl / 7 by omega, show ¬ pl % 7 = 6 by omega]; done)) trivial rfl (by first | (exfalso; omega) | (simp [tkF, show 6 ≤ pl / 7 by omega]; done) | (simp [tkF, show ¬ 6 ≤ pl / 7 by omega, show pl / 7 = 5 by omega, show pl % 7 = 6 by omega]; done) | (simp [tkF, show ¬ 6 ≤ pl / 7 by omega, show ¬ pl / 7 = 5 by omega, show pl % 7 = 6 by omega, n_3, n_5, n_9, c_10]; done) | (simp [tkF, show ¬ 6 ≤ pl / 7 by omega, show ¬ pl % 7 = 6 by omega]; done))
        · skip
          refine V_iconst (v := 1) (pc := 44) X dX7_takes_44 (by decide) ?_
          refine V_goto (tgt := 64) (pc := 45) X dX7_takes_45 (by decide) ?_
          exact Ve_zret (pc := 64) X hA9 dX7_takes_64 hr () (by first | (exfalso; omega) | (simp [tkF, bI, show 6 ≤ pl / 7 by omega]; done) | (simp [tkF, bI, show ¬ 6 ≤ pl / 7 by omega, show pl / 7 = 5 by omega, show pl % 7 = 6 by omega]; done) | (simp [tkF, bI, show ¬ 6 ≤ pl / 7 by omega, show ¬ pl / 7 = 5 by omega, show pl % 7 = 6 by omega, n_3, n_5, n_9, c_10]; done) | (simp [tkF, bI, show ¬ 6 ≤ pl / 7 by omega, show ¬ pl % 7 = 6 by omega]; done)) trivial rfl (by first | (exfalso; omega) | (simp [tkF, show 6 ≤ pl / 7 by omega]; done) | (simp [tkF, show ¬ 6 ≤ pl / 7 by omega, show pl / 7 = 5 by omega, show pl % 7 = 6 by omega]; done) | (simp [tkF, show ¬ 6 ≤ pl / 7 by omega, show ¬ pl / 7 = 5 by omega, show pl % 7 = 6 by omega, n_3, n_5, n_9, c_10]; done) | (simp [tkF, show ¬ 6 ≤ pl / 7 by omega, show ¬ pl % 7 = 6 by omega]; done))
    · skip
      have n_11 : (pl / 7) = 5 := nJ_eq (a := pl / 7) (b := 5) (by omega) (by omega) c_4
      refine V_iload (pc := 22) X dX7_takes_22 0 rfl ?_
      refine V_bipush (v := 6) (pc := 24) X dX7_takes_24 (by decide) ?_
      refine V_icmp_ne (tgt := 31) (pc := 26) X dX7_takes_26 (by decide) (fun c_12 => ?_) (fun c_12 => ?_)
      · skip
        have n_13 : (pl % 7) ≠ 6 := nJ_ne (a := pl % 7) (b := 6) (by omega) (by omega) c_12
        refine V_iload (pc := 31) X dX7_takes_31 0 rfl ?_
        refine V_bipush (v := 6) (pc := 33) X dX7_takes_33 (by decide) ?_
        refine V_icmp_ne (tgt := 52) (pc := 35) X dX7_takes_35 (by decide) (fun c_14 => ?_) (fun c_14 => ?_)
        · skip
          have n_15 : (pl % 7) ≠ 6 := nJ_ne (a := pl % 7) (b := 6) (by omega) (by omega) c_14
          refine V_aload_n (pc := 52) X dX7_takes_52 rfl 2 rfl ?_
          refine V_iload_n (pc := 53) X dX7_takes_53 rfl 1 rfl ?_
          refine V_bipush (v := 6) (pc := 54) X dX7_takes_54 (by decide) ?_
          refine V_imul (pc := 56) X dX7_takes_56 ?_
          refine V_seti (y := nI ((pl / 7) * 6)) (pk_mul (pl / 7) 6) ?_
          refine V_iload (pc := 57) X dX7_takes_57 0 rfl ?_
          refine V_iadd (pc := 59) X dX7_takes_59 ?_
          refine V_seti (y := nI (((pl / 7) * 6) + (pl % 7))) (nI_add ((pl / 7) * 6) (pl % 7)) ?_
          refine V_iload_n (pc := 60) X dX7_takes_60 rfl 4 rfl ?_
          refine V_ve (pc := 61) (nA := 2) (As := [.int (nI (((pl / 7) * 6) + (pl % 7))), .int y]) (rest := []) X (c_X7_takesCell l g (tq := tq) (tbq := tbq) (tcq := tcq) (tn := tn) (tb := tb) (tf := tf) (tm := tm) (tu := tu) (x := nI (((pl / 7) * 6) + (pl % 7))) (y := y) (hu := by first | assumption | omega)) gX7_takes_X7_takesCell dX7_takes_61 rfl (by decide +kernel) rfl (qb := 0) rfl rfl rfl ⟨rfl, rfl⟩ ⟨Nat.le_of_ble_eq_true rfl, Nat.le_of_ble_eq_true rfl⟩ ⟨Nat.le_of_ble_eq_true rfl, Nat.le_of_ble_eq_true rfl⟩ [0, 1, 2] (by decide) rfl [] (by decide) (by decide) [] rfl [0, 1, 2] (by decide) (fun u => [ob tq 7 [.ref tbq, .int (nI tn), .long ((tcF (nI (((pl / 7) * 6) + (pl % 7))) y (tf, tm, tu)).2.1), .ref tcq, .int (nI ((tcF (nI (((pl / 7) * 6) + (pl % 7))) y (tf, tm, tu)).2.2.2))], ab g tbq 60 tb, ai g tcq 6 ((tcF (nI (((pl / 7) * 6) + (pl % 7))) y (tf, tm, tu)).2.2.1)]) (fun _ => rfl) rfl (Nat.le_of_ble_eq_true rfl) (fun u => [.int (bI ((tcF (nI (((pl / 7) * 6) + (pl % 7))) y (tf, tm, tu)).1))]) (fun _ => rfl) (fun u hu_16 => ?_)
          refine V_eqw (ws2 := [ob tq 7 [.ref tbq, .int (nI tn), .long ((tcF (nI (((pl / 7) * 6) + (pl % 7))) y (tf, tm, tu)).2.1), .ref tcq, .int (nI ((tcF (nI (((pl / 7) * 6) + (pl % 7))) y (tf, tm, tu)).2.2.2))], ab g tbq 60 tb, ai g tcq 6 ((tcF (nI (((pl / 7) * 6) + (pl % 7))) y (tf, tm, tu)).2.2.1)]) rfl (V_eqs (st2 := [.int (bI ((tcF (nI (((pl / 7) * 6) + (pl % 7))) y (tf, tm, tu)).1))]) rfl ?_)
          exact Ve_zret (pc := 64) X hA9 dX7_takes_64 hr () (by first | (exfalso; omega) | (simp [tkF, bI, show 6 ≤ pl / 7 by omega]; done) | (simp [tkF, bI, show ¬ 6 ≤ pl / 7 by omega, show pl / 7 = 5 by omega, show pl % 7 = 6 by omega]; done) | (simp [tkF, bI, show ¬ 6 ≤ pl / 7 by omega, show ¬ pl / 7 = 5 by omega, show pl % 7 = 6 by omega, n_3, n_11, n_13, n_15]; done) | (simp [tkF, bI, show ¬ 6 ≤ pl / 7 by omega, show ¬ pl % 7 = 6 by omega]; done)) trivial (bI_n _) (by first | (exfalso; omega) | (simp [tkF, show 6 ≤ pl / 7 by omega]; done) | (simp [tkF, show ¬ 6 ≤ pl / 7 by omega, show pl / 7 = 5 by omega, show pl % 7 = 6 by omega]; done) | (simp [tkF, show ¬ 6 ≤ pl / 7 by omega, show ¬ pl / 7 = 5 by omega, show pl % 7 = 6 by omega, n_3, n_11, n_13, n_15]; done) | (simp [tkF, show ¬ 6 ≤ pl / 7 by omega, show ¬ pl % 7 = 6 by omega]; done))
        · skip
          have n_17 : (pl % 7) = 6 := nJ_eq (a := pl % 7) (b := 6) (by omega) (by omega) c_14
          refine V_iload_n (pc := 38) X dX7_takes_38 rfl 4 rfl ?_
          refine V_bipush (v := 47) (pc := 39) X dX7_takes_39 (by decide) ?_
          refine V_icmp_ne (tgt := 48) (pc := 41) X dX7_takes_41 (by decide) (fun c_18 => ?_) (fun c_18 => ?_)
          · skip
            refine V_iconst (v := 0) (pc := 48) X dX7_takes_48 (by decide) ?_
            refine V_goto (tgt := 64) (pc := 49) X dX7_takes_49 (by decide) ?_
            exact Ve_zret (pc := 64) X hA9 dX7_takes_64 hr () (by first | (exfalso; omega) | (simp [tkF, bI, show 6 ≤ pl / 7 by omega]; done) | (simp [tkF, bI, show ¬ 6 ≤ pl / 7 by omega, show pl / 7 = 5 by omega, show pl % 7 = 6 by omega]; done) | (simp [tkF, bI, show ¬ 6 ≤ pl / 7 by omega, show ¬ pl / 7 = 5 by omega, show pl % 7 = 6 by omega, n_3, n_11, n_13, n_17, c_18]; done) | (simp [tkF, bI, show ¬ 6 ≤ pl / 7 by omega, show ¬ pl % 7 = 6 by omega]; done)) trivial rfl (by first | (exfalso; omega) | (simp [tkF, show 6 ≤ pl / 7 by omega]; done) | (simp [tkF, show ¬ 6 ≤ pl / 7 by omega, show pl / 7 = 5 by omega, show pl % 7 = 6 by omega]; done) | (simp [tkF, show ¬ 6 ≤ pl / 7 by omega, show ¬ pl / 7 = 5 by omega, show pl % 7 = 6 by omega, n_3, n_11, n_13, n_17, c_18]; done) | (simp [tkF, show ¬ 6 ≤ pl / 7 by omega, show ¬ pl % 7 = 6 by omega]; done))
          · skip
            refine V_iconst (v := 1) (pc := 44) X dX7_takes_44 (by decide) ?_
            refine V_goto (tgt := 64) (pc := 45) X dX7_takes_45 (by decide) ?_
            exact Ve_zret (pc := 64) X hA9 dX7_takes_64 hr () (by first | (exfalso; omega) | (simp [tkF, bI, show 6 ≤ pl / 7 by omega]; done) | (simp [tkF, bI, show ¬ 6 ≤ pl / 7 by omega, show pl / 7 = 5 by omega, show pl % 7 = 6 by omega]; done) | (simp [tkF, bI, show ¬ 6 ≤ pl / 7 by omega, show ¬ pl / 7 = 5 by omega, show pl % 7 = 6 by omega, n_3, n_11, n_13, n_17, c_18]; done) | (simp [tkF, bI, show ¬ 6 ≤ pl / 7 by omega, show ¬ pl % 7 = 6 by omega]; done)) trivial rfl (by first | (exfalso; omega) | (simp [tkF, show 6 ≤ pl / 7 by omega]; done) | (simp [tkF, show ¬ 6 ≤ pl / 7 by omega, show pl / 7 = 5 by omega, show pl % 7 = 6 by omega]; done) | (simp [tkF, show ¬ 6 ≤ pl / 7 by omega, show ¬ pl / 7 = 5 by omega, show pl % 7 = 6 by omega, n_3, n_11, n_13, n_17, c_18]; done) | (simp [tkF, show ¬ 6 ≤ pl / 7 by omega, show ¬ pl % 7 = 6 by omega]; done))
      · skip
        have n_19 : (pl % 7) = 6 := nJ_eq (a := pl % 7) (b := 6) (by omega) (by omega) c_12
        refine V_iconst (v := 0) (pc := 29) X dX7_takes_29 (by decide) ?_
        exact Ve_zret (pc := 30) X hA9 dX7_takes_30 hr () (by first | (exfalso; omega) | (simp [tkF, bI, show 6 ≤ pl / 7 by omega]; done) | (simp [tkF, bI, show ¬ 6 ≤ pl / 7 by omega, show pl / 7 = 5 by omega, show pl % 7 = 6 by omega]; done) | (simp [tkF, bI, show ¬ 6 ≤ pl / 7 by omega, show ¬ pl / 7 = 5 by omega, show pl % 7 = 6 by omega, n_3, n_11, n_19]; done) | (simp [tkF, bI, show ¬ 6 ≤ pl / 7 by omega, show ¬ pl % 7 = 6 by omega]; done)) trivial rfl (by first | (exfalso; omega) | (simp [tkF, show 6 ≤ pl / 7 by omega]; done) | (simp [tkF, show ¬ 6 ≤ pl / 7 by omega, show pl / 7 = 5 by omega, show pl % 7 = 6 by omega]; done) | (simp [tkF, show ¬ 6 ≤ pl / 7 by omega, show ¬ pl / 7 = 5 by omega, show pl % 7 = 6 by omega, n_3, n_11, n_19]; done) | (simp [tkF, show ¬ 6 ≤ pl / 7 by omega, show ¬ pl % 7 = 6 by omega]; done))
set_option maxHeartbeats 4000000 in
set_option maxRecDepth 100000 in
theorem c_X7_clear (l : Launch) (g : XG) (tq : Nat) (tbq : Nat) (tcq : Nat) (tn : Nat) (tb : Nat → Int32) (tf : Int64) (tm : Nat → Int32) (tu : Nat)  : Ke l g yX7_clear wsX7_clear ({ frames := 0, cells := 0, slots := 0, locals := 0 } : Room) 0 0 [.ref tq] [ob tq 7 [.ref tbq, .int (nI tn), .long tf, .ref tcq, .int (nI tu)], ab g tbq 60 tb, ai g tcq 6 tm] (fun u : Unit => none) (fun u => [ob tq 7 [.ref tbq, .int 0, .long tf, .ref tcq, .int (nI tu)], ab g tbq 60 tb, ai g tcq 6 tm]) (fun u => True) := by
  refine Ke.of (cc := cX7_clear) (maxL := 1) (ret := none) (lv := [(0, .ref tq)]) RX7 rfl (by decide) rfl (Nat.le_of_ble_eq_true rfl) rfl ?_
  intro p e s m below meth c A sz hA9 X hr hin2
  have in7 : ∀ w ∈ u_ws RX7 TX7 5, w ∈ wsX7_clear := by decide +kernel
  refine V_aload_n (pc := 0) X dX7_clear_0 rfl 0 rfl ?_
  refine V_iconst (v := 0) (pc := 1) X dX7_clear_1 (by decide) ?_
  refine V_put (C := RX7) (T := TX7) (N := 5) (ci := 7) (ws' := [ob tq 7 [.ref tbq, .int 0, .long tf, .ref tcq, .int (nI tu)], ab g tbq 60 tb, ai g tcq 6 tm]) (pc := 2) X dX7_clear_2 in7 tyX7 tyX7_ok nmX7 0 rfl rfl 1 (by decide) (by decide +kernel) rfl rfl rfl rfl rfl (Nat.le_of_ble_eq_true rfl) rfl ?_
  exact Ve_vret (pc := 5) X hA9 dX7_clear_5 hr () rfl trivial (by rfl)
set_option maxHeartbeats 4000000 in
set_option maxRecDepth 100000 in
theorem c_X7_read (l : Launch) (g : XG) (tq : Nat) (tbq : Nat) (tcq : Nat) (tn : Nat) (tb : Nat → Int32) (tf : Int64) (tm : Nat → Int32) (tu : Nat) (htn : tn ≤ 60) : Ke l g yX7_read wsX7_read ({ frames := 3, cells := 0, slots := 0, locals := 67 } : Room) 0 0 [.ref tq] [ob tq 7 [.ref tbq, .int (nI tn), .long tf, .ref tcq, .int (nI tu)], ab g tbq 60 tb, ai g tcq 6 tm] (fun u : Unit => some (.int ((rdT tb tn tn 0 0 (0, tm, 0)).1))) (fun u => [ob tq 7 [.ref tbq, .int (nI tn), .long ((rdT tb tn tn 0 0 (0, tm, 0)).2.1), .ref tcq, .int (nI ((rdT tb tn tn 0 0 (0, tm, 0)).2.2.2))], ab g tbq 60 tb, ai g tcq 6 ((rdT tb tn tn 0 0 (0, tm, 0)).2.2.1)]) (fun u => True) := by
  refine Ke.of (cc := cX7_read) (maxL := 3) (ret := (some .int)) (lv := [(0, .ref tq)]) RX7 rfl (by decide) rfl (Nat.le_of_ble_eq_true rfl) rfl ?_
  intro p e s m below meth c A sz hA9 X hr hin2
  have in7 : ∀ w ∈ u_ws RX7 TX7 5, w ∈ wsX7_read := by decide +kernel
  refine V_aload_n (pc := 0) X dX7_read_0 rfl 0 rfl ?_
  refine V_lconst (v := 0) (pc := 1) X dX7_read_1 (by decide) ?_
  refine V_put (C := RX7) (T := TX7) (N := 5) (ci := 7) (ws' := [ob tq 7 [.ref tbq, .int (nI tn), .long 0, .ref tcq, .int (nI tu)], ab g tbq 60 tb, ai g tcq 6 tm]) (pc := 2) X dX7_read_2 in7 tyX7 tyX7_ok nmX7 0 rfl rfl 2 (by decide) (by decide +kernel) rfl rfl rfl rfl rfl (Nat.le_of_ble_eq_true rfl) rfl ?_
  refine V_aload_n (pc := 5) X dX7_read_5 rfl 0 rfl ?_
  refine V_iconst (v := 0) (pc := 6) X dX7_read_6 (by decide) ?_
  refine V_put (C := RX7) (T := TX7) (N := 5) (ci := 7) (ws' := [ob tq 7 [.ref tbq, .int (nI tn), .long 0, .ref tcq, .int 0], ab g tbq 60 tb, ai g tcq 6 tm]) (pc := 7) X dX7_read_7 in7 tyX7 tyX7_ok nmX7 0 rfl rfl 4 (by decide) (by decide +kernel) rfl rfl rfl rfl rfl (Nat.le_of_ble_eq_true rfl) rfl ?_
  refine V_iconst (v := 0) (pc := 10) X dX7_read_10 (by decide) ?_
  refine V_istore_n (lv' := [(1, .int 0), (0, .ref tq)]) (pc := 11) X dX7_read_11 rfl (Nat.le_of_ble_eq_true rfl) rfl ?_
  refine V_iconst (v := 0) (pc := 12) X dX7_read_12 (by decide) ?_
  refine V_istore_n (lv' := [(2, .int 0), (1, .int 0), (0, .ref tq)]) (pc := 13) X dX7_read_13 rfl (Nat.le_of_ble_eq_true rfl) rfl ?_
  refine V_loop (pc := 14) (σ := Nat × Nat × Int64 × Nat × (Nat → Int32)) (fun v9 => [(0, .ref tq), (1, .int (nI v9.2.1)), (2, .int (nI v9.1))]) (fun v9 => [ob tq 7 [.ref tbq, .int (nI tn), .long v9.2.2.1, .ref tcq, .int (nI v9.2.2.2.1)], ab g tbq 60 tb, ai g tcq 6 v9.2.2.2.2]) (fun v9 => (v9.1 ≤ tn) ∧ (v9.2.1 ≤ v9.1) ∧ (v9.2.2.2.1 ≤ 6) ∧ (rdT tb tn (tn - v9.1) v9.1 v9.2.1 (v9.2.2.1, v9.2.2.2.2, v9.2.2.2.1) = (rdT tb tn tn 0 0 (0, tm, 0)))) (fun v9 => tn - v9.1) (0, 0, 0, 0, tm) ⟨(by
        try dsimp only
        all_goals omega), (by
        try dsimp only
        all_goals omega), (by
        try dsimp only
        all_goals omega), (by
        try dsimp only
        all_goals rfl)⟩ rfl [2, 1, 0] rfl ?_
  rintro ⟨k, pl, zf, zu, zm⟩ ⟨hk, hp, hu, hs⟩ ih14
  try dsimp only at hk
  try dsimp only at hp
  try dsimp only at hu
  try dsimp only at hs
  refine V_eqw (ws2 := [ob tq 7 [.ref tbq, .int (nI tn), .long zf, .ref tcq, .int (nI zu)], ab g tbq 60 tb, ai g tcq 6 zm]) rfl (V_eql (lv' := [(0, .ref tq), (1, .int (nI pl)), (2, .int (nI k))]) rfl ?_)
  refine V_iload_n (pc := 14) X dX7_read_14 rfl 2 rfl ?_
  refine V_aload_n (pc := 15) X dX7_read_15 rfl 0 rfl ?_
  refine V_get (C := RX7) (T := TX7) (N := 5) (ci := 7) (pc := 16) X dX7_read_16 in7 0 rfl rfl 1 (by decide) (by decide +kernel) rfl rfl ?_
  refine V_icmp_ge (tgt := 64) (pc := 19) X dX7_read_19 (by decide) (fun c_1 => ?_) (fun c_1 => ?_)
  · skip
    have n_2 : tn ≤ k := nJ_le (a := tn) (b := k) (by omega) (by omega) c_1
    refine V_iload_n (pc := 64) X dX7_read_64 rfl 1 rfl ?_
    refine V_bipush (v := 41) (pc := 65) X dX7_read_65 (by decide) ?_
    refine V_icmp_ge (tgt := 80) (pc := 67) X dX7_read_67 (by decide) (fun c_3 => ?_) (fun c_3 => ?_)
    · skip
      have n_4 : 41 ≤ pl := nJ_le (a := 41) (b := pl) (by omega) (by omega) c_3
      refine V_aload_n (pc := 80) X dX7_read_80 rfl 0 rfl ?_
      refine V_get (C := RX7) (T := TX7) (N := 5) (ci := 7) (pc := 81) X dX7_read_81 in7 0 rfl rfl 4 (by decide) (by decide +kernel) rfl rfl ?_
      exact Ve_iret (pc := 84) X hA9 dX7_read_84 hr () (by first | (rw [← hs, show tn - k = 0 by omega, rdT]; simp [show pl < 41 by omega]; done) | (rw [← hs, show tn - k = 0 by omega, rdT]; simp [show ¬ pl < 41 by omega]; done) | (rw [← hs, show tn - k = (tn - (k + 1)) + 1 by omega, rdT]; simp [n_2, n_4]; done)) trivial (by first | (rw [← hs, show tn - k = 0 by omega, rdT]; simp [show pl < 41 by omega]; done) | (rw [← hs, show tn - k = 0 by omega, rdT]; simp [show ¬ pl < 41 by omega]; done) | (rw [← hs, show tn - k = (tn - (k + 1)) + 1 by omega, rdT]; simp [n_2, n_4]; done))
    · skip
      have n_5 : pl < 41 := nJ_nle (a := 41) (b := pl) (by omega) (by omega) c_3
      refine V_bipush (v := (-20)) (pc := 70) X dX7_read_70 (by decide) ?_
      refine V_aload_n (pc := 72) X dX7_read_72 rfl 0 rfl ?_
      refine V_get (C := RX7) (T := TX7) (N := 5) (ci := 7) (pc := 73) X dX7_read_73 in7 0 rfl rfl 1 (by decide) (by decide +kernel) rfl rfl ?_
      refine V_isub (pc := 76) X dX7_read_76 ?_
      refine V_goto (tgt := 84) (pc := 77) X dX7_read_77 (by decide) ?_
      exact Ve_iret (pc := 84) X hA9 dX7_read_84 hr () (by first | (rw [← hs, show tn - k = 0 by omega, rdT]; simp [show pl < 41 by omega]; done) | (rw [← hs, show tn - k = 0 by omega, rdT]; simp [show ¬ pl < 41 by omega]; done) | (rw [← hs, show tn - k = (tn - (k + 1)) + 1 by omega, rdT]; simp [n_2, n_5]; done)) trivial (by first | (rw [← hs, show tn - k = 0 by omega, rdT]; simp [show pl < 41 by omega]; done) | (rw [← hs, show tn - k = 0 by omega, rdT]; simp [show ¬ pl < 41 by omega]; done) | (rw [← hs, show tn - k = (tn - (k + 1)) + 1 by omega, rdT]; simp [n_2, n_5]; done))
  · skip
    have n_6 : k < tn := nJ_nle (a := tn) (b := k) (by omega) (by omega) c_1
    refine V_aload_n (pc := 22) X dX7_read_22 rfl 0 rfl ?_
    refine V_get (C := RX7) (T := TX7) (N := 5) (ci := 7) (pc := 23) X dX7_read_23 in7 0 rfl rfl 0 (by decide) (by decide +kernel) rfl rfl ?_
    refine V_iload_n (pc := 26) X dX7_read_26 rfl 2 rfl ?_
    refine V_bald (v := tb k) (pc := 27) X dX7_read_27 1 rfl (vp_in_nI (by omega) (by omega)) (by rw [nI_clamp (by omega)]) ?_
    refine V_bipush (v := 32) (pc := 28) X dX7_read_28 (by decide) ?_
    refine V_icmp_ne (tgt := 36) (pc := 30) X dX7_read_30 (by decide) (fun c_7 => ?_) (fun c_7 => ?_)
    · skip
      refine V_aload_n (pc := 36) X dX7_read_36 rfl 0 rfl ?_
      refine V_iload_n (pc := 37) X dX7_read_37 rfl 1 rfl ?_
      refine V_aload_n (pc := 38) X dX7_read_38 rfl 0 rfl ?_
      refine V_get (C := RX7) (T := TX7) (N := 5) (ci := 7) (pc := 39) X dX7_read_39 in7 0 rfl rfl 0 (by decide) (by decide +kernel) rfl rfl ?_
      refine V_iload_n (pc := 42) X dX7_read_42 rfl 2 rfl ?_
      refine V_bald (v := tb k) (pc := 43) X dX7_read_43 1 rfl (vp_in_nI (by omega) (by omega)) (by rw [nI_clamp (by omega)]) ?_
      refine V_ve (pc := 44) (nA := 2) (As := [.int (nI pl), .int (tb k)]) (rest := []) X (c_X7_takes l g (tq := tq) (tbq := tbq) (tcq := tcq) (tn := tn) (tb := tb) (tf := zf) (tm := zm) (tu := zu) (pl := pl) (y := tb k) (hp := by first | assumption | omega) (hu := by first | assumption | omega)) gX7_read_X7_takes dX7_read_44 rfl (by decide +kernel) rfl (qb := 0) rfl rfl rfl ⟨rfl, rfl⟩ ⟨Nat.le_of_ble_eq_true rfl, Nat.le_of_ble_eq_true rfl⟩ ⟨Nat.le_of_ble_eq_true rfl, Nat.le_of_ble_eq_true rfl⟩ [0, 1, 2] (by decide) rfl [] (by decide) (by decide) [] rfl [0, 1, 2] (by decide) (fun u => [ob tq 7 [.ref tbq, .int (nI tn), .long ((tkF pl (tb k) (zf, zm, zu)).2.1), .ref tcq, .int (nI ((tkF pl (tb k) (zf, zm, zu)).2.2.2))], ab g tbq 60 tb, ai g tcq 6 ((tkF pl (tb k) (zf, zm, zu)).2.2.1)]) (fun _ => rfl) rfl (Nat.le_of_ble_eq_true rfl) (fun u => [.int (bI ((tkF pl (tb k) (zf, zm, zu)).1))]) (fun _ => rfl) (fun u hu_8 => ?_)
      refine V_eqw (ws2 := [ob tq 7 [.ref tbq, .int (nI tn), .long ((tkF pl (tb k) (zf, zm, zu)).2.1), .ref tcq, .int (nI ((tkF pl (tb k) (zf, zm, zu)).2.2.2))], ab g tbq 60 tb, ai g tcq 6 ((tkF pl (tb k) (zf, zm, zu)).2.2.1)]) rfl (V_eqs (st2 := [.int (bI ((tkF pl (tb k) (zf, zm, zu)).1))]) rfl ?_)
      refine V_if_ne (tgt := 55) (pc := 47) X dX7_read_47 (by decide) (fun c_9 => ?_) (fun c_9 => ?_)
      · skip
        have b_10 : (tkF pl (tb k) (zf, zm, zu)).1 = true := bI1 c_9
        refine V_iinc (v := nI (pl + 1)) (lv' := [(1, .int (nI (pl + 1))), (0, .ref tq), (2, .int (nI k))]) (pc := 55) X dX7_read_55 1 rfl (nI_add pl 1) (Nat.le_of_ble_eq_true rfl) rfl ?_
        refine V_iinc (v := nI (k + 1)) (lv' := [(2, .int (nI (k + 1))), (1, .int (nI (pl + 1))), (0, .ref tq)]) (pc := 58) X dX7_read_58 2 rfl (nI_add k 1) (Nat.le_of_ble_eq_true rfl) rfl ?_
        refine V_goto (tgt := 14) (pc := 61) X dX7_read_61 (by decide) ?_
        refine V_lv [2, 1, 0] rfl ?_
        exact ih14 (k + 1, pl + 1, (tkF pl (tb k) (zf, zm, zu)).2.1, (tkF pl (tb k) (zf, zm, zu)).2.2.2, (tkF pl (tb k) (zf, zm, zu)).2.2.1) ⟨(by
              try dsimp only
              all_goals omega), (by
              try dsimp only
              all_goals omega), (by
              try dsimp only
              first | omega | exact tkF_le hu), (by
              try dsimp only
              rw [← hs, show tn - k = (tn - (k + 1)) + 1 by omega, rdT]; simp [n_6, c_7, b_10])⟩ (by
              try dsimp only
              all_goals omega)
      · skip
        have b_11 : (tkF pl (tb k) (zf, zm, zu)).1 = false := bI0 c_9
        refine V_bipush (v := (-20)) (pc := 50) X dX7_read_50 (by decide) ?_
        refine V_iload_n (pc := 52) X dX7_read_52 rfl 2 rfl ?_
        refine V_isub (pc := 53) X dX7_read_53 ?_
        exact Ve_iret (pc := 54) X hA9 dX7_read_54 hr () (by first | (rw [← hs, show tn - k = 0 by omega, rdT]; simp [show pl < 41 by omega]; done) | (rw [← hs, show tn - k = 0 by omega, rdT]; simp [show ¬ pl < 41 by omega]; done) | (rw [← hs, show tn - k = (tn - (k + 1)) + 1 by omega, rdT]; simp [n_6, c_7, b_11]; done)) trivial (by first | (rw [← hs, show tn - k = 0 by omega, rdT]; simp [show pl < 41 by omega]; done) | (rw [← hs, show tn - k = 0 by omega, rdT]; simp [show ¬ pl < 41 by omega]; done) | (rw [← hs, show tn - k = (tn - (k + 1)) + 1 by omega, rdT]; simp [n_6, c_7, b_11]; done))
    · skip
      refine V_goto (tgt := 58) (pc := 33) X dX7_read_33 (by decide) ?_
      refine V_iinc (v := nI (k + 1)) (lv' := [(2, .int (nI (k + 1))), (0, .ref tq), (1, .int (nI pl))]) (pc := 58) X dX7_read_58 2 rfl (nI_add k 1) (Nat.le_of_ble_eq_true rfl) rfl ?_
      refine V_goto (tgt := 14) (pc := 61) X dX7_read_61 (by decide) ?_
      refine V_lv [1, 2, 0] rfl ?_
      exact ih14 (k + 1, pl, zf, zu, zm) ⟨(by
            try dsimp only
            all_goals omega), (by
            try dsimp only
            all_goals omega), (by
            try dsimp only
            first | omega | exact tkF_le hu), (by
            try dsimp only
            rw [← hs, show tn - k = (tn - (k + 1)) + 1 by omega, rdT]; simp [n_6, c_7])⟩ (by
            try dsimp only
            all_goals omega)
