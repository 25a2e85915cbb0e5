theorem count_sim {a b : WS} (E : EW a b) (O : OKW b) (w : Int32) : countF w a.t a.n (bcF a.f) a.y a.z a.ac = countF w b.t b.n (nI (mcF b.f 36)) b.y b.z b.ac := by
  unfold countF
  rw [E.et, E.en, E.ef, E.ey, E.ez, bc_mc O.of, ach_congr (fun j hj => (E.ep j hj).2.2.2)]
set_option maxHeartbeats 8000000 in
set_option maxRecDepth 100000 in
theorem lw_count {p : Program} {l : Launch} {e : Env} {s : State} {m : MethodId} {below : List Frame} {meth : Method} {c : Code} {Q : State → Prop} {g : XG} {a d : Nat → Nat} {b L : Nat} {xs : Nat → Int32} (XL : Lx p s m meth c g b L xs) {i : Nat} (hi : i + 8 ≤ L) {x : XS} {y : MS} (hS : Sim x y) (kk : ∀ (x9 : XS) (y9 : MS), Sim x9 y9 → LV p l e s m below meth c Q g a d b i 1195 [] x9 y9) : LV p l e s m below meth c Q g a d b i 496 [] x y := by
  obtain ⟨X, hX, hbl, hL⟩ := XL
  have hbA : ¬ (fun q : Nat => s.heap.size ≤ q) b := Nat.not_le.mpr hbl
  have ht1 : x.w.t ≤ 6 := by rw [hS.e.et]; exact hS.o.ot
  have hn1 : x.w.n ≤ 6 := by rw [hS.e.en]; exact hS.o.on
  have ht2 : y.w.t ≤ 6 := hS.o.ot
  have hn2 : y.w.n ≤ 6 := hS.o.on
  have hce9 : ∀ j, j < y.w.n → vp_in (y.w.ce j) 36 := hS.o.oc
  have hkd9 : ∀ j, j < y.w.n → y.w.kd j = 0 ∨ y.w.kd j = 1 ∨ y.w.kd j = 2 ∨ y.w.kd j = 3 := hS.o.ok
  have hho9 : ∀ j, j < y.w.n → 0 ≤ y.w.ho j := hS.o.oh
  have hmm9 : ∀ j, j < y.w.t → vp_in (y.w.m j) 36 := hS.o.om
  have hz99 : ∃ q, q < 10 ∧ y.w.z = nI q := hS.o.oz
  have hy99 : y.w.y ≤ 9999 := hS.o.oy
  have hT9 : y.T ≤ 60 := hS.tp.2.1
  have htn9 : x.tn ≤ 60 := by rw [hS.tp.1]; exact hS.tp.2.1
  have hta9 : ∀ j, j < y.T → ¬ y.ta j = 0 := fun j hj => (hS.tp.2.2 j hj).2
  have hw369 : in36 (wkX y.w.z y.w.f y.w.m y.w.t (-1)) := hS.o.w36 (-1)
  have hcc9 : x.ls = stX x.lw x.la x.lb := hS.c
  have hsz9 : ∀ q, q < 4 → ∃ k, k ≤ 16 ∧ y.sz q = nI k := sz_all hS
  obtain ⟨a1, e1⟩ : ∃ v, xs (i + 1) = v := ⟨_, rfl⟩
  refine V_eqw (ws2 := [ob (a 0) 9 [.ref (a 1), .ref (a 4), .ref (a 12), .int (bI x.xi), .ref (a 20), .ref (a 31), .ref (a 35), .ref (a 37)], ob (a 1) 7 [.ref (a 2), .int (nI x.tn), .long x.tf, .ref (a 3), .int (nI x.tu)], ab g (a 2) 60 x.tb, ai g (a 3) 6 x.tm, ob (a 4) 8 [.ref (a 5), .ref (a 7), .int x.w.y], ob (a 5) 4 [.long x.w.f, .int (nI x.w.t), .int x.w.z, .ref (a 6)], ai g (a 6) 6 x.w.m, ob (a 7) 1 [.int (nI x.w.n), .ref (a 8), .ref (a 9), .ref (a 10), .ref (a 11)], ai g (a 8) 6 x.w.kd, ai g (a 9) 6 x.w.ce, ai g (a 10) 6 x.w.ho, ai g (a 11) 6 x.w.ac, ob (a 12) 8 [.ref (a 13), .ref (a 15), .int x.v.y], ob (a 13) 4 [.long x.v.f, .int (nI x.v.t), .int x.v.z, .ref (a 14)], ai g (a 14) 6 x.v.m, ob (a 15) 1 [.int (nI x.v.n), .ref (a 16), .ref (a 17), .ref (a 18), .ref (a 19)], ai g (a 16) 6 x.v.kd, ai g (a 17) 6 x.v.ce, ai g (a 18) 6 x.v.ho, ai g (a 19) 6 x.v.ac, ob (a 20) 3 [.ref (a 21), .ref (a 23), .ref (a 28), .long x.lw, .int x.la, .int x.lb, .int x.ls], ob (a 21) 4 [.long x.gf, .int (nI x.gt), .int x.gz, .ref (a 22)], ai g (a 22) 6 x.gm, ob (a 23) 1 [.int (nI x.pn), .ref (a 24), .ref (a 25), .ref (a 26), .ref (a 27)], ai g (a 24) 6 x.pk, ai g (a 25) 6 x.pc, ai g (a 26) 6 x.ph, ai g (a 27) 6 x.pa, ob (a 28) 5 [.int (nI x.sn), .ref (a 29), .ref (a 30)], ai g (a 29) 6 x.sc, ai g (a 30) 6 x.sw, ob (a 31) 2 [.ref (a 32), .ref (a 33), .ref (a 34)], ai g (a 32) 1296 x.ds, ai g (a 33) 36 x.df, ai g (a 34) 36 x.dm, ob (a 35) 0 [.ref (a 36), .long x.kw, .long x.kc], ai g (a 36) 36 x.kt, ao g (a 37) 4 (XA a), ob (a 38) 6 [.int (bI x.s0.h), .int x.s0.l, .int (nI x.s0.n), .ref (a 39)], al g (a 39) 16 x.s0.i, ob (a 40) 6 [.int (bI x.s1.h), .int x.s1.l, .int (nI x.s1.n), .ref (a 41)], al g (a 41) 16 x.s1.i, ob (a 42) 6 [.int (bI x.s2.h), .int x.s2.l, .int (nI x.s2.n), .ref (a 43)], al g (a 43) 16 x.s2.i, ob (a 44) 6 [.int (bI x.s3.h), .int x.s3.l, .int (nI x.s3.n), .ref (a 45)], al g (a 45) 16 x.s3.i, ob (d 0) 10 [.long y.w.f, .int (nI y.w.t), .ref (d 1), .int (nI y.w.n), .ref (d 2), .ref (d 3), .ref (d 4), .ref (d 5), .int y.w.z, .int y.w.y, .long y.S, .ref (d 6), .ref (d 7), .int (nI y.T), .int (nI y.A), .ref (d 8), .ref (d 9), .long y.F, .int y.Z, .ref (d 10), .int y.K, .int y.H, .ref (d 11), .ref (d 12), .long y.I, .int (bI y.B), .ref (d 13), .ref (d 14), .ref (d 15), .ref (d 16)], ai g (d 1) 6 y.w.m, ai g (d 2) 6 y.w.kd, ai g (d 3) 6 y.w.ce, ai g (d 4) 6 y.w.ho, ai g (d 5) 6 y.w.ac, ai g (d 6) 36 y.sc, ai g (d 7) 60 y.ta, ai g (d 8) 6 y.re, ai g (d 9) 6 y.th, ai g (d 10) 36 y.co, ai g (d 11) 1296 y.ga, ai g (d 12) 34 y.im, ai g (d 13) 4 y.la, ai g (d 14) 4 y.sz, al g (d 15) 64 y.it, al g (d 16) 16 y.mv]) rfl ?_
  refine V_aload_n (pc := 496) X dL_law_496 rfl 2 rfl ?_
  refine V_aload_n (pc := 497) X dL_law_497 rfl 3 rfl ?_
  refine V_iload_n (pc := 498) X dL_law_498 rfl 0 rfl ?_
  refine V_iconst (v := 1) (pc := 499) X dL_law_499 (by decide) ?_
  refine V_iadd (pc := 500) X dL_law_500 ?_
  refine V_seti (y := nI (i + 1)) (nI_add i 1) ?_
  refine V_sld (v := a1) (pc := 501) X hX hbl hbA dL_law_501 (vp_in_nI (by omega) (by omega)) (by rw [nI_clamp (by omega)]; exact e1) ?_
  refine V_vg (pc := 502) (nA := 1) (As := [.int a1]) (rest := []) X (c_X9_count l g (xq := a 0) (tq := a 1) (wq := a 4) (vq := a 12) (xi := x.xi) (fq := a 20) (dq := a 31) (kq := a 35) (xsq := a 37) (wbq := a 5) (waq := a 7) (wy := x.w.y) (wbf := x.w.f) (wbt := x.w.t) (wbz := x.w.z) (wbmq := a 6) (wbm := x.w.m) (wan := x.w.n) (wakq := a 8) (wacq := a 9) (wahq := a 10) (waaq := a 11) (wakd := x.w.kd) (wace := x.w.ce) (waho := x.w.ho) (waac := x.w.ac) (w := a1) (hn := by first | assumption | omega)) gL_law_X9_count dL_law_502 rfl (by decide +kernel) rfl (qb := 0) rfl rfl rfl ⟨rfl, rfl⟩ ⟨Nat.le_of_ble_eq_true rfl, Nat.le_of_ble_eq_true rfl⟩ ⟨Nat.le_of_ble_eq_true rfl, Nat.le_of_ble_eq_true rfl⟩ [0, 4, 5, 6, 7, 8, 9, 10, 11] (by decide) rfl rfl (Nat.le_of_ble_eq_true rfl) (st' := [.int (countF a1 x.w.t x.w.n (bcF x.w.f) x.w.y x.w.z x.w.ac)]) rfl ?_
  refine V_aload_n (pc := 505) X dL_law_505 rfl 1 rfl ?_
  refine V_aload_n (pc := 506) X dL_law_506 rfl 3 rfl ?_
  refine V_iload_n (pc := 507) X dL_law_507 rfl 0 rfl ?_
  refine V_iconst (v := 1) (pc := 508) X dL_law_508 (by decide) ?_
  refine V_iadd (pc := 509) X dL_law_509 ?_
  refine V_seti (y := nI (i + 1)) (nI_add i 1) ?_
  refine V_sld (v := a1) (pc := 510) X hX hbl hbA dL_law_510 (vp_in_nI (by omega) (by omega)) (by rw [nI_clamp (by omega)]; exact e1) ?_
  refine V_vg (pc := 511) (nA := 1) (As := [.int a1]) (rest := [.int (countF a1 x.w.t x.w.n (bcF x.w.f) x.w.y x.w.z x.w.ac)]) X (c_X10_count l g (mq := d 0) (mf := y.w.f) (mt := y.w.t) (mmq := d 1) (mn := y.w.n) (mkq := d 2) (mcq := d 3) (mhq := d 4) (maq := d 5) (mz := y.w.z) (my := y.w.y) (mS := y.S) (mzq := d 6) (mtq := d 7) (mT := y.T) (mA := y.A) (mrq := d 8) (muq := d 9) (mF := y.F) (mZ := y.Z) (moq := d 10) (mK := y.K) (mH := y.H) (mgq := d 11) (miq := d 12) (mI := y.I) (mB := y.B) (mlq := d 13) (msq := d 14) (meq := d 15) (mvq := d 16) (mac := y.w.ac) (w := a1) (hn := by first | assumption | omega)) gL_law_X10_count dL_law_511 rfl (by decide +kernel) rfl (qb := 46) rfl rfl rfl ⟨rfl, rfl⟩ ⟨Nat.le_of_ble_eq_true rfl, Nat.le_of_ble_eq_true rfl⟩ ⟨Nat.le_of_ble_eq_true rfl, Nat.le_of_ble_eq_true rfl⟩ [46, 51] (by decide) rfl rfl (Nat.le_of_ble_eq_true rfl) (st' := [.int (countF a1 y.w.t y.w.n (nI (mcF y.w.f 36)) y.w.y y.w.z y.w.ac), .int (countF a1 x.w.t x.w.n (bcF x.w.f) x.w.y x.w.z x.w.ac)]) rfl ?_
  refine V_icmp_eq (tgt := 1195) (pc := 514) X dL_law_514 (by decide) (fun c_1 => ?_) (fun c_1 => ?_)
  · skip
    refine V_eqw (ws2 := LW g a d (x.tn, x.tf, x.tu, x.tb, x.tm, (x.w.f, x.w.t, x.w.z, x.w.m, x.w.n, x.w.kd, x.w.ce, x.w.ho, x.w.ac, x.w.y), (x.v.f, x.v.t, x.v.z, x.v.m, x.v.n, x.v.kd, x.v.ce, x.v.ho, x.v.ac, x.v.y), x.xi, x.gf, x.gt, x.gz, x.gm, x.pn, x.pk, x.pc, x.ph, x.pa, x.sn, x.sc, x.sw, x.lw, x.la, x.lb, x.ls, x.ds, x.df, x.dm, x.kw, x.kc, x.kt, (x.s0.h, x.s0.l, x.s0.n, x.s0.i), (x.s1.h, x.s1.l, x.s1.n, x.s1.i), (x.s2.h, x.s2.l, x.s2.n, x.s2.i), (x.s3.h, x.s3.l, x.s3.n, x.s3.i)) ((y.w.f, y.w.t, y.w.z, y.w.m, y.w.n, y.w.kd, y.w.ce, y.w.ho, y.w.ac, y.w.y), y.S, y.T, y.A, y.F, y.Z, y.K, y.H, y.I, y.B, y.sc, y.ta, y.re, y.th, y.co, y.ga, y.im, y.la, y.sz, y.it, y.mv)) rfl ?_
    exact kk (x.tn, x.tf, x.tu, x.tb, x.tm, (x.w.f, x.w.t, x.w.z, x.w.m, x.w.n, x.w.kd, x.w.ce, x.w.ho, x.w.ac, x.w.y), (x.v.f, x.v.t, x.v.z, x.v.m, x.v.n, x.v.kd, x.v.ce, x.v.ho, x.v.ac, x.v.y), x.xi, x.gf, x.gt, x.gz, x.gm, x.pn, x.pk, x.pc, x.ph, x.pa, x.sn, x.sc, x.sw, x.lw, x.la, x.lb, x.ls, x.ds, x.df, x.dm, x.kw, x.kc, x.kt, (x.s0.h, x.s0.l, x.s0.n, x.s0.i), (x.s1.h, x.s1.l, x.s1.n, x.s1.i), (x.s2.h, x.s2.l, x.s2.n, x.s2.i), (x.s3.h, x.s3.l, x.s3.n, x.s3.i)) ((y.w.f, y.w.t, y.w.z, y.w.m, y.w.n, y.w.kd, y.w.ce, y.w.ho, y.w.ac, y.w.y), y.S, y.T, y.A, y.F, y.Z, y.K, y.H, y.I, y.B, y.sc, y.ta, y.re, y.th, y.co, y.ga, y.im, y.la, y.sz, y.it, y.mv) ⟨hS.tp, hS.e, hS.o, hS.im, hS.s0, hS.s1, hS.s2, hS.s3, hS.c⟩
  · exact absurd c_1 (fun q => q (count_sim hS.e hS.o _))
