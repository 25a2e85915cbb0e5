theorem lw_ge {i L : Nat} (hL : L ≤ 512) (hi : i ≤ 520) (h : ¬ nI L - 8 < nI i) : i + 8 ≤ L := by
  apply Nat.le_of_not_lt
  intro q
  apply h
  have e8 : (8 : Int32).toInt = 8 := by decide
  rw [Int32.lt_iff_toInt_lt, Int32.toInt_sub, nI_toInt (by omega), nI_toInt (by omega), e8]
  have e : ((L : Int) - 8).bmod (2 ^ 32) = (L : Int) - 8 := by
    apply Int.bmod_eq_of_le <;> omega
  rw [e]
  omega
theorem lw_next {p : Program} {l : Launch} {e : Env} {s : State} {m : MethodId} {below : List Frame} {meth : Method} {c : Code} {Q : State → Prop} {g : XG} {a d : Nat → Nat} {b L : Nat} {xs : Nat → Int32} (XL : Lx p s m meth c g b L xs) {i : Nat} {x : XS} {y : MS} (h : LV p l e s m below meth c Q g a d b (i + 8) 18 [] x y) : LV p l e s m below meth c Q g a d b i 1195 [] x y := by
  obtain ⟨X, hX, hbl, hL⟩ := XL
  refine V_iinc (v := nI (i + 8)) (lv' := [(3, .int (nI (i + 8))), (2, .ref (d 0)), (1, .ref (a 0)), (0, .ref b)]) (pc := 1195) X dL_law_1195 0 rfl (nI_add i 8) (Nat.le_of_ble_eq_true rfl) rfl ?_
  exact V_goto (tgt := 18) (pc := 1198) X dL_law_1198 (by decide) h
set_option maxHeartbeats 8000000 in
set_option maxRecDepth 100000 in
theorem lw_iter {p : Program} {l : Launch} {e : Env} {s : State} {m : MethodId} {below : List Frame} {meth : Method} {c : Code} {Q : State → Prop} {g : XG} {a d : Nat → Nat} {b L : Nat} {xs : Nat → Int32} (XL : Lx p s m meth c g b L xs) {i : Nat} (hiL : i ≤ 520) {x : XS} {y : MS} (hS : Sim x y) (he : LV p l e s m below meth c Q g a d b i 1201 [] x y) (hn : ∀ (x9 : XS) (y9 : MS), Sim x9 y9 → i + 8 ≤ L → LV p l e s m below meth c Q g a d b (i + 8) 18 [] x9 y9) : LV p l e s m below meth c Q g a d b i 18 [] x y := by
  obtain ⟨X, hX, hbl, hL⟩ := id XL
  have hbA : ¬ (fun q : Nat => s.heap.size ≤ q) b := Nat.not_le.mpr hbl
  obtain ⟨a0, e0⟩ : ∃ v, xs i = v := ⟨_, rfl⟩
  refine V_iload_n (pc := 18) X dL_law_18 rfl 0 rfl ?_
  refine V_aload_n (pc := 19) X dL_law_19 rfl 3 rfl ?_
  refine V_slen (v := nI L) (pc := 20) X hX hbl hbA dL_law_20 rfl ?_
  refine V_bipush (v := 8) (pc := 21) X dL_law_21 (by decide) ?_
  refine V_isub (pc := 23) X dL_law_23 ?_
  refine V_icmp_gt (tgt := 1201) (pc := 24) X dL_law_24 (by decide) (fun c_1 => ?_) (fun c_1 => ?_)
  · skip
    exact he
  · skip
    have hi8 : i + 8 ≤ L := lw_ge hL hiL c_1
    refine V_aload_n (pc := 27) X dL_law_27 rfl 3 rfl ?_
    refine V_iload_n (pc := 28) X dL_law_28 rfl 0 rfl ?_
    refine V_sld (v := a0) (pc := 29) X hX hbl hbA dL_law_29 (vp_in_nI (by omega) (by omega)) (by rw [nI_clamp (by omega)]; exact e0) ?_
    refine V_bipush (v := 31) (pc := 30) X dL_law_30 (by decide) ?_
    refine V_iand (pc := 32) X dL_law_32 ?_
    by_cases w_2 : (a0 &&& 31) = 0
    · refine V_tableIn (off := 127) (tgt := 160) (pc := 33) X dL_law_33 (by rw [w_2]; decide) (by rw [w_2]; decide) (by rw [w_2]; rfl) (by decide) ?_
      exact lw_type XL hi8 hS (fun x9 y9 h9 => lw_next XL (hn x9 y9 h9 hi8))
    by_cases w_3 : (a0 &&& 31) = 1
    · refine V_tableIn (off := 190) (tgt := 223) (pc := 33) X dL_law_33 (by rw [w_3]; decide) (by rw [w_3]; decide) (by rw [w_3]; rfl) (by decide) ?_
      exact lw_marsh XL hi8 hS (fun x9 y9 h9 => lw_next XL (hn x9 y9 h9 hi8))
    by_cases w_4 : (a0 &&& 31) = 2
    · refine V_tableIn (off := 203) (tgt := 236) (pc := 33) X dL_law_33 (by rw [w_4]; decide) (by rw [w_4]; decide) (by rw [w_4]; rfl) (by decide) ?_
      exact lw_drain XL hi8 hS (fun x9 y9 h9 => lw_next XL (hn x9 y9 h9 hi8))
    by_cases w_5 : (a0 &&& 31) = 3
    · refine V_tableIn (off := 252) (tgt := 285) (pc := 33) X dL_law_33 (by rw [w_5]; decide) (by rw [w_5]; decide) (by rw [w_5]; rfl) (by decide) ?_
      exact lw_tuft XL hi8 hS (fun x9 y9 h9 => lw_next XL (hn x9 y9 h9 hi8))
    by_cases w_6 : (a0 &&& 31) = 4
    · refine V_tableIn (off := 275) (tgt := 308) (pc := 33) X dL_law_33 (by rw [w_6]; decide) (by rw [w_6]; decide) (by rw [w_6]; rfl) (by decide) ?_
      exact lw_plant XL hi8 hS (fun x9 y9 h9 => lw_next XL (hn x9 y9 h9 hi8))
    by_cases w_7 : (a0 &&& 31) = 5
    · refine V_tableIn (off := 308) (tgt := 341) (pc := 33) X dL_law_33 (by rw [w_7]; decide) (by rw [w_7]; decide) (by rw [w_7]; rfl) (by decide) ?_
      exact lw_person XL hi8 hS (fun x9 y9 h9 => lw_next XL (hn x9 y9 h9 hi8))
    by_cases w_8 : (a0 &&& 31) = 6
    · refine V_tableIn (off := 331) (tgt := 364) (pc := 33) X dL_law_33 (by rw [w_8]; decide) (by rw [w_8]; decide) (by rw [w_8]; rfl) (by decide) ?_
      exact lw_sit XL hi8 hS (fun x9 y9 h9 => lw_next XL (hn x9 y9 h9 hi8))
    by_cases w_9 : (a0 &&& 31) = 7
    · refine V_tableIn (off := 374) (tgt := 407) (pc := 33) X dL_law_33 (by rw [w_9]; decide) (by rw [w_9]; decide) (by rw [w_9]; rfl) (by decide) ?_
      exact lw_told XL hi8 hS (fun x9 y9 h9 => lw_next XL (hn x9 y9 h9 hi8))
    by_cases w_10 : (a0 &&& 31) = 8
    · refine V_tableIn (off := 407) (tgt := 440) (pc := 33) X dL_law_33 (by rw [w_10]; decide) (by rw [w_10]; decide) (by rw [w_10]; rfl) (by decide) ?_
      exact lw_of XL hi8 hS (fun x9 y9 h9 => lw_next XL (hn x9 y9 h9 hi8))
    by_cases w_11 : (a0 &&& 31) = 9
    · refine V_tableIn (off := 440) (tgt := 473) (pc := 33) X dL_law_33 (by rw [w_11]; decide) (by rw [w_11]; decide) (by rw [w_11]; rfl) (by decide) ?_
      exact lw_frost XL hi8 hS (fun x9 y9 h9 => lw_next XL (hn x9 y9 h9 hi8))
    by_cases w_12 : (a0 &&& 31) = 10
    · refine V_tableIn (off := 463) (tgt := 496) (pc := 33) X dL_law_33 (by rw [w_12]; decide) (by rw [w_12]; decide) (by rw [w_12]; rfl) (by decide) ?_
      exact lw_count XL hi8 hS (fun x9 y9 h9 => lw_next XL (hn x9 y9 h9 hi8))
    by_cases w_13 : (a0 &&& 31) = 11
    · refine V_tableIn (off := 486) (tgt := 519) (pc := 33) X dL_law_33 (by rw [w_13]; decide) (by rw [w_13]; decide) (by rw [w_13]; rfl) (by decide) ?_
      exact lw_moss XL hi8 hS (fun x9 y9 h9 => lw_next XL (hn x9 y9 h9 hi8))
    by_cases w_14 : (a0 &&& 31) = 12
    · refine V_tableIn (off := 509) (tgt := 542) (pc := 33) X dL_law_33 (by rw [w_14]; decide) (by rw [w_14]; decide) (by rw [w_14]; rfl) (by decide) ?_
      exact lw_pull XL hi8 hS (fun x9 y9 h9 => lw_next XL (hn x9 y9 h9 hi8))
    by_cases w_15 : (a0 &&& 31) = 13
    · refine V_tableIn (off := 542) (tgt := 575) (pc := 33) X dL_law_33 (by rw [w_15]; decide) (by rw [w_15]; decide) (by rw [w_15]; rfl) (by decide) ?_
      exact lw_year XL hi8 hS (fun x9 y9 h9 => lw_next XL (hn x9 y9 h9 hi8))
    by_cases w_16 : (a0 &&& 31) = 14
    · refine V_tableIn (off := 555) (tgt := 588) (pc := 33) X dL_law_33 (by rw [w_16]; decide) (by rw [w_16]; decide) (by rw [w_16]; rfl) (by decide) ?_
      exact lw_way XL hi8 hS (fun x9 y9 h9 => lw_next XL (hn x9 y9 h9 hi8))
    by_cases w_17 : (a0 &&& 31) = 15
    · refine V_tableIn (off := 588) (tgt := 621) (pc := 33) X dL_law_33 (by rw [w_17]; decide) (by rw [w_17]; decide) (by rw [w_17]; rfl) (by decide) ?_
      exact lw_route XL hi8 hS (fun x9 y9 h9 => lw_next XL (hn x9 y9 h9 hi8))
    by_cases w_18 : (a0 &&& 31) = 16
    · refine V_tableIn (off := 631) (tgt := 664) (pc := 33) X dL_law_33 (by rw [w_18]; decide) (by rw [w_18]; decide) (by rw [w_18]; rfl) (by decide) ?_
      exact lw_parts XL hi8 hS (fun x9 y9 h9 => lw_next XL (hn x9 y9 h9 hi8))
    by_cases w_19 : (a0 &&& 31) = 17
    · refine V_tableIn (off := 644) (tgt := 677) (pc := 33) X dL_law_33 (by rw [w_19]; decide) (by rw [w_19]; decide) (by rw [w_19]; rfl) (by decide) ?_
      exact lw_least XL hi8 hS (fun x9 y9 h9 => lw_next XL (hn x9 y9 h9 hi8))
    by_cases w_20 : (a0 &&& 31) = 18
    · refine V_tableIn (off := 697) (tgt := 730) (pc := 33) X dL_law_33 (by rw [w_20]; decide) (by rw [w_20]; decide) (by rw [w_20]; rfl) (by decide) ?_
      exact lw_game XL hi8 hS (fun x9 y9 h9 => lw_next XL (hn x9 y9 h9 hi8))
    by_cases w_21 : (a0 &&& 31) = 19
    · refine V_tableIn (off := 784) (tgt := 817) (pc := 33) X dL_law_33 (by rw [w_21]; decide) (by rw [w_21]; decide) (by rw [w_21]; rfl) (by decide) ?_
      exact lw_pilots XL hi8 hS (fun x9 y9 h9 => lw_next XL (hn x9 y9 h9 hi8))
    by_cases w_22 : (a0 &&& 31) = 20
    · refine V_tableIn (off := 817) (tgt := 850) (pc := 33) X dL_law_33 (by rw [w_22]; decide) (by rw [w_22]; decide) (by rw [w_22]; rfl) (by decide) ?_
      exact lw_image XL hi8 hS (fun x9 y9 h9 => lw_next XL (hn x9 y9 h9 hi8))
    by_cases w_23 : (a0 &&& 31) = 21
    · refine V_tableIn (off := 830) (tgt := 863) (pc := 33) X dL_law_33 (by rw [w_23]; decide) (by rw [w_23]; decide) (by rw [w_23]; rfl) (by decide) ?_
      exact lw_restore XL hi8 hS (fun x9 y9 h9 => lw_next XL (hn x9 y9 h9 hi8))
    by_cases w_24 : (a0 &&& 31) = 22
    · refine V_tableIn (off := 843) (tgt := 876) (pc := 33) X dL_law_33 (by rw [w_24]; decide) (by rw [w_24]; decide) (by rw [w_24]; rfl) (by decide) ?_
      exact lw_sat XL hi8 hS (fun x9 y9 h9 => lw_next XL (hn x9 y9 h9 hi8))
    by_cases w_25 : (a0 &&& 31) = 23
    · refine V_tableIn (off := 907) (tgt := 940) (pc := 33) X dL_law_33 (by rw [w_25]; decide) (by rw [w_25]; decide) (by rw [w_25]; rfl) (by decide) ?_
      exact lw_film XL hi8 hS (fun x9 y9 h9 => lw_next XL (hn x9 y9 h9 hi8))
    by_cases w_26 : (a0 &&& 31) = 24
    · refine V_tableIn (off := 950) (tgt := 983) (pc := 33) X dL_law_33 (by rw [w_26]; decide) (by rw [w_26]; decide) (by rw [w_26]; rfl) (by decide) ?_
      exact lw_sheet XL hi8 hS (fun x9 y9 h9 => lw_next XL (hn x9 y9 h9 hi8))
    by_cases w_27 : (a0 &&& 31) = 25
    · refine V_tableIn (off := 993) (tgt := 1026) (pc := 33) X dL_law_33 (by rw [w_27]; decide) (by rw [w_27]; decide) (by rw [w_27]; rfl) (by decide) ?_
      exact lw_drop XL hi8 hS (fun x9 y9 h9 => lw_next XL (hn x9 y9 h9 hi8))
    by_cases w_28 : (a0 &&& 31) = 26
    · refine V_tableIn (off := 1016) (tgt := 1049) (pc := 33) X dL_law_33 (by rw [w_28]; decide) (by rw [w_28]; decide) (by rw [w_28]; rfl) (by decide) ?_
      exact lw_item XL hi8 hS (fun x9 y9 h9 => lw_next XL (hn x9 y9 h9 hi8))
    by_cases w_29 : (a0 &&& 31) = 27
    · refine V_tableIn (off := 1099) (tgt := 1132) (pc := 33) X dL_law_33 (by rw [w_29]; decide) (by rw [w_29]; decide) (by rw [w_29]; rfl) (by decide) ?_
      exact lw_copy XL hi8 hS (fun x9 y9 h9 => lw_next XL (hn x9 y9 h9 hi8))
    refine V_tableOut (tgt := 1195) (pc := 33) X dL_law_33 (tb_out 0 27 (by decide) (by decide) (fun k h1 h2 q => by
        rcases (show k = 0 ∨ k = 1 ∨ k = 2 ∨ k = 3 ∨ k = 4 ∨ k = 5 ∨ k = 6 ∨ k = 7 ∨ k = 8 ∨ k = 9 ∨ k = 10 ∨ k = 11 ∨ k = 12 ∨ k = 13 ∨ k = 14 ∨ k = 15 ∨ k = 16 ∨ k = 17 ∨ k = 18 ∨ k = 19 ∨ k = 20 ∨ k = 21 ∨ k = 22 ∨ k = 23 ∨ k = 24 ∨ k = 25 ∨ k = 26 ∨ k = 27 by omega) with rfl | rfl | rfl | rfl | rfl | rfl | rfl | rfl | rfl | rfl | rfl | rfl | rfl | rfl | rfl | rfl | rfl | rfl | rfl | rfl | rfl | rfl | rfl | rfl | rfl | rfl | rfl | rfl <;> first | exact absurd q w_2 | exact absurd q w_3 | exact absurd q w_4 | exact absurd q w_5 | exact absurd q w_6 | exact absurd q w_7 | exact absurd q w_8 | exact absurd q w_9 | exact absurd q w_10 | exact absurd q w_11 | exact absurd q w_12 | exact absurd q w_13 | exact absurd q w_14 | exact absurd q w_15 | exact absurd q w_16 | exact absurd q w_17 | exact absurd q w_18 | exact absurd q w_19 | exact absurd q w_20 | exact absurd q w_21 | exact absurd q w_22 | exact absurd q w_23 | exact absurd q w_24 | exact absurd q w_25 | exact absurd q w_26 | exact absurd q w_27 | exact absurd q w_28 | exact absurd q w_29)) (by decide) ?_
    exact lw_next XL (hn x y hS hi8)
theorem lw_loop {p : Program} {l : Launch} {e : Env} {s : State} {m : MethodId} {below : List Frame} {meth : Method} {c : Code} {Q : State → Prop} {g : XG} {a d : Nat → Nat} {b L : Nat} {xs : Nat → Int32} (XL : Lx p s m meth c g b L xs) (he : ∀ (i : Nat) (x : XS) (y : MS), LV p l e s m below meth c Q g a d b i 1201 [] x y) : ∀ (n i : Nat) (x : XS) (y : MS), i ≤ L + 8 → L + 8 - i < n → Sim x y → LV p l e s m below meth c Q g a d b i 18 [] x y
  | 0, _, _, _, _, h, _ => absurd h (Nat.not_lt_zero _)
  | n + 1, i, x, y, hi, hn, hS => lw_iter XL (Nat.le_trans hi (Nat.add_le_add_right XL.2.2.2 8)) hS (he i x y) (fun x9 y9 h9 hi8 => lw_loop XL he n (i + 8) x9 y9 (by omega) (by omega) h9)
