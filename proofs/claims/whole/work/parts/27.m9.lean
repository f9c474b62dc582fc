-- the reference: insertion
section M9
variable {x : CX} {h : AH} {m : Nat} {A : Nat → Nat} {S : PS}
set_option maxHeartbeats 4000000 in
theorem c_Md_insertion (hI : IM h m A S) (hw : RW S) (hz : ssz S ≤ 900) (hnd : snd S ≤ 900) (hv : VW S) (hso : ∀ i, i < ssz S → 1 ≤ sso S i ∧ sso S i ≤ skc S) (hru : ∀ k, k ≤ skc S → sru S k ≤ 2) (hab : ∀ k, 1 ≤ k → k ≤ skc S → sab S k ≤ skc S) {n : Nat} (hp : PV S n) (hn1 : 1 ≤ n) {v : Nat} (hv1 : 1 ≤ v) (hv2 : v ≤ svc S) (key val : Int64) : Ct x y_Md_insertion b_Md_insertion 16 (some .int) 5 0 0 [.ref m, .int (nI v), .int (nI n), .long key, .long val] h (PM h m A (insnS S v n key val)) := by
  have hF : IF h h m A S := ⟨hI, FrM_rf⟩
  obtain ⟨hm, h0, h1, h2, h3, h5, h6, h7, h8, h11, h12, h13, h15, h16, h17, h18, h20, -⟩ := id hI
  obtain ⟨u1, u2, u3⟩ := id hv
  obtain ⟨w1, w2, w3, w4, w5⟩ := id hw
  have wl := hw.lo
  obtain ⟨v1, v2⟩ := id hp
  obtain ⟨g1, g2⟩ := u3 v (by omega)
  obtain ⟨k1, k2, k3, k4⟩ := v2 (n - 1) (by omega)
  refine Ct_of (own := "PathCallsModel") (ini := false) rfl rfl (Nat.le_of_ble_eq_true rfl) (fun q => by cases q) ?_
  generalize ekd : spk S (n - 1) = kd at k1 k2
  generalize epos : plc S (spo S v) = pos
  have hpos : ∀ j, pos = some j → j < ssz S := fun j hj => (plc_lt (epos.trans hj)).1
  generalize epar : parS S n kd pos = par
  have hab1 := hab kd k1 k2
  have hru1 := hru kd k2
  have hpar : ∀ j, par = some j → j < ssz S := by
    intro j hj
    rw [hj] at epar
    unfold parS at epar
    split at epar
    · cases epar
    · split at epar
      · exact (frst_some epar).2.1
      · cases pos with
        | none => cases epar
        | some i =>
          have := (okd_lt epar).1
          have := hpos i rfl
          omega
  have hend : endS S par ≤ ssz S := by
    unfold endS
    cases par with
    | none => exact Nat.le_refl _
    | some k => exact bhd_ub S (hpar k rfl)
  have hres : insnS S v n key val = (if sab S kd ≠ 0 ∧ par = none then (1, S) else if scT S kd key (endS S par) (ssz S) (at0 S kd par) = true ∧ sun S kd = true then (7, S) else (0, insdS S v (at1 S kd key pos par) kd key val)) := by
    unfold insnS
    rw [ekd, epos, epar]
  generalize ee : endS S par = e at hend
  -- the shift and the new row
  have shift : ∀ (a : Nat), a ≤ ssz S → insnS S v n key val = (0, insdS S v a kd key val) → V x "PathCallsModel" b_Md_insertion 16 (Option.some .int) false (rmd 5 0 0) 0 0 (PM h m A (insnS S v n key val)) 356 [(0, .ref m), (1, .int (nI v)), (3, .long key), (5, .long val), (7, .int (nI kd)), (11, .int (nI a))] [] h 0 0 := by
    intro a ha hins
    have last : ∀ g, IF h g m A (mkR S (ssz S) (snd S) (fun j => if a < j ∧ j ≤ ssz S then snm S (j - 1) else snm S j) (fun j => if a < j ∧ j ≤ ssz S then sso S (j - 1) else sso S j) (fun j => if a < j ∧ j ≤ ssz S then sky S (j - 1) else sky S j) (fun j => if a < j ∧ j ≤ ssz S then svl S (j - 1) else svl S j)) → V x "PathCallsModel" b_Md_insertion 16 (Option.some .int) false (rmd 5 0 0) 0 0 (PM h m A (insnS S v n key val)) 439 [(0, .ref m), (1, .int (nI v)), (3, .long key), (5, .long val), (7, .int (nI kd)), (11, .int (nI a))] [] g 0 0 := by
      intro g hF
      obtain ⟨hm, h0, h1, h2, h3, h5, h6, h7, h8, h11, h12, h13, h15, h16, h17, h18, h20, -⟩ := id hF.1
      refine V_aload_n (pc' := 440) d_Md_insertion_439 rfl (by first | rfl | exact isR_rf _) rfl ?_
      refine V_dup (pc' := 441) d_Md_insertion_440 rfl rfl ?_
      refine V_getf (pc' := 444) d_Md_insertion_441 fl_Md_74 rfl (by first | assumption | exact aset_self _ _ _ | exact apush_self _ _) (by rfl) ?_
      refine V_iconst (pc' := 445) (v := 1) d_Md_insertion_444 (by decide) rfl ?_
      refine V_iadd (pc' := 446) d_Md_insertion_445 rfl ?_
      rw [nI_1]
      refine V_putf (pc' := 449) d_Md_insertion_446 fp_Md_74 rfl (by first | assumption | exact aset_self _ _ _ | exact apush_self _ _) (by first | rfl | exact ob_nar _ | exact nar_rf _) (by first | rfl | exact ob_fit _ | exact fits_rf _) (by exact Nat.le_of_ble_eq_true rfl) ?_
      refine V_ex (fun g => IF _ g m A _) (IF_usz hF (ssz S + 1)) (fun g1 hF => ?_)
      obtain ⟨hm, h0, h1, h2, h3, h5, h6, h7, h8, h11, h12, h13, h15, h16, h17, h18, h20, -⟩ := id hF.1
      refine V_aload_n (pc' := 450) d_Md_insertion_449 rfl (by first | rfl | exact isR_rf _) rfl ?_
      refine V_dup (pc' := 451) d_Md_insertion_450 rfl rfl ?_
      refine V_getf (pc' := 454) d_Md_insertion_451 fl_Md_121 rfl (by first | assumption | exact aset_self _ _ _ | exact apush_self _ _) (by rfl) ?_
      refine V_iconst (pc' := 455) (v := 1) d_Md_insertion_454 (by decide) rfl ?_
      refine V_iadd (pc' := 456) d_Md_insertion_455 rfl ?_
      rw [nI_1]
      refine V_putf (pc' := 459) d_Md_insertion_456 fp_Md_121 rfl (by first | assumption | exact aset_self _ _ _ | exact apush_self _ _) (by first | rfl | exact ob_nar _ | exact nar_rf _) (by first | rfl | exact ob_fit _ | exact fits_rf _) (by exact Nat.le_of_ble_eq_true rfl) ?_
      refine V_ex (fun g => IF _ g m A _) (IF_und hF (snd S + 1)) (fun g2 hF => ?_)
      obtain ⟨hm, h0, h1, h2, h3, h5, h6, h7, h8, h11, h12, h13, h15, h16, h17, h18, h20, -⟩ := id hF.1
      refine V_aload_n (pc' := 460) d_Md_insertion_459 rfl (by first | rfl | exact isR_rf _) rfl ?_
      refine V_getf (pc' := 463) d_Md_insertion_460 fl_Md_23 rfl (by first | assumption | exact aset_self _ _ _ | exact apush_self _ _) (by rfl) ?_
      refine V_iload (pc' := 465) d_Md_insertion_463 rfl rfl ?_
      refine V_aload_n (pc' := 466) d_Md_insertion_465 rfl (by first | rfl | exact isR_rf _) rfl ?_
      refine V_getf (pc' := 469) d_Md_insertion_466 fl_Md_121 rfl (by first | assumption | exact aset_self _ _ _ | exact apush_self _ _) (by rfl) ?_
      -- at 469 iastore
      refine V_iast (pc' := 470) d_Md_insertion_469 rfl h5 rfl rfl (by omega) (arv_get (by omega)) ?_
      refine V_ex (fun g => IF _ g m A _) (IF_unm hF a (snd S + 1)) (fun g3 hF => ?_)
      obtain ⟨hm, h0, h1, h2, h3, h5, h6, h7, h8, h11, h12, h13, h15, h16, h17, h18, h20, -⟩ := id hF.1
      refine V_aload_n (pc' := 471) d_Md_insertion_470 rfl (by first | rfl | exact isR_rf _) rfl ?_
      refine V_getf (pc' := 474) d_Md_insertion_471 fl_Md_26 rfl (by first | assumption | exact aset_self _ _ _ | exact apush_self _ _) (by rfl) ?_
      refine V_iload (pc' := 476) d_Md_insertion_474 rfl rfl ?_
      refine V_iload (pc' := 478) d_Md_insertion_476 rfl rfl ?_
      -- at 478 iastore
      refine V_iast (pc' := 479) d_Md_insertion_478 rfl h6 rfl rfl (by omega) (arv_get (by omega)) ?_
      refine V_ex (fun g => IF _ g m A _) (IF_uso hF a kd) (fun g4 hF => ?_)
      obtain ⟨hm, h0, h1, h2, h3, h5, h6, h7, h8, h11, h12, h13, h15, h16, h17, h18, h20, -⟩ := id hF.1
      refine V_aload_n (pc' := 480) d_Md_insertion_479 rfl (by first | rfl | exact isR_rf _) rfl ?_
      refine V_getf (pc' := 483) d_Md_insertion_480 fl_Md_29 rfl (by first | assumption | exact aset_self _ _ _ | exact apush_self _ _) (by rfl) ?_
      refine V_iload (pc' := 485) d_Md_insertion_483 rfl rfl ?_
      refine V_lload_n (pc' := 486) d_Md_insertion_485 rfl rfl ?_
      -- at 486 lastore
      refine V_last (pc' := 487) d_Md_insertion_486 rfl h7 rfl rfl (by omega) (arv_get (by omega)) ?_
      refine V_ex (fun g => IF _ g m A _) (IF_uky hF a key) (fun g5 hF => ?_)
      obtain ⟨hm, h0, h1, h2, h3, h5, h6, h7, h8, h11, h12, h13, h15, h16, h17, h18, h20, -⟩ := id hF.1
      refine V_aload_n (pc' := 488) d_Md_insertion_487 rfl (by first | rfl | exact isR_rf _) rfl ?_
      refine V_getf (pc' := 491) d_Md_insertion_488 fl_Md_33 rfl (by first | assumption | exact aset_self _ _ _ | exact apush_self _ _) (by rfl) ?_
      refine V_iload (pc' := 493) d_Md_insertion_491 rfl rfl ?_
      refine V_lload (pc' := 495) d_Md_insertion_493 rfl rfl ?_
      -- at 495 lastore
      refine V_last (pc' := 496) d_Md_insertion_495 rfl h8 rfl rfl (by omega) (arv_get (by omega)) ?_
      refine V_ex (fun g => IF _ g m A _) (IF_uvl hF a val) (fun g6 hF => ?_)
      obtain ⟨hm, h0, h1, h2, h3, h5, h6, h7, h8, h11, h12, h13, h15, h16, h17, h18, h20, -⟩ := id hF.1
      refine V_aload_n (pc' := 497) d_Md_insertion_496 rfl (by first | rfl | exact isR_rf _) rfl ?_
      refine V_getf (pc' := 500) d_Md_insertion_497 fl_Md_36 rfl (by first | assumption | exact aset_self _ _ _ | exact apush_self _ _) (by rfl) ?_
      refine V_iload_n (pc' := 501) d_Md_insertion_500 rfl rfl ?_
      refine V_aload_n (pc' := 502) d_Md_insertion_501 rfl (by first | rfl | exact isR_rf _) rfl ?_
      refine V_getf (pc' := 505) d_Md_insertion_502 fl_Md_121 rfl (by first | assumption | exact aset_self _ _ _ | exact apush_self _ _) (by rfl) ?_
      -- at 505 iastore
      refine V_iast (pc' := 506) d_Md_insertion_505 rfl h11 rfl rfl (by omega) (arv_get (by omega)) ?_
      refine V_ex (fun g => IF _ g m A _) (IF_upo hF v (snd S + 1)) (fun g7 hF => ?_)
      obtain ⟨hm, h0, h1, h2, h3, h5, h6, h7, h8, h11, h12, h13, h15, h16, h17, h18, h20, -⟩ := id hF.1
      refine V_iconst (pc' := 507) (v := 0) d_Md_insertion_506 (by decide) rfl ?_
      refine V_iret d_Md_insertion_507 rfl (by first | decide | omega) (by first | decide | omega) ?_
      rw [hins]
      exact ⟨rfl, hF⟩
    have lp : ∀ (d i : Nat), i = a + d → i ≤ ssz S → ∀ g, IF h g m A (mkR S (ssz S) (snd S) (fun j => if i < j ∧ j ≤ ssz S then snm S (j - 1) else snm S j) (fun j => if i < j ∧ j ≤ ssz S then sso S (j - 1) else sso S j) (fun j => if i < j ∧ j ≤ ssz S then sky S (j - 1) else sky S j) (fun j => if i < j ∧ j ≤ ssz S then svl S (j - 1) else svl S j)) → V x "PathCallsModel" b_Md_insertion 16 (Option.some .int) false (rmd 5 0 0) 0 0 (PM h m A (insnS S v n key val)) 362 [(0, .ref m), (1, .int (nI v)), (3, .long key), (5, .long val), (7, .int (nI kd)), (11, .int (nI a)), (15, .int (nI i))] [] g 0 0 := by
      intro d
      induction d with
      | zero =>
        intro i hi hi2 g hF
        have e0 : i = a := by omega
        subst e0
        refine V_iload (pc' := 364) d_Md_insertion_362 rfl rfl ?_
        refine V_iload (pc' := 366) d_Md_insertion_364 rfl rfl ?_
        refine V_icmp_le (pc' := 369) (tgt := 439) d_Md_insertion_366 (by decide) rfl (fun c366 => ?_) (fun c366 => ?_)
        · refine V_L [(0, .ref m), (1, .int (nI v)), (3, .long key), (5, .long val), (7, .int (nI kd)), (11, .int (nI i))] ⟨rfl, rfl, rfl, rfl, rfl, rfl, trivial⟩ ?_
          exact last g hF
        · exact absurd (Int32.le_refl _) c366
      | succ d ih =>
        intro i hi hi2 g hF
        have si : ∀ {α : Type} (f : Nat → α), (fun j => if j = i then (if i < i - 1 ∧ i - 1 ≤ ssz S then f (i - 1 - 1) else f (i - 1)) else (if i < j ∧ j ≤ ssz S then f (j - 1) else f j)) = (fun j => if i - 1 < j ∧ j ≤ ssz S then f (j - 1) else f j) := by
          intro α f
          funext j
          by_cases q1 : j = i
          · subst q1
            rw [if_pos rfl, if_neg (by omega), if_pos ⟨by omega, hi2⟩]
          · rw [if_neg q1]
            by_cases q2 : i < j ∧ j ≤ ssz S
            · rw [if_pos q2, if_pos ⟨by omega, q2.2⟩]
            · rw [if_neg q2, if_neg (by omega)]
        obtain ⟨hm, h0, h1, h2, h3, h5, h6, h7, h8, h11, h12, h13, h15, h16, h17, h18, h20, -⟩ := id hF.1
        refine V_iload (pc' := 364) d_Md_insertion_362 rfl rfl ?_
        refine V_iload (pc' := 366) d_Md_insertion_364 rfl rfl ?_
        refine V_icmp_le (pc' := 369) (tgt := 439) d_Md_insertion_366 (by decide) rfl (fun c366 => ?_) (fun c366 => ?_)
        · exact absurd c366 (nI_ge (by omega) (by omega))
        · refine V_aload_n (pc' := 370) d_Md_insertion_369 rfl (by first | rfl | exact isR_rf _) rfl ?_
          refine V_getf (pc' := 373) d_Md_insertion_370 fl_Md_23 rfl (by first | assumption | exact aset_self _ _ _ | exact apush_self _ _) (by rfl) ?_
          refine V_iload (pc' := 375) d_Md_insertion_373 rfl rfl ?_
          refine V_aload_n (pc' := 376) d_Md_insertion_375 rfl (by first | rfl | exact isR_rf _) rfl ?_
          refine V_getf (pc' := 379) d_Md_insertion_376 fl_Md_23 rfl (by first | assumption | exact aset_self _ _ _ | exact apush_self _ _) (by rfl) ?_
          refine V_iload (pc' := 381) d_Md_insertion_379 rfl rfl ?_
          refine V_iconst (pc' := 382) (v := 1) d_Md_insertion_381 (by decide) rfl ?_
          refine V_isub (pc' := 383) d_Md_insertion_382 rfl ?_
          -- at 383 iaload
          refine V_iald (pc' := 384) d_Md_insertion_383 rfl h5 rfl (pk_sub (a := i) (b := 1) (by omega)) (by omega) (arv_get (by omega)) ?_
          refine V_iast (pc' := 385) d_Md_insertion_384 rfl h5 rfl rfl (by omega) (arv_get (by omega)) ?_
          refine V_ex (fun g => IF _ g m A _) (IF_unm hF i (if i < i - 1 ∧ i - 1 ≤ ssz S then snm S (i - 1 - 1) else snm S (i - 1))) (fun g1 hF => ?_)
          obtain ⟨hm, h0, h1, h2, h3, h5, h6, h7, h8, h11, h12, h13, h15, h16, h17, h18, h20, -⟩ := id hF.1
          refine V_aload_n (pc' := 386) d_Md_insertion_385 rfl (by first | rfl | exact isR_rf _) rfl ?_
          refine V_getf (pc' := 389) d_Md_insertion_386 fl_Md_26 rfl (by first | assumption | exact aset_self _ _ _ | exact apush_self _ _) (by rfl) ?_
          refine V_iload (pc' := 391) d_Md_insertion_389 rfl rfl ?_
          refine V_aload_n (pc' := 392) d_Md_insertion_391 rfl (by first | rfl | exact isR_rf _) rfl ?_
          refine V_getf (pc' := 395) d_Md_insertion_392 fl_Md_26 rfl (by first | assumption | exact aset_self _ _ _ | exact apush_self _ _) (by rfl) ?_
          refine V_iload (pc' := 397) d_Md_insertion_395 rfl rfl ?_
          refine V_iconst (pc' := 398) (v := 1) d_Md_insertion_397 (by decide) rfl ?_
          refine V_isub (pc' := 399) d_Md_insertion_398 rfl ?_
          -- at 399 iaload
          refine V_iald (pc' := 400) d_Md_insertion_399 rfl h6 rfl (pk_sub (a := i) (b := 1) (by omega)) (by omega) (arv_get (by omega)) ?_
          refine V_iast (pc' := 401) d_Md_insertion_400 rfl h6 rfl rfl (by omega) (arv_get (by omega)) ?_
          refine V_ex (fun g => IF _ g m A _) (IF_uso hF i (if i < i - 1 ∧ i - 1 ≤ ssz S then sso S (i - 1 - 1) else sso S (i - 1))) (fun g2 hF => ?_)
          obtain ⟨hm, h0, h1, h2, h3, h5, h6, h7, h8, h11, h12, h13, h15, h16, h17, h18, h20, -⟩ := id hF.1
          refine V_aload_n (pc' := 402) d_Md_insertion_401 rfl (by first | rfl | exact isR_rf _) rfl ?_
          refine V_getf (pc' := 405) d_Md_insertion_402 fl_Md_29 rfl (by first | assumption | exact aset_self _ _ _ | exact apush_self _ _) (by rfl) ?_
          refine V_iload (pc' := 407) d_Md_insertion_405 rfl rfl ?_
          refine V_aload_n (pc' := 408) d_Md_insertion_407 rfl (by first | rfl | exact isR_rf _) rfl ?_
          refine V_getf (pc' := 411) d_Md_insertion_408 fl_Md_29 rfl (by first | assumption | exact aset_self _ _ _ | exact apush_self _ _) (by rfl) ?_
          refine V_iload (pc' := 413) d_Md_insertion_411 rfl rfl ?_
          refine V_iconst (pc' := 414) (v := 1) d_Md_insertion_413 (by decide) rfl ?_
          refine V_isub (pc' := 415) d_Md_insertion_414 rfl ?_
          -- at 415 laload
          refine V_lald (pc' := 416) d_Md_insertion_415 rfl h7 rfl (pk_sub (a := i) (b := 1) (by omega)) (by omega) (arv_get (by omega)) ?_
          refine V_last (pc' := 417) d_Md_insertion_416 rfl h7 rfl rfl (by omega) (arv_get (by omega)) ?_
          refine V_ex (fun g => IF _ g m A _) (IF_uky hF i (if i < i - 1 ∧ i - 1 ≤ ssz S then sky S (i - 1 - 1) else sky S (i - 1))) (fun g3 hF => ?_)
          obtain ⟨hm, h0, h1, h2, h3, h5, h6, h7, h8, h11, h12, h13, h15, h16, h17, h18, h20, -⟩ := id hF.1
          refine V_aload_n (pc' := 418) d_Md_insertion_417 rfl (by first | rfl | exact isR_rf _) rfl ?_
          refine V_getf (pc' := 421) d_Md_insertion_418 fl_Md_33 rfl (by first | assumption | exact aset_self _ _ _ | exact apush_self _ _) (by rfl) ?_
          refine V_iload (pc' := 423) d_Md_insertion_421 rfl rfl ?_
          refine V_aload_n (pc' := 424) d_Md_insertion_423 rfl (by first | rfl | exact isR_rf _) rfl ?_
          refine V_getf (pc' := 427) d_Md_insertion_424 fl_Md_33 rfl (by first | assumption | exact aset_self _ _ _ | exact apush_self _ _) (by rfl) ?_
          refine V_iload (pc' := 429) d_Md_insertion_427 rfl rfl ?_
          refine V_iconst (pc' := 430) (v := 1) d_Md_insertion_429 (by decide) rfl ?_
          refine V_isub (pc' := 431) d_Md_insertion_430 rfl ?_
          -- at 431 laload
          refine V_lald (pc' := 432) d_Md_insertion_431 rfl h8 rfl (pk_sub (a := i) (b := 1) (by omega)) (by omega) (arv_get (by omega)) ?_
          refine V_last (pc' := 433) d_Md_insertion_432 rfl h8 rfl rfl (by omega) (arv_get (by omega)) ?_
          refine V_ex (fun g => IF _ g m A _) (IF_uvl hF i (if i < i - 1 ∧ i - 1 ≤ ssz S then svl S (i - 1 - 1) else svl S (i - 1))) (fun g4 hF => ?_)
          obtain ⟨hm, h0, h1, h2, h3, h5, h6, h7, h8, h11, h12, h13, h15, h16, h17, h18, h20, -⟩ := id hF.1
          refine V_iinc (pc' := 436) d_Md_insertion_433 rfl rfl (by decide) rfl ?_
          refine V_L [(0, _), (1, _), (3, _), (5, _), (7, _), (11, _), (15, _)] ⟨rfl, rfl, rfl, rfl, rfl, rfl, rfl, trivial⟩ ?_
          refine V_goto (tgt := 362) d_Md_insertion_436 (by decide) ?_
          refine V_L [(0, .ref m), (1, .int (nI v)), (3, .long key), (5, .long val), (7, .int (nI kd)), (11, .int (nI a)), (15, .int (nI (i - 1)))] ⟨rfl, rfl, rfl, rfl, rfl, rfl, (by show some (Value.int (nI i + Int32.ofInt (-1))) = _; rw [show Int32.ofInt (-1) = -1 from rfl, sb_m1 (by omega)]), trivial⟩ ?_
          refine ih (i - 1) (by omega) (by omega) g4 ?_
          rw [← si, ← si, ← si, ← si]
          exact hF
    refine V_aload_n (pc' := 357) d_Md_insertion_356 rfl (by first | rfl | exact isR_rf _) rfl ?_
    refine V_getf (pc' := 360) d_Md_insertion_357 fl_Md_74 rfl (by first | assumption | exact aset_self _ _ _ | exact apush_self _ _) (by rfl) ?_
    refine V_istore (pc' := 362) d_Md_insertion_360 (by decide) rfl ?_
    refine V_L [(0, _), (1, _), (3, _), (5, _), (7, _), (11, _), (15, _)] ⟨rfl, rfl, rfl, rfl, rfl, rfl, rfl, trivial⟩ ?_
    refine lp (ssz S - a) (ssz S) (by omega) (Nat.le_refl _) h ?_
    have s0 : ∀ {α : Type} (f : Nat → α), (fun j => if ssz S < j ∧ j ≤ ssz S then f (j - 1) else f j) = f := by
      intro α f
      funext j
      rw [if_neg (by omega)]
    rw [s0, s0, s0, s0]
    exact hF
  -- the new row's place
  generalize eq : scE S kd key e pos (ssz S) (at0 S kd par) none = q
  have hat0 : at0 S kd par ≤ ssz S := by
    unfold at0
    rw [ee]
    refine sk1_ub hend _ _ ?_
    cases par with
    | none => exact Nat.zero_le _
    | some j => exact hpar j rfl
  have hat1 : at1 S kd key pos par = mv1 S kd key e q (ssz S) (at0 S kd par) := by unfold at1; rw [ee, eq]
  have hat1z : at1 S kd key pos par ≤ ssz S := by rw [hat1]; exact mv1_ub hend _ _ hat0
  have hqz : ∀ j, q = some j → j < ssz S := fun j hj => Nat.lt_of_lt_of_le (scE_lt _ _ _ j (fun i hi => by cases hi) (eq.trans hj)) hend
  have mvl : ∀ (d k : Nat), 1 ≤ d → k ≤ ssz S → ∀ b : Bool, (b = true → ssz S + 1 < k + d) → (b = true → at1 S kd key pos par = mv1 S kd key e q d k) → (b = false → at1 S kd key pos par = k) → insnS S v n key val = (0, insdS S v (at1 S kd key pos par) kd key val) → V x "PathCallsModel" b_Md_insertion 16 (Option.some .int) false (rmd 5 0 0) 0 0 (PM h m A (insnS S v n key val)) 245 [(0, .ref m), (1, .int (nI v)), (3, .long key), (5, .long val), (7, .int (nI kd)), (10, .int (nI e)), (11, .int (nI k)), (12, .int (ob b)), (13, .int (oI q))] [] h 0 0 := by
    intro d
    induction d with
    | zero => intro k hk hk2; omega
    | succ d ih =>
      intro k hk hk2 b hbd hb1 hb2 hins
      have out : at1 S kd key pos par = k → V x "PathCallsModel" b_Md_insertion 16 (Option.some .int) false (rmd 5 0 0) 0 0 (PM h m A (insnS S v n key val)) 356 [(0, .ref m), (1, .int (nI v)), (3, .long key), (5, .long val), (7, .int (nI kd)), (10, .int (nI e)), (11, .int (nI k)), (12, .int (ob b)), (13, .int (oI q))] [] h 0 0 := by
        intro hk9
        refine V_L [(0, .ref m), (1, .int (nI v)), (3, .long key), (5, .long val), (7, .int (nI kd)), (11, .int (nI k))] ⟨rfl, rfl, rfl, rfl, rfl, rfl, trivial⟩ ?_
        exact shift k hk2 (by rw [hins, hk9])
      refine V_iload (pc' := 247) d_Md_insertion_245 rfl rfl ?_
      refine V_if_eq (pc' := 250) (tgt := 356) d_Md_insertion_247 (by decide) rfl (fun c247 => ?_) (fun c247 => ?_)
      · exact out (hb2 (ob_0.mp c247))
      · have hbt := ob_nt c247
        have hmv := hb1 hbt
        have hbd := hbd hbt
        refine V_iload (pc' := 252) d_Md_insertion_250 rfl rfl ?_
        refine V_iload (pc' := 254) d_Md_insertion_252 rfl rfl ?_
        refine V_icmp_ge (pc' := 257) (tgt := 356) d_Md_insertion_254 (by decide) rfl (fun c254 => ?_) (fun c254 => ?_)
        · refine out ?_
          have : e ≤ k := (nI_leI (by omega) (by omega)).mp c254
          rw [hmv, mv1, if_neg (by omega)]
        · have hke : k < e := by
            rcases Nat.lt_or_ge k e with z | z
            · exact z
            · exact absurd (nI_le z (by omega)) c254
          have hkz : k < ssz S := by omega
          have e3 := w2 k hkz
          refine V_aload_n (pc' := 258) d_Md_insertion_257 rfl (by first | rfl | exact isR_rf _) rfl ?_
          refine V_getf (pc' := 261) d_Md_insertion_258 fl_Md_26 rfl (by first | assumption | exact aset_self _ _ _ | exact apush_self _ _) (by rfl) ?_
          refine V_iload (pc' := 263) d_Md_insertion_261 rfl rfl ?_
          -- at 263 iaload
          refine V_iald (pc' := 264) d_Md_insertion_263 rfl h6 rfl rfl (by omega) (arv_get (by omega)) ?_
          refine V_iload (pc' := 266) d_Md_insertion_264 rfl rfl ?_
          refine V_icmp_ne (pc' := 269) (tgt := 356) d_Md_insertion_266 (by decide) rfl (fun c266 => ?_) (fun c266 => ?_)
          · refine out ?_
            have : ¬ sso S k = kd := fun z => c266 (by rw [z])
            rw [hmv, mv1, if_neg (fun z => this z.1.2)]
          · have hsk : sso S k = kd := (nI_eq (by omega) (by omega)).mp c266
            have b1 := bhd_lt S k
            have b2 := bhd_ub S hkz
            have cut : ∀ b3 : Bool, b3 = mor S kd key q k → V x "PathCallsModel" b_Md_insertion 16 (Option.some .int) false (rmd 5 0 0) 0 0 (PM h m A (insnS S v n key val)) 333 [(0, .ref m), (1, .int (nI v)), (3, .long key), (5, .long val), (7, .int (nI kd)), (10, .int (nI e)), (11, .int (nI k)), (12, .int (ob b)), (13, .int (oI q))] [.int (ob b3)] h 0 0 := by
              intro b3 hb3
              refine V_istore (pc' := 335) d_Md_insertion_333 (by decide) rfl ?_
              refine V_L [(0, _), (1, _), (3, _), (5, _), (7, _), (10, _), (11, _), (12, _), (13, _)] ⟨rfl, rfl, rfl, rfl, rfl, rfl, rfl, rfl, rfl, trivial⟩ ?_
              refine V_iload (pc' := 337) d_Md_insertion_335 rfl rfl ?_
              refine V_if_eq (pc' := 340) (tgt := 349) d_Md_insertion_337 (by decide) rfl (fun c337 => ?_) (fun c337 => ?_)
              · refine V_iload (pc' := 351) d_Md_insertion_349 rfl rfl ?_
                refine V_istore (pc' := 353) d_Md_insertion_351 (by decide) rfl ?_
                refine V_L [(0, _), (1, _), (3, _), (5, _), (7, _), (10, _), (11, _), (12, _), (13, _)] ⟨rfl, rfl, rfl, rfl, rfl, rfl, rfl, rfl, rfl, trivial⟩ ?_
                refine V_goto (tgt := 245) d_Md_insertion_353 (by decide) ?_
                refine ih k (by omega) hk2 b3 (fun z => by rw [ob_0.mp c337] at z; cases z) (fun z => ?_) (fun _ => ?_) hins
                · rw [ob_0.mp c337] at z; cases z
                · rw [hmv, mv1, if_neg (fun z => by rw [← hb3, ob_0.mp c337] at z; cases z.2)]
              · refine V_aload_n (pc' := 341) d_Md_insertion_340 rfl (by first | rfl | exact isR_rf _) rfl ?_
                refine V_iload (pc' := 343) d_Md_insertion_341 rfl rfl ?_
                -- at 343 invokevirtual
                refine V_callV (pc' := 346) (As := [_]) (ci := 6) d_Md_insertion_343 mv_Md_85 mw_Md_behind rfl rfl rfl (by simp [Value.category]) rfl (by first | assumption | exact aset_self _ _ _ | exact apush_self _ _) (c_Md_behind (i := k) hI w1 w2 wl hkz) (by first | decide | omega) (by first | decide | omega) (by first | decide | omega) (by first | decide | omega) ?_
                rintro _ _ ⟨rfl, rfl⟩
                refine V_goto (tgt := 351) d_Md_insertion_346 (by decide) ?_
                refine V_istore (pc' := 353) d_Md_insertion_351 (by decide) rfl ?_
                refine V_L [(0, _), (1, _), (3, _), (5, _), (7, _), (10, _), (11, _), (12, _), (13, _)] ⟨rfl, rfl, rfl, rfl, rfl, rfl, rfl, rfl, rfl, trivial⟩ ?_
                refine V_goto (tgt := 245) d_Md_insertion_353 (by decide) ?_
                refine ih (bhd S k) (by omega) b2 b3 (fun _ => by omega) (fun _ => ?_) (fun z => ?_) hins
                · rw [hmv, mv1, if_pos ⟨⟨hke, hsk⟩, by rw [← hb3, ob_nt c337]⟩]
                · rw [ob_nt c337] at z; cases z
            have one : mor S kd key q k = true → V x "PathCallsModel" b_Md_insertion 16 (Option.some .int) false (rmd 5 0 0) 0 0 (PM h m A (insnS S v n key val)) 328 [(0, .ref m), (1, .int (nI v)), (3, .long key), (5, .long val), (7, .int (nI kd)), (10, .int (nI e)), (11, .int (nI k)), (12, .int (ob b)), (13, .int (oI q))] [] h 0 0 := by
              intro hm1
              refine V_iconst (pc' := 329) (v := 1) d_Md_insertion_328 (by decide) rfl ?_
              refine V_goto (tgt := 333) d_Md_insertion_329 (by decide) ?_
              exact cut true hm1.symm
            have zero : mor S kd key q k = false → V x "PathCallsModel" b_Md_insertion 16 (Option.some .int) false (rmd 5 0 0) 0 0 (PM h m A (insnS S v n key val)) 332 [(0, .ref m), (1, .int (nI v)), (3, .long key), (5, .long val), (7, .int (nI kd)), (10, .int (nI e)), (11, .int (nI k)), (12, .int (ob b)), (13, .int (oI q))] [] h 0 0 := by
              intro hm1
              refine V_iconst (pc' := 333) (v := 0) d_Md_insertion_332 (by decide) rfl ?_
              exact cut false hm1.symm
            refine V_aload_n (pc' := 270) d_Md_insertion_269 rfl (by first | rfl | exact isR_rf _) rfl ?_
            refine V_getf (pc' := 273) d_Md_insertion_270 fl_Md_29 rfl (by first | assumption | exact aset_self _ _ _ | exact apush_self _ _) (by rfl) ?_
            refine V_iload (pc' := 275) d_Md_insertion_273 rfl rfl ?_
            -- at 275 laload
            refine V_lald (pc' := 276) d_Md_insertion_275 rfl h7 rfl rfl (by omega) (arv_get (by omega)) ?_
            refine V_lload_n (pc' := 277) d_Md_insertion_276 rfl rfl ?_
            refine V_lcmp (pc' := 278) d_Md_insertion_277 rfl ?_
            refine V_if_lt (pc' := 281) (tgt := 328) d_Md_insertion_278 (by decide) rfl (fun c278 => ?_) (fun c278 => ?_)
            · refine one ?_
              have z : sky S k < key := (lg_cmp_lt _ _).mp c278
              unfold mor
              rw [decide_eq_true z]; rfl
            · have n1 : ¬ sky S k < key := fun z => c278 ((lg_cmp_lt _ _).mpr z)
              refine V_aload_n (pc' := 282) d_Md_insertion_281 rfl (by first | rfl | exact isR_rf _) rfl ?_
              refine V_getf (pc' := 285) d_Md_insertion_282 fl_Md_29 rfl (by first | assumption | exact aset_self _ _ _ | exact apush_self _ _) (by rfl) ?_
              refine V_iload (pc' := 287) d_Md_insertion_285 rfl rfl ?_
              -- at 287 laload
              refine V_lald (pc' := 288) d_Md_insertion_287 rfl h7 rfl rfl (by omega) (arv_get (by omega)) ?_
              refine V_lload_n (pc' := 289) d_Md_insertion_288 rfl rfl ?_
              refine V_lcmp (pc' := 290) d_Md_insertion_289 rfl ?_
              refine V_if_ne (pc' := 293) (tgt := 332) d_Md_insertion_290 (by decide) rfl (fun c290 => ?_) (fun c290 => ?_)
              · refine zero ?_
                have z : ¬ sky S k = key := fun z => c290 ((lg_cmp_eq _ _).mpr z)
                unfold mor
                rw [decide_eq_false n1, decide_eq_false z]; rfl
              · have e5 : sky S k = key := (lg_cmp_eq _ _).mp c290
                refine V_aload_n (pc' := 294) d_Md_insertion_293 rfl (by first | rfl | exact isR_rf _) rfl ?_
                refine V_getf (pc' := 297) d_Md_insertion_294 fl_Md_16 rfl (by first | assumption | exact aset_self _ _ _ | exact apush_self _ _) (by rfl) ?_
                refine V_iload (pc' := 299) d_Md_insertion_297 rfl rfl ?_
                -- at 299 iaload
                refine V_iald (pc' := 300) d_Md_insertion_299 rfl h2 rfl rfl (by omega) (arv_get (by omega)) ?_
                refine V_iconst (pc' := 301) (v := 1) d_Md_insertion_300 (by decide) rfl ?_
                refine V_icmp_eq (pc' := 304) (tgt := 328) d_Md_insertion_301 (by decide) rfl (fun c301 => ?_) (fun c301 => ?_)
                · refine one ?_
                  have z : sru S kd = 1 := (nI_sm (by omega) (by omega) rfl).mp c301
                  unfold mor
                  rw [decide_eq_true e5, decide_eq_true z]; simp
                · have n2 : ¬ sru S kd = 1 := fun z => c301 (by rw [z]; rfl)
                  refine V_aload_n (pc' := 305) d_Md_insertion_304 rfl (by first | rfl | exact isR_rf _) rfl ?_
                  refine V_getf (pc' := 308) d_Md_insertion_305 fl_Md_16 rfl (by first | assumption | exact aset_self _ _ _ | exact apush_self _ _) (by rfl) ?_
                  refine V_iload (pc' := 310) d_Md_insertion_308 rfl rfl ?_
                  -- at 310 iaload
                  refine V_iald (pc' := 311) d_Md_insertion_310 rfl h2 rfl rfl (by omega) (arv_get (by omega)) ?_
                  refine V_iconst (pc' := 312) (v := 2) d_Md_insertion_311 (by decide) rfl ?_
                  refine V_icmp_ne (pc' := 315) (tgt := 332) d_Md_insertion_312 (by decide) rfl (fun c312 => ?_) (fun c312 => ?_)
                  · refine zero ?_
                    have z : ¬ sru S kd = 2 := fun z => c312 (by rw [z]; rfl)
                    unfold mor
                    rw [decide_eq_false n1, decide_eq_true e5, decide_eq_false n2, decide_eq_false z]; rfl
                  · have e6 : sru S kd = 2 := (nI_sm (by omega) (by omega) rfl).mp c312
                    have hmor : mor S kd key q k = ltq k q := by
                      unfold mor
                      rw [decide_eq_false n1, decide_eq_true e5, decide_eq_false n2, decide_eq_true e6]
                      simp
                    cases q with
                    | none =>
                      refine V_iload (pc' := 317) d_Md_insertion_315 rfl rfl ?_
                      refine V_iconst (pc' := 318) (v := (-1)) d_Md_insertion_317 (by decide) rfl ?_
                      refine V_icmp_eq (pc' := 321) (tgt := 332) d_Md_insertion_318 (by decide) rfl (fun c318 => ?_) (fun c318 => ?_)
                      · exact zero hmor
                      · exact absurd rfl c318
                    | some j =>
                      have hjz := hqz j rfl
                      refine V_iload (pc' := 317) d_Md_insertion_315 rfl rfl ?_
                      refine V_iconst (pc' := 318) (v := (-1)) d_Md_insertion_317 (by decide) rfl ?_
                      refine V_icmp_eq (pc' := 321) (tgt := 332) d_Md_insertion_318 (by decide) rfl (fun c318 => ?_) (fun c318 => ?_)
                      · exact absurd c318 (nI_m1 (by omega))
                      · refine V_iload (pc' := 323) d_Md_insertion_321 rfl rfl ?_
                        refine V_iload (pc' := 325) d_Md_insertion_323 rfl rfl ?_
                        refine V_icmp_ge (pc' := 328) (tgt := 332) d_Md_insertion_325 (by decide) rfl (fun c325 => ?_) (fun c325 => ?_)
                        · refine zero ?_
                          have z : j ≤ k := (nI_leI (by omega) (by omega)).mp c325
                          rw [hmor]
                          exact decide_eq_false (by omega)
                        · refine one ?_
                          have z : k < j := by
                            rcases Nat.lt_or_ge k j with z | z
                            · exact z
                            · exact absurd (nI_le z (by omega)) c325
                          rw [hmor]
                          exact decide_eq_true z
  have hmvl : insnS S v n key val = (0, insdS S v (at1 S kd key pos par) kd key val) → V x "PathCallsModel" b_Md_insertion 16 (Option.some .int) false (rmd 5 0 0) 0 0 (PM h m A (insnS S v n key val)) 245 [(0, .ref m), (1, .int (nI v)), (3, .long key), (5, .long val), (7, .int (nI kd)), (10, .int (nI e)), (11, .int (nI (at0 S kd par))), (12, .int (ob true)), (13, .int (oI q))] [] h 0 0 := by
    intro hins
    refine mvl (ssz S + 2) (at0 S kd par) (by omega) hat0 true (fun _ => by omega) (fun _ => ?_) (fun z => by cases z) hins
    rw [hat1]
    exact mv1_fuel _ _ _ (by omega) (by omega)
  -- the scan of the twins
  have scl : ∀ (d k : Nat), ssz S < k + d → k ≤ ssz S → ∀ (t : Bool) (q2 : Option Nat), scT S kd key e (ssz S) (at0 S kd par) = (t || scT S kd key e d k) → q = scE S kd key e pos d k q2 → ¬ (sab S kd ≠ 0 ∧ par = none) → V x "PathCallsModel" b_Md_insertion 16 (Option.some .int) false (rmd 5 0 0) 0 0 (PM h m A (insnS S v n key val)) 150 [(0, .ref m), (1, .int (nI v)), (3, .long key), (5, .long val), (7, .int (nI kd)), (8, .int (oI pos)), (10, .int (nI e)), (11, .int (nI (at0 S kd par))), (12, .int (ob true)), (13, .int (oI q2)), (14, .int (ob t)), (15, .int (nI k))] [] h 0 0 := by
    intro d
    induction d with
    | zero => intro k hk hk2; omega
    | succ d ih =>
      intro k hk hk2 t q2 ht hq hn1
      have out : scT S kd key e (ssz S) (at0 S kd par) = t → q = q2 → V x "PathCallsModel" b_Md_insertion 16 (Option.some .int) false (rmd 5 0 0) 0 0 (PM h m A (insnS S v n key val)) 227 [(0, .ref m), (1, .int (nI v)), (3, .long key), (5, .long val), (7, .int (nI kd)), (8, .int (oI pos)), (10, .int (nI e)), (11, .int (nI (at0 S kd par))), (12, .int (ob true)), (13, .int (oI q2)), (14, .int (ob t)), (15, .int (nI k))] [] h 0 0 := by
        intro h9 h10
        have go : ¬ (t = true ∧ sun S kd = true) → V x "PathCallsModel" b_Md_insertion 16 (Option.some .int) false (rmd 5 0 0) 0 0 (PM h m A (insnS S v n key val)) 245 [(0, .ref m), (1, .int (nI v)), (3, .long key), (5, .long val), (7, .int (nI kd)), (8, .int (oI pos)), (10, .int (nI e)), (11, .int (nI (at0 S kd par))), (12, .int (ob true)), (13, .int (oI q2)), (14, .int (ob t)), (15, .int (nI k))] [] h 0 0 := by
          intro h11
          refine V_L [(0, .ref m), (1, .int (nI v)), (3, .long key), (5, .long val), (7, .int (nI kd)), (10, .int (nI e)), (11, .int (nI (at0 S kd par))), (12, .int (ob true)), (13, .int (oI q2))] ⟨rfl, rfl, rfl, rfl, rfl, rfl, rfl, rfl, rfl, trivial⟩ ?_
          rw [← h10]
          refine hmvl ?_
          rw [hres, if_neg hn1, if_neg (fun z => h11 ⟨by rw [← h9, ← ee]; exact z.1, z.2⟩)]
        refine V_iload (pc' := 229) d_Md_insertion_227 rfl rfl ?_
        refine V_if_eq (pc' := 232) (tgt := 245) d_Md_insertion_229 (by decide) rfl (fun c229 => ?_) (fun c229 => ?_)
        · exact go (fun z => by rw [ob_0.mp c229] at z; cases z.1)
        · refine V_aload_n (pc' := 233) d_Md_insertion_232 rfl (by first | rfl | exact isR_rf _) rfl ?_
          refine V_getf (pc' := 236) d_Md_insertion_233 fl_Md_19 rfl (by first | assumption | exact aset_self _ _ _ | exact apush_self _ _) (by rfl) ?_
          refine V_iload (pc' := 238) d_Md_insertion_236 rfl rfl ?_
          -- at 238 baload
          refine V_zald (pc' := 239) d_Md_insertion_238 rfl h3 rfl rfl (by omega) (arv_get (by omega)) ?_
          refine V_if_eq (pc' := 242) (tgt := 245) d_Md_insertion_239 (by decide) rfl (fun c239 => ?_) (fun c239 => ?_)
          · exact go (fun z => by rw [ob_0.mp c239] at z; cases z.2)
          · refine V_bipush (pc' := 244) (v := 7) d_Md_insertion_242 (by decide) rfl ?_
            refine V_iret d_Md_insertion_244 rfl (by first | decide | omega) (by first | decide | omega) ?_
            rw [hres, if_neg hn1, if_pos ⟨by rw [ee, h9, ob_nt c229], ob_nt c239⟩]
            exact ⟨rfl, hF⟩
      refine V_iload (pc' := 152) d_Md_insertion_150 rfl rfl ?_
      refine V_iload (pc' := 154) d_Md_insertion_152 rfl rfl ?_
      refine V_icmp_ge (pc' := 157) (tgt := 227) d_Md_insertion_154 (by decide) rfl (fun c154 => ?_) (fun c154 => ?_)
      · have : e ≤ k := (nI_leI (by omega) (by omega)).mp c154
        refine out ?_ ?_
        · rw [ht, scT, if_neg (by omega), Bool.or_false]
        · rw [hq, scE, if_neg (by omega)]
      · have hke : k < e := by
          rcases Nat.lt_or_ge k e with z | z
          · exact z
          · exact absurd (nI_le z (by omega)) c154
        have hkz : k < ssz S := by omega
        have e3 := w2 k hkz
        have b1 := bhd_lt S k
        have b2 := bhd_ub S hkz
        refine V_aload_n (pc' := 158) d_Md_insertion_157 rfl (by first | rfl | exact isR_rf _) rfl ?_
        refine V_getf (pc' := 161) d_Md_insertion_158 fl_Md_26 rfl (by first | assumption | exact aset_self _ _ _ | exact apush_self _ _) (by rfl) ?_
        refine V_iload (pc' := 163) d_Md_insertion_161 rfl rfl ?_
        -- at 163 iaload
        refine V_iald (pc' := 164) d_Md_insertion_163 rfl h6 rfl rfl (by omega) (arv_get (by omega)) ?_
        refine V_iload (pc' := 166) d_Md_insertion_164 rfl rfl ?_
        refine V_icmp_ne (pc' := 169) (tgt := 227) d_Md_insertion_166 (by decide) rfl (fun c166 => ?_) (fun c166 => ?_)
        · have hne : ¬ sso S k = kd := fun z => c166 (by rw [z])
          refine out ?_ ?_
          · rw [ht, scT, if_neg (fun z => hne z.2), Bool.or_false]
          · rw [hq, scE, if_neg (fun z => hne z.2)]
        · have hsk : sso S k = kd := (nI_eq (by omega) (by omega)).mp c166
          have next : ∀ (t2 : Bool) (q3 : Option Nat), t2 = (t || decide (sky S k = key)) → q3 = (if sky S k = key ∧ pos = some k then some k else q2) → V x "PathCallsModel" b_Md_insertion 16 (Option.some .int) false (rmd 5 0 0) 0 0 (PM h m A (insnS S v n key val)) 216 [(0, .ref m), (1, .int (nI v)), (3, .long key), (5, .long val), (7, .int (nI kd)), (8, .int (oI pos)), (10, .int (nI e)), (11, .int (nI (at0 S kd par))), (12, .int (ob true)), (13, .int (oI q3)), (14, .int (ob t2)), (15, .int (nI k))] [] h 0 0 := by
            intro t2 q3 ht2 hq3
            refine V_aload_n (pc' := 217) d_Md_insertion_216 rfl (by first | rfl | exact isR_rf _) rfl ?_
            refine V_iload (pc' := 219) d_Md_insertion_217 rfl rfl ?_
            -- at 219 invokevirtual
            refine V_callV (pc' := 222) (As := [_]) (ci := 6) d_Md_insertion_219 mv_Md_85 mw_Md_behind rfl rfl rfl (by simp [Value.category]) rfl (by first | assumption | exact aset_self _ _ _ | exact apush_self _ _) (c_Md_behind (i := k) hI w1 w2 wl hkz) (by first | decide | omega) (by first | decide | omega) (by first | decide | omega) (by first | decide | omega) ?_
            rintro _ _ ⟨rfl, rfl⟩
            refine V_istore (pc' := 224) d_Md_insertion_222 (by decide) rfl ?_
            refine V_L [(0, _), (1, _), (3, _), (5, _), (7, _), (8, _), (10, _), (11, _), (12, _), (13, _), (14, _), (15, _)] ⟨rfl, rfl, rfl, rfl, rfl, rfl, rfl, rfl, rfl, rfl, rfl, rfl, trivial⟩ ?_
            refine V_goto (tgt := 150) d_Md_insertion_224 (by decide) ?_
            refine ih (bhd S k) (by omega) b2 t2 q3 ?_ ?_ hn1
            · rw [ht, scT, if_pos ⟨hke, hsk⟩, ht2, Bool.or_assoc]
            · rw [hq, scE, if_pos ⟨hke, hsk⟩, hq3]
          have mid : ∀ (t2 : Bool), t2 = (t || decide (sky S k = key)) → V x "PathCallsModel" b_Md_insertion 16 (Option.some .int) false (rmd 5 0 0) 0 0 (PM h m A (insnS S v n key val)) 191 [(0, .ref m), (1, .int (nI v)), (3, .long key), (5, .long val), (7, .int (nI kd)), (8, .int (oI pos)), (10, .int (nI e)), (11, .int (nI (at0 S kd par))), (12, .int (ob true)), (13, .int (oI q2)), (14, .int (ob t)), (15, .int (nI k))] [.int (ob t2)] h 0 0 := by
            intro t2 ht2
            refine V_istore (pc' := 193) d_Md_insertion_191 (by decide) rfl ?_
            refine V_L [(0, _), (1, _), (3, _), (5, _), (7, _), (8, _), (10, _), (11, _), (12, _), (13, _), (14, _), (15, _)] ⟨rfl, rfl, rfl, rfl, rfl, rfl, rfl, rfl, rfl, rfl, rfl, rfl, trivial⟩ ?_
            refine V_aload_n (pc' := 194) d_Md_insertion_193 rfl (by first | rfl | exact isR_rf _) rfl ?_
            refine V_getf (pc' := 197) d_Md_insertion_194 fl_Md_29 rfl (by first | assumption | exact aset_self _ _ _ | exact apush_self _ _) (by rfl) ?_
            refine V_iload (pc' := 199) d_Md_insertion_197 rfl rfl ?_
            -- at 199 laload
            refine V_lald (pc' := 200) d_Md_insertion_199 rfl h7 rfl rfl (by omega) (arv_get (by omega)) ?_
            refine V_lload_n (pc' := 201) d_Md_insertion_200 rfl rfl ?_
            refine V_lcmp (pc' := 202) d_Md_insertion_201 rfl ?_
            refine V_if_ne (pc' := 205) (tgt := 216) d_Md_insertion_202 (by decide) rfl (fun c202 => ?_) (fun c202 => ?_)
            · have z : ¬ sky S k = key := fun z => c202 ((lg_cmp_eq _ _).mpr z)
              exact next t2 q2 ht2 (by rw [if_neg (fun y => z y.1)])
            · have z : sky S k = key := (lg_cmp_eq _ _).mp c202
              refine V_iload (pc' := 207) d_Md_insertion_205 rfl rfl ?_
              refine V_iload (pc' := 209) d_Md_insertion_207 rfl rfl ?_
              refine V_icmp_ne (pc' := 212) (tgt := 216) d_Md_insertion_209 (by decide) rfl (fun c209 => ?_) (fun c209 => ?_)
              · have y : ¬ pos = some k := fun y => c209 (by rw [y]; rfl)
                exact next t2 q2 ht2 (by rw [if_neg (fun w => y w.2)])
              · have y : pos = some k := by
                  cases pos with
                  | none => exact absurd c209 (nI_m1 (by omega))
                  | some j =>
                    have := hpos j rfl
                    rw [(nI_eq (by omega) (by omega)).mp c209]
                refine V_iload (pc' := 214) d_Md_insertion_212 rfl rfl ?_
                refine V_istore (pc' := 216) d_Md_insertion_214 (by decide) rfl ?_
                refine V_L [(0, _), (1, _), (3, _), (5, _), (7, _), (8, _), (10, _), (11, _), (12, _), (13, _), (14, _), (15, _)] ⟨rfl, rfl, rfl, rfl, rfl, rfl, rfl, rfl, rfl, rfl, rfl, rfl, trivial⟩ ?_
                exact next t2 (some k) ht2 (by rw [if_pos ⟨z, y⟩])
          refine V_iload (pc' := 171) d_Md_insertion_169 rfl rfl ?_
          refine V_if_ne (pc' := 174) (tgt := 186) d_Md_insertion_171 (by decide) rfl (fun c171 => ?_) (fun c171 => ?_)
          · refine V_iconst (pc' := 187) (v := 1) d_Md_insertion_186 (by decide) rfl ?_
            refine V_goto (tgt := 191) d_Md_insertion_187 (by decide) ?_
            exact mid true (by rw [ob_nt c171]; rfl)
          · have htf := ob_0.mp c171
            refine V_aload_n (pc' := 175) d_Md_insertion_174 rfl (by first | rfl | exact isR_rf _) rfl ?_
            refine V_getf (pc' := 178) d_Md_insertion_175 fl_Md_29 rfl (by first | assumption | exact aset_self _ _ _ | exact apush_self _ _) (by rfl) ?_
            refine V_iload (pc' := 180) d_Md_insertion_178 rfl rfl ?_
            -- at 180 laload
            refine V_lald (pc' := 181) d_Md_insertion_180 rfl h7 rfl rfl (by omega) (arv_get (by omega)) ?_
            refine V_lload_n (pc' := 182) d_Md_insertion_181 rfl rfl ?_
            refine V_lcmp (pc' := 183) d_Md_insertion_182 rfl ?_
            refine V_if_ne (pc' := 186) (tgt := 190) d_Md_insertion_183 (by decide) rfl (fun c183 => ?_) (fun c183 => ?_)
            · refine V_iconst (pc' := 191) (v := 0) d_Md_insertion_190 (by decide) rfl ?_
              have z : ¬ sky S k = key := fun z => c183 ((lg_cmp_eq _ _).mpr z)
              exact mid false (by rw [htf, decide_eq_false z]; rfl)
            · refine V_iconst (pc' := 187) (v := 1) d_Md_insertion_186 (by decide) rfl ?_
              refine V_goto (tgt := 191) d_Md_insertion_187 (by decide) ?_
              have z : sky S k = key := (lg_cmp_eq _ _).mp c183
              exact mid true (by rw [htf, decide_eq_true z]; rfl)
  -- past the kinds ahead
  have skl : ∀ (d k : Nat), ssz S < k + d → k ≤ ssz S → at0 S kd par = sk1 S kd e d k → ¬ (sab S kd ≠ 0 ∧ par = none) → V x "PathCallsModel" b_Md_insertion 16 (Option.some .int) false (rmd 5 0 0) 0 0 (PM h m A (insnS S v n key val)) 116 [(0, .ref m), (1, .int (nI v)), (3, .long key), (5, .long val), (7, .int (nI kd)), (8, .int (oI pos)), (10, .int (nI e)), (11, .int (nI k)), (12, .int (ob true)), (13, .int (oI none)), (14, .int (ob false))] [] h 0 0 := by
    intro d
    induction d with
    | zero => intro k hk hk2; omega
    | succ d ih =>
      intro k hk hk2 hat hn1
      have out : at0 S kd par = k → V x "PathCallsModel" b_Md_insertion 16 (Option.some .int) false (rmd 5 0 0) 0 0 (PM h m A (insnS S v n key val)) 146 [(0, .ref m), (1, .int (nI v)), (3, .long key), (5, .long val), (7, .int (nI kd)), (8, .int (oI pos)), (10, .int (nI e)), (11, .int (nI k)), (12, .int (ob true)), (13, .int (oI none)), (14, .int (ob false))] [] h 0 0 := by
        intro h9
        refine V_iload (pc' := 148) d_Md_insertion_146 rfl rfl ?_
        refine V_istore (pc' := 150) d_Md_insertion_148 (by decide) rfl ?_
        refine V_L [(0, _), (1, _), (3, _), (5, _), (7, _), (8, _), (10, _), (11, _), (12, _), (13, _), (14, _), (15, _)] ⟨rfl, rfl, rfl, rfl, rfl, rfl, rfl, rfl, rfl, rfl, rfl, rfl, trivial⟩ ?_
        have h8 := scl (ssz S + 1) k (by omega) hk2 false none (by rw [Bool.false_or, h9]; exact scT_fuel _ _ _ (by omega) (by omega)) (by rw [← eq, h9]; exact scE_fuel _ _ _ _ (by omega) (by omega)) hn1
        rw [h9] at h8
        exact h8
      refine V_iload (pc' := 118) d_Md_insertion_116 rfl rfl ?_
      refine V_iload (pc' := 120) d_Md_insertion_118 rfl rfl ?_
      refine V_icmp_ge (pc' := 123) (tgt := 146) d_Md_insertion_120 (by decide) rfl (fun c120 => ?_) (fun c120 => ?_)
      · have : e ≤ k := (nI_leI (by omega) (by omega)).mp c120
        exact out (by rw [hat, sk1, if_neg (by omega)])
      · have hke : k < e := by
          rcases Nat.lt_or_ge k e with z | z
          · exact z
          · exact absurd (nI_le z (by omega)) c120
        have hkz : k < ssz S := by omega
        have e3 := w2 k hkz
        have b1 := bhd_lt S k
        have b2 := bhd_ub S hkz
        refine V_aload_n (pc' := 124) d_Md_insertion_123 rfl (by first | rfl | exact isR_rf _) rfl ?_
        refine V_getf (pc' := 127) d_Md_insertion_124 fl_Md_26 rfl (by first | assumption | exact aset_self _ _ _ | exact apush_self _ _) (by rfl) ?_
        refine V_iload (pc' := 129) d_Md_insertion_127 rfl rfl ?_
        -- at 129 iaload
        refine V_iald (pc' := 130) d_Md_insertion_129 rfl h6 rfl rfl (by omega) (arv_get (by omega)) ?_
        refine V_iload (pc' := 132) d_Md_insertion_130 rfl rfl ?_
        refine V_icmp_ge (pc' := 135) (tgt := 146) d_Md_insertion_132 (by decide) rfl (fun c132 => ?_) (fun c132 => ?_)
        · have : kd ≤ sso S k := (nI_leI (by omega) (by omega)).mp c132
          exact out (by rw [hat, sk1, if_neg (by omega)])
        · have hlt : sso S k < kd := by
            rcases Nat.lt_or_ge (sso S k) kd with z | z
            · exact z
            · exact absurd (nI_le z (by omega)) c132
          refine V_aload_n (pc' := 136) d_Md_insertion_135 rfl (by first | rfl | exact isR_rf _) rfl ?_
          refine V_iload (pc' := 138) d_Md_insertion_136 rfl rfl ?_
          -- at 138 invokevirtual
          refine V_callV (pc' := 141) (As := [_]) (ci := 6) d_Md_insertion_138 mv_Md_85 mw_Md_behind rfl rfl rfl (by simp [Value.category]) rfl (by first | assumption | exact aset_self _ _ _ | exact apush_self _ _) (c_Md_behind (i := k) hI w1 w2 wl hkz) (by first | decide | omega) (by first | decide | omega) (by first | decide | omega) (by first | decide | omega) ?_
          rintro _ _ ⟨rfl, rfl⟩
          refine V_istore (pc' := 143) d_Md_insertion_141 (by decide) rfl ?_
          refine V_L [(0, _), (1, _), (3, _), (5, _), (7, _), (8, _), (10, _), (11, _), (12, _), (13, _), (14, _)] ⟨rfl, rfl, rfl, rfl, rfl, rfl, rfl, rfl, rfl, rfl, rfl, trivial⟩ ?_
          refine V_goto (tgt := 116) d_Md_insertion_143 (by decide) ?_
          exact ih (bhd S k) (by omega) b2 (by rw [hat, sk1, if_pos ⟨hke, hlt⟩]) hn1
  -- with the parent
  have fromp : ¬ (sab S kd ≠ 0 ∧ par = none) → V x "PathCallsModel" b_Md_insertion 16 (Option.some .int) false (rmd 5 0 0) 0 0 (PM h m A (insnS S v n key val)) 80 [(0, .ref m), (1, .int (nI v)), (2, .int (nI n)), (3, .long key), (5, .long val), (7, .int (nI kd)), (8, .int (oI pos)), (9, .int (oI par))] [] h 0 0 := by
    intro hn1
    have hnx : nx par ≤ ssz S := by
      cases par with
      | none => exact Nat.zero_le _
      | some j => exact hpar j rfl
    have cut : V x "PathCallsModel" b_Md_insertion 16 (Option.some .int) false (rmd 5 0 0) 0 0 (PM h m A (insnS S v n key val)) 99 [(0, .ref m), (1, .int (nI v)), (2, .int (nI n)), (3, .long key), (5, .long val), (7, .int (nI kd)), (8, .int (oI pos)), (9, .int (oI par))] [.int (nI e)] h 0 0 := by
      refine V_istore (pc' := 101) d_Md_insertion_99 (by decide) rfl ?_
      refine V_L [(0, _), (1, _), (2, _), (3, _), (5, _), (7, _), (8, _), (9, _), (10, _)] ⟨rfl, rfl, rfl, rfl, rfl, rfl, rfl, rfl, rfl, trivial⟩ ?_
      refine V_iload (pc' := 103) d_Md_insertion_101 rfl rfl ?_
      refine V_iconst (pc' := 104) (v := 1) d_Md_insertion_103 (by decide) rfl ?_
      refine V_iadd (pc' := 105) d_Md_insertion_104 rfl ?_
      rw [oI_nx]
      refine V_istore (pc' := 107) d_Md_insertion_105 (by decide) rfl ?_
      refine V_L [(0, _), (1, _), (2, _), (3, _), (5, _), (7, _), (8, _), (9, _), (10, _), (11, _)] ⟨rfl, rfl, rfl, rfl, rfl, rfl, rfl, rfl, rfl, rfl, trivial⟩ ?_
      refine V_iconst (pc' := 108) (v := 1) d_Md_insertion_107 (by decide) rfl ?_
      refine V_istore (pc' := 110) d_Md_insertion_108 (by decide) rfl ?_
      refine V_L [(0, _), (1, _), (2, _), (3, _), (5, _), (7, _), (8, _), (9, _), (10, _), (11, _), (12, _)] ⟨rfl, rfl, rfl, rfl, rfl, rfl, rfl, rfl, rfl, rfl, rfl, trivial⟩ ?_
      refine V_iconst (pc' := 111) (v := (-1)) d_Md_insertion_110 (by decide) rfl ?_
      refine V_istore (pc' := 113) d_Md_insertion_111 (by decide) rfl ?_
      refine V_L [(0, _), (1, _), (2, _), (3, _), (5, _), (7, _), (8, _), (9, _), (10, _), (11, _), (12, _), (13, _)] ⟨rfl, rfl, rfl, rfl, rfl, rfl, rfl, rfl, rfl, rfl, rfl, rfl, trivial⟩ ?_
      refine V_iconst (pc' := 114) (v := 0) d_Md_insertion_113 (by decide) rfl ?_
      refine V_istore (pc' := 116) d_Md_insertion_114 (by decide) rfl ?_
      refine V_L [(0, _), (1, _), (2, _), (3, _), (5, _), (7, _), (8, _), (9, _), (10, _), (11, _), (12, _), (13, _), (14, _)] ⟨rfl, rfl, rfl, rfl, rfl, rfl, rfl, rfl, rfl, rfl, rfl, rfl, rfl, trivial⟩ ?_
      refine V_L [(0, .ref m), (1, .int (nI v)), (3, .long key), (5, .long val), (7, .int (nI kd)), (8, .int (oI pos)), (10, .int (nI e)), (11, .int (nI (nx par))), (12, .int (ob true)), (13, .int (oI none)), (14, .int (ob false))] ⟨rfl, rfl, rfl, rfl, rfl, rfl, rfl, rfl, rfl, rfl, rfl, trivial⟩ ?_
      refine skl (ssz S + 1) (nx par) (by omega) hnx ?_ hn1
      unfold at0
      rw [ee]
      exact sk1_fuel _ _ _ (by omega) (by omega)
    cases hpe : par with
    | none =>
      rw [hpe] at cut ee
      refine V_iload (pc' := 82) d_Md_insertion_80 rfl rfl ?_
      refine V_iconst (pc' := 83) (v := (-1)) d_Md_insertion_82 (by decide) rfl ?_
      refine V_icmp_ne (pc' := 86) (tgt := 93) d_Md_insertion_83 (by decide) rfl (fun c83 => ?_) (fun c83 => ?_)
      · exact absurd rfl c83
      · refine V_aload_n (pc' := 87) d_Md_insertion_86 rfl (by first | rfl | exact isR_rf _) rfl ?_
        refine V_getf (pc' := 90) d_Md_insertion_87 fl_Md_74 rfl (by first | assumption | exact aset_self _ _ _ | exact apush_self _ _) (by rfl) ?_
        refine V_goto (tgt := 99) d_Md_insertion_90 (by decide) ?_
        rw [show ssz S = e from ee]
        exact cut
    | some k =>
      rw [hpe] at cut ee
      have hkz := hpar k hpe
      refine V_iload (pc' := 82) d_Md_insertion_80 rfl rfl ?_
      refine V_iconst (pc' := 83) (v := (-1)) d_Md_insertion_82 (by decide) rfl ?_
      refine V_icmp_ne (pc' := 86) (tgt := 93) d_Md_insertion_83 (by decide) rfl (fun c83 => ?_) (fun c83 => ?_)
      · refine V_aload_n (pc' := 94) d_Md_insertion_93 rfl (by first | rfl | exact isR_rf _) rfl ?_
        refine V_iload (pc' := 96) d_Md_insertion_94 rfl rfl ?_
        -- at 96 invokevirtual
        refine V_callV (pc' := 99) (As := [_]) (ci := 6) d_Md_insertion_96 mv_Md_85 mw_Md_behind rfl rfl rfl (by simp [Value.category]) rfl (by first | assumption | exact aset_self _ _ _ | exact apush_self _ _) (c_Md_behind (i := k) hI w1 w2 wl hkz) (by first | decide | omega) (by first | decide | omega) (by first | decide | omega) (by first | decide | omega) ?_
        rintro _ _ ⟨rfl, rfl⟩
        rw [show bhd S k = e from ee]
        exact cut
      · exact absurd c83 (nI_m1 (by omega))
  have got : sab S kd ≠ 0 → V x "PathCallsModel" b_Md_insertion 16 (Option.some .int) false (rmd 5 0 0) 0 0 (PM h m A (insnS S v n key val)) 70 [(0, .ref m), (1, .int (nI v)), (2, .int (nI n)), (3, .long key), (5, .long val), (7, .int (nI kd)), (8, .int (oI pos)), (9, .int (-1))] [.int (oI par)] h 0 0 := by
    intro hab0
    cases hpe : par with
    | none =>
      refine V_istore (pc' := 72) d_Md_insertion_70 (by decide) rfl ?_
      refine V_L [(0, _), (1, _), (2, _), (3, _), (5, _), (7, _), (8, _), (9, _)] ⟨rfl, rfl, rfl, rfl, rfl, rfl, rfl, rfl, trivial⟩ ?_
      refine V_iload (pc' := 74) d_Md_insertion_72 rfl rfl ?_
      refine V_iconst (pc' := 75) (v := (-1)) d_Md_insertion_74 (by decide) rfl ?_
      refine V_icmp_ne (pc' := 78) (tgt := 80) d_Md_insertion_75 (by decide) rfl (fun c75 => ?_) (fun c75 => ?_)
      · exact absurd rfl c75
      · refine V_iconst (pc' := 79) (v := 1) d_Md_insertion_78 (by decide) rfl ?_
        refine V_iret d_Md_insertion_79 rfl (by first | decide | omega) (by first | decide | omega) ?_
        rw [hres, if_pos ⟨hab0, hpe⟩]
        exact ⟨rfl, hF⟩
    | some k =>
      have hkz := hpar k hpe
      refine V_istore (pc' := 72) d_Md_insertion_70 (by decide) rfl ?_
      refine V_L [(0, _), (1, _), (2, _), (3, _), (5, _), (7, _), (8, _), (9, _)] ⟨rfl, rfl, rfl, rfl, rfl, rfl, rfl, rfl, trivial⟩ ?_
      refine V_iload (pc' := 74) d_Md_insertion_72 rfl rfl ?_
      refine V_iconst (pc' := 75) (v := (-1)) d_Md_insertion_74 (by decide) rfl ?_
      refine V_icmp_ne (pc' := 78) (tgt := 80) d_Md_insertion_75 (by decide) rfl (fun c75 => ?_) (fun c75 => ?_)
      · rw [← hpe]
        have h9 := fromp (fun z => by rw [hpe] at z; cases z.2)
        rw [hpe] at h9 ⊢
        exact h9
      · exact absurd c75 (nI_m1 (by omega))
  refine V_aload_n (pc' := 1) d_Md_insertion_0 rfl (by first | rfl | exact isR_rf _) rfl ?_
  refine V_getf (pc' := 4) d_Md_insertion_1 fl_Md_45 rfl (by first | assumption | exact aset_self _ _ _ | exact apush_self _ _) (by rfl) ?_
  refine V_iload_n (pc' := 5) d_Md_insertion_4 rfl rfl ?_
  refine V_iconst (pc' := 6) (v := 1) d_Md_insertion_5 (by decide) rfl ?_
  refine V_isub (pc' := 7) d_Md_insertion_6 rfl ?_
  -- at 7 iaload
  refine V_iald (pc' := 8) d_Md_insertion_7 rfl h15 rfl (pk_sub (a := n) (b := 1) hn1) (by omega) (arv_get (by omega)) ?_
  rw [ekd]
  refine V_istore (pc' := 10) d_Md_insertion_8 (by decide) rfl ?_
  refine V_L [(0, _), (1, _), (2, _), (3, _), (5, _), (7, _)] ⟨rfl, rfl, rfl, rfl, rfl, rfl, trivial⟩ ?_
  refine V_aload_n (pc' := 11) d_Md_insertion_10 rfl (by first | rfl | exact isR_rf _) rfl ?_
  refine V_aload_n (pc' := 12) d_Md_insertion_11 rfl (by first | rfl | exact isR_rf _) rfl ?_
  refine V_getf (pc' := 15) d_Md_insertion_12 fl_Md_36 rfl (by first | assumption | exact aset_self _ _ _ | exact apush_self _ _) (by rfl) ?_
  refine V_iload_n (pc' := 16) d_Md_insertion_15 rfl rfl ?_
  -- at 16 iaload
  refine V_iald (pc' := 17) d_Md_insertion_16 rfl h11 rfl rfl (by omega) (arv_get (by omega)) ?_
  refine V_callV (pc' := 20) (As := [_]) (ci := 6) d_Md_insertion_17 mv_Md_106 mw_Md_placeOf rfl rfl rfl (by simp [Value.category]) rfl (by first | assumption | exact aset_self _ _ _ | exact apush_self _ _) (c_Md_placeOf (nm := spo S v) hI w1 (by omega) (fun i hi => by have := u2 i hi; omega)) (by first | decide | omega) (by first | decide | omega) (by first | decide | omega) (by first | decide | omega) ?_
  rintro _ _ ⟨rfl, rfl⟩
  rw [epos]
  refine V_istore (pc' := 22) d_Md_insertion_20 (by decide) rfl ?_
  refine V_L [(0, _), (1, _), (2, _), (3, _), (5, _), (7, _), (8, _)] ⟨rfl, rfl, rfl, rfl, rfl, rfl, rfl, trivial⟩ ?_
  refine V_iconst (pc' := 23) (v := (-1)) d_Md_insertion_22 (by decide) rfl ?_
  refine V_istore (pc' := 25) d_Md_insertion_23 (by decide) rfl ?_
  refine V_L [(0, _), (1, _), (2, _), (3, _), (5, _), (7, _), (8, _), (9, _)] ⟨rfl, rfl, rfl, rfl, rfl, rfl, rfl, rfl, trivial⟩ ?_
  refine V_aload_n (pc' := 26) d_Md_insertion_25 rfl (by first | rfl | exact isR_rf _) rfl ?_
  refine V_getf (pc' := 29) d_Md_insertion_26 fl_Md_7 rfl (by first | assumption | exact aset_self _ _ _ | exact apush_self _ _) (by rfl) ?_
  refine V_iload (pc' := 31) d_Md_insertion_29 rfl rfl ?_
  -- at 31 iaload
  refine V_iald (pc' := 32) d_Md_insertion_31 rfl h0 rfl rfl (by omega) (arv_get (by omega)) ?_
  refine V_if_eq (pc' := 35) (tgt := 80) d_Md_insertion_32 (by decide) rfl (fun c32 => ?_) (fun c32 => ?_)
  · have hz0 : sab S kd = 0 := (nI_sm (by omega) (by omega) rfl).mp c32
    have hpn : par = none := by rw [← epar]; unfold parS; rw [if_pos hz0]
    have h9 := fromp (fun z => z.1 hz0)
    rw [hpn] at h9
    exact h9
  · have hz0 : sab S kd ≠ 0 := fun z => c32 (by rw [z]; rfl)
    refine V_iload_n (pc' := 36) d_Md_insertion_35 rfl rfl ?_
    refine V_iconst (pc' := 37) (v := 1) d_Md_insertion_36 (by decide) rfl ?_
    refine V_icmp_le (pc' := 40) (tgt := 57) d_Md_insertion_37 (by decide) rfl (fun c37 => ?_) (fun c37 => ?_)
    · have hle : ¬ 1 < n := by
        have := (nI_leI (b := 1) (by omega) (by omega)).mp c37
        omega
      have hpo : par = okd S pos (sab S kd) := by rw [← epar]; unfold parS; rw [if_neg hz0, if_neg hle]
      refine V_aload_n (pc' := 58) d_Md_insertion_57 rfl (by first | rfl | exact isR_rf _) rfl ?_
      refine V_iload (pc' := 60) d_Md_insertion_58 rfl rfl ?_
      refine V_aload_n (pc' := 61) d_Md_insertion_60 rfl (by first | rfl | exact isR_rf _) rfl ?_
      refine V_getf (pc' := 64) d_Md_insertion_61 fl_Md_7 rfl (by first | assumption | exact aset_self _ _ _ | exact apush_self _ _) (by rfl) ?_
      refine V_iload (pc' := 66) d_Md_insertion_64 rfl rfl ?_
      -- at 66 iaload
      refine V_iald (pc' := 67) d_Md_insertion_66 rfl h0 rfl rfl (by omega) (arv_get (by omega)) ?_
      refine V_callV (pc' := 70) (As := [_, _]) (ci := 6) d_Md_insertion_67 mv_Md_92 mw_Md_ofKind rfl rfl rfl (by simp [Value.category]) rfl (by first | assumption | exact aset_self _ _ _ | exact apush_self _ _) (c_Md_ofKind (o := pos) (kd := sab S kd) hI w1 w2 wl hpos (by omega) (by have := w3 (sab S kd) (by omega); omega) (w4 (sab S kd) (by omega) hab1)) (by first | decide | omega) (by first | decide | omega) (by first | decide | omega) (by first | decide | omega) ?_
      rintro _ _ ⟨rfl, rfl⟩
      rw [← hpo]
      exact got hz0
    · have hlt : 1 < n := by
        rcases Nat.lt_or_ge 1 n with z | z
        · exact z
        · exact absurd (nI_le (b := 1) z (by omega)) c37
      have hpo : par = frst S 0 (ssz S) (n - 1) pos := by rw [← epar]; unfold parS; rw [if_neg hz0, if_pos hlt]
      refine V_aload_n (pc' := 41) d_Md_insertion_40 rfl (by first | rfl | exact isR_rf _) rfl ?_
      refine V_iconst (pc' := 42) (v := 0) d_Md_insertion_41 (by decide) rfl ?_
      refine V_aload_n (pc' := 43) d_Md_insertion_42 rfl (by first | rfl | exact isR_rf _) rfl ?_
      refine V_getf (pc' := 46) d_Md_insertion_43 fl_Md_74 rfl (by first | assumption | exact aset_self _ _ _ | exact apush_self _ _) (by rfl) ?_
      refine V_iload_n (pc' := 47) d_Md_insertion_46 rfl rfl ?_
      refine V_iconst (pc' := 48) (v := 1) d_Md_insertion_47 (by decide) rfl ?_
      refine V_isub (pc' := 49) d_Md_insertion_48 rfl ?_
      rw [show nI n - 1 = nI (n - 1) from pk_sub (a := n) (b := 1) hn1]
      refine V_iload (pc' := 51) d_Md_insertion_49 rfl rfl ?_
      -- at 51 invokevirtual
      refine V_callV (pc' := 54) (As := [_, _, _, _]) (ci := 6) d_Md_insertion_51 mv_Md_109 mw_Md_first rfl rfl rfl (by simp [Value.category]) rfl (by first | assumption | exact aset_self _ _ _ | exact apush_self _ _) (c_Md_first (a := 0) (b := ssz S) (n := n - 1) hI hw ⟨by omega, fun p hp => v2 p (by omega)⟩ (by omega) (Nat.le_refl _) hpos) (by first | decide | omega) (by first | decide | omega) (by first | decide | omega) (by first | decide | omega) ?_
      rintro _ _ ⟨rfl, rfl⟩
      rw [← hpo]
      refine V_goto (tgt := 70) d_Md_insertion_54 (by decide) ?_
      exact got hz0
end M9
