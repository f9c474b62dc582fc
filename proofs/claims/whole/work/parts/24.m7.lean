-- the reference: finds
section M7
variable {x : CX} {h : AH} {m : Nat} {A : Nat → Nat} {S : PS}
theorem c_Md_finds (hI : IM h m A S) (hw : RW S) (hv : VW S) (hso : ∀ i, i < ssz S → 1 ≤ sso S i ∧ sso S i ≤ skc S) {n : Nat} (hp : PV S n) {v c : Nat} (hv1 : 1 ≤ v) (hv2 : v ≤ svc S) (hc : c = 0 ∨ c = 1 ∨ c = 2) : Ct x y_Md_finds b_Md_finds 12 (some .int) 5 0 0 [.ref m, .int (nI v), .int (nI c), .int (nI n)] h (PM h m A (findsS S v c n)) := by
  have hF : IF h h m A S := ⟨hI, FrM_rf⟩
  obtain ⟨hm, h0, h1, h2, h3, h5, h6, h7, h8, h11, h12, h13, h15, h16, h17, h18, h20, -⟩ := id hI
  obtain ⟨u1, u2, u3⟩ := id hv
  obtain ⟨w1, w2, w3, w4, w5⟩ := id hw
  have wl := hw.lo
  obtain ⟨v1, v2⟩ := id hp
  obtain ⟨g1, g2⟩ := u3 v (by omega)
  refine Ct_of (own := "PathCallsModel") (ini := false) rfl rfl (Nat.le_of_ble_eq_true rfl) (fun q => by cases q) ?_
  generalize epos : plc S (spo S v) = pos
  generalize epar : plc S (spr S v) = par
  have hpos : ∀ j, pos = some j → j < ssz S := fun j hj => (plc_lt (epos.trans hj)).1
  have hpar : ∀ j, par = some j → j < ssz S := fun j hj => (plc_lt (epar.trans hj)).1
  -- behind the search
  have tail : ∀ (fo : Option Nat), frst S (fromS S c pos par) (toS S c par) n pos = fo → ¬ (c = 2 ∧ par = none) → V x "PathCallsModel" b_Md_finds 12 (Option.some .int) false (rmd 5 0 0) 0 0 (PM h m A (findsS S v c n)) 139 [(0, .ref m), (1, .int (nI v)), (2, .int (nI c)), (3, .int (nI n)), (4, .int (oI pos)), (8, .int (oI fo))] [] h 0 0 := by
    intro fo hfo hn5
    have hres : findsS S v c n = resS S v c n pos fo := by
      unfold findsS
      rw [epos, epar, if_neg hn5, hfo]
    cases fo with
    | none =>
      rw [show resS S v c n pos none = if c = 1 then (2, upo S v 0) else (1, S) from rfl] at hres
      refine V_iload (pc' := 141) d_Md_finds_139 rfl rfl ?_
      refine V_iconst (pc' := 142) (v := (-1)) d_Md_finds_141 (by decide) rfl ?_
      refine V_icmp_ne (pc' := 145) (tgt := 157) d_Md_finds_142 (by decide) rfl (fun c142 => ?_) (fun c142 => ?_)
      · exact absurd rfl c142
      · refine V_iload_n (pc' := 146) d_Md_finds_145 rfl rfl ?_
        refine V_iconst (pc' := 147) (v := 1) d_Md_finds_146 (by decide) rfl ?_
        refine V_icmp_ne (pc' := 150) (tgt := 157) d_Md_finds_147 (by decide) rfl (fun c147 => ?_) (fun c147 => ?_)
        · have hc1 : ¬ c = 1 := fun q => c147 (by rw [q]; rfl)
          rw [if_neg hc1] at hres
          refine V_iload (pc' := 159) d_Md_finds_157 rfl rfl ?_
          refine V_iconst (pc' := 160) (v := (-1)) d_Md_finds_159 (by decide) rfl ?_
          refine V_icmp_ne (pc' := 163) (tgt := 174) d_Md_finds_160 (by decide) rfl (fun c160 => ?_) (fun c160 => ?_)
          · exact absurd rfl c160
          · refine V_iload_n (pc' := 164) d_Md_finds_163 rfl rfl ?_
            refine V_iconst (pc' := 165) (v := 1) d_Md_finds_164 (by decide) rfl ?_
            refine V_icmp_ne (pc' := 168) (tgt := 172) d_Md_finds_165 (by decide) rfl (fun c165 => ?_) (fun c165 => ?_)
            · refine V_iconst (pc' := 173) (v := 1) d_Md_finds_172 (by decide) rfl ?_
              refine V_iret d_Md_finds_173 rfl (by first | decide | omega) (by first | decide | omega) ?_
              rw [hres]; exact ⟨rfl, hF⟩
            · exact absurd c165 c147
        · have hc1 : c = 1 := (nI_sm (by omega) (by omega) rfl).mp c147
          rw [if_pos hc1] at hres
          refine V_aload_n (pc' := 151) d_Md_finds_150 rfl (by first | rfl | exact isR_rf _) rfl ?_
          refine V_getf (pc' := 154) d_Md_finds_151 fl_Md_36 rfl (by first | assumption | exact aset_self _ _ _ | exact apush_self _ _) (by rfl) ?_
          refine V_iload_n (pc' := 155) d_Md_finds_154 rfl rfl ?_
          refine V_iconst (pc' := 156) (v := 0) d_Md_finds_155 (by decide) rfl ?_
          -- at 156 iastore
          refine V_iast (pc' := 157) d_Md_finds_156 rfl h11 rfl rfl (by omega) (arv_get (by omega)) ?_
          refine V_ex (fun g => IF _ g m A _) (IF_upo hF v 0) (fun g1 hF => ?_)
          obtain ⟨hm, h0, h1, h2, h3, h5, h6, h7, h8, h11, h12, h13, h15, h16, h17, h18, h20, -⟩ := id hF.1
          refine V_iload (pc' := 159) d_Md_finds_157 rfl rfl ?_
          refine V_iconst (pc' := 160) (v := (-1)) d_Md_finds_159 (by decide) rfl ?_
          refine V_icmp_ne (pc' := 163) (tgt := 174) d_Md_finds_160 (by decide) rfl (fun c160 => ?_) (fun c160 => ?_)
          · exact absurd rfl c160
          · refine V_iload_n (pc' := 164) d_Md_finds_163 rfl rfl ?_
            refine V_iconst (pc' := 165) (v := 1) d_Md_finds_164 (by decide) rfl ?_
            refine V_icmp_ne (pc' := 168) (tgt := 172) d_Md_finds_165 (by decide) rfl (fun c165 => ?_) (fun c165 => ?_)
            · exact absurd c147 c165
            · refine V_iconst (pc' := 169) (v := 2) d_Md_finds_168 (by decide) rfl ?_
              refine V_goto (tgt := 173) d_Md_finds_169 (by decide) ?_
              refine V_iret d_Md_finds_173 rfl (by first | decide | omega) (by first | decide | omega) ?_
              rw [hres]; exact ⟨rfl, hF⟩
    | some f =>
      rw [show resS S v c n pos (some f) = (statS S c n pos f, foundS S v c n f) from rfl] at hres
      obtain ⟨f1, f2, f3⟩ := frst_some hfo
      have hto : toS S c par ≤ ssz S := by
        unfold toS
        split
        · cases par with
          | none => exact Nat.zero_le _
          | some k => exact bhd_ub S (hpar k rfl)
        · exact Nat.le_refl _
      have hfz : f < ssz S := by omega
      have hok := fit_ok f3
      have e3 := w2 f hfz
      have e4 := wl f hfz
      have e5 : slo S f ≤ 8 := w3 _ e3
      -- from 250 on
      have fin : ∀ z : Int32, z = statS S c n pos f → V x "PathCallsModel" b_Md_finds 12 (Option.some .int) false (rmd 5 0 0) 0 0 (PM h m A (findsS S v c n)) 250 [(0, .ref m), (1, .int (nI v)), (2, .int (nI c)), (3, .int (nI n)), (4, .int (oI pos)), (8, .int (nI f)), (9, .int z)] [] h 0 0 := by
        intro z hz
        subst hz
        have lp2 : ∀ (d p : Nat), p + d = n → ∀ (g : AH) (pr : Nat → Nat) (sh : Nat → Int64), pr = flp S v f p (fun i => if i = v then (if c < 2 then snm S f else spr S v) else spr S i) → sh = fls S f p (fun l => if l = slo S f then svl S f else if l < 9 then 0 else ssh S l) → IF h g m A (mkT S (fun i => if i = v then snm S f else spo S i) pr sh) → V x "PathCallsModel" b_Md_finds 12 (Option.some .int) false (rmd 5 0 0) 0 0 (PM h m A (findsS S v c n)) 335 [(0, .ref m), (1, .int (nI v)), (3, .int (nI n)), (8, .int (nI f)), (9, .int (statS S c n pos f)), (10, .int (nI p))] [] g 0 0 := by
          intro d
          induction d with
          | zero =>
            intro p hpd g pr sh hpr hsh hF
            obtain ⟨hm, -⟩ := id hF.1
            refine V_iload (pc' := 337) d_Md_finds_335 rfl rfl ?_
            refine V_iload_n (pc' := 338) d_Md_finds_337 rfl rfl ?_
            refine V_icmp_ge (pc' := 341) (tgt := 424) d_Md_finds_338 (by decide) rfl (fun c338 => ?_) (fun c338 => ?_)
            · refine V_iload (pc' := 426) d_Md_finds_424 rfl rfl ?_
              refine V_iret d_Md_finds_426 rfl (by first | decide | omega) (by first | decide | omega) ?_
              have e : p = n := by omega
              subst e
              rw [hres]
              refine ⟨rfl, ?_⟩
              unfold foundS
              rw [← hpr, ← hsh]
              exact hF
            · exact absurd (nI_le (by omega) (by omega)) c338
          | succ d ih =>
            intro p hpd g pr sh hpr hsh hF
            obtain ⟨hm, h0, h1, h2, h3, h5, h6, h7, h8, h11, h12, h13, h15, h16, h17, h18, h20, -⟩ := id hF.1
            have hpn : p < n := by omega
            obtain ⟨p1, p2, p3, p4⟩ := v2 p hpn
            obtain ⟨k, ek⟩ := hok p hpn
            obtain ⟨k1, k2, k3, k4⟩ := okd_lt ek
            have hl0 := w4 (spk S p) p1 p2
            have hl3 := w3 (spk S p) (by omega)
            refine V_iload (pc' := 337) d_Md_finds_335 rfl rfl ?_
            refine V_iload_n (pc' := 338) d_Md_finds_337 rfl rfl ?_
            refine V_icmp_ge (pc' := 341) (tgt := 424) d_Md_finds_338 (by decide) rfl (fun c338 => ?_) (fun c338 => ?_)
            · exact absurd c338 (nI_ge hpn (by omega))
            · refine V_aload_n (pc' := 342) d_Md_finds_341 rfl (by first | rfl | exact isR_rf _) rfl ?_
              refine V_iload (pc' := 344) d_Md_finds_342 rfl rfl ?_
              refine V_aload_n (pc' := 345) d_Md_finds_344 rfl (by first | rfl | exact isR_rf _) rfl ?_
              refine V_getf (pc' := 348) d_Md_finds_345 fl_Md_45 rfl (by first | assumption | exact aset_self _ _ _ | exact apush_self _ _) (by rfl) ?_
              refine V_iload (pc' := 350) d_Md_finds_348 rfl rfl ?_
              -- at 350 iaload
              refine V_iald (pc' := 351) d_Md_finds_350 rfl h15 rfl rfl (by omega) (arv_get (by omega)) ?_
              refine V_callV (pc' := 354) (As := [_, _]) (ci := 6) d_Md_finds_351 mv_Md_92 mw_Md_ofKind rfl rfl rfl (by simp [Value.category]) rfl (by first | assumption | exact aset_self _ _ _ | exact apush_self _ _) (c_Md_ofKind (o := some f) (kd := spk S p) hF.1 w1 w2 wl (fun j hj => by cases hj; exact hfz) (by omega) (show slv S (spk S p) < 2 ^ 31 by omega) hl0) (by first | decide | omega) (by first | decide | omega) (by first | decide | omega) (by first | decide | omega) ?_
              rintro _ _ ⟨rfl, rfl⟩
              rw [show okd (mkT S (fun i => if i = v then snm S f else spo S i) pr sh) (some f) (spk S p) = some k from ek]
              have t2 : ∀ (g : AH) (pr2 : Nat → Nat), pr2 = flp S v f (p + 1) (fun i => if i = v then (if c < 2 then snm S f else spr S v) else spr S i) → IF h g m A (mkT S (fun i => if i = v then snm S f else spo S i) pr2 sh) → V x "PathCallsModel" b_Md_finds 12 (Option.some .int) false (rmd 5 0 0) 0 0 (PM h m A (findsS S v c n)) 381 [(0, .ref m), (1, .int (nI v)), (3, .int (nI n)), (8, .int (nI f)), (9, .int (statS S c n pos f)), (10, .int (nI p)), (11, .int (nI k))] [] g 0 0 := by
                intro g pr2 hpr2 hF
                obtain ⟨hm, h0, h1, h2, h3, h5, h6, h7, h8, h11, h12, h13, h15, h16, h17, h18, h20, -⟩ := id hF.1
                refine V_aload_n (pc' := 382) d_Md_finds_381 rfl (by first | rfl | exact isR_rf _) rfl ?_
                refine V_getf (pc' := 385) d_Md_finds_382 fl_Md_51 rfl (by first | assumption | exact aset_self _ _ _ | exact apush_self _ _) (by rfl) ?_
                refine V_iload (pc' := 387) d_Md_finds_385 rfl rfl ?_
                -- at 387 iaload
                refine V_iald (pc' := 388) d_Md_finds_387 rfl h17 rfl rfl (by omega) (arv_get (by omega)) ?_
                refine V_bipush (pc' := 390) (v := 8) d_Md_finds_388 (by decide) rfl ?_
                refine V_iand (pc' := 391) d_Md_finds_390 rfl ?_
                refine V_if_eq (pc' := 394) (tgt := 418) d_Md_finds_391 (by decide) rfl (fun c391 => ?_) (fun c391 => ?_)
                · first | refine V_iincN (pc' := 421) d_Md_finds_418 rfl (by decide) rfl ?_ | refine V_iinc (pc' := 421) d_Md_finds_418 rfl rfl (by decide) rfl ?_
                  refine V_L [(0, _), (1, _), (3, _), (8, _), (9, _), (10, _), (11, _)] ⟨rfl, rfl, rfl, rfl, rfl, rfl, rfl, trivial⟩ ?_
                  refine V_goto (tgt := 335) d_Md_finds_421 (by decide) ?_
                  refine V_L [(0, .ref m), (1, .int (nI v)), (3, .int (nI n)), (8, .int (nI f)), (9, .int (statS S c n pos f)), (10, .int (nI (p + 1)))] ⟨rfl, rfl, rfl, rfl, rfl, rfl, trivial⟩ ?_
                  refine ih (p + 1) (by omega) g pr2 sh hpr2 ?_ hF
                  rw [fls, if_neg (by rw [(cb_z (scd S p) 8).mp c391]; decide), hsh]
                · have hcb : cb (scd S p) 8 = true := by
                    cases e : cb (scd S p) 8
                    · exact absurd ((cb_z _ _).mpr e) c391
                    · rfl
                  refine V_aload_n (pc' := 395) d_Md_finds_394 rfl (by first | rfl | exact isR_rf _) rfl ?_
                  refine V_getf (pc' := 398) d_Md_finds_395 fl_Md_57 rfl (by first | assumption | exact aset_self _ _ _ | exact apush_self _ _) (by rfl) ?_
                  refine V_aload_n (pc' := 399) d_Md_finds_398 rfl (by first | rfl | exact isR_rf _) rfl ?_
                  refine V_getf (pc' := 402) d_Md_finds_399 fl_Md_13 rfl (by first | assumption | exact aset_self _ _ _ | exact apush_self _ _) (by rfl) ?_
                  refine V_aload_n (pc' := 403) d_Md_finds_402 rfl (by first | rfl | exact isR_rf _) rfl ?_
                  refine V_getf (pc' := 406) d_Md_finds_403 fl_Md_45 rfl (by first | assumption | exact aset_self _ _ _ | exact apush_self _ _) (by rfl) ?_
                  refine V_iload (pc' := 408) d_Md_finds_406 rfl rfl ?_
                  -- at 408 iaload
                  refine V_iald (pc' := 409) d_Md_finds_408 rfl h15 rfl rfl (by omega) (arv_get (by omega)) ?_
                  refine V_iald (pc' := 410) d_Md_finds_409 rfl h1 rfl (rfl : _ = nI (spk S p)) (by omega) (arv_get (by omega)) ?_
                  refine V_aload_n (pc' := 411) d_Md_finds_410 rfl (by first | rfl | exact isR_rf _) rfl ?_
                  refine V_getf (pc' := 414) d_Md_finds_411 fl_Md_33 rfl (by first | assumption | exact aset_self _ _ _ | exact apush_self _ _) (by rfl) ?_
                  refine V_iload (pc' := 416) d_Md_finds_414 rfl rfl ?_
                  -- at 416 laload
                  refine V_lald (pc' := 417) d_Md_finds_416 rfl h8 rfl rfl (by omega) (arv_get (by omega)) ?_
                  refine V_last (pc' := 418) d_Md_finds_417 rfl h20 rfl (rfl : _ = nI (slv S (spk S p))) (by omega) (arv_get (by omega)) ?_
                  refine V_ex (fun g => IF _ g m A _) (IF_ush hF (slv S (spk S p)) (svl S k)) (fun g9 hF => ?_)
                  obtain ⟨hm, h0, h1, h2, h3, h5, h6, h7, h8, h11, h12, h13, h15, h16, h17, h18, h20, -⟩ := id hF.1
                  first | refine V_iincN (pc' := 421) d_Md_finds_418 rfl (by decide) rfl ?_ | refine V_iinc (pc' := 421) d_Md_finds_418 rfl rfl (by decide) rfl ?_
                  refine V_L [(0, _), (1, _), (3, _), (8, _), (9, _), (10, _), (11, _)] ⟨rfl, rfl, rfl, rfl, rfl, rfl, rfl, trivial⟩ ?_
                  refine V_goto (tgt := 335) d_Md_finds_421 (by decide) ?_
                  refine V_L [(0, .ref m), (1, .int (nI v)), (3, .int (nI n)), (8, .int (nI f)), (9, .int (statS S c n pos f)), (10, .int (nI (p + 1)))] ⟨rfl, rfl, rfl, rfl, rfl, rfl, trivial⟩ ?_
                  refine ih (p + 1) (by omega) g9 pr2 (fun i => if i = slv S (spk S p) then svl S k else sh i) hpr2 ?_ hF
                  rw [fls, if_pos hcb, ek, hsh]
              refine V_istore (pc' := 356) d_Md_finds_354 (by decide) rfl ?_
              refine V_L [(0, _), (1, _), (3, _), (8, _), (9, _), (10, _), (11, _)] ⟨rfl, rfl, rfl, rfl, rfl, rfl, rfl, trivial⟩ ?_
              refine V_aload_n (pc' := 357) d_Md_finds_356 rfl (by first | rfl | exact isR_rf _) rfl ?_
              refine V_getf (pc' := 360) d_Md_finds_357 fl_Md_51 rfl (by first | assumption | exact aset_self _ _ _ | exact apush_self _ _) (by rfl) ?_
              refine V_iload (pc' := 362) d_Md_finds_360 rfl rfl ?_
              -- at 362 iaload
              refine V_iald (pc' := 363) d_Md_finds_362 rfl h17 rfl rfl (by omega) (arv_get (by omega)) ?_
              refine V_iconst (pc' := 364) (v := 4) d_Md_finds_363 (by decide) rfl ?_
              refine V_iand (pc' := 365) d_Md_finds_364 rfl ?_
              refine V_if_eq (pc' := 368) (tgt := 381) d_Md_finds_365 (by decide) rfl (fun c365 => ?_) (fun c365 => ?_)
              · refine V_L [(0, .ref m), (1, .int (nI v)), (3, .int (nI n)), (8, .int (nI f)), (9, .int (statS S c n pos f)), (10, .int (nI p)), (11, .int (nI k))] ⟨rfl, rfl, rfl, rfl, rfl, rfl, rfl, trivial⟩ ?_
                refine t2 _ pr ?_ hF
                rw [flp, if_neg (by rw [(cb_z (scd S p) 4).mp c365]; decide), hpr]
              · have hcb : cb (scd S p) 4 = true := by
                  cases e : cb (scd S p) 4
                  · exact absurd ((cb_z _ _).mpr e) c365
                  · rfl
                refine V_aload_n (pc' := 369) d_Md_finds_368 rfl (by first | rfl | exact isR_rf _) rfl ?_
                refine V_getf (pc' := 372) d_Md_finds_369 fl_Md_39 rfl (by first | assumption | exact aset_self _ _ _ | exact apush_self _ _) (by rfl) ?_
                refine V_iload_n (pc' := 373) d_Md_finds_372 rfl rfl ?_
                refine V_aload_n (pc' := 374) d_Md_finds_373 rfl (by first | rfl | exact isR_rf _) rfl ?_
                refine V_getf (pc' := 377) d_Md_finds_374 fl_Md_23 rfl (by first | assumption | exact aset_self _ _ _ | exact apush_self _ _) (by rfl) ?_
                refine V_iload (pc' := 379) d_Md_finds_377 rfl rfl ?_
                -- at 379 iaload
                refine V_iald (pc' := 380) d_Md_finds_379 rfl h5 rfl rfl (by omega) (arv_get (by omega)) ?_
                refine V_iast (pc' := 381) d_Md_finds_380 rfl h12 rfl rfl (by omega) (arv_get (by omega)) ?_
                refine V_ex (fun g => IF _ g m A _) (IF_upr hF v (snm S k)) (fun g8 hF => ?_)
                obtain ⟨hm, h0, h1, h2, h3, h5, h6, h7, h8, h11, h12, h13, h15, h16, h17, h18, h20, -⟩ := id hF.1
                refine V_L [(0, .ref m), (1, .int (nI v)), (3, .int (nI n)), (8, .int (nI f)), (9, .int (statS S c n pos f)), (10, .int (nI p)), (11, .int (nI k))] ⟨rfl, rfl, rfl, rfl, rfl, rfl, rfl, trivial⟩ ?_
                refine t2 g8 (fun i => if i = v then snm S k else pr i) ?_ hF
                rw [flp, if_pos hcb, ek, hpr]
        have lp1 : ∀ (d l : Nat), l + d = 9 → ∀ (g : AH), IF h g m A (mkT S (fun i => if i = v then snm S f else spo S i) (fun i => if i = v then (if c < 2 then snm S f else spr S v) else spr S i) (fun q => if q < l then 0 else ssh S q)) → V x "PathCallsModel" b_Md_finds 12 (Option.some .int) false (rmd 5 0 0) 0 0 (PM h m A (findsS S v c n)) 293 [(0, .ref m), (1, .int (nI v)), (3, .int (nI n)), (8, .int (nI f)), (9, .int (statS S c n pos f)), (10, .int (nI l))] [] g 0 0 := by
          intro d
          induction d with
          | zero =>
            intro l hl g hF
            obtain ⟨hm, h0, h1, h2, h3, h5, h6, h7, h8, h11, h12, h13, h15, h16, h17, h18, h20, -⟩ := id hF.1
            have e : l = 9 := by omega
            subst e
            refine V_iload (pc' := 295) d_Md_finds_293 rfl rfl ?_
            refine V_bipush (pc' := 297) (v := 8) d_Md_finds_295 (by decide) rfl ?_
            refine V_icmp_gt (pc' := 300) (tgt := 314) d_Md_finds_297 (by decide) rfl (fun c297 => ?_) (fun c297 => ?_)
            · refine V_aload_n (pc' := 315) d_Md_finds_314 rfl (by first | rfl | exact isR_rf _) rfl ?_
              refine V_getf (pc' := 318) d_Md_finds_315 fl_Md_57 rfl (by first | assumption | exact aset_self _ _ _ | exact apush_self _ _) (by rfl) ?_
              refine V_aload_n (pc' := 319) d_Md_finds_318 rfl (by first | rfl | exact isR_rf _) rfl ?_
              refine V_iload (pc' := 321) d_Md_finds_319 rfl rfl ?_
              -- at 321 invokevirtual
              refine V_callV (pc' := 324) (As := [_]) (ci := 6) d_Md_finds_321 mv_Md_77 mw_Md_levelOf rfl rfl rfl (by simp [Value.category]) rfl (by first | assumption | exact aset_self _ _ _ | exact apush_self _ _) (c_Md_levelOf (i := f) hF.1 (by omega) e3) (by first | decide | omega) (by first | decide | omega) (by first | decide | omega) (by first | decide | omega) ?_
              rintro _ _ ⟨rfl, rfl⟩
              refine V_aload_n (pc' := 325) d_Md_finds_324 rfl (by first | rfl | exact isR_rf _) rfl ?_
              refine V_getf (pc' := 328) d_Md_finds_325 fl_Md_33 rfl (by first | assumption | exact aset_self _ _ _ | exact apush_self _ _) (by rfl) ?_
              refine V_iload (pc' := 330) d_Md_finds_328 rfl rfl ?_
              -- at 330 laload
              refine V_lald (pc' := 331) d_Md_finds_330 rfl h8 rfl rfl (by omega) (arv_get (by omega)) ?_
              refine V_last (pc' := 332) d_Md_finds_331 rfl h20 rfl (rfl : _ = nI (slo S f)) (by omega) (arv_get (by omega)) ?_
              refine V_ex (fun g => IF _ g m A _) (IF_ush hF (slo S f) (svl S f)) (fun g7 hF => ?_)
              obtain ⟨hm, h0, h1, h2, h3, h5, h6, h7, h8, h11, h12, h13, h15, h16, h17, h18, h20, -⟩ := id hF.1
              refine V_iconst (pc' := 333) (v := 0) d_Md_finds_332 (by decide) rfl ?_
              refine V_istore (pc' := 335) d_Md_finds_333 (by decide) rfl ?_
              refine V_L [(0, _), (1, _), (3, _), (8, _), (9, _), (10, _)] ⟨rfl, rfl, rfl, rfl, rfl, rfl, trivial⟩ ?_
              refine V_L [(0, .ref m), (1, .int (nI v)), (3, .int (nI n)), (8, .int (nI f)), (9, .int (statS S c n pos f)), (10, .int (nI 0))] ⟨rfl, rfl, rfl, rfl, rfl, rfl, trivial⟩ ?_
              exact lp2 n 0 (by omega) g7 _ _ rfl rfl hF
            · exact absurd (by decide) c297
          | succ d ih =>
            intro l hl g hF
            obtain ⟨hm, h0, h1, h2, h3, h5, h6, h7, h8, h11, h12, h13, h15, h16, h17, h18, h20, -⟩ := id hF.1
            refine V_iload (pc' := 295) d_Md_finds_293 rfl rfl ?_
            refine V_bipush (pc' := 297) (v := 8) d_Md_finds_295 (by decide) rfl ?_
            refine V_icmp_gt (pc' := 300) (tgt := 314) d_Md_finds_297 (by decide) rfl (fun c297 => ?_) (fun c297 => ?_)
            · exact absurd c297 (nI_nlt (a := 8) (by omega) (by omega))
            · refine V_aload_n (pc' := 301) d_Md_finds_300 rfl (by first | rfl | exact isR_rf _) rfl ?_
              refine V_getf (pc' := 304) d_Md_finds_301 fl_Md_57 rfl (by first | assumption | exact aset_self _ _ _ | exact apush_self _ _) (by rfl) ?_
              refine V_iload (pc' := 306) d_Md_finds_304 rfl rfl ?_
              refine V_lconst (pc' := 307) (v := 0) d_Md_finds_306 (by decide) rfl ?_
              refine V_last (pc' := 308) d_Md_finds_307 rfl h20 rfl rfl (by omega) (arv_get (by omega)) ?_
              refine V_ex (fun g => IF _ g m A _) (IF_ush hF l 0) (fun g6 hF => ?_)
              obtain ⟨hm, h0, h1, h2, h3, h5, h6, h7, h8, h11, h12, h13, h15, h16, h17, h18, h20, -⟩ := id hF.1
              first | refine V_iincN (pc' := 311) d_Md_finds_308 rfl (by decide) rfl ?_ | refine V_iinc (pc' := 311) d_Md_finds_308 rfl rfl (by decide) rfl ?_
              refine V_L [(0, _), (1, _), (3, _), (8, _), (9, _), (10, _)] ⟨rfl, rfl, rfl, rfl, rfl, rfl, trivial⟩ ?_
              refine V_goto (tgt := 293) d_Md_finds_311 (by decide) ?_
              refine V_L [(0, .ref m), (1, .int (nI v)), (3, .int (nI n)), (8, .int (nI f)), (9, .int (statS S c n pos f)), (10, .int (nI (l + 1)))] ⟨rfl, rfl, rfl, rfl, rfl, rfl, trivial⟩ ?_
              refine ih (l + 1) (by omega) g6 ?_
              have e : (fun q => if q < l + 1 then (0 : Int64) else ssh S q) = (fun i => if i = l then 0 else if i < l then 0 else ssh S i) := by
                funext q
                by_cases q1 : q = l
                · subst q1; simp
                · by_cases q2 : q < l
                  · simp [q1, q2, Nat.lt_succ_of_lt q2]
                  · have : ¬ q < l + 1 := by omega
                    simp [q1, q2, this]
              rw [e]
              exact hF
        refine V_aload_n (pc' := 251) d_Md_finds_250 rfl (by first | rfl | exact isR_rf _) rfl ?_
        refine V_getf (pc' := 254) d_Md_finds_251 fl_Md_36 rfl (by first | assumption | exact aset_self _ _ _ | exact apush_self _ _) (by rfl) ?_
        refine V_iload_n (pc' := 255) d_Md_finds_254 rfl rfl ?_
        refine V_aload_n (pc' := 256) d_Md_finds_255 rfl (by first | rfl | exact isR_rf _) rfl ?_
        refine V_getf (pc' := 259) d_Md_finds_256 fl_Md_23 rfl (by first | assumption | exact aset_self _ _ _ | exact apush_self _ _) (by rfl) ?_
        refine V_iload (pc' := 261) d_Md_finds_259 rfl rfl ?_
        -- at 261 iaload
        refine V_iald (pc' := 262) d_Md_finds_261 rfl h5 rfl rfl (by omega) (arv_get (by omega)) ?_
        refine V_iast (pc' := 263) d_Md_finds_262 rfl h11 rfl rfl (by omega) (arv_get (by omega)) ?_
        refine V_ex (fun g => IF _ g m A _) (IF_upo hF v (snm S f)) (fun g1 hF => ?_)
        obtain ⟨hm, h0, h1, h2, h3, h5, h6, h7, h8, h11, h12, h13, h15, h16, h17, h18, h20, -⟩ := id hF.1
        refine V_aload_n (pc' := 264) d_Md_finds_263 rfl (by first | rfl | exact isR_rf _) rfl ?_
        refine V_getf (pc' := 267) d_Md_finds_264 fl_Md_39 rfl (by first | assumption | exact aset_self _ _ _ | exact apush_self _ _) (by rfl) ?_
        refine V_iload_n (pc' := 268) d_Md_finds_267 rfl rfl ?_
        refine V_iload_n (pc' := 269) d_Md_finds_268 rfl rfl ?_
        refine V_iconst (pc' := 270) (v := 2) d_Md_finds_269 (by decide) rfl ?_
        refine V_icmp_ge (pc' := 273) (tgt := 283) d_Md_finds_270 (by decide) rfl (fun c270 => ?_) (fun c270 => ?_)
        · refine V_aload_n (pc' := 284) d_Md_finds_283 rfl (by first | rfl | exact isR_rf _) rfl ?_
          refine V_getf (pc' := 287) d_Md_finds_284 fl_Md_39 rfl (by first | assumption | exact aset_self _ _ _ | exact apush_self _ _) (by rfl) ?_
          refine V_iload_n (pc' := 288) d_Md_finds_287 rfl rfl ?_
          -- at 288 iaload
          have hc2 : ¬ c < 2 := fun q => absurd c270 (nI_ge (b := 2) q (by omega))
          refine V_iald (pc' := 289) d_Md_finds_288 rfl h12 rfl rfl (by omega) (arv_get (by omega)) ?_
          refine V_iast (pc' := 290) d_Md_finds_289 rfl h12 rfl rfl (by omega) (arv_get (by omega)) ?_
          refine V_ex (fun g => IF _ g m A _) (IF_upr hF v (spr S v)) (fun g2 hF => ?_)
          obtain ⟨hm, h0, h1, h2, h3, h5, h6, h7, h8, h11, h12, h13, h15, h16, h17, h18, h20, -⟩ := id hF.1
          refine V_iconst (pc' := 291) (v := 0) d_Md_finds_290 (by decide) rfl ?_
          refine V_istore (pc' := 293) d_Md_finds_291 (by decide) rfl ?_
          refine V_L [(0, _), (1, _), (2, _), (3, _), (4, _), (8, _), (9, _), (10, _)] ⟨rfl, rfl, rfl, rfl, rfl, rfl, rfl, rfl, trivial⟩ ?_
          refine V_L [(0, .ref m), (1, .int (nI v)), (3, .int (nI n)), (8, .int (nI f)), (9, .int (statS S c n pos f)), (10, .int (nI 0))] ⟨rfl, rfl, rfl, rfl, rfl, rfl, trivial⟩ ?_
          refine lp1 9 0 (by omega) g2 ?_
          rw [if_neg hc2]
          exact hF
        · refine V_aload_n (pc' := 274) d_Md_finds_273 rfl (by first | rfl | exact isR_rf _) rfl ?_
          refine V_getf (pc' := 277) d_Md_finds_274 fl_Md_23 rfl (by first | assumption | exact aset_self _ _ _ | exact apush_self _ _) (by rfl) ?_
          refine V_iload (pc' := 279) d_Md_finds_277 rfl rfl ?_
          -- at 279 iaload
          have hc2 : c < 2 := by
            rcases Nat.lt_or_ge c 2 with q | q
            · exact q
            · exact absurd (nI_le q (by omega)) c270
          refine V_iald (pc' := 280) d_Md_finds_279 rfl h5 rfl rfl (by omega) (arv_get (by omega)) ?_
          refine V_goto (tgt := 289) d_Md_finds_280 (by decide) ?_
          refine V_iast (pc' := 290) d_Md_finds_289 rfl h12 rfl rfl (by omega) (arv_get (by omega)) ?_
          refine V_ex (fun g => IF _ g m A _) (IF_upr hF v (snm S f)) (fun g2 hF => ?_)
          obtain ⟨hm, h0, h1, h2, h3, h5, h6, h7, h8, h11, h12, h13, h15, h16, h17, h18, h20, -⟩ := id hF.1
          refine V_iconst (pc' := 291) (v := 0) d_Md_finds_290 (by decide) rfl ?_
          refine V_istore (pc' := 293) d_Md_finds_291 (by decide) rfl ?_
          refine V_L [(0, _), (1, _), (2, _), (3, _), (4, _), (8, _), (9, _), (10, _)] ⟨rfl, rfl, rfl, rfl, rfl, rfl, rfl, rfl, trivial⟩ ?_
          refine V_L [(0, .ref m), (1, .int (nI v)), (3, .int (nI n)), (8, .int (nI f)), (9, .int (statS S c n pos f)), (10, .int (nI 0))] ⟨rfl, rfl, rfl, rfl, rfl, rfl, trivial⟩ ?_
          refine lp1 9 0 (by omega) g2 ?_
          rw [if_pos hc2]
          exact hF
      -- the status
      refine V_iload (pc' := 141) d_Md_finds_139 rfl rfl ?_
      refine V_iconst (pc' := 142) (v := (-1)) d_Md_finds_141 (by decide) rfl ?_
      refine V_icmp_ne (pc' := 145) (tgt := 157) d_Md_finds_142 (by decide) rfl (fun c142 => ?_) (fun c142 => ?_)
      · refine V_iload (pc' := 159) d_Md_finds_157 rfl rfl ?_
        refine V_iconst (pc' := 160) (v := (-1)) d_Md_finds_159 (by decide) rfl ?_
        refine V_icmp_ne (pc' := 163) (tgt := 174) d_Md_finds_160 (by decide) rfl (fun c160 => ?_) (fun c160 => ?_)
        · refine V_iconst (pc' := 175) (v := 0) d_Md_finds_174 (by decide) rfl ?_
          refine V_istore (pc' := 177) d_Md_finds_175 (by decide) rfl ?_
          refine V_L [(0, _), (1, _), (2, _), (3, _), (4, _), (8, _), (9, _)] ⟨rfl, rfl, rfl, rfl, rfl, rfl, rfl, trivial⟩ ?_
          refine V_iload_n (pc' := 178) d_Md_finds_177 rfl rfl ?_
          refine V_iconst (pc' := 179) (v := 1) d_Md_finds_178 (by decide) rfl ?_
          refine V_icmp_ne (pc' := 182) (tgt := 250) d_Md_finds_179 (by decide) rfl (fun c179 => ?_) (fun c179 => ?_)
          · have hc1 : ¬ (c = 1 ∧ n = 0) := fun q => c179 (by rw [q.1]; rfl)
            exact fin _ (by unfold statS; rw [if_neg hc1])
          · have hc1 : c = 1 := (nI_sm (by omega) (by omega) rfl).mp c179
            refine V_iload_n (pc' := 183) d_Md_finds_182 rfl rfl ?_
            refine V_if_ne (pc' := 186) (tgt := 250) d_Md_finds_183 (by decide) rfl (fun c183 => ?_) (fun c183 => ?_)
            · have hn0 : ¬ (c = 1 ∧ n = 0) := fun q => c183 (by rw [q.2]; rfl)
              exact fin _ (by unfold statS; rw [if_neg hn0])
            · have hn0 : n = 0 := (nI_sm (by omega) (by omega) rfl).mp c183
              cases pos with
              | none =>
                refine V_iload (pc' := 188) d_Md_finds_186 rfl rfl ?_
                refine V_iconst (pc' := 189) (v := (-1)) d_Md_finds_188 (by decide) rfl ?_
                refine V_icmp_eq (pc' := 192) (tgt := 250) d_Md_finds_189 (by decide) rfl (fun c189 => ?_) (fun c189 => ?_)
                · exact fin _ (by unfold statS; rw [if_pos ⟨hc1, hn0⟩])
                · exact absurd rfl c189
              | some pp =>
                have hpz := hpos pp rfl
                have e6 := w2 pp hpz
                have e7 := wl pp hpz
                have hst : statS S c n (some pp) f = (if sso S f = sso S pp then 0 else if slo S f < slo S pp then 3 else if slo S f = slo S pp then 4 else 0) := by unfold statS; rw [if_pos ⟨hc1, hn0⟩]
                refine V_iload (pc' := 188) d_Md_finds_186 rfl rfl ?_
                refine V_iconst (pc' := 189) (v := (-1)) d_Md_finds_188 (by decide) rfl ?_
                refine V_icmp_eq (pc' := 192) (tgt := 250) d_Md_finds_189 (by decide) rfl (fun c189 => ?_) (fun c189 => ?_)
                · exact absurd c189 (nI_m1 (by omega))
                · refine V_aload_n (pc' := 193) d_Md_finds_192 rfl (by first | rfl | exact isR_rf _) rfl ?_
                  refine V_getf (pc' := 196) d_Md_finds_193 fl_Md_26 rfl (by first | assumption | exact aset_self _ _ _ | exact apush_self _ _) (by rfl) ?_
                  refine V_iload (pc' := 198) d_Md_finds_196 rfl rfl ?_
                  -- at 198 iaload
                  refine V_iald (pc' := 199) d_Md_finds_198 rfl h6 rfl rfl (by omega) (arv_get (by omega)) ?_
                  refine V_aload_n (pc' := 200) d_Md_finds_199 rfl (by first | rfl | exact isR_rf _) rfl ?_
                  refine V_getf (pc' := 203) d_Md_finds_200 fl_Md_26 rfl (by first | assumption | exact aset_self _ _ _ | exact apush_self _ _) (by rfl) ?_
                  refine V_iload (pc' := 205) d_Md_finds_203 rfl rfl ?_
                  -- at 205 iaload
                  refine V_iald (pc' := 206) d_Md_finds_205 rfl h6 rfl rfl (by omega) (arv_get (by omega)) ?_
                  refine V_icmp_eq (pc' := 209) (tgt := 250) d_Md_finds_206 (by decide) rfl (fun c206 => ?_) (fun c206 => ?_)
                  · have q1 : sso S f = sso S pp := (nI_eq (by omega) (by omega)).mp c206
                    exact fin _ (by rw [hst, if_pos q1])
                  · have q1 : ¬ sso S f = sso S pp := fun q => c206 (by rw [q])
                    refine V_aload_n (pc' := 210) d_Md_finds_209 rfl (by first | rfl | exact isR_rf _) rfl ?_
                    refine V_iload (pc' := 212) d_Md_finds_210 rfl rfl ?_
                    -- at 212 invokevirtual
                    refine V_callV (pc' := 215) (As := [_]) (ci := 6) d_Md_finds_212 mv_Md_77 mw_Md_levelOf rfl rfl rfl (by simp [Value.category]) rfl (by first | assumption | exact aset_self _ _ _ | exact apush_self _ _) (c_Md_levelOf (i := f) hF.1 (by omega) e3) (by first | decide | omega) (by first | decide | omega) (by first | decide | omega) (by first | decide | omega) ?_
                    rintro _ _ ⟨rfl, rfl⟩
                    refine V_aload_n (pc' := 216) d_Md_finds_215 rfl (by first | rfl | exact isR_rf _) rfl ?_
                    refine V_iload (pc' := 218) d_Md_finds_216 rfl rfl ?_
                    -- at 218 invokevirtual
                    refine V_callV (pc' := 221) (As := [_]) (ci := 6) d_Md_finds_218 mv_Md_77 mw_Md_levelOf rfl rfl rfl (by simp [Value.category]) rfl (by first | assumption | exact aset_self _ _ _ | exact apush_self _ _) (c_Md_levelOf (i := pp) hF.1 (by omega) e6) (by first | decide | omega) (by first | decide | omega) (by first | decide | omega) (by first | decide | omega) ?_
                    rintro _ _ ⟨rfl, rfl⟩
                    refine V_icmp_ge (pc' := 224) (tgt := 228) d_Md_finds_221 (by decide) rfl (fun c221 => ?_) (fun c221 => ?_)
                    · have q2 : ¬ slo S f < slo S pp := by
                        have := (nI_leI (by omega) (by omega)).mp c221
                        omega
                      refine V_aload_n (pc' := 229) d_Md_finds_228 rfl (by first | rfl | exact isR_rf _) rfl ?_
                      refine V_iload (pc' := 231) d_Md_finds_229 rfl rfl ?_
                      -- at 231 invokevirtual
                      refine V_callV (pc' := 234) (As := [_]) (ci := 6) d_Md_finds_231 mv_Md_77 mw_Md_levelOf rfl rfl rfl (by simp [Value.category]) rfl (by first | assumption | exact aset_self _ _ _ | exact apush_self _ _) (c_Md_levelOf (i := f) hF.1 (by omega) e3) (by first | decide | omega) (by first | decide | omega) (by first | decide | omega) (by first | decide | omega) ?_
                      rintro _ _ ⟨rfl, rfl⟩
                      refine V_aload_n (pc' := 235) d_Md_finds_234 rfl (by first | rfl | exact isR_rf _) rfl ?_
                      refine V_iload (pc' := 237) d_Md_finds_235 rfl rfl ?_
                      -- at 237 invokevirtual
                      refine V_callV (pc' := 240) (As := [_]) (ci := 6) d_Md_finds_237 mv_Md_77 mw_Md_levelOf rfl rfl rfl (by simp [Value.category]) rfl (by first | assumption | exact aset_self _ _ _ | exact apush_self _ _) (c_Md_levelOf (i := pp) hF.1 (by omega) e6) (by first | decide | omega) (by first | decide | omega) (by first | decide | omega) (by first | decide | omega) ?_
                      rintro _ _ ⟨rfl, rfl⟩
                      refine V_icmp_ne (pc' := 243) (tgt := 247) d_Md_finds_240 (by decide) rfl (fun c240 => ?_) (fun c240 => ?_)
                      · refine V_iconst (pc' := 248) (v := 0) d_Md_finds_247 (by decide) rfl ?_
                        refine V_istore (pc' := 250) d_Md_finds_248 (by decide) rfl ?_
                        refine V_L [(0, _), (1, _), (2, _), (3, _), (4, _), (8, _), (9, _)] ⟨rfl, rfl, rfl, rfl, rfl, rfl, rfl, trivial⟩ ?_
                        have q3 : ¬ slo S f = slo S pp := fun q => c240 (by rw [q])
                        exact fin _ (by rw [hst, if_neg q1, if_neg q2, if_neg q3])
                      · refine V_iconst (pc' := 244) (v := 4) d_Md_finds_243 (by decide) rfl ?_
                        refine V_goto (tgt := 248) d_Md_finds_244 (by decide) ?_
                        refine V_istore (pc' := 250) d_Md_finds_248 (by decide) rfl ?_
                        refine V_L [(0, _), (1, _), (2, _), (3, _), (4, _), (8, _), (9, _)] ⟨rfl, rfl, rfl, rfl, rfl, rfl, rfl, trivial⟩ ?_
                        have q3 : slo S f = slo S pp := (nI_eq (by omega) (by omega)).mp c240
                        exact fin _ (by rw [hst, if_neg q1, if_neg q2, if_pos q3])
                    · refine V_iconst (pc' := 225) (v := 3) d_Md_finds_224 (by decide) rfl ?_
                      refine V_goto (tgt := 248) d_Md_finds_225 (by decide) ?_
                      refine V_istore (pc' := 250) d_Md_finds_248 (by decide) rfl ?_
                      refine V_L [(0, _), (1, _), (2, _), (3, _), (4, _), (8, _), (9, _)] ⟨rfl, rfl, rfl, rfl, rfl, rfl, rfl, trivial⟩ ?_
                      have q2 : slo S f < slo S pp := by
                        rcases Nat.lt_or_ge (slo S f) (slo S pp) with q | q
                        · exact q
                        · exact absurd (nI_le q (by omega)) c221
                      exact fin _ (by rw [hst, if_neg q1, if_pos q2])
        · exact absurd c160 (nI_m1 (by omega))
      · exact absurd c142 (nI_m1 (by omega))
  -- up to the search
  refine V_aload_n (pc' := 1) d_Md_finds_0 rfl (by first | rfl | exact isR_rf _) rfl ?_
  refine V_aload_n (pc' := 2) d_Md_finds_1 rfl (by first | rfl | exact isR_rf _) rfl ?_
  refine V_getf (pc' := 5) d_Md_finds_2 fl_Md_36 rfl (by first | assumption | exact aset_self _ _ _ | exact apush_self _ _) (by rfl) ?_
  refine V_iload_n (pc' := 6) d_Md_finds_5 rfl rfl ?_
  -- at 6 iaload
  refine V_iald (pc' := 7) d_Md_finds_6 rfl h11 rfl rfl (by omega) (arv_get (by omega)) ?_
  refine V_callV (pc' := 10) (As := [_]) (ci := 6) d_Md_finds_7 mv_Md_106 mw_Md_placeOf rfl rfl rfl (by simp [Value.category]) rfl (by first | assumption | exact aset_self _ _ _ | exact apush_self _ _) (c_Md_placeOf (nm := spo S v) hI w1 (by omega) (fun i hi => by have := u2 i hi; omega)) (by first | decide | omega) (by first | decide | omega) (by first | decide | omega) (by first | decide | omega) ?_
  rintro _ _ ⟨rfl, rfl⟩
  rw [epos]
  refine V_istore (pc' := 12) d_Md_finds_10 (by decide) rfl ?_
  refine V_L [(0, _), (1, _), (2, _), (3, _), (4, _)] ⟨rfl, rfl, rfl, rfl, rfl, trivial⟩ ?_
  refine V_aload_n (pc' := 13) d_Md_finds_12 rfl (by first | rfl | exact isR_rf _) rfl ?_
  refine V_aload_n (pc' := 14) d_Md_finds_13 rfl (by first | rfl | exact isR_rf _) rfl ?_
  refine V_getf (pc' := 17) d_Md_finds_14 fl_Md_39 rfl (by first | assumption | exact aset_self _ _ _ | exact apush_self _ _) (by rfl) ?_
  refine V_iload_n (pc' := 18) d_Md_finds_17 rfl rfl ?_
  -- at 18 iaload
  refine V_iald (pc' := 19) d_Md_finds_18 rfl h12 rfl rfl (by omega) (arv_get (by omega)) ?_
  refine V_callV (pc' := 22) (As := [_]) (ci := 6) d_Md_finds_19 mv_Md_106 mw_Md_placeOf rfl rfl rfl (by simp [Value.category]) rfl (by first | assumption | exact aset_self _ _ _ | exact apush_self _ _) (c_Md_placeOf (nm := spr S v) hI w1 (by omega) (fun i hi => by have := u2 i hi; omega)) (by first | decide | omega) (by first | decide | omega) (by first | decide | omega) (by first | decide | omega) ?_
  rintro _ _ ⟨rfl, rfl⟩
  rw [epar]
  rcases hc with rfl | rfl | rfl
  · refine V_istore (pc' := 24) d_Md_finds_22 (by decide) rfl ?_
    refine V_L [(0, _), (1, _), (2, _), (3, _), (4, _), (5, _)] ⟨rfl, rfl, rfl, rfl, rfl, rfl, trivial⟩ ?_
    refine V_iload_n (pc' := 25) d_Md_finds_24 rfl rfl ?_
    refine V_iconst (pc' := 26) (v := 2) d_Md_finds_25 (by decide) rfl ?_
    refine V_icmp_ne (pc' := 29) (tgt := 37) d_Md_finds_26 (by decide) rfl (fun c26 => ?_) (fun c26 => ?_)
    · refine V_iload_n (pc' := 38) d_Md_finds_37 rfl rfl ?_
      refine V_iconst (pc' := 39) (v := 2) d_Md_finds_38 (by decide) rfl ?_
      refine V_icmp_ne (pc' := 42) (tgt := 69) d_Md_finds_39 (by decide) rfl (fun c39 => ?_) (fun c39 => ?_)
      · refine V_iconst (pc' := 70) (v := 0) d_Md_finds_69 (by decide) rfl ?_
        refine V_istore (pc' := 72) d_Md_finds_70 (by decide) rfl ?_
        refine V_L [(0, _), (1, _), (2, _), (3, _), (4, _), (5, _), (6, _)] ⟨rfl, rfl, rfl, rfl, rfl, rfl, rfl, trivial⟩ ?_
        refine V_iload_n (pc' := 73) d_Md_finds_72 rfl rfl ?_
        refine V_if_ne (pc' := 76) (tgt := 80) d_Md_finds_73 (by decide) rfl (fun c73 => ?_) (fun c73 => ?_)
        · exact absurd rfl c73
        · refine V_iconst (pc' := 77) (v := 0) d_Md_finds_76 (by decide) rfl ?_
          refine V_goto (tgt := 108) d_Md_finds_77 (by decide) ?_
          refine V_istore (pc' := 110) d_Md_finds_108 (by decide) rfl ?_
          refine V_L [(0, _), (1, _), (2, _), (3, _), (4, _), (5, _), (6, _), (7, _)] ⟨rfl, rfl, rfl, rfl, rfl, rfl, rfl, rfl, trivial⟩ ?_
          refine V_aload_n (pc' := 111) d_Md_finds_110 rfl (by first | rfl | exact isR_rf _) rfl ?_
          refine V_iload (pc' := 113) d_Md_finds_111 rfl rfl ?_
          refine V_iload_n (pc' := 114) d_Md_finds_113 rfl rfl ?_
          refine V_iconst (pc' := 115) (v := 2) d_Md_finds_114 (by decide) rfl ?_
          refine V_icmp_ne (pc' := 118) (tgt := 127) d_Md_finds_115 (by decide) rfl (fun c115 => ?_) (fun c115 => ?_)
          · refine V_aload_n (pc' := 128) d_Md_finds_127 rfl (by first | rfl | exact isR_rf _) rfl ?_
            refine V_getf (pc' := 131) d_Md_finds_128 fl_Md_74 rfl (by first | assumption | exact aset_self _ _ _ | exact apush_self _ _) (by rfl) ?_
            refine V_iload_n (pc' := 132) d_Md_finds_131 rfl rfl ?_
            refine V_iload (pc' := 134) d_Md_finds_132 rfl rfl ?_
            -- at 134 invokevirtual
            refine V_callV (pc' := 137) (As := [_, _, _, _]) (ci := 6) d_Md_finds_134 mv_Md_109 mw_Md_first rfl rfl rfl (by simp [Value.category]) rfl (by first | assumption | exact aset_self _ _ _ | exact apush_self _ _) (c_Md_first (a := 0) (b := ssz S) hI hw hp (by omega) (Nat.le_refl _) hpos) (by first | decide | omega) (by first | decide | omega) (by first | decide | omega) (by first | decide | omega) ?_
            rintro _ _ ⟨rfl, rfl⟩
            refine V_istore (pc' := 139) d_Md_finds_137 (by decide) rfl ?_
            refine V_L [(0, _), (1, _), (2, _), (3, _), (4, _), (5, _), (6, _), (7, _), (8, _)] ⟨rfl, rfl, rfl, rfl, rfl, rfl, rfl, rfl, rfl, trivial⟩ ?_
            refine V_L [(0, .ref m), (1, .int (nI v)), (2, .int (nI 0)), (3, .int (nI n)), (4, .int (oI pos)), (8, .int (oI (frst S 0 (ssz S) n pos)))] ⟨rfl, rfl, rfl, rfl, rfl, rfl, trivial⟩ ?_
            exact tail _ rfl (fun q => absurd q.1 (by decide))
          · exact absurd c115 (by decide)
      · exact absurd c39 (by decide)
    · exact absurd c26 (by decide)
  · refine V_istore (pc' := 24) d_Md_finds_22 (by decide) rfl ?_
    refine V_L [(0, _), (1, _), (2, _), (3, _), (4, _), (5, _)] ⟨rfl, rfl, rfl, rfl, rfl, rfl, trivial⟩ ?_
    refine V_iload_n (pc' := 25) d_Md_finds_24 rfl rfl ?_
    refine V_iconst (pc' := 26) (v := 2) d_Md_finds_25 (by decide) rfl ?_
    refine V_icmp_ne (pc' := 29) (tgt := 37) d_Md_finds_26 (by decide) rfl (fun c26 => ?_) (fun c26 => ?_)
    · refine V_iload_n (pc' := 38) d_Md_finds_37 rfl rfl ?_
      refine V_iconst (pc' := 39) (v := 2) d_Md_finds_38 (by decide) rfl ?_
      refine V_icmp_ne (pc' := 42) (tgt := 69) d_Md_finds_39 (by decide) rfl (fun c39 => ?_) (fun c39 => ?_)
      · refine V_iconst (pc' := 70) (v := 0) d_Md_finds_69 (by decide) rfl ?_
        refine V_istore (pc' := 72) d_Md_finds_70 (by decide) rfl ?_
        refine V_L [(0, _), (1, _), (2, _), (3, _), (4, _), (5, _), (6, _)] ⟨rfl, rfl, rfl, rfl, rfl, rfl, rfl, trivial⟩ ?_
        refine V_iload_n (pc' := 73) d_Md_finds_72 rfl rfl ?_
        refine V_if_ne (pc' := 76) (tgt := 80) d_Md_finds_73 (by decide) rfl (fun c73 => ?_) (fun c73 => ?_)
        · refine V_iload_n (pc' := 81) d_Md_finds_80 rfl rfl ?_
          refine V_iconst (pc' := 82) (v := 1) d_Md_finds_81 (by decide) rfl ?_
          refine V_icmp_ne (pc' := 85) (tgt := 92) d_Md_finds_82 (by decide) rfl (fun c82 => ?_) (fun c82 => ?_)
          · exact absurd rfl c82
          · refine V_iload (pc' := 87) d_Md_finds_85 rfl rfl ?_
            refine V_iconst (pc' := 88) (v := 1) d_Md_finds_87 (by decide) rfl ?_
            refine V_iadd (pc' := 89) d_Md_finds_88 rfl ?_
            rw [oI_nx]
            refine V_goto (tgt := 108) d_Md_finds_89 (by decide) ?_
            refine V_istore (pc' := 110) d_Md_finds_108 (by decide) rfl ?_
            refine V_L [(0, _), (1, _), (2, _), (3, _), (4, _), (5, _), (6, _), (7, _)] ⟨rfl, rfl, rfl, rfl, rfl, rfl, rfl, rfl, trivial⟩ ?_
            refine V_aload_n (pc' := 111) d_Md_finds_110 rfl (by first | rfl | exact isR_rf _) rfl ?_
            refine V_iload (pc' := 113) d_Md_finds_111 rfl rfl ?_
            refine V_iload_n (pc' := 114) d_Md_finds_113 rfl rfl ?_
            refine V_iconst (pc' := 115) (v := 2) d_Md_finds_114 (by decide) rfl ?_
            refine V_icmp_ne (pc' := 118) (tgt := 127) d_Md_finds_115 (by decide) rfl (fun c115 => ?_) (fun c115 => ?_)
            · refine V_aload_n (pc' := 128) d_Md_finds_127 rfl (by first | rfl | exact isR_rf _) rfl ?_
              refine V_getf (pc' := 131) d_Md_finds_128 fl_Md_74 rfl (by first | assumption | exact aset_self _ _ _ | exact apush_self _ _) (by rfl) ?_
              refine V_iload_n (pc' := 132) d_Md_finds_131 rfl rfl ?_
              refine V_iload (pc' := 134) d_Md_finds_132 rfl rfl ?_
              -- at 134 invokevirtual
              have hnx : nx pos ≤ 1001 := by
                cases pos with
                | none => exact Nat.zero_le _
                | some j => have := hpos j rfl; show j + 1 ≤ 1001; omega
              refine V_callV (pc' := 137) (As := [_, _, _, _]) (ci := 6) d_Md_finds_134 mv_Md_109 mw_Md_first rfl rfl rfl (by simp [Value.category]) rfl (by first | assumption | exact aset_self _ _ _ | exact apush_self _ _) (c_Md_first (a := nx pos) (b := ssz S) hI hw hp hnx (Nat.le_refl _) hpos) (by first | decide | omega) (by first | decide | omega) (by first | decide | omega) (by first | decide | omega) ?_
              rintro _ _ ⟨rfl, rfl⟩
              refine V_istore (pc' := 139) d_Md_finds_137 (by decide) rfl ?_
              refine V_L [(0, _), (1, _), (2, _), (3, _), (4, _), (5, _), (6, _), (7, _), (8, _)] ⟨rfl, rfl, rfl, rfl, rfl, rfl, rfl, rfl, rfl, trivial⟩ ?_
              refine V_L [(0, .ref m), (1, .int (nI v)), (2, .int (nI 1)), (3, .int (nI n)), (4, .int (oI pos)), (8, .int (oI (frst S (nx pos) (ssz S) n pos)))] ⟨rfl, rfl, rfl, rfl, rfl, rfl, trivial⟩ ?_
              exact tail _ rfl (fun q => absurd q.1 (by decide))
            · exact absurd c115 (by decide)
        · exact absurd c73 (by decide)
      · exact absurd c39 (by decide)
    · exact absurd c26 (by decide)
  · refine V_istore (pc' := 24) d_Md_finds_22 (by decide) rfl ?_
    refine V_L [(0, _), (1, _), (2, _), (3, _), (4, _), (5, _)] ⟨rfl, rfl, rfl, rfl, rfl, rfl, trivial⟩ ?_
    refine V_iload_n (pc' := 25) d_Md_finds_24 rfl rfl ?_
    refine V_iconst (pc' := 26) (v := 2) d_Md_finds_25 (by decide) rfl ?_
    refine V_icmp_ne (pc' := 29) (tgt := 37) d_Md_finds_26 (by decide) rfl (fun c26 => ?_) (fun c26 => ?_)
    · exact absurd rfl c26
    · cases par with
      | none =>
        refine V_iload (pc' := 31) d_Md_finds_29 rfl rfl ?_
        refine V_iconst (pc' := 32) (v := (-1)) d_Md_finds_31 (by decide) rfl ?_
        refine V_icmp_ne (pc' := 35) (tgt := 37) d_Md_finds_32 (by decide) rfl (fun c32 => ?_) (fun c32 => ?_)
        · exact absurd rfl c32
        · refine V_iconst (pc' := 36) (v := 5) d_Md_finds_35 (by decide) rfl ?_
          refine V_iret d_Md_finds_36 rfl (by first | decide | omega) (by first | decide | omega) ?_
          have : findsS S v 2 n = (5, S) := by unfold findsS; rw [epar, if_pos ⟨rfl, rfl⟩]
          rw [this]; exact ⟨rfl, hF⟩
      | some k =>
        have hkz := hpar k rfl
        have e3 := w2 k hkz
        have e4 := wl k hkz
        have b1 := bhd_lt S k
        have b2 := bhd_ub S hkz
        have srch : ∀ a : Nat, a = fromS S 2 pos (some k) → a ≤ 1001 → V x "PathCallsModel" b_Md_finds 12 (Option.some .int) false (rmd 5 0 0) 0 0 (PM h m A (findsS S v 2 n)) 108 [(0, .ref m), (1, .int (nI v)), (2, .int (nI 2)), (3, .int (nI n)), (4, .int (oI pos)), (5, .int (nI k))] [.int (nI a)] h 0 0 := by
          intro a ha ha2
          refine V_istore (pc' := 110) d_Md_finds_108 (by decide) rfl ?_
          refine V_L [(0, _), (1, _), (2, _), (3, _), (4, _), (5, _), (7, _)] ⟨rfl, rfl, rfl, rfl, rfl, rfl, rfl, trivial⟩ ?_
          refine V_aload_n (pc' := 111) d_Md_finds_110 rfl (by first | rfl | exact isR_rf _) rfl ?_
          refine V_iload (pc' := 113) d_Md_finds_111 rfl rfl ?_
          refine V_iload_n (pc' := 114) d_Md_finds_113 rfl rfl ?_
          refine V_iconst (pc' := 115) (v := 2) d_Md_finds_114 (by decide) rfl ?_
          refine V_icmp_ne (pc' := 118) (tgt := 127) d_Md_finds_115 (by decide) rfl (fun c115 => ?_) (fun c115 => ?_)
          · exact absurd rfl c115
          · refine V_aload_n (pc' := 119) d_Md_finds_118 rfl (by first | rfl | exact isR_rf _) rfl ?_
            refine V_iload (pc' := 121) d_Md_finds_119 rfl rfl ?_
            -- at 121 invokevirtual
            refine V_callV (pc' := 124) (As := [_]) (ci := 6) d_Md_finds_121 mv_Md_85 mw_Md_behind rfl rfl rfl (by simp [Value.category]) rfl (by first | assumption | exact aset_self _ _ _ | exact apush_self _ _) (c_Md_behind (i := k) hI w1 w2 wl hkz) (by first | decide | omega) (by first | decide | omega) (by first | decide | omega) (by first | decide | omega) ?_
            rintro _ _ ⟨rfl, rfl⟩
            refine V_goto (tgt := 131) d_Md_finds_124 (by decide) ?_
            refine V_iload_n (pc' := 132) d_Md_finds_131 rfl rfl ?_
            refine V_iload (pc' := 134) d_Md_finds_132 rfl rfl ?_
            -- at 134 invokevirtual
            refine V_callV (pc' := 137) (As := [_, _, _, _]) (ci := 6) d_Md_finds_134 mv_Md_109 mw_Md_first rfl rfl rfl (by simp [Value.category]) rfl (by first | assumption | exact aset_self _ _ _ | exact apush_self _ _) (c_Md_first (a := a) (b := bhd S k) hI hw hp ha2 b2 hpos) (by first | decide | omega) (by first | decide | omega) (by first | decide | omega) (by first | decide | omega) ?_
            rintro _ _ ⟨rfl, rfl⟩
            refine V_istore (pc' := 139) d_Md_finds_137 (by decide) rfl ?_
            refine V_L [(0, _), (1, _), (2, _), (3, _), (4, _), (5, _), (7, _), (8, _)] ⟨rfl, rfl, rfl, rfl, rfl, rfl, rfl, rfl, trivial⟩ ?_
            refine V_L [(0, .ref m), (1, .int (nI v)), (2, .int (nI 2)), (3, .int (nI n)), (4, .int (oI pos)), (8, .int (oI (frst S a (bhd S k) n pos)))] ⟨rfl, rfl, rfl, rfl, rfl, rfl, trivial⟩ ?_
            exact tail _ (by rw [← ha]; rfl) (fun q => by cases q.2)
        have hnx : nx pos ≤ 1001 := by
          cases pos with
          | none => exact Nat.zero_le _
          | some j => have := hpos j rfl; show j + 1 ≤ 1001; omega
        have cut : ∀ b : Bool, b = wth S pos (some k) → V x "PathCallsModel" b_Md_finds 12 (Option.some .int) false (rmd 5 0 0) 0 0 (PM h m A (findsS S v 2 n)) 70 [(0, .ref m), (1, .int (nI v)), (2, .int (nI 2)), (3, .int (nI n)), (4, .int (oI pos)), (5, .int (nI k))] [.int (ob b)] h 0 0 := by
          intro b hb
          refine V_istore (pc' := 72) d_Md_finds_70 (by decide) rfl ?_
          refine V_L [(0, _), (1, _), (2, _), (3, _), (4, _), (5, _), (6, _)] ⟨rfl, rfl, rfl, rfl, rfl, rfl, rfl, trivial⟩ ?_
          refine V_iload_n (pc' := 73) d_Md_finds_72 rfl rfl ?_
          refine V_if_ne (pc' := 76) (tgt := 80) d_Md_finds_73 (by decide) rfl (fun c73 => ?_) (fun c73 => ?_)
          · refine V_iload_n (pc' := 81) d_Md_finds_80 rfl rfl ?_
            refine V_iconst (pc' := 82) (v := 1) d_Md_finds_81 (by decide) rfl ?_
            refine V_icmp_ne (pc' := 85) (tgt := 92) d_Md_finds_82 (by decide) rfl (fun c82 => ?_) (fun c82 => ?_)
            · refine V_iload (pc' := 94) d_Md_finds_92 rfl rfl ?_
              refine V_if_eq (pc' := 97) (tgt := 104) d_Md_finds_94 (by decide) rfl (fun c94 => ?_) (fun c94 => ?_)
              · refine V_iload (pc' := 106) d_Md_finds_104 rfl rfl ?_
                refine V_iconst (pc' := 107) (v := 1) d_Md_finds_106 (by decide) rfl ?_
                refine V_iadd (pc' := 108) d_Md_finds_107 rfl ?_
                rw [nI_1]
                refine V_L [(0, .ref m), (1, .int (nI v)), (2, .int (nI 2)), (3, .int (nI n)), (4, .int (oI pos)), (5, .int (nI k))] ⟨rfl, rfl, rfl, rfl, rfl, rfl, trivial⟩ ?_
                refine srch (k + 1) ?_ (by omega)
                unfold fromS
                rw [if_neg (by decide), if_neg (by decide), if_neg (by rw [← hb, ob_0.mp c94]; decide)]; rfl
              · refine V_iload (pc' := 99) d_Md_finds_97 rfl rfl ?_
                refine V_iconst (pc' := 100) (v := 1) d_Md_finds_99 (by decide) rfl ?_
                refine V_iadd (pc' := 101) d_Md_finds_100 rfl ?_
                rw [oI_nx]
                refine V_goto (tgt := 108) d_Md_finds_101 (by decide) ?_
                refine V_L [(0, .ref m), (1, .int (nI v)), (2, .int (nI 2)), (3, .int (nI n)), (4, .int (oI pos)), (5, .int (nI k))] ⟨rfl, rfl, rfl, rfl, rfl, rfl, trivial⟩ ?_
                refine srch (nx pos) ?_ hnx
                unfold fromS
                rw [if_neg (by decide), if_neg (by decide), if_pos (by rw [← hb, ob_nt c94])]
            · exact absurd c82 (by decide)
          · exact absurd c73 (by decide)
        have go37 : V x "PathCallsModel" b_Md_finds 12 (Option.some .int) false (rmd 5 0 0) 0 0 (PM h m A (findsS S v 2 n)) 37 [(0, .ref m), (1, .int (nI v)), (2, .int (nI 2)), (3, .int (nI n)), (4, .int (oI pos)), (5, .int (nI k))] [] h 0 0 := by
          refine V_iload_n (pc' := 38) d_Md_finds_37 rfl rfl ?_
          refine V_iconst (pc' := 39) (v := 2) d_Md_finds_38 (by decide) rfl ?_
          refine V_icmp_ne (pc' := 42) (tgt := 69) d_Md_finds_39 (by decide) rfl (fun c39 => ?_) (fun c39 => ?_)
          · exact absurd rfl c39
          · cases pos with
            | none =>
              refine V_iload (pc' := 44) d_Md_finds_42 rfl rfl ?_
              refine V_iconst (pc' := 45) (v := (-1)) d_Md_finds_44 (by decide) rfl ?_
              refine V_icmp_eq (pc' := 48) (tgt := 69) d_Md_finds_45 (by decide) rfl (fun c45 => ?_) (fun c45 => ?_)
              · refine V_iconst (pc' := 70) (v := 0) d_Md_finds_69 (by decide) rfl ?_
                exact cut false rfl
              · exact absurd rfl c45
            | some i =>
              have hiz := hpos i rfl
              have hk5 := hso k hkz
              refine V_iload (pc' := 44) d_Md_finds_42 rfl rfl ?_
              refine V_iconst (pc' := 45) (v := (-1)) d_Md_finds_44 (by decide) rfl ?_
              refine V_icmp_eq (pc' := 48) (tgt := 69) d_Md_finds_45 (by decide) rfl (fun c45 => ?_) (fun c45 => ?_)
              · exact absurd c45 (nI_m1 (by omega))
              · refine V_aload_n (pc' := 49) d_Md_finds_48 rfl (by first | rfl | exact isR_rf _) rfl ?_
                refine V_iload (pc' := 51) d_Md_finds_49 rfl rfl ?_
                refine V_aload_n (pc' := 52) d_Md_finds_51 rfl (by first | rfl | exact isR_rf _) rfl ?_
                refine V_iload (pc' := 54) d_Md_finds_52 rfl rfl ?_
                -- at 54 invokevirtual
                refine V_callV (pc' := 57) (As := [_]) (ci := 6) d_Md_finds_54 mv_Md_77 mw_Md_levelOf rfl rfl rfl (by simp [Value.category]) rfl (by first | assumption | exact aset_self _ _ _ | exact apush_self _ _) (c_Md_levelOf (i := k) hI (by omega) e3) (by first | decide | omega) (by first | decide | omega) (by first | decide | omega) (by first | decide | omega) ?_
                rintro _ _ ⟨rfl, rfl⟩
                refine V_callV (pc' := 60) (As := [_, _]) (ci := 6) d_Md_finds_57 mv_Md_81 mw_Md_over rfl rfl rfl (by simp [Value.category]) rfl (by first | assumption | exact aset_self _ _ _ | exact apush_self _ _) (c_Md_over (o := some i) (l := slo S k) hI w1 w2 wl hpos (by omega) (w4 (sso S k) hk5.1 hk5.2)) (by first | decide | omega) (by first | decide | omega) (by first | decide | omega) (by first | decide | omega) ?_
                rintro _ _ ⟨rfl, rfl⟩
                have hov : ∀ j, ovr S (some i) (slo S k) = some j → j < ssz S := by
                  intro j hj
                  unfold ovr at hj
                  dsimp only at hj
                  split at hj
                  · cases hj
                  · cases hj
                    exact Nat.lt_of_le_of_lt (ov_le i) hiz
                refine V_iload (pc' := 62) d_Md_finds_60 rfl rfl ?_
                refine V_icmp_ne (pc' := 65) (tgt := 69) d_Md_finds_62 (by decide) rfl (fun c62 => ?_) (fun c62 => ?_)
                · refine V_iconst (pc' := 70) (v := 0) d_Md_finds_69 (by decide) rfl ?_
                  refine cut false ?_
                  have q : ¬ ovr S (some i) (slo S k) = some k := fun q => c62 (by rw [q]; rfl)
                  unfold wth
                  exact (decide_eq_false q).symm
                · refine V_iconst (pc' := 66) (v := 1) d_Md_finds_65 (by decide) rfl ?_
                  refine V_goto (tgt := 70) d_Md_finds_66 (by decide) ?_
                  refine cut true ?_
                  have q : ovr S (some i) (slo S k) = some k := by
                    cases e : ovr S (some i) (slo S k) with
                    | none => rw [e] at c62; exact absurd c62.symm (nI_m1 (by omega))
                    | some j =>
                      rw [e] at c62
                      have := hov j e
                      rw [(nI_eq (by omega) (by omega)).mp c62]
                  unfold wth
                  exact (decide_eq_true q).symm
        refine V_iload (pc' := 31) d_Md_finds_29 rfl rfl ?_
        refine V_iconst (pc' := 32) (v := (-1)) d_Md_finds_31 (by decide) rfl ?_
        refine V_icmp_ne (pc' := 35) (tgt := 37) d_Md_finds_32 (by decide) rfl (fun c32 => ?_) (fun c32 => ?_)
        · exact go37
        · exact absurd c32 (nI_m1 (by omega))
end M7
