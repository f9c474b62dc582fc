-- the reference's public methods, 2
def VW (S : PS) : Prop := svc S ≤ 9 ∧ (∀ i, i < ssz S → snm S i ≤ 1000) ∧ (∀ j, j ≤ 9 → spo S j ≤ 1000 ∧ spr S j ≤ 1000)
section M6
variable {x : CX} {h : AH} {m : Nat} {A : Nat → Nat} {S : PS}
theorem ki_of {n : Nat} {k : Int32} (h1 : ¬ k < 1) (h2 : k ≤ nI n) : ∃ j, ki n k = some j := by
  cases e : ki n k with
  | none => exact absurd ⟨by have := mt lt_one.mpr h1; simpa using this, h2⟩ (ki_none.mp e)
  | some j => exact ⟨j, rfl⟩
theorem c_Md_replace (hI : IM h m A S) (hw : RW S) (hv : VW S) (hh : ∀ j, 1 ≤ j → j ≤ svc S → shd S j = true → ∃ k, plc S (spo S j) = some k) (v : Int32) (w : Int64) : Ct x y_Md_replace b_Md_replace 4 (some .int) 1 0 0 [.ref m, .int v, .long w] h (PM h m A (replS S v w)) := by
  have hF : IF h h m A S := ⟨hI, FrM_rf⟩
  obtain ⟨hm, h0, h1, h2, h3, h5, h6, h7, h8, h11, h12, h13, h15, h16, h17, h18, h20, -⟩ := id hI
  obtain ⟨u1, u2, u3⟩ := id hv
  have w1 := hw.1
  refine Ct_of (own := "PathCallsModel") (ini := false) rfl rfl (Nat.le_of_ble_eq_true rfl) (fun q => by cases q) ?_
  have bad : ki (svc S) v = none → V x "PathCallsModel" b_Md_replace 4 (Option.some .int) false (rmd 1 0 0) 0 0 (PM h m A (replS S v w)) 13 [(0, .ref m), (1, .int v), (2, .long w)] [] h 0 0 := by
    intro he
    refine V_iconst (pc' := 14) (v := (-1)) d_Md_replace_13 (by decide) rfl ?_
    refine V_iret d_Md_replace_14 rfl (by first | decide | omega) (by first | decide | omega) ?_
    unfold replS
    rw [he]; exact ⟨rfl, hF⟩
  refine V_iload_n (pc' := 1) d_Md_replace_0 rfl rfl ?_
  refine V_iconst (pc' := 2) (v := 1) d_Md_replace_1 (by decide) rfl ?_
  refine V_icmp_lt (pc' := 5) (tgt := 13) d_Md_replace_2 (by decide) rfl (fun c2 => ?_) (fun c2 => ?_)
  · exact bad (ki_none.mpr (fun q => lt_one.mp c2 q.1))
  · refine V_iload_n (pc' := 6) d_Md_replace_5 rfl rfl ?_
    refine V_aload_n (pc' := 7) d_Md_replace_6 rfl (by first | rfl | exact isR_rf _) rfl ?_
    refine V_getf (pc' := 10) d_Md_replace_7 fl_Md_68 rfl (by first | assumption | exact aset_self _ _ _ | exact apush_self _ _) (by rfl) ?_
    refine V_icmp_le (pc' := 13) (tgt := 15) d_Md_replace_10 (by decide) rfl (fun c10 => ?_) (fun c10 => ?_)
    · obtain ⟨j, ej⟩ := ki_of c2 c10
      obtain ⟨e1, e2, e3⟩ := ki_some (by omega) ej
      subst e1
      obtain ⟨g1, g2⟩ := u3 j (by omega)
      refine V_aload_n (pc' := 16) d_Md_replace_15 rfl (by first | rfl | exact isR_rf _) rfl ?_
      refine V_getf (pc' := 19) d_Md_replace_16 fl_Md_42 rfl (by first | assumption | exact aset_self _ _ _ | exact apush_self _ _) (by rfl) ?_
      refine V_iload_n (pc' := 20) d_Md_replace_19 rfl rfl ?_
      -- at 20 baload
      refine V_zald (pc' := 21) d_Md_replace_20 rfl h13 rfl rfl (by omega) (arv_get (by omega)) ?_
      refine V_if_ne (pc' := 24) (tgt := 27) d_Md_replace_21 (by decide) rfl (fun c21 => ?_) (fun c21 => ?_)
      · have hs := ob_nt c21
        obtain ⟨k, ek⟩ := hh j e2 e3 hs
        have hkz := (plc_lt ek).1
        refine V_aload_n (pc' := 28) d_Md_replace_27 rfl (by first | rfl | exact isR_rf _) rfl ?_
        refine V_getf (pc' := 31) d_Md_replace_28 fl_Md_33 rfl (by first | assumption | exact aset_self _ _ _ | exact apush_self _ _) (by rfl) ?_
        refine V_aload_n (pc' := 32) d_Md_replace_31 rfl (by first | rfl | exact isR_rf _) rfl ?_
        refine V_aload_n (pc' := 33) d_Md_replace_32 rfl (by first | rfl | exact isR_rf _) rfl ?_
        refine V_getf (pc' := 36) d_Md_replace_33 fl_Md_36 rfl (by first | assumption | exact aset_self _ _ _ | exact apush_self _ _) (by rfl) ?_
        refine V_iload_n (pc' := 37) d_Md_replace_36 rfl rfl ?_
        -- at 37 iaload
        refine V_iald (pc' := 38) d_Md_replace_37 rfl h11 rfl rfl (by omega) (arv_get (by omega)) ?_
        refine V_callV (pc' := 41) (As := [_]) (ci := 6) d_Md_replace_38 mv_Md_106 mw_Md_placeOf rfl rfl rfl (by simp [Value.category]) rfl (by first | assumption | exact aset_self _ _ _ | exact apush_self _ _) (c_Md_placeOf (nm := spo S j) hI w1 (by omega) (fun i hi => by have := u2 i hi; omega)) (by first | decide | omega) (by first | decide | omega) (by first | decide | omega) (by first | decide | omega) ?_
        rintro _ _ ⟨rfl, rfl⟩
        rw [ek]
        refine V_lload_n (pc' := 42) d_Md_replace_41 rfl rfl ?_
        -- at 42 lastore
        refine V_last (pc' := 43) d_Md_replace_42 rfl h8 rfl (rfl : _ = nI k) (by omega) (arv_get (by omega)) ?_
        refine V_ex (fun g => IF _ g m A _) (IF_uvl hF k w) (fun g1 hF => ?_)
        obtain ⟨hm, h0, h1, h2, h3, h5, h6, h7, h8, h11, h12, h13, h15, h16, h17, h18, h20, -⟩ := id hF.1
        refine V_aload_n (pc' := 44) d_Md_replace_43 rfl (by first | rfl | exact isR_rf _) rfl ?_
        refine V_getf (pc' := 47) d_Md_replace_44 fl_Md_42 rfl (by first | assumption | exact aset_self _ _ _ | exact apush_self _ _) (by rfl) ?_
        refine V_iload_n (pc' := 48) d_Md_replace_47 rfl rfl ?_
        refine V_iconst (pc' := 49) (v := 0) d_Md_replace_48 (by decide) rfl ?_
        -- at 49 bastore
        refine V_zast (pc' := 50) d_Md_replace_49 rfl h13 rfl rfl (by omega) (arv_get (by omega)) rfl ?_
        refine V_ex (fun g => IF _ g m A _) (IF_uhd hF j false) (fun g2 hF => ?_)
        obtain ⟨hm, h0, h1, h2, h3, h5, h6, h7, h8, h11, h12, h13, h15, h16, h17, h18, h20, -⟩ := id hF.1
        refine V_iconst (pc' := 51) (v := 0) d_Md_replace_50 (by decide) rfl ?_
        refine V_iret d_Md_replace_51 rfl (by first | decide | omega) (by first | decide | omega) ?_
        unfold replS
        rw [ej]
        dsimp only
        rw [if_pos hs, ek]
        exact ⟨rfl, hF⟩
      · refine V_bipush (pc' := 26) (v := 8) d_Md_replace_24 (by decide) rfl ?_
        refine V_iret d_Md_replace_26 rfl (by first | decide | omega) (by first | decide | omega) ?_
        have hs : ¬ shd S j = true := by rw [ob_0.mp c21]; decide
        unfold replS
        rw [ej]
        dsimp only
        rw [if_neg hs]
        exact ⟨rfl, hF⟩
    · exact bad (ki_none.mpr (fun q => absurd q.2 c10))
theorem c_Md_position (hI : IM h m A S) (hw : RW S) (hv : VW S) (v w : Int32) : Cr x y_Md_position b_Md_position 5 (some .int) 1 [.ref m, .int v, .int w] h (.int (posS S v w)) := by
  obtain ⟨hm, h0, h1, h2, h3, h5, h6, h7, h8, h11, h12, h13, h15, h16, h17, h18, h20, -⟩ := id hI
  obtain ⟨u1, u2, u3⟩ := id hv
  have w1 := hw.1
  have w2 := hw.2.1
  refine Ct_of (own := "PathCallsModel") (ini := false) rfl rfl (Nat.le_of_ble_eq_true rfl) (fun q => by cases q) ?_
  have bad : ki (svc S) v = none → V x "PathCallsModel" b_Md_position 5 (Option.some .int) false (rmd 1 0 0) 0 0 (fun r h' => r = some (.int (posS S v w)) ∧ h = h') 13 [(0, .ref m), (1, .int v), (2, .int w)] [] h 0 0 := by
    intro he
    refine V_iconst (pc' := 14) (v := (-1)) d_Md_position_13 (by decide) rfl ?_
    refine V_iret d_Md_position_14 rfl (by first | decide | omega) (by first | decide | omega) ?_
    unfold posS
    rw [he]; exact ⟨rfl, rfl⟩
  refine V_iload_n (pc' := 1) d_Md_position_0 rfl rfl ?_
  refine V_iconst (pc' := 2) (v := 1) d_Md_position_1 (by decide) rfl ?_
  refine V_icmp_lt (pc' := 5) (tgt := 13) d_Md_position_2 (by decide) rfl (fun c2 => ?_) (fun c2 => ?_)
  · exact bad (ki_none.mpr (fun q => lt_one.mp c2 q.1))
  · refine V_iload_n (pc' := 6) d_Md_position_5 rfl rfl ?_
    refine V_aload_n (pc' := 7) d_Md_position_6 rfl (by first | rfl | exact isR_rf _) rfl ?_
    refine V_getf (pc' := 10) d_Md_position_7 fl_Md_68 rfl (by first | assumption | exact aset_self _ _ _ | exact apush_self _ _) (by rfl) ?_
    refine V_icmp_le (pc' := 13) (tgt := 15) d_Md_position_10 (by decide) rfl (fun c10 => ?_) (fun c10 => ?_)
    · obtain ⟨j, ej⟩ := ki_of c2 c10
      obtain ⟨e1, e2, e3⟩ := ki_some (by omega) ej
      subst e1
      obtain ⟨g1, g2⟩ := u3 j (by omega)
      refine V_aload_n (pc' := 16) d_Md_position_15 rfl (by first | rfl | exact isR_rf _) rfl ?_
      refine V_aload_n (pc' := 17) d_Md_position_16 rfl (by first | rfl | exact isR_rf _) rfl ?_
      refine V_getf (pc' := 20) d_Md_position_17 fl_Md_36 rfl (by first | assumption | exact aset_self _ _ _ | exact apush_self _ _) (by rfl) ?_
      refine V_iload_n (pc' := 21) d_Md_position_20 rfl rfl ?_
      -- at 21 iaload
      refine V_iald (pc' := 22) d_Md_position_21 rfl h11 rfl rfl (by omega) (arv_get (by omega)) ?_
      refine V_callV (pc' := 25) (As := [_]) (ci := 6) d_Md_position_22 mv_Md_106 mw_Md_placeOf rfl rfl rfl (by simp [Value.category]) rfl (by first | assumption | exact aset_self _ _ _ | exact apush_self _ _) (c_Md_placeOf (nm := spo S j) hI w1 (by omega) (fun i hi => by have := u2 i hi; omega)) (by first | decide | omega) (by first | decide | omega) (by first | decide | omega) (by first | decide | omega) ?_
      rintro _ _ ⟨rfl, rfl⟩
      refine V_istore_n (pc' := 26) d_Md_position_25 (by decide) rfl ?_
      refine V_aload_n (pc' := 27) d_Md_position_26 rfl (by first | rfl | exact isR_rf _) rfl ?_
      refine V_aload_n (pc' := 28) d_Md_position_27 rfl (by first | rfl | exact isR_rf _) rfl ?_
      refine V_getf (pc' := 31) d_Md_position_28 fl_Md_39 rfl (by first | assumption | exact aset_self _ _ _ | exact apush_self _ _) (by rfl) ?_
      refine V_iload_n (pc' := 32) d_Md_position_31 rfl rfl ?_
      -- at 32 iaload
      refine V_iald (pc' := 33) d_Md_position_32 rfl h12 rfl rfl (by omega) (arv_get (by omega)) ?_
      refine V_callV (pc' := 36) (As := [_]) (ci := 6) d_Md_position_33 mv_Md_106 mw_Md_placeOf rfl rfl rfl (by simp [Value.category]) rfl (by first | assumption | exact aset_self _ _ _ | exact apush_self _ _) (c_Md_placeOf (nm := spr S j) hI w1 (by omega) (fun i hi => by have := u2 i hi; omega)) (by first | decide | omega) (by first | decide | omega) (by first | decide | omega) (by first | decide | omega) ?_
      rintro _ _ ⟨rfl, rfl⟩
      cases ew : kz 3 w with
      | none =>
        refine V_istore (pc' := 38) d_Md_position_36 (by decide) rfl ?_
        refine V_iload_n (pc' := 39) d_Md_position_38 rfl rfl ?_
        -- at 39 tableswitch
        refine V_tableOut (tgt := 132) d_Md_position_39 ?_ (by decide) ?_
        · rcases kz_none.mp ew with q | q
          · exact Or.inl (Int32.lt_iff_toInt_lt.mp q)
          · exact Or.inr (Int32.lt_iff_toInt_lt.mp q)
        refine V_iconst (pc' := 133) (v := (-1)) d_Md_position_132 (by decide) rfl ?_
        refine V_iret d_Md_position_133 rfl (by first | decide | omega) (by first | decide | omega) ?_
        unfold posS
        rw [ej]
        dsimp only
        rw [ew]
        exact ⟨rfl, rfl⟩
      | some o =>
        obtain ⟨f1, f2⟩ := kz_some (by omega) ew
        subst f1
        have hres : posS S (nI j) (nI o) = posO S j o := by
          unfold posS
          rw [ej]
          dsimp only
          rw [ew]
        rcases (show o = 0 ∨ o = 1 ∨ o = 2 ∨ o = 3 by omega) with rfl | rfl | rfl | rfl
        · refine V_istore (pc' := 38) d_Md_position_36 (by decide) rfl ?_
          refine V_iload_n (pc' := 39) d_Md_position_38 rfl rfl ?_
          -- at 39 tableswitch
          refine V_tableIn (off := 29) (tgt := 68) d_Md_position_39 (by decide) (by decide) rfl (by decide) ?_
          unfold posO at hres
          cases ek : plc S (spo S j) with
          | none =>
            rw [ek] at hres
            refine V_iload_n (pc' := 69) d_Md_position_68 rfl rfl ?_
            refine V_iconst (pc' := 70) (v := (-1)) d_Md_position_69 (by decide) rfl ?_
            refine V_icmp_ne (pc' := 73) (tgt := 77) d_Md_position_70 (by decide) rfl (fun c70 => ?_) (fun c70 => ?_)
            · exact absurd rfl c70
            · refine V_iconst (pc' := 74) (v := 0) d_Md_position_73 (by decide) rfl ?_
              refine V_goto (tgt := 83) d_Md_position_74 (by decide) ?_
              refine V_iret d_Md_position_83 rfl (by first | decide | omega) (by first | decide | omega) ?_
              rw [hres]; exact ⟨rfl, rfl⟩
          | some k =>
            rw [ek] at hres
            have hkz := (plc_lt ek).1
            refine V_iload_n (pc' := 69) d_Md_position_68 rfl rfl ?_
            refine V_iconst (pc' := 70) (v := (-1)) d_Md_position_69 (by decide) rfl ?_
            refine V_icmp_ne (pc' := 73) (tgt := 77) d_Md_position_70 (by decide) rfl (fun c70 => ?_) (fun c70 => ?_)
            · refine V_aload_n (pc' := 78) d_Md_position_77 rfl (by first | rfl | exact isR_rf _) rfl ?_
              refine V_getf (pc' := 81) d_Md_position_78 fl_Md_26 rfl (by first | assumption | exact aset_self _ _ _ | exact apush_self _ _) (by rfl) ?_
              refine V_iload_n (pc' := 82) d_Md_position_81 rfl rfl ?_
              -- at 82 iaload
              refine V_iald (pc' := 83) d_Md_position_82 rfl h6 rfl rfl (by omega) (arv_get (by omega)) ?_
              refine V_iret d_Md_position_83 rfl (by first | decide | omega) (by first | decide | omega) ?_
              rw [hres]; exact ⟨rfl, rfl⟩
            · exact absurd c70 (nI_m1 (by omega))
        · refine V_istore (pc' := 38) d_Md_position_36 (by decide) rfl ?_
          refine V_iload_n (pc' := 39) d_Md_position_38 rfl rfl ?_
          -- at 39 tableswitch
          refine V_tableIn (off := 45) (tgt := 84) d_Md_position_39 (by decide) (by decide) rfl (by decide) ?_
          unfold posO at hres
          cases ek : plc S (spo S j) with
          | none =>
            rw [ek] at hres
            refine V_iload_n (pc' := 85) d_Md_position_84 rfl rfl ?_
            refine V_iconst (pc' := 86) (v := (-1)) d_Md_position_85 (by decide) rfl ?_
            refine V_icmp_ne (pc' := 89) (tgt := 93) d_Md_position_86 (by decide) rfl (fun c86 => ?_) (fun c86 => ?_)
            · exact absurd rfl c86
            · refine V_iconst (pc' := 90) (v := 0) d_Md_position_89 (by decide) rfl ?_
              refine V_goto (tgt := 98) d_Md_position_90 (by decide) ?_
              refine V_iret d_Md_position_98 rfl (by first | decide | omega) (by first | decide | omega) ?_
              rw [hres]; exact ⟨rfl, rfl⟩
          | some k =>
            rw [ek] at hres
            have hkz := (plc_lt ek).1
            refine V_iload_n (pc' := 85) d_Md_position_84 rfl rfl ?_
            refine V_iconst (pc' := 86) (v := (-1)) d_Md_position_85 (by decide) rfl ?_
            refine V_icmp_ne (pc' := 89) (tgt := 93) d_Md_position_86 (by decide) rfl (fun c86 => ?_) (fun c86 => ?_)
            · refine V_aload_n (pc' := 94) d_Md_position_93 rfl (by first | rfl | exact isR_rf _) rfl ?_
              refine V_iload_n (pc' := 95) d_Md_position_94 rfl rfl ?_
              -- at 95 invokevirtual
              refine V_callV (pc' := 98) (As := [_]) (ci := 6) d_Md_position_95 mv_Md_77 mw_Md_levelOf rfl rfl rfl (by simp [Value.category]) rfl (by first | assumption | exact aset_self _ _ _ | exact apush_self _ _) (c_Md_levelOf (i := k) hI (by omega) (w2 k hkz)) (by first | decide | omega) (by first | decide | omega) (by first | decide | omega) (by first | decide | omega) ?_
              rintro _ _ ⟨rfl, rfl⟩
              refine V_iret d_Md_position_98 rfl (by first | decide | omega) (by first | decide | omega) ?_
              rw [hres]; exact ⟨rfl, rfl⟩
            · exact absurd c86 (nI_m1 (by omega))
        · refine V_istore (pc' := 38) d_Md_position_36 (by decide) rfl ?_
          refine V_iload_n (pc' := 39) d_Md_position_38 rfl rfl ?_
          -- at 39 tableswitch
          refine V_tableIn (off := 60) (tgt := 99) d_Md_position_39 (by decide) (by decide) rfl (by decide) ?_
          unfold posO at hres
          cases ek : plc S (spr S j) with
          | none =>
            rw [ek] at hres
            refine V_iload (pc' := 101) d_Md_position_99 rfl rfl ?_
            refine V_iconst (pc' := 102) (v := (-1)) d_Md_position_101 (by decide) rfl ?_
            refine V_icmp_ne (pc' := 105) (tgt := 109) d_Md_position_102 (by decide) rfl (fun c102 => ?_) (fun c102 => ?_)
            · exact absurd rfl c102
            · refine V_iconst (pc' := 106) (v := 0) d_Md_position_105 (by decide) rfl ?_
              refine V_goto (tgt := 116) d_Md_position_106 (by decide) ?_
              refine V_iret d_Md_position_116 rfl (by first | decide | omega) (by first | decide | omega) ?_
              rw [hres]; exact ⟨rfl, rfl⟩
          | some k =>
            rw [ek] at hres
            have hkz := (plc_lt ek).1
            refine V_iload (pc' := 101) d_Md_position_99 rfl rfl ?_
            refine V_iconst (pc' := 102) (v := (-1)) d_Md_position_101 (by decide) rfl ?_
            refine V_icmp_ne (pc' := 105) (tgt := 109) d_Md_position_102 (by decide) rfl (fun c102 => ?_) (fun c102 => ?_)
            · refine V_aload_n (pc' := 110) d_Md_position_109 rfl (by first | rfl | exact isR_rf _) rfl ?_
              refine V_getf (pc' := 113) d_Md_position_110 fl_Md_26 rfl (by first | assumption | exact aset_self _ _ _ | exact apush_self _ _) (by rfl) ?_
              refine V_iload (pc' := 115) d_Md_position_113 rfl rfl ?_
              -- at 115 iaload
              refine V_iald (pc' := 116) d_Md_position_115 rfl h6 rfl rfl (by omega) (arv_get (by omega)) ?_
              refine V_iret d_Md_position_116 rfl (by first | decide | omega) (by first | decide | omega) ?_
              rw [hres]; exact ⟨rfl, rfl⟩
            · exact absurd c102 (nI_m1 (by omega))
        · refine V_istore (pc' := 38) d_Md_position_36 (by decide) rfl ?_
          refine V_iload_n (pc' := 39) d_Md_position_38 rfl rfl ?_
          -- at 39 tableswitch
          refine V_tableIn (off := 78) (tgt := 117) d_Md_position_39 (by decide) (by decide) rfl (by decide) ?_
          unfold posO at hres
          refine V_aload_n (pc' := 118) d_Md_position_117 rfl (by first | rfl | exact isR_rf _) rfl ?_
          refine V_getf (pc' := 121) d_Md_position_118 fl_Md_42 rfl (by first | assumption | exact aset_self _ _ _ | exact apush_self _ _) (by rfl) ?_
          refine V_iload_n (pc' := 122) d_Md_position_121 rfl rfl ?_
          -- at 122 baload
          refine V_zald (pc' := 123) d_Md_position_122 rfl h13 rfl rfl (by omega) (arv_get (by omega)) ?_
          refine V_if_eq (pc' := 126) (tgt := 130) d_Md_position_123 (by decide) rfl (fun c123 => ?_) (fun c123 => ?_)
          · refine V_iconst (pc' := 131) (v := 0) d_Md_position_130 (by decide) rfl ?_
            refine V_iret d_Md_position_131 rfl (by first | decide | omega) (by first | decide | omega) ?_
            rw [hres, ob_0.mp c123]; exact ⟨rfl, rfl⟩
          · refine V_iconst (pc' := 127) (v := 1) d_Md_position_126 (by decide) rfl ?_
            refine V_goto (tgt := 131) d_Md_position_127 (by decide) ?_
            refine V_iret d_Md_position_131 rfl (by first | decide | omega) (by first | decide | omega) ?_
            rw [hres, ob_nt c123]; exact ⟨rfl, rfl⟩
    · exact bad (ki_none.mpr (fun q => absurd q.2 c10))
theorem c_Md_order (hI : IM h m A S) (hw : RW S) (i w : Int32) : Cr x y_Md_order b_Md_order 3 (some .int) 1 [.ref m, .int i, .int w] h (.int (orderS S i w)) := by
  obtain ⟨hm, h0, h1, h2, h3, h5, h6, h7, h8, h11, h12, h13, h15, h16, h17, h18, h20, -⟩ := id hI
  have w1 := hw.1
  have w2 := hw.2.1
  refine Ct_of (own := "PathCallsModel") (ini := false) rfl rfl (Nat.le_of_ble_eq_true rfl) (fun q => by cases q) ?_
  have bad : (i < 0 ∨ nI (ssz S) ≤ i) → V x "PathCallsModel" b_Md_order 3 (Option.some .int) false (rmd 1 0 0) 0 0 (fun r h' => r = some (.int (orderS S i w)) ∧ h = h') 12 [(0, .ref m), (1, .int i), (2, .int w)] [] h 0 0 := by
    intro he
    refine V_iconst (pc' := 13) (v := (-1)) d_Md_order_12 (by decide) rfl ?_
    refine V_iret d_Md_order_13 rfl (by first | decide | omega) (by first | decide | omega) ?_
    unfold orderS
    rw [if_pos he]; exact ⟨rfl, rfl⟩
  refine V_iload_n (pc' := 1) d_Md_order_0 rfl rfl ?_
  refine V_if_lt (pc' := 4) (tgt := 12) d_Md_order_1 (by decide) rfl (fun c1 => ?_) (fun c1 => ?_)
  · exact bad (Or.inl c1)
  · refine V_iload_n (pc' := 5) d_Md_order_4 rfl rfl ?_
    refine V_aload_n (pc' := 6) d_Md_order_5 rfl (by first | rfl | exact isR_rf _) rfl ?_
    refine V_getf (pc' := 9) d_Md_order_6 fl_Md_74 rfl (by first | assumption | exact aset_self _ _ _ | exact apush_self _ _) (by rfl) ?_
    refine V_icmp_lt (pc' := 12) (tgt := 14) d_Md_order_9 (by decide) rfl (fun c9 => ?_) (fun c9 => ?_)
    · obtain ⟨j, hj, e1⟩ := nI_of c1
      subst e1
      have hjz : j < ssz S := (nI_ltI hj (by omega)).mp c9
      have hgo : ¬ (nI j < 0 ∨ nI (ssz S) ≤ nI j) := fun q => q.elim c1 (fun q => absurd c9 (Int32.not_lt.mpr q))
      cases ew : kz 3 w with
      | none =>
        refine V_iload_n (pc' := 15) d_Md_order_14 rfl rfl ?_
        -- at 15 tableswitch
        refine V_tableOut (tgt := 73) d_Md_order_15 ?_ (by decide) ?_
        · rcases kz_none.mp ew with q | q
          · exact Or.inl (Int32.lt_iff_toInt_lt.mp q)
          · exact Or.inr (Int32.lt_iff_toInt_lt.mp q)
        refine V_iconst (pc' := 74) (v := (-1)) d_Md_order_73 (by decide) rfl ?_
        refine V_iret d_Md_order_74 rfl (by first | decide | omega) (by first | decide | omega) ?_
        unfold orderS
        rw [if_neg hgo, ew]
        exact ⟨rfl, rfl⟩
      | some o =>
        obtain ⟨f1, f2⟩ := kz_some (by omega) ew
        subst f1
        have hres : orderS S (nI j) (nI o) = ordO S j o := by
          unfold orderS
          rw [if_neg hgo, ew, nI_clamp hj]
        rcases (show o = 0 ∨ o = 1 ∨ o = 2 ∨ o = 3 by omega) with rfl | rfl | rfl | rfl
        · refine V_iload_n (pc' := 15) d_Md_order_14 rfl rfl ?_
          -- at 15 tableswitch
          refine V_tableIn (off := 29) (tgt := 44) d_Md_order_15 (by decide) (by decide) rfl (by decide) ?_
          refine V_aload_n (pc' := 45) d_Md_order_44 rfl (by first | rfl | exact isR_rf _) rfl ?_
          refine V_getf (pc' := 48) d_Md_order_45 fl_Md_26 rfl (by first | assumption | exact aset_self _ _ _ | exact apush_self _ _) (by rfl) ?_
          refine V_iload_n (pc' := 49) d_Md_order_48 rfl rfl ?_
          -- at 49 iaload
          refine V_iald (pc' := 50) d_Md_order_49 rfl h6 rfl rfl (by omega) (arv_get (by omega)) ?_
          refine V_iret d_Md_order_50 rfl (by first | decide | omega) (by first | decide | omega) ?_
          rw [hres]; exact ⟨rfl, rfl⟩
        · refine V_iload_n (pc' := 15) d_Md_order_14 rfl rfl ?_
          -- at 15 tableswitch
          refine V_tableIn (off := 36) (tgt := 51) d_Md_order_15 (by decide) (by decide) rfl (by decide) ?_
          refine V_aload_n (pc' := 52) d_Md_order_51 rfl (by first | rfl | exact isR_rf _) rfl ?_
          refine V_iload_n (pc' := 53) d_Md_order_52 rfl rfl ?_
          -- at 53 invokevirtual
          refine V_callV (pc' := 56) (As := [_]) (ci := 6) d_Md_order_53 mv_Md_77 mw_Md_levelOf rfl rfl rfl (by simp [Value.category]) rfl (by first | assumption | exact aset_self _ _ _ | exact apush_self _ _) (c_Md_levelOf (i := j) hI (by omega) (w2 j hjz)) (by first | decide | omega) (by first | decide | omega) (by first | decide | omega) (by first | decide | omega) ?_
          rintro _ _ ⟨rfl, rfl⟩
          refine V_iret d_Md_order_56 rfl (by first | decide | omega) (by first | decide | omega) ?_
          rw [hres]; exact ⟨rfl, rfl⟩
        · refine V_iload_n (pc' := 15) d_Md_order_14 rfl rfl ?_
          -- at 15 tableswitch
          refine V_tableIn (off := 42) (tgt := 57) d_Md_order_15 (by decide) (by decide) rfl (by decide) ?_
          refine V_aload_n (pc' := 58) d_Md_order_57 rfl (by first | rfl | exact isR_rf _) rfl ?_
          refine V_getf (pc' := 61) d_Md_order_58 fl_Md_29 rfl (by first | assumption | exact aset_self _ _ _ | exact apush_self _ _) (by rfl) ?_
          refine V_iload_n (pc' := 62) d_Md_order_61 rfl rfl ?_
          -- at 62 laload
          refine V_lald (pc' := 63) d_Md_order_62 rfl h7 rfl rfl (by omega) (arv_get (by omega)) ?_
          refine V_l2i (pc' := 64) d_Md_order_63 rfl ?_
          refine V_iret d_Md_order_64 rfl (by first | decide | omega) (by first | decide | omega) ?_
          rw [hres]; exact ⟨rfl, rfl⟩
        · refine V_iload_n (pc' := 15) d_Md_order_14 rfl rfl ?_
          -- at 15 tableswitch
          refine V_tableIn (off := 50) (tgt := 65) d_Md_order_15 (by decide) (by decide) rfl (by decide) ?_
          refine V_aload_n (pc' := 66) d_Md_order_65 rfl (by first | rfl | exact isR_rf _) rfl ?_
          refine V_getf (pc' := 69) d_Md_order_66 fl_Md_33 rfl (by first | assumption | exact aset_self _ _ _ | exact apush_self _ _) (by rfl) ?_
          refine V_iload_n (pc' := 70) d_Md_order_69 rfl rfl ?_
          -- at 70 laload
          refine V_lald (pc' := 71) d_Md_order_70 rfl h8 rfl rfl (by omega) (arv_get (by omega)) ?_
          refine V_l2i (pc' := 72) d_Md_order_71 rfl ?_
          refine V_iret d_Md_order_72 rfl (by first | decide | omega) (by first | decide | omega) ?_
          rw [hres]; exact ⟨rfl, rfl⟩
    · exact bad (Or.inr (Int32.not_lt.mp c9))
theorem c_Md_within (hI : IM h m A S) (hw : RW S) (hv : VW S) (v : Int32) : Cr x y_Md_within b_Md_within 3 (some .int) 2 [.ref m, .int v] h (.int (withinS S v)) := by
  obtain ⟨hm, h0, h1, h2, h3, h5, h6, h7, h8, h11, h12, h13, h15, h16, h17, h18, h20, -⟩ := id hI
  obtain ⟨u1, u2, u3⟩ := id hv
  have w1 := hw.1
  have w2 := hw.2.1
  refine Ct_of (own := "PathCallsModel") (ini := false) rfl rfl (Nat.le_of_ble_eq_true rfl) (fun q => by cases q) ?_
  have bad : ki (svc S) v = none → V x "PathCallsModel" b_Md_within 3 (Option.some .int) false (rmd 2 0 0) 0 0 (fun r h' => r = some (.int (withinS S v)) ∧ h = h') 13 [(0, .ref m), (1, .int v)] [] h 0 0 := by
    intro he
    refine V_iconst (pc' := 14) (v := (-1)) d_Md_within_13 (by decide) rfl ?_
    refine V_iret d_Md_within_14 rfl (by first | decide | omega) (by first | decide | omega) ?_
    unfold withinS
    rw [he]; exact ⟨rfl, rfl⟩
  refine V_iload_n (pc' := 1) d_Md_within_0 rfl rfl ?_
  refine V_iconst (pc' := 2) (v := 1) d_Md_within_1 (by decide) rfl ?_
  refine V_icmp_lt (pc' := 5) (tgt := 13) d_Md_within_2 (by decide) rfl (fun c2 => ?_) (fun c2 => ?_)
  · exact bad (ki_none.mpr (fun q => lt_one.mp c2 q.1))
  · refine V_iload_n (pc' := 6) d_Md_within_5 rfl rfl ?_
    refine V_aload_n (pc' := 7) d_Md_within_6 rfl (by first | rfl | exact isR_rf _) rfl ?_
    refine V_getf (pc' := 10) d_Md_within_7 fl_Md_68 rfl (by first | assumption | exact aset_self _ _ _ | exact apush_self _ _) (by rfl) ?_
    refine V_icmp_le (pc' := 13) (tgt := 15) d_Md_within_10 (by decide) rfl (fun c10 => ?_) (fun c10 => ?_)
    · obtain ⟨j, ej⟩ := ki_of c2 c10
      obtain ⟨e1, e2, e3⟩ := ki_some (by omega) ej
      subst e1
      obtain ⟨g1, g2⟩ := u3 j (by omega)
      refine V_aload_n (pc' := 16) d_Md_within_15 rfl (by first | rfl | exact isR_rf _) rfl ?_
      refine V_aload_n (pc' := 17) d_Md_within_16 rfl (by first | rfl | exact isR_rf _) rfl ?_
      refine V_getf (pc' := 20) d_Md_within_17 fl_Md_39 rfl (by first | assumption | exact aset_self _ _ _ | exact apush_self _ _) (by rfl) ?_
      refine V_iload_n (pc' := 21) d_Md_within_20 rfl rfl ?_
      -- at 21 iaload
      refine V_iald (pc' := 22) d_Md_within_21 rfl h12 rfl rfl (by omega) (arv_get (by omega)) ?_
      refine V_callV (pc' := 25) (As := [_]) (ci := 6) d_Md_within_22 mv_Md_106 mw_Md_placeOf rfl rfl rfl (by simp [Value.category]) rfl (by first | assumption | exact aset_self _ _ _ | exact apush_self _ _) (c_Md_placeOf (nm := spr S j) hI w1 (by omega) (fun i hi => by have := u2 i hi; omega)) (by first | decide | omega) (by first | decide | omega) (by first | decide | omega) (by first | decide | omega) ?_
      rintro _ _ ⟨rfl, rfl⟩
      cases ek : plc S (spr S j) with
      | none =>
        refine V_istore_n (pc' := 26) d_Md_within_25 (by decide) rfl ?_
        refine V_iload_n (pc' := 27) d_Md_within_26 rfl rfl ?_
        refine V_iconst (pc' := 28) (v := (-1)) d_Md_within_27 (by decide) rfl ?_
        refine V_icmp_ne (pc' := 31) (tgt := 35) d_Md_within_28 (by decide) rfl (fun c28 => ?_) (fun c28 => ?_)
        · exact absurd rfl c28
        · refine V_iconst (pc' := 32) (v := (-1)) d_Md_within_31 (by decide) rfl ?_
          refine V_goto (tgt := 44) d_Md_within_32 (by decide) ?_
          refine V_iret d_Md_within_44 rfl (by first | decide | omega) (by first | decide | omega) ?_
          unfold withinS
          rw [ej]
          dsimp only
          rw [ek]
          exact ⟨rfl, rfl⟩
      | some k =>
        have hkz := (plc_lt ek).1
        have b1 := bhd_lt S k
        have b2 := bhd_ub S hkz
        refine V_istore_n (pc' := 26) d_Md_within_25 (by decide) rfl ?_
        refine V_iload_n (pc' := 27) d_Md_within_26 rfl rfl ?_
        refine V_iconst (pc' := 28) (v := (-1)) d_Md_within_27 (by decide) rfl ?_
        refine V_icmp_ne (pc' := 31) (tgt := 35) d_Md_within_28 (by decide) rfl (fun c28 => ?_) (fun c28 => ?_)
        · refine V_aload_n (pc' := 36) d_Md_within_35 rfl (by first | rfl | exact isR_rf _) rfl ?_
          refine V_iload_n (pc' := 37) d_Md_within_36 rfl rfl ?_
          -- at 37 invokevirtual
          refine V_callV (pc' := 40) (As := [_]) (ci := 6) d_Md_within_37 mv_Md_85 mw_Md_behind rfl rfl rfl (by simp [Value.category]) rfl (by first | assumption | exact aset_self _ _ _ | exact apush_self _ _) (c_Md_behind (i := k) hI w1 w2 hw.lo hkz) (by first | decide | omega) (by first | decide | omega) (by first | decide | omega) (by first | decide | omega) ?_
          rintro _ _ ⟨rfl, rfl⟩
          refine V_iload_n (pc' := 41) d_Md_within_40 rfl rfl ?_
          refine V_isub (pc' := 42) d_Md_within_41 rfl ?_
          refine V_iconst (pc' := 43) (v := 1) d_Md_within_42 (by decide) rfl ?_
          refine V_isub (pc' := 44) d_Md_within_43 rfl ?_
          refine V_iret d_Md_within_44 rfl (by first | decide | omega) (by first | decide | omega) ?_
          unfold withinS
          rw [ej]
          dsimp only
          rw [ek]
          dsimp only
          refine ⟨?_, rfl⟩
          have e5 : nI (bhd S k) - oI (some k) - 1 = nI (bhd S k - k - 1) := by
            rw [oI_s, pk_sub (by omega), show (1 : Int32) = nI 1 from rfl, pk_sub (by omega)]
          rw [e5]
        · exact absurd c28 (nI_m1 (by omega))
    · exact bad (ki_none.mpr (fun q => absurd q.2 c10))
end M6
