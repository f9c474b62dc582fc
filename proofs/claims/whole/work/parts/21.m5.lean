-- the reference's public methods, 1
section M5
variable {x : CX} {h : AH} {m : Nat} {A : Nat → Nat} {S : PS}
theorem nI_sm {a b : Nat} (ha : a < 2 ^ 31) (hb : b < 2 ^ 31) {c : Int32} (hc : c = nI b) : nI a = c ↔ a = b := by subst hc; exact nI_eq ha hb
theorem c_Md_kind (hI : IM h m A S) (hk : skc S ≤ 20) (hl : ∀ k, k ≤ skc S → slv S k ≤ 8) (o : Int32) (u : Bool) : Ct x y_Md_kind b_Md_kind 4 (some .int) 1 0 0 [.ref m, .int o, .int (ob u)] h (PM h m A (kindS S o u)) := by
  have hF : IF h h m A S := ⟨hI, FrM_rf⟩
  obtain ⟨hm, h0, h1, h2, h3, h5, h6, h7, h8, h11, h12, h13, h15, h16, h17, h18, h20, -⟩ := id hI
  refine Ct_of (own := "PathCallsModel") (ini := false) rfl rfl (Nat.le_of_ble_eq_true rfl) (fun q => by cases q) ?_
  have tail : ∀ (j l : Nat) (f : Bool), j ≤ 20 → skc S < 20 → (f = true → l = 1) → (f = false → l = slv S j + 1 ∧ j ≠ skc S + 1) → kindS S o u = (nI (skc S + 1), addk S j l u) → V x "PathCallsModel" b_Md_kind 4 (Option.some .int) false (rmd 1 0 0) 0 0 (PM h m A (kindS S o u)) 51 [(0, .ref m), (1, .int (nI j)), (2, .int (ob u)), (3, .int (ob f))] [] h 0 0 := by
    intro j l f hj hk2 hf1 hf2 he
    refine V_aload_n (pc' := 52) d_Md_kind_51 rfl (by first | rfl | exact isR_rf _) rfl ?_
    refine V_dup (pc' := 53) d_Md_kind_52 rfl rfl ?_
    refine V_getf (pc' := 56) d_Md_kind_53 fl_Md_60 rfl (by first | assumption | exact aset_self _ _ _ | exact apush_self _ _) (by rfl) ?_
    refine V_iconst (pc' := 57) (v := 1) d_Md_kind_56 (by decide) rfl ?_
    refine V_iadd (pc' := 58) d_Md_kind_57 rfl ?_
    rw [nI_1]
    refine V_putf (pc' := 61) d_Md_kind_58 fp_Md_60 rfl (by first | assumption | exact aset_self _ _ _ | exact apush_self _ _) (by first | rfl | exact ob_nar _ | exact nar_rf _) (by first | rfl | exact ob_fit _ | exact fits_rf _) (by exact Nat.le_of_ble_eq_true rfl) ?_
    refine V_ex (fun g => IF _ g m A _) (IF_ukc hF (skc S + 1)) (fun g1 hF => ?_)
    obtain ⟨hm, h0, h1, h2, h3, h5, h6, h7, h8, h11, h12, h13, h15, h16, h17, h18, h20, -⟩ := id hF.1
    refine V_aload_n (pc' := 62) d_Md_kind_61 rfl (by first | rfl | exact isR_rf _) rfl ?_
    refine V_getf (pc' := 65) d_Md_kind_62 fl_Md_7 rfl (by first | assumption | exact aset_self _ _ _ | exact apush_self _ _) (by rfl) ?_
    refine V_aload_n (pc' := 66) d_Md_kind_65 rfl (by first | rfl | exact isR_rf _) rfl ?_
    refine V_getf (pc' := 69) d_Md_kind_66 fl_Md_60 rfl (by first | assumption | exact aset_self _ _ _ | exact apush_self _ _) (by rfl) ?_
    refine V_iload_n (pc' := 70) d_Md_kind_69 rfl rfl ?_
    -- at 70 iastore
    refine V_iast (pc' := 71) d_Md_kind_70 rfl h0 rfl (rfl : _ = nI (skc S + 1)) (by omega) (arv_get (by omega)) ?_
    refine V_ex (fun g => IF _ g m A _) (IF_uab hF (skc S + 1) j) (fun g2 hF => ?_)
    obtain ⟨hm, h0, h1, h2, h3, h5, h6, h7, h8, h11, h12, h13, h15, h16, h17, h18, h20, -⟩ := id hF.1
    refine V_aload_n (pc' := 72) d_Md_kind_71 rfl (by first | rfl | exact isR_rf _) rfl ?_
    refine V_getf (pc' := 75) d_Md_kind_72 fl_Md_13 rfl (by first | assumption | exact aset_self _ _ _ | exact apush_self _ _) (by rfl) ?_
    refine V_aload_n (pc' := 76) d_Md_kind_75 rfl (by first | rfl | exact isR_rf _) rfl ?_
    refine V_getf (pc' := 79) d_Md_kind_76 fl_Md_60 rfl (by first | assumption | exact aset_self _ _ _ | exact apush_self _ _) (by rfl) ?_
    refine V_iload_n (pc' := 80) d_Md_kind_79 rfl rfl ?_
    refine V_if_eq (pc' := 83) (tgt := 87) d_Md_kind_80 (by decide) rfl (fun c80 => ?_) (fun c80 => ?_)
    · refine V_aload_n (pc' := 88) d_Md_kind_87 rfl (by first | rfl | exact isR_rf _) rfl ?_
      refine V_getf (pc' := 91) d_Md_kind_88 fl_Md_13 rfl (by first | assumption | exact aset_self _ _ _ | exact apush_self _ _) (by rfl) ?_
      refine V_iload_n (pc' := 92) d_Md_kind_91 rfl rfl ?_
      -- at 92 iaload
      obtain ⟨e1, e2⟩ := hf2 (ob_0.mp c80)
      refine V_iald (pc' := 93) d_Md_kind_92 rfl h1 rfl rfl (by omega) (arv_get (by omega)) ?_
      refine V_iconst (pc' := 94) (v := 1) d_Md_kind_93 (by decide) rfl ?_
      refine V_iadd (pc' := 95) d_Md_kind_94 rfl ?_
      rw [nI_1]
      rw [show slv (uab (ukc S (skc S + 1)) (skc S + 1) j) j + 1 = l from e1.symm]
      refine V_iast (pc' := 96) d_Md_kind_95 rfl h1 rfl (rfl : _ = nI (skc S + 1)) (by omega) (arv_get (by omega)) ?_
      refine V_ex (fun g => IF _ g m A _) (IF_ulv hF (skc S + 1) l) (fun g3 hF => ?_)
      obtain ⟨hm, h0, h1, h2, h3, h5, h6, h7, h8, h11, h12, h13, h15, h16, h17, h18, h20, -⟩ := id hF.1
      refine V_aload_n (pc' := 97) d_Md_kind_96 rfl (by first | rfl | exact isR_rf _) rfl ?_
      refine V_getf (pc' := 100) d_Md_kind_97 fl_Md_19 rfl (by first | assumption | exact aset_self _ _ _ | exact apush_self _ _) (by rfl) ?_
      refine V_aload_n (pc' := 101) d_Md_kind_100 rfl (by first | rfl | exact isR_rf _) rfl ?_
      refine V_getf (pc' := 104) d_Md_kind_101 fl_Md_60 rfl (by first | assumption | exact aset_self _ _ _ | exact apush_self _ _) (by rfl) ?_
      refine V_iload_n (pc' := 105) d_Md_kind_104 rfl rfl ?_
      -- at 105 bastore
      refine V_zast (pc' := 106) d_Md_kind_105 rfl h3 rfl (rfl : _ = nI (skc S + 1)) (by omega) (arv_get (by omega)) (ob_nar _) ?_
      refine V_ex (fun g => IF _ g m A _) (IF_uun hF (skc S + 1) u) (fun g4 hF => ?_)
      obtain ⟨hm, h0, h1, h2, h3, h5, h6, h7, h8, h11, h12, h13, h15, h16, h17, h18, h20, -⟩ := id hF.1
      refine V_aload_n (pc' := 107) d_Md_kind_106 rfl (by first | rfl | exact isR_rf _) rfl ?_
      refine V_getf (pc' := 110) d_Md_kind_107 fl_Md_16 rfl (by first | assumption | exact aset_self _ _ _ | exact apush_self _ _) (by rfl) ?_
      refine V_aload_n (pc' := 111) d_Md_kind_110 rfl (by first | rfl | exact isR_rf _) rfl ?_
      refine V_getf (pc' := 114) d_Md_kind_111 fl_Md_60 rfl (by first | assumption | exact aset_self _ _ _ | exact apush_self _ _) (by rfl) ?_
      refine V_iconst (pc' := 115) (v := 1) d_Md_kind_114 (by decide) rfl ?_
      -- at 115 iastore
      refine V_iast (pc' := 116) d_Md_kind_115 rfl h2 rfl (rfl : _ = nI (skc S + 1)) (by omega) (arv_get (by omega)) ?_
      refine V_ex (fun g => IF _ g m A _) (IF_uru hF (skc S + 1) 1) (fun g5 hF => ?_)
      obtain ⟨hm, h0, h1, h2, h3, h5, h6, h7, h8, h11, h12, h13, h15, h16, h17, h18, h20, -⟩ := id hF.1
      refine V_aload_n (pc' := 117) d_Md_kind_116 rfl (by first | rfl | exact isR_rf _) rfl ?_
      refine V_getf (pc' := 120) d_Md_kind_117 fl_Md_60 rfl (by first | assumption | exact aset_self _ _ _ | exact apush_self _ _) (by rfl) ?_
      refine V_iret d_Md_kind_120 rfl (by first | decide | omega) (by first | decide | omega) ?_
      rw [he]
      exact ⟨rfl, hF⟩
    · refine V_iconst (pc' := 84) (v := 1) d_Md_kind_83 (by decide) rfl ?_
      refine V_goto (tgt := 95) d_Md_kind_84 (by decide) ?_
      have e1 := hf1 (ob_nt c80)
      subst e1
      refine V_iast (pc' := 96) d_Md_kind_95 rfl h1 rfl (rfl : _ = nI (skc S + 1)) (by omega) (arv_get (by omega)) ?_
      refine V_ex (fun g => IF _ g m A _) (IF_ulv hF (skc S + 1) 1) (fun g3 hF => ?_)
      obtain ⟨hm, h0, h1, h2, h3, h5, h6, h7, h8, h11, h12, h13, h15, h16, h17, h18, h20, -⟩ := id hF.1
      refine V_aload_n (pc' := 97) d_Md_kind_96 rfl (by first | rfl | exact isR_rf _) rfl ?_
      refine V_getf (pc' := 100) d_Md_kind_97 fl_Md_19 rfl (by first | assumption | exact aset_self _ _ _ | exact apush_self _ _) (by rfl) ?_
      refine V_aload_n (pc' := 101) d_Md_kind_100 rfl (by first | rfl | exact isR_rf _) rfl ?_
      refine V_getf (pc' := 104) d_Md_kind_101 fl_Md_60 rfl (by first | assumption | exact aset_self _ _ _ | exact apush_self _ _) (by rfl) ?_
      refine V_iload_n (pc' := 105) d_Md_kind_104 rfl rfl ?_
      -- at 105 bastore
      refine V_zast (pc' := 106) d_Md_kind_105 rfl h3 rfl (rfl : _ = nI (skc S + 1)) (by omega) (arv_get (by omega)) (ob_nar _) ?_
      refine V_ex (fun g => IF _ g m A _) (IF_uun hF (skc S + 1) u) (fun g4 hF => ?_)
      obtain ⟨hm, h0, h1, h2, h3, h5, h6, h7, h8, h11, h12, h13, h15, h16, h17, h18, h20, -⟩ := id hF.1
      refine V_aload_n (pc' := 107) d_Md_kind_106 rfl (by first | rfl | exact isR_rf _) rfl ?_
      refine V_getf (pc' := 110) d_Md_kind_107 fl_Md_16 rfl (by first | assumption | exact aset_self _ _ _ | exact apush_self _ _) (by rfl) ?_
      refine V_aload_n (pc' := 111) d_Md_kind_110 rfl (by first | rfl | exact isR_rf _) rfl ?_
      refine V_getf (pc' := 114) d_Md_kind_111 fl_Md_60 rfl (by first | assumption | exact aset_self _ _ _ | exact apush_self _ _) (by rfl) ?_
      refine V_iconst (pc' := 115) (v := 1) d_Md_kind_114 (by decide) rfl ?_
      -- at 115 iastore
      refine V_iast (pc' := 116) d_Md_kind_115 rfl h2 rfl (rfl : _ = nI (skc S + 1)) (by omega) (arv_get (by omega)) ?_
      refine V_ex (fun g => IF _ g m A _) (IF_uru hF (skc S + 1) 1) (fun g5 hF => ?_)
      obtain ⟨hm, h0, h1, h2, h3, h5, h6, h7, h8, h11, h12, h13, h15, h16, h17, h18, h20, -⟩ := id hF.1
      refine V_aload_n (pc' := 117) d_Md_kind_116 rfl (by first | rfl | exact isR_rf _) rfl ?_
      refine V_getf (pc' := 120) d_Md_kind_117 fl_Md_60 rfl (by first | assumption | exact aset_self _ _ _ | exact apush_self _ _) (by rfl) ?_
      refine V_iret d_Md_kind_120 rfl (by first | decide | omega) (by first | decide | omega) ?_
      rw [he]
      exact ⟨rfl, hF⟩
  have notfirst : ¬ (o = 0 ∧ skc S = 0) → V x "PathCallsModel" b_Md_kind 4 (Option.some .int) false (rmd 1 0 0) 0 0 (PM h m A (kindS S o u)) 15 [(0, .ref m), (1, .int o), (2, .int (ob u))] [] h 0 0 := by
    intro hnf
    refine V_iconst (pc' := 16) (v := 0) d_Md_kind_15 (by decide) rfl ?_
    refine V_istore_n (pc' := 17) d_Md_kind_16 (by decide) rfl ?_
    refine V_iload_n (pc' := 18) d_Md_kind_17 rfl rfl ?_
    refine V_if_ne (pc' := 21) (tgt := 40) d_Md_kind_18 (by decide) rfl (fun c18 => ?_) (fun c18 => ?_)
    · exact absurd rfl c18
    · refine V_aload_n (pc' := 22) d_Md_kind_21 rfl (by first | rfl | exact isR_rf _) rfl ?_
      refine V_iload_n (pc' := 23) d_Md_kind_22 rfl rfl ?_
      -- at 23 invokevirtual
      refine V_callV (pc' := 26) (As := [_]) (ci := 6) d_Md_kind_23 mv_Md_64 mw_Md_isKind rfl rfl rfl (by simp [Value.category]) rfl (by first | assumption | exact aset_self _ _ _ | exact apush_self _ _) (c_Md_isKind hI o) (by first | decide | omega) (by first | decide | omega) (by first | decide | omega) (by first | decide | omega) ?_
      rintro _ _ ⟨rfl, rfl⟩
      rw [ki_dec]
      cases ek : ki (skc S) o with
      | none =>
        have he : kindS S o u = (-1, S) := by unfold kindS; rw [if_neg hnf, ek]
        refine V_if_eq (pc' := 29) (tgt := 49) d_Md_kind_26 (by decide) rfl (fun c26 => ?_) (fun c26 => ?_)
        · refine V_iconst (pc' := 50) (v := (-1)) d_Md_kind_49 (by decide) rfl ?_
          refine V_iret d_Md_kind_50 rfl (by first | decide | omega) (by first | decide | omega) ?_
          rw [he]; exact ⟨rfl, hF⟩
        · exact absurd rfl c26
      | some j =>
        obtain ⟨e1, e2, e3⟩ := ki_some (by omega) ek
        subst e1
        have hlj := hl j e3
        refine V_if_eq (pc' := 29) (tgt := 49) d_Md_kind_26 (by decide) rfl (fun c26 => ?_) (fun c26 => ?_)
        · simp [ob] at c26
        · refine V_aload_n (pc' := 30) d_Md_kind_29 rfl (by first | rfl | exact isR_rf _) rfl ?_
          refine V_getf (pc' := 33) d_Md_kind_30 fl_Md_13 rfl (by first | assumption | exact aset_self _ _ _ | exact apush_self _ _) (by rfl) ?_
          refine V_iload_n (pc' := 34) d_Md_kind_33 rfl rfl ?_
          -- at 34 iaload
          refine V_iald (pc' := 35) d_Md_kind_34 rfl h1 rfl rfl (by omega) (arv_get (by omega)) ?_
          refine V_bipush (pc' := 37) (v := 8) d_Md_kind_35 (by decide) rfl ?_
          refine V_icmp_eq (pc' := 40) (tgt := 49) d_Md_kind_37 (by decide) rfl (fun c37 => ?_) (fun c37 => ?_)
          · refine V_iconst (pc' := 50) (v := (-1)) d_Md_kind_49 (by decide) rfl ?_
            refine V_iret d_Md_kind_50 rfl (by first | decide | omega) (by first | decide | omega) ?_
            have e4 : slv S j = 8 := (nI_sm (by omega) (by omega) rfl).mp c37
            have he : kindS S (nI j) u = (-1, S) := by unfold kindS; rw [if_neg hnf, ek]; dsimp only; rw [if_pos (Or.inl e4)]
            rw [he]; exact ⟨rfl, hF⟩
          · have e4 : ¬ slv S j = 8 := fun q => c37 (by rw [q]; rfl)
            refine V_aload_n (pc' := 41) d_Md_kind_40 rfl (by first | rfl | exact isR_rf _) rfl ?_
            refine V_getf (pc' := 44) d_Md_kind_41 fl_Md_60 rfl (by first | assumption | exact aset_self _ _ _ | exact apush_self _ _) (by rfl) ?_
            refine V_bipush (pc' := 46) (v := 20) d_Md_kind_44 (by decide) rfl ?_
            refine V_icmp_ne (pc' := 49) (tgt := 51) d_Md_kind_46 (by decide) rfl (fun c46 => ?_) (fun c46 => ?_)
            · have e5 : ¬ skc S = 20 := fun q => c46 (by rw [q]; rfl)
              have he : kindS S (nI j) u = (nI (skc S + 1), addk S j (slv S j + 1) u) := by unfold kindS; rw [if_neg hnf, ek]; dsimp only; rw [if_neg (fun q => q.elim e4 e5)]
              exact tail j (slv S j + 1) false (by omega) (by omega) (fun q => by cases q) (fun _ => ⟨rfl, by omega⟩) he
            · refine V_iconst (pc' := 50) (v := (-1)) d_Md_kind_49 (by decide) rfl ?_
              refine V_iret d_Md_kind_50 rfl (by first | decide | omega) (by first | decide | omega) ?_
              have e5 : skc S = 20 := (nI_sm (by omega) (by omega) rfl).mp c46
              have he : kindS S (nI j) u = (-1, S) := by unfold kindS; rw [if_neg hnf, ek]; dsimp only; rw [if_pos (Or.inr e5)]
              rw [he]; exact ⟨rfl, hF⟩
  refine V_iload_n (pc' := 1) d_Md_kind_0 rfl rfl ?_
  refine V_if_ne (pc' := 4) (tgt := 15) d_Md_kind_1 (by decide) rfl (fun c1 => ?_) (fun c1 => ?_)
  · exact notfirst (fun q => c1 q.1)
  · refine V_aload_n (pc' := 5) d_Md_kind_4 rfl (by first | rfl | exact isR_rf _) rfl ?_
    refine V_getf (pc' := 8) d_Md_kind_5 fl_Md_60 rfl (by first | assumption | exact aset_self _ _ _ | exact apush_self _ _) (by rfl) ?_
    refine V_if_ne (pc' := 11) (tgt := 15) d_Md_kind_8 (by decide) rfl (fun c8 => ?_) (fun c8 => ?_)
    · exact notfirst (fun q => c8 (by rw [q.2]; rfl))
    · have e1 : skc S = 0 := (nI_sm (by omega) (by omega) rfl).mp c8
      refine V_iconst (pc' := 12) (v := 1) d_Md_kind_11 (by decide) rfl ?_
      refine V_goto (tgt := 16) d_Md_kind_12 (by decide) ?_
      refine V_istore_n (pc' := 17) d_Md_kind_16 (by decide) rfl ?_
      refine V_iload_n (pc' := 18) d_Md_kind_17 rfl rfl ?_
      refine V_if_ne (pc' := 21) (tgt := 40) d_Md_kind_18 (by decide) rfl (fun c18 => ?_) (fun c18 => ?_)
      · refine V_aload_n (pc' := 41) d_Md_kind_40 rfl (by first | rfl | exact isR_rf _) rfl ?_
        refine V_getf (pc' := 44) d_Md_kind_41 fl_Md_60 rfl (by first | assumption | exact aset_self _ _ _ | exact apush_self _ _) (by rfl) ?_
        refine V_bipush (pc' := 46) (v := 20) d_Md_kind_44 (by decide) rfl ?_
        refine V_icmp_ne (pc' := 49) (tgt := 51) d_Md_kind_46 (by decide) rfl (fun c46 => ?_) (fun c46 => ?_)
        · subst c1
          have he : kindS S 0 u = (nI (skc S + 1), addk S 0 1 u) := by unfold kindS; rw [if_pos ⟨rfl, e1⟩, e1]; rfl
          exact tail 0 1 true (by omega) (by omega) (fun _ => rfl) (fun q => by cases q) he
        · rw [e1] at c46; exact absurd c46 (by decide)
      · exact absurd c18 (by decide)
theorem c_Md_view (hI : IM h m A S) (hk : svc S ≤ 9) : Ct x y_Md_view b_Md_view 1 (some .int) 0 0 0 [.ref m] h (PM h m A (viewS S)) := by
  have hF : IF h h m A S := ⟨hI, FrM_rf⟩
  obtain ⟨hm, -⟩ := id hI
  refine Ct_of (own := "PathCallsModel") (ini := false) rfl rfl (Nat.le_of_ble_eq_true rfl) (fun q => by cases q) ?_
  refine V_aload_n (pc' := 1) d_Md_view_0 rfl (by first | rfl | exact isR_rf _) rfl ?_
  refine V_getf (pc' := 4) d_Md_view_1 fl_Md_68 rfl (by first | assumption | exact aset_self _ _ _ | exact apush_self _ _) (by rfl) ?_
  refine V_bipush (pc' := 6) (v := 9) d_Md_view_4 (by decide) rfl ?_
  refine V_icmp_ne (pc' := 9) (tgt := 11) d_Md_view_6 (by decide) rfl (fun c6 => ?_) (fun c6 => ?_)
  · have e1 : ¬ svc S = 9 := fun q => c6 (by rw [q]; rfl)
    refine V_aload_n (pc' := 12) d_Md_view_11 rfl (by first | rfl | exact isR_rf _) rfl ?_
    refine V_dup (pc' := 13) d_Md_view_12 rfl rfl ?_
    refine V_getf (pc' := 16) d_Md_view_13 fl_Md_68 rfl (by first | assumption | exact aset_self _ _ _ | exact apush_self _ _) (by rfl) ?_
    refine V_iconst (pc' := 17) (v := 1) d_Md_view_16 (by decide) rfl ?_
    refine V_iadd (pc' := 18) d_Md_view_17 rfl ?_
    rw [nI_1]
    refine V_putf (pc' := 21) d_Md_view_18 fp_Md_68 rfl (by first | assumption | exact aset_self _ _ _ | exact apush_self _ _) (by first | rfl | exact ob_nar _ | exact nar_rf _) (by first | rfl | exact ob_fit _ | exact fits_rf _) (by exact Nat.le_of_ble_eq_true rfl) ?_
    refine V_ex (fun g => IF _ g m A _) (IF_uvc hF (svc S + 1)) (fun g1 hF => ?_)
    obtain ⟨hm, h0, h1, h2, h3, h5, h6, h7, h8, h11, h12, h13, h15, h16, h17, h18, h20, -⟩ := id hF.1
    refine V_aload_n (pc' := 22) d_Md_view_21 rfl (by first | rfl | exact isR_rf _) rfl ?_
    refine V_getf (pc' := 25) d_Md_view_22 fl_Md_68 rfl (by first | assumption | exact aset_self _ _ _ | exact apush_self _ _) (by rfl) ?_
    refine V_iret d_Md_view_25 rfl (by first | decide | omega) (by first | decide | omega) ?_
    unfold viewS
    rw [if_neg e1]
    exact ⟨rfl, hF⟩
  · have e1 : svc S = 9 := (nI_sm (by omega) (by omega) rfl).mp c6
    refine V_iconst (pc' := 10) (v := (-1)) d_Md_view_9 (by decide) rfl ?_
    refine V_iret d_Md_view_10 rfl (by first | decide | omega) (by first | decide | omega) ?_
    unfold viewS
    rw [if_pos e1]
    exact ⟨rfl, hF⟩
theorem c_Md_part (hI : IM h m A S) (hk : skc S ≤ 20) (hp : spc S ≤ 8) (k op : Int32) (key : Int64) : Ct x y_Md_part b_Md_part 5 (some .int) 1 0 0 [.ref m, .int k, .int op, .long key] h (PM h m A (partS S k op key)) := by
  have hF : IF h h m A S := ⟨hI, FrM_rf⟩
  obtain ⟨hm, h0, h1, h2, h3, h5, h6, h7, h8, h11, h12, h13, h15, h16, h17, h18, h20, -⟩ := id hI
  refine Ct_of (own := "PathCallsModel") (ini := false) rfl rfl (Nat.le_of_ble_eq_true rfl) (fun q => by cases q) ?_
  have bad : partS S k op key = (-1, S) → V x "PathCallsModel" b_Md_part 5 (Option.some .int) false (rmd 1 0 0) 0 0 (PM h m A (partS S k op key)) 27 [(0, .ref m), (1, .int k), (2, .int op), (3, .long key)] [] h 0 0 := by
    intro he
    refine V_iconst (pc' := 28) (v := (-1)) d_Md_part_27 (by decide) rfl ?_
    refine V_iret d_Md_part_28 rfl (by first | decide | omega) (by first | decide | omega) ?_
    rw [he]; exact ⟨rfl, hF⟩
  refine V_aload_n (pc' := 1) d_Md_part_0 rfl (by first | rfl | exact isR_rf _) rfl ?_
  refine V_iload_n (pc' := 2) d_Md_part_1 rfl rfl ?_
  -- at 2 invokevirtual
  refine V_callV (pc' := 5) (As := [_]) (ci := 6) d_Md_part_2 mv_Md_64 mw_Md_isKind rfl rfl rfl (by simp [Value.category]) rfl (by first | assumption | exact aset_self _ _ _ | exact apush_self _ _) (c_Md_isKind hI k) (by first | decide | omega) (by first | decide | omega) (by first | decide | omega) (by first | decide | omega) ?_
  rintro _ _ ⟨rfl, rfl⟩
  rw [ki_dec]
  cases ek : ki (skc S) k with
  | none =>
    refine V_if_eq (pc' := 8) (tgt := 27) d_Md_part_5 (by decide) rfl (fun c5 => ?_) (fun c5 => ?_)
    · exact bad (by unfold partS; rw [ek])
    · exact absurd rfl c5
  | some j =>
    obtain ⟨e1, e2, e3⟩ := ki_some (by omega) ek
    subst e1
    refine V_if_eq (pc' := 8) (tgt := 27) d_Md_part_5 (by decide) rfl (fun c5 => ?_) (fun c5 => ?_)
    · simp [ob] at c5
    · refine V_iload_n (pc' := 9) d_Md_part_8 rfl rfl ?_
      refine V_if_lt (pc' := 12) (tgt := 27) d_Md_part_9 (by decide) rfl (fun c9 => ?_) (fun c9 => ?_)
      · exact bad (by unfold partS; rw [ek, kz_none.mpr (Or.inl c9)])
      · refine V_iload_n (pc' := 13) d_Md_part_12 rfl rfl ?_
        refine V_bipush (pc' := 15) (v := 6) d_Md_part_13 (by decide) rfl ?_
        refine V_icmp_gt (pc' := 18) (tgt := 27) d_Md_part_15 (by decide) rfl (fun c15 => ?_) (fun c15 => ?_)
        · exact bad (by unfold partS; rw [ek, kz_none.mpr (Or.inr c15)])
        · cases eo : kz 6 op with
          | none =>
            rcases kz_none.mp eo with q | q
            · exact absurd q c9
            · exact absurd q c15
          | some o =>
            obtain ⟨f1, f2⟩ := kz_some (by omega) eo
            subst f1
            refine V_aload_n (pc' := 19) d_Md_part_18 rfl (by first | rfl | exact isR_rf _) rfl ?_
            refine V_getf (pc' := 22) d_Md_part_19 fl_Md_71 rfl (by first | assumption | exact aset_self _ _ _ | exact apush_self _ _) (by rfl) ?_
            refine V_bipush (pc' := 24) (v := 8) d_Md_part_22 (by decide) rfl ?_
            refine V_icmp_ne (pc' := 27) (tgt := 29) d_Md_part_24 (by decide) rfl (fun c24 => ?_) (fun c24 => ?_)
            · have e5 : ¬ spc S = 8 := fun q => c24 (by rw [q]; rfl)
              refine V_aload_n (pc' := 30) d_Md_part_29 rfl (by first | rfl | exact isR_rf _) rfl ?_
              refine V_getf (pc' := 33) d_Md_part_30 fl_Md_45 rfl (by first | assumption | exact aset_self _ _ _ | exact apush_self _ _) (by rfl) ?_
              refine V_aload_n (pc' := 34) d_Md_part_33 rfl (by first | rfl | exact isR_rf _) rfl ?_
              refine V_getf (pc' := 37) d_Md_part_34 fl_Md_71 rfl (by first | assumption | exact aset_self _ _ _ | exact apush_self _ _) (by rfl) ?_
              refine V_iload_n (pc' := 38) d_Md_part_37 rfl rfl ?_
              -- at 38 iastore
              refine V_iast (pc' := 39) d_Md_part_38 rfl h15 rfl (rfl : _ = nI (spc S)) (by omega) (arv_get (by omega)) ?_
              refine V_ex (fun g => IF _ g m A _) (IF_upk hF (spc S) j) (fun g1 hF => ?_)
              obtain ⟨hm, h0, h1, h2, h3, h5, h6, h7, h8, h11, h12, h13, h15, h16, h17, h18, h20, -⟩ := id hF.1
              refine V_aload_n (pc' := 40) d_Md_part_39 rfl (by first | rfl | exact isR_rf _) rfl ?_
              refine V_getf (pc' := 43) d_Md_part_40 fl_Md_48 rfl (by first | assumption | exact aset_self _ _ _ | exact apush_self _ _) (by rfl) ?_
              refine V_aload_n (pc' := 44) d_Md_part_43 rfl (by first | rfl | exact isR_rf _) rfl ?_
              refine V_getf (pc' := 47) d_Md_part_44 fl_Md_71 rfl (by first | assumption | exact aset_self _ _ _ | exact apush_self _ _) (by rfl) ?_
              refine V_iload_n (pc' := 48) d_Md_part_47 rfl rfl ?_
              -- at 48 iastore
              refine V_iast (pc' := 49) d_Md_part_48 rfl h16 rfl (rfl : _ = nI (spc S)) (by omega) (arv_get (by omega)) ?_
              refine V_ex (fun g => IF _ g m A _) (IF_uop hF (spc S) o) (fun g2 hF => ?_)
              obtain ⟨hm, h0, h1, h2, h3, h5, h6, h7, h8, h11, h12, h13, h15, h16, h17, h18, h20, -⟩ := id hF.1
              refine V_aload_n (pc' := 50) d_Md_part_49 rfl (by first | rfl | exact isR_rf _) rfl ?_
              refine V_getf (pc' := 53) d_Md_part_50 fl_Md_54 rfl (by first | assumption | exact aset_self _ _ _ | exact apush_self _ _) (by rfl) ?_
              refine V_aload_n (pc' := 54) d_Md_part_53 rfl (by first | rfl | exact isR_rf _) rfl ?_
              refine V_getf (pc' := 57) d_Md_part_54 fl_Md_71 rfl (by first | assumption | exact aset_self _ _ _ | exact apush_self _ _) (by rfl) ?_
              refine V_lload_n (pc' := 58) d_Md_part_57 rfl rfl ?_
              -- at 58 lastore
              refine V_last (pc' := 59) d_Md_part_58 rfl h18 rfl (rfl : _ = nI (spc S)) (by omega) (arv_get (by omega)) ?_
              refine V_ex (fun g => IF _ g m A _) (IF_upy hF (spc S) key) (fun g3 hF => ?_)
              obtain ⟨hm, h0, h1, h2, h3, h5, h6, h7, h8, h11, h12, h13, h15, h16, h17, h18, h20, -⟩ := id hF.1
              refine V_aload_n (pc' := 60) d_Md_part_59 rfl (by first | rfl | exact isR_rf _) rfl ?_
              refine V_getf (pc' := 63) d_Md_part_60 fl_Md_51 rfl (by first | assumption | exact aset_self _ _ _ | exact apush_self _ _) (by rfl) ?_
              refine V_aload_n (pc' := 64) d_Md_part_63 rfl (by first | rfl | exact isR_rf _) rfl ?_
              refine V_getf (pc' := 67) d_Md_part_64 fl_Md_71 rfl (by first | assumption | exact aset_self _ _ _ | exact apush_self _ _) (by rfl) ?_
              refine V_iconst (pc' := 68) (v := 0) d_Md_part_67 (by decide) rfl ?_
              -- at 68 iastore
              refine V_iast (pc' := 69) d_Md_part_68 rfl h17 rfl (rfl : _ = nI (spc S)) (by omega) (arv_get (by omega)) ?_
              refine V_ex (fun g => IF _ g m A _) (IF_ucd hF (spc S) 0) (fun g4 hF => ?_)
              obtain ⟨hm, h0, h1, h2, h3, h5, h6, h7, h8, h11, h12, h13, h15, h16, h17, h18, h20, -⟩ := id hF.1
              refine V_aload_n (pc' := 70) d_Md_part_69 rfl (by first | rfl | exact isR_rf _) rfl ?_
              refine V_dup (pc' := 71) d_Md_part_70 rfl rfl ?_
              refine V_getf (pc' := 74) d_Md_part_71 fl_Md_71 rfl (by first | assumption | exact aset_self _ _ _ | exact apush_self _ _) (by rfl) ?_
              refine V_iconst (pc' := 75) (v := 1) d_Md_part_74 (by decide) rfl ?_
              refine V_iadd (pc' := 76) d_Md_part_75 rfl ?_
              rw [nI_1]
              refine V_putf (pc' := 79) d_Md_part_76 fp_Md_71 rfl (by first | assumption | exact aset_self _ _ _ | exact apush_self _ _) (by first | rfl | exact ob_nar _ | exact nar_rf _) (by first | rfl | exact ob_fit _ | exact fits_rf _) (by exact Nat.le_of_ble_eq_true rfl) ?_
              refine V_ex (fun g => IF _ g m A _) (IF_upc hF (spc S + 1)) (fun g5 hF => ?_)
              obtain ⟨hm, h0, h1, h2, h3, h5, h6, h7, h8, h11, h12, h13, h15, h16, h17, h18, h20, -⟩ := id hF.1
              refine V_aload_n (pc' := 80) d_Md_part_79 rfl (by first | rfl | exact isR_rf _) rfl ?_
              refine V_getf (pc' := 83) d_Md_part_80 fl_Md_71 rfl (by first | assumption | exact aset_self _ _ _ | exact apush_self _ _) (by rfl) ?_
              refine V_iret d_Md_part_83 rfl (by first | decide | omega) (by first | decide | omega) ?_
              unfold partS
              rw [ek, eo]
              dsimp only
              rw [if_neg e5]
              exact ⟨rfl, hF⟩
            · have e5 : spc S = 8 := (nI_sm (by omega) (by omega) rfl).mp c24
              exact bad (by unfold partS; rw [ek, eo]; dsimp only; rw [if_pos e5])
theorem c_Md_code (hI : IM h m A S) (hp : spc S ≤ 8) (k op : Int32) : Ct x y_Md_code b_Md_code 4 (some .int) 0 0 0 [.ref m, .int k, .int op] h (PM h m A (codeS S k op)) := by
  have hF : IF h h m A S := ⟨hI, FrM_rf⟩
  obtain ⟨hm, h0, h1, h2, h3, h5, h6, h7, h8, h11, h12, h13, h15, h16, h17, h18, h20, -⟩ := id hI
  refine Ct_of (own := "PathCallsModel") (ini := false) rfl rfl (Nat.le_of_ble_eq_true rfl) (fun q => by cases q) ?_
  have bad : codeS S k op = (-1, S) → V x "PathCallsModel" b_Md_code 4 (Option.some .int) false (rmd 0 0 0) 0 0 (PM h m A (codeS S k op)) 23 [(0, .ref m), (1, .int k), (2, .int op)] [] h 0 0 := by
    intro he
    refine V_iconst (pc' := 24) (v := (-1)) d_Md_code_23 (by decide) rfl ?_
    refine V_iret d_Md_code_24 rfl (by first | decide | omega) (by first | decide | omega) ?_
    rw [he]; exact ⟨rfl, hF⟩
  refine V_iload_n (pc' := 1) d_Md_code_0 rfl rfl ?_
  refine V_iconst (pc' := 2) (v := 1) d_Md_code_1 (by decide) rfl ?_
  refine V_icmp_lt (pc' := 5) (tgt := 23) d_Md_code_2 (by decide) rfl (fun c2 => ?_) (fun c2 => ?_)
  · refine bad ?_
    have : ki (spc S) k = none := ki_none.mpr (fun q => lt_one.mp c2 q.1)
    unfold codeS; rw [this]
  · refine V_iload_n (pc' := 6) d_Md_code_5 rfl rfl ?_
    refine V_aload_n (pc' := 7) d_Md_code_6 rfl (by first | rfl | exact isR_rf _) rfl ?_
    refine V_getf (pc' := 10) d_Md_code_7 fl_Md_71 rfl (by first | assumption | exact aset_self _ _ _ | exact apush_self _ _) (by rfl) ?_
    refine V_icmp_gt (pc' := 13) (tgt := 23) d_Md_code_10 (by decide) rfl (fun c10 => ?_) (fun c10 => ?_)
    · refine bad ?_
      have : ki (spc S) k = none := ki_none.mpr (fun q => absurd q.2 (Int32.not_le.mpr c10))
      unfold codeS; rw [this]
    · refine V_iload_n (pc' := 14) d_Md_code_13 rfl rfl ?_
      refine V_if_lt (pc' := 17) (tgt := 23) d_Md_code_14 (by decide) rfl (fun c14 => ?_) (fun c14 => ?_)
      · refine bad ?_
        unfold codeS; rw [kz_none.mpr (Or.inl c14)]; cases ki (spc S) k <;> rfl
      · refine V_iload_n (pc' := 18) d_Md_code_17 rfl rfl ?_
        refine V_bipush (pc' := 20) (v := 15) d_Md_code_18 (by decide) rfl ?_
        refine V_icmp_le (pc' := 23) (tgt := 25) d_Md_code_20 (by decide) rfl (fun c20 => ?_) (fun c20 => ?_)
        · cases ek : ki (spc S) k with
          | none => exact absurd ⟨by have := mt lt_one.mpr c2; simpa using this, Int32.not_lt.mp c10⟩ (ki_none.mp ek)
          | some j =>
            cases eo : kz 15 op with
            | none =>
              rcases kz_none.mp eo with q | q
              · exact absurd q c14
              · exact absurd c20 (Int32.not_le.mpr q)
            | some o =>
              obtain ⟨e1, e2, e3⟩ := ki_some (by omega) ek
              obtain ⟨f1, f2⟩ := kz_some (by omega) eo
              subst e1; subst f1
              refine V_aload_n (pc' := 26) d_Md_code_25 rfl (by first | rfl | exact isR_rf _) rfl ?_
              refine V_getf (pc' := 29) d_Md_code_26 fl_Md_51 rfl (by first | assumption | exact aset_self _ _ _ | exact apush_self _ _) (by rfl) ?_
              refine V_iload_n (pc' := 30) d_Md_code_29 rfl rfl ?_
              refine V_iconst (pc' := 31) (v := 1) d_Md_code_30 (by decide) rfl ?_
              refine V_isub (pc' := 32) d_Md_code_31 rfl ?_
              -- at 32 iaload
              refine V_iald (pc' := 33) d_Md_code_32 rfl h17 rfl (pk_sub (a := j) (b := 1) e2) (by omega) (arv_get (by omega)) ?_
              refine V_istore_n (pc' := 34) d_Md_code_33 (by decide) rfl ?_
              refine V_aload_n (pc' := 35) d_Md_code_34 rfl (by first | rfl | exact isR_rf _) rfl ?_
              refine V_getf (pc' := 38) d_Md_code_35 fl_Md_51 rfl (by first | assumption | exact aset_self _ _ _ | exact apush_self _ _) (by rfl) ?_
              refine V_iload_n (pc' := 39) d_Md_code_38 rfl rfl ?_
              refine V_iconst (pc' := 40) (v := 1) d_Md_code_39 (by decide) rfl ?_
              refine V_isub (pc' := 41) d_Md_code_40 rfl ?_
              refine V_iload_n (pc' := 42) d_Md_code_41 rfl rfl ?_
              -- at 42 iastore
              refine V_iast (pc' := 43) d_Md_code_42 rfl h17 rfl (pk_sub (a := j) (b := 1) e2) (by omega) (arv_get (by omega)) ?_
              refine V_ex (fun g => IF _ g m A _) (IF_ucd hF (j - 1) o) (fun g1 hF => ?_)
              obtain ⟨hm, h0, h1, h2, h3, h5, h6, h7, h8, h11, h12, h13, h15, h16, h17, h18, h20, -⟩ := id hF.1
              refine V_iload_n (pc' := 44) d_Md_code_43 rfl rfl ?_
              refine V_iret d_Md_code_44 rfl (by first | decide | omega) (by first | decide | omega) ?_
              unfold codeS
              rw [ek, eo]
              exact ⟨rfl, hF⟩
        · refine bad ?_
          unfold codeS; rw [kz_none.mpr (Or.inr (Int32.not_le.mp c20))]; cases ki (spc S) k <;> rfl
theorem c_Md_rule (hI : IM h m A S) (hp : skc S ≤ 20) (k op : Int32) : Ct x y_Md_rule b_Md_rule 4 (some .int) 1 0 0 [.ref m, .int k, .int op] h (PM h m A (ruleS S k op)) := by
  have hF : IF h h m A S := ⟨hI, FrM_rf⟩
  obtain ⟨hm, h0, h1, h2, h3, h5, h6, h7, h8, h11, h12, h13, h15, h16, h17, h18, h20, -⟩ := id hI
  refine Ct_of (own := "PathCallsModel") (ini := false) rfl rfl (Nat.le_of_ble_eq_true rfl) (fun q => by cases q) ?_
  have bad : ruleS S k op = (-1, S) → V x "PathCallsModel" b_Md_rule 4 (Option.some .int) false (rmd 1 0 0) 0 0 (PM h m A (ruleS S k op)) 17 [(0, .ref m), (1, .int k), (2, .int op)] [] h 0 0 := by
    intro he
    refine V_iconst (pc' := 18) (v := (-1)) d_Md_rule_17 (by decide) rfl ?_
    refine V_iret d_Md_rule_18 rfl (by first | decide | omega) (by first | decide | omega) ?_
    rw [he]; exact ⟨rfl, hF⟩
  refine V_aload_n (pc' := 1) d_Md_rule_0 rfl (by first | rfl | exact isR_rf _) rfl ?_
  refine V_iload_n (pc' := 2) d_Md_rule_1 rfl rfl ?_
  -- at 2 invokevirtual
  refine V_callV (pc' := 5) (As := [_]) (ci := 6) d_Md_rule_2 mv_Md_64 mw_Md_isKind rfl rfl rfl (by simp [Value.category]) rfl (by first | assumption | exact aset_self _ _ _ | exact apush_self _ _) (c_Md_isKind hI k) (by first | decide | omega) (by first | decide | omega) (by first | decide | omega) (by first | decide | omega) ?_
  rintro _ _ ⟨rfl, rfl⟩
  rw [ki_dec]
  cases ek : ki (skc S) k with
  | none =>
    refine V_if_eq (pc' := 8) (tgt := 17) d_Md_rule_5 (by decide) rfl (fun c5 => ?_) (fun c5 => ?_)
    · exact bad (by unfold ruleS; rw [ek])
    · exact absurd rfl c5
  | some j =>
    obtain ⟨e1, e2, e3⟩ := ki_some (by omega) ek
    subst e1
    refine V_if_eq (pc' := 8) (tgt := 17) d_Md_rule_5 (by decide) rfl (fun c5 => ?_) (fun c5 => ?_)
    · simp [ob] at c5
    · refine V_iload_n (pc' := 9) d_Md_rule_8 rfl rfl ?_
      refine V_if_lt (pc' := 12) (tgt := 17) d_Md_rule_9 (by decide) rfl (fun c9 => ?_) (fun c9 => ?_)
      · exact bad (by unfold ruleS; rw [ek, kz_none.mpr (Or.inl c9)])
      · refine V_iload_n (pc' := 13) d_Md_rule_12 rfl rfl ?_
        refine V_iconst (pc' := 14) (v := 2) d_Md_rule_13 (by decide) rfl ?_
        refine V_icmp_le (pc' := 17) (tgt := 19) d_Md_rule_14 (by decide) rfl (fun c14 => ?_) (fun c14 => ?_)
        · cases eo : kz 2 op with
          | none =>
            rcases kz_none.mp eo with q | q
            · exact absurd q c9
            · exact absurd c14 (Int32.not_le.mpr q)
          | some o =>
            obtain ⟨f1, f2⟩ := kz_some (by omega) eo
            subst f1
            refine V_aload_n (pc' := 20) d_Md_rule_19 rfl (by first | rfl | exact isR_rf _) rfl ?_
            refine V_getf (pc' := 23) d_Md_rule_20 fl_Md_16 rfl (by first | assumption | exact aset_self _ _ _ | exact apush_self _ _) (by rfl) ?_
            refine V_iload_n (pc' := 24) d_Md_rule_23 rfl rfl ?_
            -- at 24 iaload
            refine V_iald (pc' := 25) d_Md_rule_24 rfl h2 rfl rfl (by omega) (arv_get (by omega)) ?_
            refine V_istore_n (pc' := 26) d_Md_rule_25 (by decide) rfl ?_
            refine V_aload_n (pc' := 27) d_Md_rule_26 rfl (by first | rfl | exact isR_rf _) rfl ?_
            refine V_getf (pc' := 30) d_Md_rule_27 fl_Md_16 rfl (by first | assumption | exact aset_self _ _ _ | exact apush_self _ _) (by rfl) ?_
            refine V_iload_n (pc' := 31) d_Md_rule_30 rfl rfl ?_
            refine V_iload_n (pc' := 32) d_Md_rule_31 rfl rfl ?_
            -- at 32 iastore
            refine V_iast (pc' := 33) d_Md_rule_32 rfl h2 rfl rfl (by omega) (arv_get (by omega)) ?_
            refine V_ex (fun g => IF _ g m A _) (IF_uru hF j o) (fun g1 hF => ?_)
            obtain ⟨hm, h0, h1, h2, h3, h5, h6, h7, h8, h11, h12, h13, h15, h16, h17, h18, h20, -⟩ := id hF.1
            refine V_iload_n (pc' := 34) d_Md_rule_33 rfl rfl ?_
            refine V_iret d_Md_rule_34 rfl (by first | decide | omega) (by first | decide | omega) ?_
            unfold ruleS
            rw [ek, eo]
            exact ⟨rfl, hF⟩
        · exact bad (by unfold ruleS; rw [ek, kz_none.mpr (Or.inr (Int32.not_le.mp c14))])
theorem c_Md_segment (hI : IM h m A S) (k : Int32) : Cr x y_Md_segment b_Md_segment 2 (some .long) 0 [.ref m, .int k] h (.long (segS S k)) := by
  obtain ⟨hm, h0, h1, h2, h3, h5, h6, h7, h8, h11, h12, h13, h15, h16, h17, h18, h20, -⟩ := id hI
  refine Ct_of (own := "PathCallsModel") (ini := false) rfl rfl (Nat.le_of_ble_eq_true rfl) (fun q => by cases q) ?_
  have bad : ki 8 k = none → V x "PathCallsModel" b_Md_segment 2 (Option.some .long) false (rmd 0 0 0) 0 0 (fun r h' => r = some (.long (segS S k)) ∧ h = h') 19 [(0, .ref m), (1, .int k)] [] h 0 0 := by
    intro he
    refine V_lconst (pc' := 20) (v := 0) d_Md_segment_19 (by decide) rfl ?_
    refine V_lret d_Md_segment_20 rfl (by first | decide | omega) (by first | decide | omega) ?_
    unfold segS
    rw [he]; exact ⟨rfl, rfl⟩
  refine V_iload_n (pc' := 1) d_Md_segment_0 rfl rfl ?_
  refine V_if_le (pc' := 4) (tgt := 19) d_Md_segment_1 (by decide) rfl (fun c1 => ?_) (fun c1 => ?_)
  · exact bad (ki_none.mpr (fun q => absurd q.1 (Int32.not_lt.mpr c1)))
  · refine V_iload_n (pc' := 5) d_Md_segment_4 rfl rfl ?_
    refine V_bipush (pc' := 7) (v := 8) d_Md_segment_5 (by decide) rfl ?_
    refine V_icmp_gt (pc' := 10) (tgt := 19) d_Md_segment_7 (by decide) rfl (fun c7 => ?_) (fun c7 => ?_)
    · exact bad (ki_none.mpr (fun q => absurd q.2 (Int32.not_le.mpr c7)))
    · cases ek : ki 8 k with
      | none => exact absurd ⟨Int32.not_le.mp c1, Int32.not_lt.mp c7⟩ (ki_none.mp ek)
      | some j =>
        obtain ⟨e1, e2, e3⟩ := ki_some (by omega) ek
        subst e1
        refine V_aload_n (pc' := 11) d_Md_segment_10 rfl (by first | rfl | exact isR_rf _) rfl ?_
        refine V_getf (pc' := 14) d_Md_segment_11 fl_Md_57 rfl (by first | assumption | exact aset_self _ _ _ | exact apush_self _ _) (by rfl) ?_
        refine V_iload_n (pc' := 15) d_Md_segment_14 rfl rfl ?_
        -- at 15 laload
        refine V_lald (pc' := 16) d_Md_segment_15 rfl h20 rfl rfl (by omega) (arv_get (by omega)) ?_
        refine V_goto (tgt := 20) d_Md_segment_16 (by decide) ?_
        refine V_lret d_Md_segment_20 rfl (by first | decide | omega) (by first | decide | omega) ?_
        unfold segS
        rw [ek]; exact ⟨rfl, rfl⟩
theorem c_Md_count (hI : IM h m A S) : Cr x y_Md_count b_Md_count 1 (some .int) 0 [.ref m] h (.int (countS S)) := by
  obtain ⟨hm, -⟩ := id hI
  refine Ct_of (own := "PathCallsModel") (ini := false) rfl rfl (Nat.le_of_ble_eq_true rfl) (fun q => by cases q) ?_
  refine V_aload_n (pc' := 1) d_Md_count_0 rfl (by first | rfl | exact isR_rf _) rfl ?_
  refine V_getf (pc' := 4) d_Md_count_1 fl_Md_74 rfl (by first | assumption | exact aset_self _ _ _ | exact apush_self _ _) (by rfl) ?_
  refine V_iret d_Md_count_4 rfl (by first | decide | omega) (by first | decide | omega) ?_
  exact ⟨rfl, rfl⟩
end M5
