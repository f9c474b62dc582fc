-- the reference's methods, 2
section M2
variable {x : CX} {h : AH} {m : Nat} {A : Nat → Nat} {S : PS}
theorem c_Md_over (hI : IM h m A S) (hz : ssz S ≤ 1000) (hs : ∀ i, i < ssz S → sso S i < 21) (hl : ∀ i, i < ssz S → slo S i < 21) {o : Option Nat} (ho : ∀ i, o = some i → i < ssz S) {l : Nat} (hl3 : l < 2 ^ 31) (hl0 : 0 < ssz S → slo S 0 ≤ l) : Cr x y_Md_over b_Md_over 4 (some .int) 1 [.ref m, .int (oI o), .int (nI l)] h (.int (oI (ovr S o l))) := by
  obtain ⟨hm, -⟩ := id hI
  refine Ct_of (own := "PathCallsModel") (ini := false) rfl rfl (Nat.le_of_ble_eq_true rfl) (fun q => by cases q) ?_
  have loop : ∀ (k : Nat), k < ssz S → ∀ j, ovr S o l = some (ov (slo S) l j) → j = k → V x "PathCallsModel" b_Md_over 4 (Option.some .int) false (rmd 1 0 0) 0 0 (fun r h' => r = some (.int (oI (ovr S o l))) ∧ h = h') 18 [(0, .ref m), (1, .int (oI o)), (2, .int (nI l)), (3, .int (nI k))] [] h 0 0 := by
    intro k
    induction k with
    | zero =>
      intro hk j hj ej
      subst ej
      refine V_aload_n (pc' := 19) d_Md_over_18 rfl (by first | rfl | exact isR_rf _) rfl ?_
      refine V_iload_n (pc' := 20) d_Md_over_19 rfl rfl ?_
      -- at 20 invokevirtual
      refine V_callV (pc' := 23) (As := [_]) (ci := 6) d_Md_over_20 mv_Md_77 mw_Md_levelOf rfl rfl rfl (by simp [Value.category]) rfl (by first | assumption | exact aset_self _ _ _ | exact apush_self _ _) (c_Md_levelOf hI (i := 0) (by omega) (hs 0 hk)) (by first | decide | omega) (by first | decide | omega) (by first | decide | omega) (by first | decide | omega) ?_
      rintro _ _ ⟨rfl, rfl⟩
      refine V_iload_n (pc' := 24) d_Md_over_23 rfl rfl ?_
      refine V_icmp_le (pc' := 27) (tgt := 33) d_Md_over_24 (by decide) rfl (fun c24 => ?_) (fun c24 => ?_)
      · refine V_iload_n (pc' := 34) d_Md_over_33 rfl rfl ?_
        refine V_iret d_Md_over_34 rfl (by first | decide | omega) (by first | decide | omega) ?_
        refine ⟨?_, rfl⟩
        rw [hj]; rfl
      · exact absurd (nI_le (hl0 hk) hl3) c24
    | succ k ih =>
      intro hk j hj ej
      subst ej
      refine V_aload_n (pc' := 19) d_Md_over_18 rfl (by first | rfl | exact isR_rf _) rfl ?_
      refine V_iload_n (pc' := 20) d_Md_over_19 rfl rfl ?_
      -- at 20 invokevirtual
      refine V_callV (pc' := 23) (As := [_]) (ci := 6) d_Md_over_20 mv_Md_77 mw_Md_levelOf rfl rfl rfl (by simp [Value.category]) rfl (by first | assumption | exact aset_self _ _ _ | exact apush_self _ _) (c_Md_levelOf hI (i := k + 1) (by omega) (hs _ hk)) (by first | decide | omega) (by first | decide | omega) (by first | decide | omega) (by first | decide | omega) ?_
      rintro _ _ ⟨rfl, rfl⟩
      have e1 := hl _ hk
      refine V_iload_n (pc' := 24) d_Md_over_23 rfl rfl ?_
      refine V_icmp_le (pc' := 27) (tgt := 33) d_Md_over_24 (by decide) rfl (fun c24 => ?_) (fun c24 => ?_)
      · refine V_iload_n (pc' := 34) d_Md_over_33 rfl rfl ?_
        refine V_iret d_Md_over_34 rfl (by first | decide | omega) (by first | decide | omega) ?_
        refine ⟨?_, rfl⟩
        have := (nI_leI (by omega) hl3).mp c24
        rw [hj, ov, if_neg (by omega)]; rfl
      · refine V_iinc (pc' := 30) d_Md_over_27 rfl rfl (by decide) rfl ?_
        refine V_goto (tgt := 18) d_Md_over_30 (by decide) ?_
        refine V_L [(0, .ref m), (1, .int (oI o)), (2, .int (nI l)), (3, .int (nI k))] ⟨rfl, rfl, rfl, (by show some (Value.int (nI (k + 1) + Int32.ofInt (-1))) = _; rw [show Int32.ofInt (-1) = -1 from rfl, pk_m1]), trivial⟩ ?_
        refine ih (by omega) k ?_ rfl
        have : ¬ slo S (k + 1) ≤ l := fun q => c24 (nI_le q hl3)
        rw [hj, ov, if_pos (by omega)]
  cases o with
  | none =>
    refine V_iload_n (pc' := 1) d_Md_over_0 rfl rfl ?_
    refine V_iconst (pc' := 2) (v := (-1)) d_Md_over_1 (by decide) rfl ?_
    refine V_icmp_eq (pc' := 5) (tgt := 14) d_Md_over_2 (by decide) rfl (fun c2 => ?_) (fun c2 => ?_)
    · refine V_iconst (pc' := 15) (v := (-1)) d_Md_over_14 (by decide) rfl ?_
      refine V_iret d_Md_over_15 rfl (by first | decide | omega) (by first | decide | omega) ?_
      exact ⟨rfl, rfl⟩
    · exact absurd rfl c2
  | some i =>
    have hi := ho i rfl
    refine V_iload_n (pc' := 1) d_Md_over_0 rfl rfl ?_
    refine V_iconst (pc' := 2) (v := (-1)) d_Md_over_1 (by decide) rfl ?_
    refine V_icmp_eq (pc' := 5) (tgt := 14) d_Md_over_2 (by decide) rfl (fun c2 => ?_) (fun c2 => ?_)
    · exact absurd c2 (nI_m1 (by omega))
    · refine V_aload_n (pc' := 6) d_Md_over_5 rfl (by first | rfl | exact isR_rf _) rfl ?_
      refine V_iload_n (pc' := 7) d_Md_over_6 rfl rfl ?_
      -- at 7 invokevirtual
      refine V_callV (pc' := 10) (As := [_]) (ci := 6) d_Md_over_7 mv_Md_77 mw_Md_levelOf rfl rfl rfl (by simp [Value.category]) rfl (by first | assumption | exact aset_self _ _ _ | exact apush_self _ _) (c_Md_levelOf hI (i := i) (by omega) (hs i hi)) (by first | decide | omega) (by first | decide | omega) (by first | decide | omega) (by first | decide | omega) ?_
      rintro _ _ ⟨rfl, rfl⟩
      have e1 := hl i hi
      refine V_iload_n (pc' := 11) d_Md_over_10 rfl rfl ?_
      refine V_icmp_ge (pc' := 14) (tgt := 16) d_Md_over_11 (by decide) rfl (fun c11 => ?_) (fun c11 => ?_)
      · refine V_iload_n (pc' := 17) d_Md_over_16 rfl rfl ?_
        refine V_istore_n (pc' := 18) d_Md_over_17 (by decide) rfl ?_
        have hge : ¬ slo S i < l := by
          have := (nI_leI hl3 (by omega)).mp c11
          omega
        exact loop i hi i (by unfold ovr; simp [hge]) rfl
      · refine V_iconst (pc' := 15) (v := (-1)) d_Md_over_14 (by decide) rfl ?_
        refine V_iret d_Md_over_15 rfl (by first | decide | omega) (by first | decide | omega) ?_
        refine ⟨?_, rfl⟩
        have hlt : slo S i < l := by
          rcases Nat.lt_or_ge (slo S i) l with q | q
          · exact q
          · exact absurd (nI_le q (by omega)) c11
        have : ovr S (some i) l = none := by unfold ovr; simp [hlt]
        rw [this]; rfl
theorem c_Md_ofKind (hI : IM h m A S) (hz : ssz S ≤ 1000) (hs : ∀ i, i < ssz S → sso S i < 21) (hl : ∀ i, i < ssz S → slo S i < 21) {o : Option Nat} (ho : ∀ i, o = some i → i < ssz S) {kd : Nat} (hk : kd < 21) (hl3 : slv S kd < 2 ^ 31) (hl0 : 0 < ssz S → slo S 0 ≤ slv S kd) : Cr x y_Md_ofKind b_Md_ofKind 4 (some .int) 2 [.ref m, .int (oI o), .int (nI kd)] h (.int (oI (okd S o kd))) := by
  obtain ⟨hm, h0, h1, h2, h3, h5, h6, -⟩ := id hI
  refine Ct_of (own := "PathCallsModel") (ini := false) rfl rfl (Nat.le_of_ble_eq_true rfl) (fun q => by cases q) ?_
  refine V_aload_n (pc' := 1) d_Md_ofKind_0 rfl (by first | rfl | exact isR_rf _) rfl ?_
  refine V_iload_n (pc' := 2) d_Md_ofKind_1 rfl rfl ?_
  refine V_aload_n (pc' := 3) d_Md_ofKind_2 rfl (by first | rfl | exact isR_rf _) rfl ?_
  refine V_getf (pc' := 6) d_Md_ofKind_3 fl_Md_13 rfl (by first | assumption | exact aset_self _ _ _ | exact apush_self _ _) (by rfl) ?_
  refine V_iload_n (pc' := 7) d_Md_ofKind_6 rfl rfl ?_
  -- at 7 iaload
  refine V_iald (pc' := 8) d_Md_ofKind_7 rfl h1 rfl rfl (by omega) (arv_get hk) ?_
  refine V_callV (pc' := 11) (As := [_, _]) (ci := 6) d_Md_ofKind_8 mv_Md_81 mw_Md_over rfl rfl rfl (by simp [Value.category]) rfl (by first | assumption | exact aset_self _ _ _ | exact apush_self _ _) (c_Md_over hI hz hs hl ho hl3 hl0) (by first | decide | omega) (by first | decide | omega) (by first | decide | omega) (by first | decide | omega) ?_
  rintro _ _ ⟨rfl, rfl⟩
  have hov : ∀ k, ovr S o (slv S kd) = some k → k < ssz S := by
    intro k hk
    unfold ovr at hk
    cases o with
    | none => cases hk
    | some i =>
      dsimp only at hk
      split at hk
      · cases hk
      · cases hk
        exact Nat.lt_of_le_of_lt (ov_le i) (ho i rfl)
  cases ek : ovr S o (slv S kd) with
  | none =>
    have e2 : okd S o kd = none := by unfold okd; rw [ek]
    refine V_istore_n (pc' := 12) d_Md_ofKind_11 (by decide) rfl ?_
    refine V_iload_n (pc' := 13) d_Md_ofKind_12 rfl rfl ?_
    refine V_iconst (pc' := 14) (v := (-1)) d_Md_ofKind_13 (by decide) rfl ?_
    refine V_icmp_eq (pc' := 17) (tgt := 31) d_Md_ofKind_14 (by decide) rfl (fun c14 => ?_) (fun c14 => ?_)
    · refine V_iconst (pc' := 32) (v := (-1)) d_Md_ofKind_31 (by decide) rfl ?_
      refine V_iret d_Md_ofKind_32 rfl (by first | decide | omega) (by first | decide | omega) ?_
      rw [e2]
      exact ⟨rfl, rfl⟩
    · exact absurd rfl c14
  | some k =>
    have hkz := hov k ek
    refine V_istore_n (pc' := 12) d_Md_ofKind_11 (by decide) rfl ?_
    refine V_iload_n (pc' := 13) d_Md_ofKind_12 rfl rfl ?_
    refine V_iconst (pc' := 14) (v := (-1)) d_Md_ofKind_13 (by decide) rfl ?_
    refine V_icmp_eq (pc' := 17) (tgt := 31) d_Md_ofKind_14 (by decide) rfl (fun c14 => ?_) (fun c14 => ?_)
    · exact absurd c14 (nI_m1 (by omega))
    · refine V_aload_n (pc' := 18) d_Md_ofKind_17 rfl (by first | rfl | exact isR_rf _) rfl ?_
      refine V_getf (pc' := 21) d_Md_ofKind_18 fl_Md_26 rfl (by first | assumption | exact aset_self _ _ _ | exact apush_self _ _) (by rfl) ?_
      refine V_iload_n (pc' := 22) d_Md_ofKind_21 rfl rfl ?_
      -- at 22 iaload
      refine V_iald (pc' := 23) d_Md_ofKind_22 rfl h6 rfl rfl (by omega) (arv_get (by omega)) ?_
      have e1 := hs k hkz
      refine V_iload_n (pc' := 24) d_Md_ofKind_23 rfl rfl ?_
      refine V_icmp_ne (pc' := 27) (tgt := 31) d_Md_ofKind_24 (by decide) rfl (fun c24 => ?_) (fun c24 => ?_)
      · refine V_iconst (pc' := 32) (v := (-1)) d_Md_ofKind_31 (by decide) rfl ?_
        refine V_iret d_Md_ofKind_32 rfl (by first | decide | omega) (by first | decide | omega) ?_
        have e2 : okd S o kd = none := by unfold okd; rw [ek]; exact if_neg (fun q => c24 (by rw [q]))
        rw [e2]
        exact ⟨rfl, rfl⟩
      · refine V_iload_n (pc' := 28) d_Md_ofKind_27 rfl rfl ?_
        refine V_goto (tgt := 32) d_Md_ofKind_28 (by decide) ?_
        refine V_iret d_Md_ofKind_32 rfl (by first | decide | omega) (by first | decide | omega) ?_
        have e2 : okd S o kd = some k := by unfold okd; rw [ek]; exact if_pos ((nI_eq (by omega) (by omega)).mp c24)
        rw [e2]
        exact ⟨rfl, rfl⟩
theorem c_Md_relates {op : Nat} (ho : op ≤ 6) {a b : Int64} : Cr x y_Md_relates b_Md_relates 5 (some .boolean) 0 [.int (nI op), .long a, .long b] h (.int (ob (rel op a b))) := by
  refine Ct_of (own := "PathCallsModel") (ini := false) rfl rfl (Nat.le_of_ble_eq_true rfl) (fun q => by cases q) ?_
  rcases (show op = 0 ∨ op = 1 ∨ op = 2 ∨ op = 3 ∨ op = 4 ∨ op = 5 ∨ op = 6 by omega) with rfl | rfl | rfl | rfl | rfl | rfl | rfl
  · refine V_iload_n (pc' := 1) d_Md_relates_0 rfl rfl ?_
    -- at 1 tableswitch
    refine V_tableOut (tgt := 112) d_Md_relates_1 (Or.inl (by decide)) (by decide) ?_
    refine V_iconst (pc' := 113) (v := 1) d_Md_relates_112 (by decide) rfl ?_
    refine V_zret d_Md_relates_113 rfl (by first | rfl | exact ob_nar _) (by first | decide | omega) (by first | decide | omega) ?_
    exact ⟨rfl, rfl⟩
  · refine V_iload_n (pc' := 1) d_Md_relates_0 rfl rfl ?_
    -- at 1 tableswitch
    refine V_tableIn (off := 39) (tgt := 40) d_Md_relates_1 (by decide) (by decide) rfl (by decide) ?_
    refine V_lload_n (pc' := 41) d_Md_relates_40 rfl rfl ?_
    refine V_lload_n (pc' := 42) d_Md_relates_41 rfl rfl ?_
    refine V_lcmp (pc' := 43) d_Md_relates_42 rfl ?_
    refine V_if_ne (pc' := 46) (tgt := 50) d_Md_relates_43 (by decide) rfl (fun c43 => ?_) (fun c43 => ?_)
    · refine V_iconst (pc' := 51) (v := 0) d_Md_relates_50 (by decide) rfl ?_
      refine V_zret d_Md_relates_51 rfl (by first | rfl | exact ob_nar _) (by first | decide | omega) (by first | decide | omega) ?_
      have : rel 1 a b = false := decide_eq_false (fun q => c43 ((lg_cmp_eq a b).mpr q))
      rw [this]; exact ⟨rfl, rfl⟩
    · refine V_iconst (pc' := 47) (v := 1) d_Md_relates_46 (by decide) rfl ?_
      refine V_goto (tgt := 51) d_Md_relates_47 (by decide) ?_
      refine V_zret d_Md_relates_51 rfl (by first | rfl | exact ob_nar _) (by first | decide | omega) (by first | decide | omega) ?_
      have : rel 1 a b = true := decide_eq_true ((lg_cmp_eq a b).mp c43)
      rw [this]; exact ⟨rfl, rfl⟩
  · refine V_iload_n (pc' := 1) d_Md_relates_0 rfl rfl ?_
    -- at 1 tableswitch
    refine V_tableIn (off := 51) (tgt := 52) d_Md_relates_1 (by decide) (by decide) rfl (by decide) ?_
    refine V_lload_n (pc' := 53) d_Md_relates_52 rfl rfl ?_
    refine V_lload_n (pc' := 54) d_Md_relates_53 rfl rfl ?_
    refine V_lcmp (pc' := 55) d_Md_relates_54 rfl ?_
    refine V_if_le (pc' := 58) (tgt := 62) d_Md_relates_55 (by decide) rfl (fun c55 => ?_) (fun c55 => ?_)
    · refine V_iconst (pc' := 63) (v := 0) d_Md_relates_62 (by decide) rfl ?_
      refine V_zret d_Md_relates_63 rfl (by first | rfl | exact ob_nar _) (by first | decide | omega) (by first | decide | omega) ?_
      have : rel 2 a b = false := decide_eq_false (fun q => absurd ((lg_cmp_gt a b).mpr q) (Int32.not_lt.mpr c55))
      rw [this]; exact ⟨rfl, rfl⟩
    · refine V_iconst (pc' := 59) (v := 1) d_Md_relates_58 (by decide) rfl ?_
      refine V_goto (tgt := 63) d_Md_relates_59 (by decide) ?_
      refine V_zret d_Md_relates_63 rfl (by first | rfl | exact ob_nar _) (by first | decide | omega) (by first | decide | omega) ?_
      have : rel 2 a b = true := decide_eq_true ((lg_cmp_gt a b).mp (Int32.not_le.mp c55))
      rw [this]; exact ⟨rfl, rfl⟩
  · refine V_iload_n (pc' := 1) d_Md_relates_0 rfl rfl ?_
    -- at 1 tableswitch
    refine V_tableIn (off := 63) (tgt := 64) d_Md_relates_1 (by decide) (by decide) rfl (by decide) ?_
    refine V_lload_n (pc' := 65) d_Md_relates_64 rfl rfl ?_
    refine V_lload_n (pc' := 66) d_Md_relates_65 rfl rfl ?_
    refine V_lcmp (pc' := 67) d_Md_relates_66 rfl ?_
    refine V_if_ge (pc' := 70) (tgt := 74) d_Md_relates_67 (by decide) rfl (fun c67 => ?_) (fun c67 => ?_)
    · refine V_iconst (pc' := 75) (v := 0) d_Md_relates_74 (by decide) rfl ?_
      refine V_zret d_Md_relates_75 rfl (by first | rfl | exact ob_nar _) (by first | decide | omega) (by first | decide | omega) ?_
      have : rel 3 a b = false := decide_eq_false (fun q => absurd ((lg_cmp_lt a b).mpr q) (Int32.not_lt.mpr c67))
      rw [this]; exact ⟨rfl, rfl⟩
    · refine V_iconst (pc' := 71) (v := 1) d_Md_relates_70 (by decide) rfl ?_
      refine V_goto (tgt := 75) d_Md_relates_71 (by decide) ?_
      refine V_zret d_Md_relates_75 rfl (by first | rfl | exact ob_nar _) (by first | decide | omega) (by first | decide | omega) ?_
      have : rel 3 a b = true := decide_eq_true ((lg_cmp_lt a b).mp (Int32.not_le.mp c67))
      rw [this]; exact ⟨rfl, rfl⟩
  · refine V_iload_n (pc' := 1) d_Md_relates_0 rfl rfl ?_
    -- at 1 tableswitch
    refine V_tableIn (off := 75) (tgt := 76) d_Md_relates_1 (by decide) (by decide) rfl (by decide) ?_
    refine V_lload_n (pc' := 77) d_Md_relates_76 rfl rfl ?_
    refine V_lload_n (pc' := 78) d_Md_relates_77 rfl rfl ?_
    refine V_lcmp (pc' := 79) d_Md_relates_78 rfl ?_
    refine V_if_lt (pc' := 82) (tgt := 86) d_Md_relates_79 (by decide) rfl (fun c79 => ?_) (fun c79 => ?_)
    · refine V_iconst (pc' := 87) (v := 0) d_Md_relates_86 (by decide) rfl ?_
      refine V_zret d_Md_relates_87 rfl (by first | rfl | exact ob_nar _) (by first | decide | omega) (by first | decide | omega) ?_
      have : rel 4 a b = false := decide_eq_false (fun q => absurd ((lg_cmp_ge a b).mpr q) (Int32.not_le.mpr c79))
      rw [this]; exact ⟨rfl, rfl⟩
    · refine V_iconst (pc' := 83) (v := 1) d_Md_relates_82 (by decide) rfl ?_
      refine V_goto (tgt := 87) d_Md_relates_83 (by decide) ?_
      refine V_zret d_Md_relates_87 rfl (by first | rfl | exact ob_nar _) (by first | decide | omega) (by first | decide | omega) ?_
      have : rel 4 a b = true := decide_eq_true ((lg_cmp_ge a b).mp (Int32.not_lt.mp c79))
      rw [this]; exact ⟨rfl, rfl⟩
  · refine V_iload_n (pc' := 1) d_Md_relates_0 rfl rfl ?_
    -- at 1 tableswitch
    refine V_tableIn (off := 87) (tgt := 88) d_Md_relates_1 (by decide) (by decide) rfl (by decide) ?_
    refine V_lload_n (pc' := 89) d_Md_relates_88 rfl rfl ?_
    refine V_lload_n (pc' := 90) d_Md_relates_89 rfl rfl ?_
    refine V_lcmp (pc' := 91) d_Md_relates_90 rfl ?_
    refine V_if_gt (pc' := 94) (tgt := 98) d_Md_relates_91 (by decide) rfl (fun c91 => ?_) (fun c91 => ?_)
    · refine V_iconst (pc' := 99) (v := 0) d_Md_relates_98 (by decide) rfl ?_
      refine V_zret d_Md_relates_99 rfl (by first | rfl | exact ob_nar _) (by first | decide | omega) (by first | decide | omega) ?_
      have : rel 5 a b = false := decide_eq_false (fun q => absurd ((lg_cmp_le a b).mpr q) (Int32.not_le.mpr c91))
      rw [this]; exact ⟨rfl, rfl⟩
    · refine V_iconst (pc' := 95) (v := 1) d_Md_relates_94 (by decide) rfl ?_
      refine V_goto (tgt := 99) d_Md_relates_95 (by decide) ?_
      refine V_zret d_Md_relates_99 rfl (by first | rfl | exact ob_nar _) (by first | decide | omega) (by first | decide | omega) ?_
      have : rel 5 a b = true := decide_eq_true ((lg_cmp_le a b).mp (Int32.not_lt.mp c91))
      rw [this]; exact ⟨rfl, rfl⟩
  · refine V_iload_n (pc' := 1) d_Md_relates_0 rfl rfl ?_
    -- at 1 tableswitch
    refine V_tableIn (off := 99) (tgt := 100) d_Md_relates_1 (by decide) (by decide) rfl (by decide) ?_
    refine V_lload_n (pc' := 101) d_Md_relates_100 rfl rfl ?_
    refine V_lload_n (pc' := 102) d_Md_relates_101 rfl rfl ?_
    refine V_lcmp (pc' := 103) d_Md_relates_102 rfl ?_
    refine V_if_eq (pc' := 106) (tgt := 110) d_Md_relates_103 (by decide) rfl (fun c103 => ?_) (fun c103 => ?_)
    · refine V_iconst (pc' := 111) (v := 0) d_Md_relates_110 (by decide) rfl ?_
      refine V_zret d_Md_relates_111 rfl (by first | rfl | exact ob_nar _) (by first | decide | omega) (by first | decide | omega) ?_
      have : rel 6 a b = false := decide_eq_false (fun q => q ((lg_cmp_eq a b).mp c103))
      rw [this]; exact ⟨rfl, rfl⟩
    · refine V_iconst (pc' := 107) (v := 1) d_Md_relates_106 (by decide) rfl ?_
      refine V_goto (tgt := 111) d_Md_relates_107 (by decide) ?_
      refine V_zret d_Md_relates_111 rfl (by first | rfl | exact ob_nar _) (by first | decide | omega) (by first | decide | omega) ?_
      have : rel 6 a b = true := decide_eq_true (fun q => c103 ((lg_cmp_eq a b).mpr q))
      rw [this]; exact ⟨rfl, rfl⟩
theorem c_Md_isBelow (hI : IM h m A S) {a b : Nat} (ha : a < 21) (hb : b < 2 ^ 31) (hd : ∀ k, k < 21 → 0 < k → sab S k < k) (ha0 : 0 < a) : Cr x y_Md_isBelow b_Md_isBelow 4 (some .boolean) 0 [.ref m, .int (nI a), .int (nI b)] h (.int (ob (isb S a b))) := by
  obtain ⟨hm, h0, -⟩ := id hI
  refine Ct_of (own := "PathCallsModel") (ini := false) rfl rfl (Nat.le_of_ble_eq_true rfl) (fun q => by cases q) ?_
  have loop : ∀ (n k : Nat), k < n → k < 21 → isb S a b = blw (sab S) b n k → V x "PathCallsModel" b_Md_isBelow 4 (Option.some .boolean) false (rmd 0 0 0) 0 0 (fun r h' => r = some (.int (ob (isb S a b))) ∧ h = h') 7 [(0, .ref m), (1, .int (nI a)), (2, .int (nI b)), (3, .int (nI k))] [] h 0 0 := by
    intro n
    induction n with
    | zero => intro k hk; omega
    | succ n ih =>
      intro k hk hk2 hb2
      refine V_iload_n (pc' := 8) d_Md_isBelow_7 rfl rfl ?_
      refine V_if_eq (pc' := 11) (tgt := 26) d_Md_isBelow_8 (by decide) rfl (fun c8 => ?_) (fun c8 => ?_)
      · have e : k = 0 := (nI_eq (by omega) (by omega)).mp c8
        subst e
        refine V_iload_n (pc' := 27) d_Md_isBelow_26 rfl rfl ?_
        refine V_if_eq (pc' := 30) (tgt := 34) d_Md_isBelow_27 (by decide) rfl (fun c27 => ?_) (fun c27 => ?_)
        · refine V_iconst (pc' := 35) (v := 0) d_Md_isBelow_34 (by decide) rfl ?_
          refine V_zret d_Md_isBelow_35 rfl (by first | rfl | exact ob_nar _) (by first | decide | omega) (by first | decide | omega) ?_
          have : isb S a b = false := by rw [hb2]; rfl
          rw [this]; exact ⟨rfl, rfl⟩
        · exact absurd rfl c27
      · have hk0 : k ≠ 0 := fun q => c8 (by rw [q]; rfl)
        refine V_iload_n (pc' := 12) d_Md_isBelow_11 rfl rfl ?_
        refine V_iload_n (pc' := 13) d_Md_isBelow_12 rfl rfl ?_
        refine V_icmp_eq (pc' := 16) (tgt := 26) d_Md_isBelow_13 (by decide) rfl (fun c13 => ?_) (fun c13 => ?_)
        · have e : k = b := (nI_eq (by omega) hb).mp c13
          refine V_iload_n (pc' := 27) d_Md_isBelow_26 rfl rfl ?_
          refine V_if_eq (pc' := 30) (tgt := 34) d_Md_isBelow_27 (by decide) rfl (fun c27 => ?_) (fun c27 => ?_)
          · exact absurd c27 c8
          · refine V_iconst (pc' := 31) (v := 1) d_Md_isBelow_30 (by decide) rfl ?_
            refine V_goto (tgt := 35) d_Md_isBelow_31 (by decide) ?_
            refine V_zret d_Md_isBelow_35 rfl (by first | rfl | exact ob_nar _) (by first | decide | omega) (by first | decide | omega) ?_
            have : isb S a b = true := by rw [hb2, blw, if_neg hk0, if_pos e]
            rw [this]; exact ⟨rfl, rfl⟩
        · have e : ¬ k = b := fun q => c13 (by rw [q])
          refine V_aload_n (pc' := 17) d_Md_isBelow_16 rfl (by first | rfl | exact isR_rf _) rfl ?_
          refine V_getf (pc' := 20) d_Md_isBelow_17 fl_Md_7 rfl (by first | assumption | exact aset_self _ _ _ | exact apush_self _ _) (by rfl) ?_
          refine V_iload_n (pc' := 21) d_Md_isBelow_20 rfl rfl ?_
          -- at 21 iaload
          refine V_iald (pc' := 22) d_Md_isBelow_21 rfl h0 rfl rfl (by omega) (arv_get hk2) ?_
          refine V_istore_n (pc' := 23) d_Md_isBelow_22 (by decide) rfl ?_
          refine V_goto (tgt := 7) d_Md_isBelow_23 (by decide) ?_
          have h9 := hd k hk2 (by omega)
          refine V_L [(0, .ref m), (1, .int (nI a)), (2, .int (nI b)), (3, .int (nI (sab S k)))] ⟨rfl, rfl, rfl, rfl, trivial⟩ ?_
          refine ih (sab S k) (by omega) (by omega) ?_
          rw [hb2, blw, if_neg hk0, if_neg e]
  refine V_aload_n (pc' := 1) d_Md_isBelow_0 rfl (by first | rfl | exact isR_rf _) rfl ?_
  refine V_getf (pc' := 4) d_Md_isBelow_1 fl_Md_7 rfl (by first | assumption | exact aset_self _ _ _ | exact apush_self _ _) (by rfl) ?_
  refine V_iload_n (pc' := 5) d_Md_isBelow_4 rfl rfl ?_
  -- at 5 iaload
  refine V_iald (pc' := 6) d_Md_isBelow_5 rfl h0 rfl rfl (by omega) (arv_get ha) ?_
  refine V_istore_n (pc' := 7) d_Md_isBelow_6 (by decide) rfl ?_
  have h9 := hd a ha ha0
  exact loop 21 (sab S a) (by omega) (by omega) rfl
end M2
