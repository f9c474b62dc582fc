-- the reference's small methods (wip/whole/m1.t.txt, expanded by xp.py)
section M1
variable {x : CX} {h : AH} {m : Nat} {A : Nat → Nat} {S : PS}
theorem c_Md_isKind (hI : IM h m A S) (k : Int32) : Cr x y_Md_isKind b_Md_isKind 2 (some .boolean) 0 [.ref m, .int k] h (.int (ob (decide (0 < k ∧ k ≤ nI (skc S))))) := by
  obtain ⟨hm, -⟩ := hI
  refine Ct_of (own := "PathCallsModel") (ini := false) rfl rfl (Nat.le_of_ble_eq_true rfl) (fun q => by cases q) ?_
  refine V_iload_n (pc' := 1) d_Md_isKind_0 rfl rfl ?_
  refine V_if_le (pc' := 4) (tgt := 16) d_Md_isKind_1 (by decide) rfl (fun c1 => ?_) (fun c1 => ?_)
  · refine V_iconst (pc' := 17) (v := 0) d_Md_isKind_16 (by decide) rfl ?_
    refine V_zret d_Md_isKind_17 rfl (by first | rfl | exact ob_nar _) (by first | decide | omega) (by first | decide | omega) ?_
    refine ⟨?_, rfl⟩
    rw [decide_eq_false (fun q => Int32.not_lt.mpr c1 q.1)]; rfl
  · refine V_iload_n (pc' := 5) d_Md_isKind_4 rfl rfl ?_
    refine V_aload_n (pc' := 6) d_Md_isKind_5 rfl (by first | rfl | exact isR_rf _) rfl ?_
    refine V_getf (pc' := 9) d_Md_isKind_6 fl_Md_60 rfl (by first | assumption | exact aset_self _ _ _ | exact apush_self _ _) (by rfl) ?_
    refine V_icmp_gt (pc' := 12) (tgt := 16) d_Md_isKind_9 (by decide) rfl (fun c9 => ?_) (fun c9 => ?_)
    · refine V_iconst (pc' := 17) (v := 0) d_Md_isKind_16 (by decide) rfl ?_
      refine V_zret d_Md_isKind_17 rfl (by first | rfl | exact ob_nar _) (by first | decide | omega) (by first | decide | omega) ?_
      refine ⟨?_, rfl⟩
      rw [decide_eq_false (fun q => absurd q.2 (by have := c9; exact Int32.not_le.mpr this))]; rfl
    · refine V_iconst (pc' := 13) (v := 1) d_Md_isKind_12 (by decide) rfl ?_
      refine V_goto (tgt := 17) d_Md_isKind_13 (by decide) ?_
      refine V_zret d_Md_isKind_17 rfl (by first | rfl | exact ob_nar _) (by first | decide | omega) (by first | decide | omega) ?_
      refine ⟨?_, rfl⟩
      rw [decide_eq_true ⟨Int32.not_le.mp c1, Int32.not_lt.mp c9⟩]; rfl
theorem c_Md_levelOf (hI : IM h m A S) {i : Nat} (hi : i < 1100) (hs : sso S i < 21) : Cr x y_Md_levelOf b_Md_levelOf 2 (some .int) 0 [.ref m, .int (nI i)] h (.int (nI (slo S i))) := by
  obtain ⟨hm, h0, h1, h2, h3, h5, h6, -⟩ := hI
  refine Ct_of (own := "PathCallsModel") (ini := false) rfl rfl (Nat.le_of_ble_eq_true rfl) (fun q => by cases q) ?_
  refine V_aload_n (pc' := 1) d_Md_levelOf_0 rfl (by first | rfl | exact isR_rf _) rfl ?_
  refine V_getf (pc' := 4) d_Md_levelOf_1 fl_Md_13 rfl (by first | assumption | exact aset_self _ _ _ | exact apush_self _ _) (by rfl) ?_
  refine V_aload_n (pc' := 5) d_Md_levelOf_4 rfl (by first | rfl | exact isR_rf _) rfl ?_
  refine V_getf (pc' := 8) d_Md_levelOf_5 fl_Md_26 rfl (by first | assumption | exact aset_self _ _ _ | exact apush_self _ _) (by rfl) ?_
  refine V_iload_n (pc' := 9) d_Md_levelOf_8 rfl rfl ?_
  -- at 9 iaload
  refine V_iald (pc' := 10) d_Md_levelOf_9 rfl h6 rfl rfl (by omega) (arv_get hi) ?_
  refine V_iald (pc' := 11) d_Md_levelOf_10 rfl h1 rfl rfl (by omega) (arv_get hs) ?_
  refine V_iret d_Md_levelOf_11 rfl (by first | decide | omega) (by first | decide | omega) ?_
  exact ⟨rfl, rfl⟩
theorem c_Md_placeOf (hI : IM h m A S) (hz : ssz S ≤ 1000) {nm : Nat} (hn : nm < 2 ^ 31) (hq : ∀ i, i < ssz S → snm S i < 2 ^ 31) : Cr x y_Md_placeOf b_Md_placeOf 4 (some .int) 0 [.ref m, .int (nI nm)] h (.int (oI (plc S nm))) := by
  obtain ⟨hm, h0, h1, h2, h3, h5, h6, -⟩ := hI
  refine Ct_of (own := "PathCallsModel") (ini := false) rfl rfl (Nat.le_of_ble_eq_true rfl) (fun q => by cases q) ?_
  have loop : ∀ (n i : Nat), i + n = ssz S → ∀ o : Option Nat, (nm ≠ 0 → o = pl (snm S) nm i) → (nm = 0 → o = none) → V x "PathCallsModel" b_Md_placeOf 4 (Option.some .int) false (rmd 0 0 0) 0 0 (fun r h' => r = some (.int (oI (plc S nm))) ∧ h = h') 4 [(0, .ref m), (1, .int (nI nm)), (2, .int (oI o)), (3, .int (nI i))] [] h 0 0 := by
    intro n
    induction n with
    | zero =>
      intro i hi o ho ho2
      refine V_iload_n (pc' := 5) d_Md_placeOf_4 rfl rfl ?_
      refine V_aload_n (pc' := 6) d_Md_placeOf_5 rfl (by first | rfl | exact isR_rf _) rfl ?_
      refine V_getf (pc' := 9) d_Md_placeOf_6 fl_Md_74 rfl (by first | assumption | exact aset_self _ _ _ | exact apush_self _ _) (by rfl) ?_
      refine V_icmp_ge (pc' := 12) (tgt := 38) d_Md_placeOf_9 (by decide) rfl (fun c9 => ?_) (fun c9 => ?_)
      · refine V_iload_n (pc' := 39) d_Md_placeOf_38 rfl rfl ?_
        refine V_iret d_Md_placeOf_39 rfl (by first | decide | omega) (by first | decide | omega) ?_
        refine ⟨?_, rfl⟩
        have e : o = plc S nm := by
          unfold plc
          split
          · rename_i q; exact ho2 q
          · rename_i q; rw [ho q, ← hi]; rfl
        rw [e]
      · exact absurd (nI_le (by omega) (by omega)) c9
    | succ n ih =>
      intro i hi o ho ho2
      refine V_iload_n (pc' := 5) d_Md_placeOf_4 rfl rfl ?_
      refine V_aload_n (pc' := 6) d_Md_placeOf_5 rfl (by first | rfl | exact isR_rf _) rfl ?_
      refine V_getf (pc' := 9) d_Md_placeOf_6 fl_Md_74 rfl (by first | assumption | exact aset_self _ _ _ | exact apush_self _ _) (by rfl) ?_
      refine V_icmp_ge (pc' := 12) (tgt := 38) d_Md_placeOf_9 (by decide) rfl (fun c9 => ?_) (fun c9 => ?_)
      · exact absurd c9 (nI_ge (by omega) (by omega))
      · refine V_iload_n (pc' := 13) d_Md_placeOf_12 rfl rfl ?_
        refine V_if_eq (pc' := 16) (tgt := 38) d_Md_placeOf_13 (by decide) rfl (fun c13 => ?_) (fun c13 => ?_)
        · refine V_iload_n (pc' := 39) d_Md_placeOf_38 rfl rfl ?_
          refine V_iret d_Md_placeOf_39 rfl (by first | decide | omega) (by first | decide | omega) ?_
          refine ⟨?_, rfl⟩
          have e : nm = 0 := (nI_eq hn (by omega)).mp c13
          have e2 : plc S nm = none := by unfold plc; rw [if_pos e]
          rw [ho2 e, e2]
        · have hne : nm ≠ 0 := fun q => c13 (by rw [q]; rfl)
          refine V_aload_n (pc' := 17) d_Md_placeOf_16 rfl (by first | rfl | exact isR_rf _) rfl ?_
          refine V_getf (pc' := 20) d_Md_placeOf_17 fl_Md_23 rfl (by first | assumption | exact aset_self _ _ _ | exact apush_self _ _) (by rfl) ?_
          refine V_iload_n (pc' := 21) d_Md_placeOf_20 rfl rfl ?_
          -- at 21 iaload
          refine V_iald (pc' := 22) d_Md_placeOf_21 rfl h5 rfl rfl (by omega) (arv_get (by omega)) ?_
          refine V_iload_n (pc' := 23) d_Md_placeOf_22 rfl rfl ?_
          refine V_icmp_ne (pc' := 26) (tgt := 30) d_Md_placeOf_23 (by decide) rfl (fun c23 => ?_) (fun c23 => ?_)
          · refine V_iload_n (pc' := 31) d_Md_placeOf_30 rfl rfl ?_
            refine V_istore_n (pc' := 32) d_Md_placeOf_31 (by decide) rfl ?_
            first | refine V_iincN (pc' := 35) d_Md_placeOf_32 rfl (by decide) rfl ?_ | refine V_iinc (pc' := 35) d_Md_placeOf_32 rfl rfl (by decide) rfl ?_
            refine V_goto (tgt := 4) d_Md_placeOf_35 (by decide) ?_
            refine V_L [(0, .ref m), (1, .int (nI nm)), (2, .int (oI o)), (3, .int (nI (i + 1)))] ⟨rfl, rfl, rfl, rfl, trivial⟩ ?_
            refine ih (i + 1) (by omega) o (fun _ => ?_) ho2
            rw [pl, if_neg (fun q => c23 (by rw [q])), ho hne]
          · refine V_iload_n (pc' := 27) d_Md_placeOf_26 rfl rfl ?_
            refine V_goto (tgt := 31) d_Md_placeOf_27 (by decide) ?_
            refine V_istore_n (pc' := 32) d_Md_placeOf_31 (by decide) rfl ?_
            first | refine V_iincN (pc' := 35) d_Md_placeOf_32 rfl (by decide) rfl ?_ | refine V_iinc (pc' := 35) d_Md_placeOf_32 rfl rfl (by decide) rfl ?_
            refine V_goto (tgt := 4) d_Md_placeOf_35 (by decide) ?_
            refine V_L [(0, .ref m), (1, .int (nI nm)), (2, .int (oI (some i))), (3, .int (nI (i + 1)))] ⟨rfl, rfl, rfl, rfl, trivial⟩ ?_
            refine ih (i + 1) (by omega) (some i) (fun _ => ?_) (fun q => absurd q hne)
            rw [pl, if_pos ((nI_eq (hq i (by omega)) hn).mp c23)]
  refine V_iconst (pc' := 1) (v := (-1)) d_Md_placeOf_0 (by decide) rfl ?_
  refine V_istore_n (pc' := 2) d_Md_placeOf_1 (by decide) rfl ?_
  refine V_iconst (pc' := 3) (v := 0) d_Md_placeOf_2 (by decide) rfl ?_
  refine V_istore_n (pc' := 4) d_Md_placeOf_3 (by decide) rfl ?_
  exact loop (ssz S) 0 (by omega) none (fun _ => rfl) (fun _ => rfl)
theorem c_Md_behind (hI : IM h m A S) (hz : ssz S ≤ 1000) (hs : ∀ i, i < ssz S → sso S i < 21) (hl : ∀ i, i < ssz S → slo S i < 21) {i : Nat} (hi : i < ssz S) : Cr x y_Md_behind b_Md_behind 3 (some .int) 1 [.ref m, .int (nI i)] h (.int (nI (bhd S i))) := by
  obtain ⟨hm, h0, h1, h2, h3, h5, h6, -⟩ := id hI
  refine Ct_of (own := "PathCallsModel") (ini := false) rfl rfl (Nat.le_of_ble_eq_true rfl) (fun q => by cases q) ?_
  have loop : ∀ (n k : Nat), k + n = ssz S → bhd S i = bh (slo S) (ssz S) (slo S i) n k → V x "PathCallsModel" b_Md_behind 3 (Option.some .int) false (rmd 1 0 0) 0 0 (fun r h' => r = some (.int (nI (bhd S i))) ∧ h = h') 4 [(0, .ref m), (1, .int (nI i)), (2, .int (nI k))] [] h 0 0 := by
    intro n
    induction n with
    | zero =>
      intro k hk hb
      refine V_iload_n (pc' := 5) d_Md_behind_4 rfl rfl ?_
      refine V_aload_n (pc' := 6) d_Md_behind_5 rfl (by first | rfl | exact isR_rf _) rfl ?_
      refine V_getf (pc' := 9) d_Md_behind_6 fl_Md_74 rfl (by first | assumption | exact aset_self _ _ _ | exact apush_self _ _) (by rfl) ?_
      refine V_icmp_ge (pc' := 12) (tgt := 31) d_Md_behind_9 (by decide) rfl (fun c9 => ?_) (fun c9 => ?_)
      · refine V_iload_n (pc' := 32) d_Md_behind_31 rfl rfl ?_
        refine V_iret d_Md_behind_32 rfl (by first | decide | omega) (by first | decide | omega) ?_
        refine ⟨?_, rfl⟩
        rw [hb]; rfl
      · exact absurd (nI_le (by omega) (by omega)) c9
    | succ n ih =>
      intro k hk hb
      refine V_iload_n (pc' := 5) d_Md_behind_4 rfl rfl ?_
      refine V_aload_n (pc' := 6) d_Md_behind_5 rfl (by first | rfl | exact isR_rf _) rfl ?_
      refine V_getf (pc' := 9) d_Md_behind_6 fl_Md_74 rfl (by first | assumption | exact aset_self _ _ _ | exact apush_self _ _) (by rfl) ?_
      refine V_icmp_ge (pc' := 12) (tgt := 31) d_Md_behind_9 (by decide) rfl (fun c9 => ?_) (fun c9 => ?_)
      · exact absurd c9 (nI_ge (by omega) (by omega))
      · refine V_aload_n (pc' := 13) d_Md_behind_12 rfl (by first | rfl | exact isR_rf _) rfl ?_
        refine V_iload_n (pc' := 14) d_Md_behind_13 rfl rfl ?_
        -- at 14 invokevirtual
        refine V_callV (pc' := 17) (As := [_]) (ci := 6) d_Md_behind_14 mv_Md_77 mw_Md_levelOf rfl rfl rfl (by simp [Value.category]) rfl (by first | assumption | exact aset_self _ _ _ | exact apush_self _ _) (c_Md_levelOf hI (i := k) (by omega) (hs k (by omega))) (by first | decide | omega) (by first | decide | omega) (by first | decide | omega) (by first | decide | omega) ?_
        rintro _ _ ⟨rfl, rfl⟩
        refine V_aload_n (pc' := 18) d_Md_behind_17 rfl (by first | rfl | exact isR_rf _) rfl ?_
        refine V_iload_n (pc' := 19) d_Md_behind_18 rfl rfl ?_
        -- at 19 invokevirtual
        refine V_callV (pc' := 22) (As := [_]) (ci := 6) d_Md_behind_19 mv_Md_77 mw_Md_levelOf rfl rfl rfl (by simp [Value.category]) rfl (by first | assumption | exact aset_self _ _ _ | exact apush_self _ _) (c_Md_levelOf hI (i := i) (by omega) (hs i hi)) (by first | decide | omega) (by first | decide | omega) (by first | decide | omega) (by first | decide | omega) ?_
        rintro _ _ ⟨rfl, rfl⟩
        have e1 := hl k (by omega)
        have e2 := hl i hi
        refine V_icmp_le (pc' := 25) (tgt := 31) d_Md_behind_22 (by decide) rfl (fun c22 => ?_) (fun c22 => ?_)
        · refine V_iload_n (pc' := 32) d_Md_behind_31 rfl rfl ?_
          refine V_iret d_Md_behind_32 rfl (by first | decide | omega) (by first | decide | omega) ?_
          refine ⟨?_, rfl⟩
          have := (nI_leI (by omega) (by omega)).mp c22
          rw [hb, bh, if_neg (by omega)]
        · first | refine V_iincN (pc' := 28) d_Md_behind_25 rfl (by decide) rfl ?_ | refine V_iinc (pc' := 28) d_Md_behind_25 rfl rfl (by decide) rfl ?_
          refine V_goto (tgt := 4) d_Md_behind_28 (by decide) ?_
          refine V_L [(0, .ref m), (1, .int (nI i)), (2, .int (nI (k + 1)))] ⟨rfl, rfl, rfl, trivial⟩ ?_
          refine ih (k + 1) (by omega) ?_
          have : ¬ slo S k ≤ slo S i := fun q => c22 (nI_le q (by omega))
          rw [hb, bh, if_pos ⟨by omega, by omega⟩]
  refine V_iload_n (pc' := 1) d_Md_behind_0 rfl rfl ?_
  refine V_iconst (pc' := 2) (v := 1) d_Md_behind_1 (by decide) rfl ?_
  refine V_iadd (pc' := 3) d_Md_behind_2 rfl ?_
  refine V_istore_n (pc' := 4) d_Md_behind_3 (by decide) rfl ?_
  refine V_L [(0, .ref m), (1, .int (nI i)), (2, .int (nI (i + 1)))] ⟨rfl, rfl, (by show some (Value.int (nI i + 1)) = _; rw [nI_1]), trivial⟩ ?_
  exact loop (ssz S - (i + 1)) (i + 1) (by omega) (bh_fuel _ _ _ (by omega) (by omega))
end M1
