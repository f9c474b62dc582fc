-- the class: more public methods
section X6
variable {x : CX} {h h0 : AH} {o : Nat} {B B0 : XB} {S : PS}
theorem wi_of {n : Nat} {k : Int32} (h1 : ¬ k < 1) (h2 : ¬ nI n < k) : ∃ j, ki n k = some j := ki_of h1 (Int32.not_lt.mp h2)
theorem c_PC_code (hX : IX h o B S) (hh : Hok h) (hp : spc S ≤ 8) (k op : Int32) : Ct x y_PC_code b_PC_code 5 (some .int) 0 0 0 [.ref o, .int k, .int op] h (PX h o B (codeS S k op)) := by
  have hJ : JX h h o B B S := ⟨hX, XF_rf hh⟩
  obtain ⟨ho, hka, hva, hpa, hba, hra, hpv, h8, h9, h10, h11, iv, ip, is⟩ := id hX
  refine Ct_of (own := "PathCalls") (ini := false) rfl rfl (Nat.le_of_ble_eq_true rfl) (fun q => by cases q) ?_
  have bad : codeS S k op = (-1, S) → V x "PathCalls" b_PC_code 5 (Option.some .int) false (rmd 0 0 0) 0 0 (PX h o B (codeS S k op)) 23 [(0, .ref o), (1, .int k), (2, .int op)] [] h 0 0 := by
    intro he
    refine V_iconst (pc' := 24) (v := (-1)) d_PC_code_23 (by decide) rfl ?_
    refine V_iret d_PC_code_24 rfl (by first | decide | omega) (by first | decide | omega) ?_
    rw [he]; exact ⟨rfl, B, hJ⟩
  refine V_iload_n (pc' := 1) d_PC_code_0 rfl rfl ?_
  refine V_iconst (pc' := 2) (v := 1) d_PC_code_1 (by decide) rfl ?_
  refine V_icmp_lt (pc' := 5) (tgt := 23) d_PC_code_2 (by decide) rfl (fun c2 => ?_) (fun c2 => ?_)
  · refine bad ?_
    have : ki (spc S) k = none := ki_none.mpr (fun q => lt_one.mp c2 q.1)
    unfold codeS; rw [this]
  · refine V_iload_n (pc' := 6) d_PC_code_5 rfl rfl ?_
    refine V_aload_n (pc' := 7) d_PC_code_6 rfl (by first | rfl | exact isR_rf _) rfl ?_
    refine V_getf (pc' := 10) d_PC_code_7 fl_PC_57 rfl (by first | assumption | exact aset_self _ _ _ | exact apush_self _ _) (by rfl) ?_
    refine V_icmp_gt (pc' := 13) (tgt := 23) d_PC_code_10 (by decide) rfl (fun c10 => ?_) (fun c10 => ?_)
    · refine bad ?_
      have : ki (spc S) k = none := ki_none.mpr (fun q => absurd q.2 (Int32.not_le.mpr c10))
      unfold codeS; rw [this]
    · obtain ⟨j, ej⟩ := wi_of c2 c10
      refine V_iload_n (pc' := 14) d_PC_code_13 rfl rfl ?_
      refine V_if_lt (pc' := 17) (tgt := 23) d_PC_code_14 (by decide) rfl (fun c14 => ?_) (fun c14 => ?_)
      · refine bad ?_
        unfold codeS; rw [ej, kz_none.mpr (Or.inl c14)]
      · refine V_iload_n (pc' := 18) d_PC_code_17 rfl rfl ?_
        refine V_bipush (pc' := 20) (v := 15) d_PC_code_18 (by decide) rfl ?_
        refine V_icmp_le (pc' := 23) (tgt := 25) d_PC_code_20 (by decide) rfl (fun c20 => ?_) (fun c20 => ?_)
        · cases eo : kz 15 op with
          | none =>
            rcases kz_none.mp eo with q | q
            · exact absurd q c14
            · exact absurd c20 (Int32.not_le.mpr q)
          | some oo =>
            obtain ⟨e1, e2, e3⟩ := ki_some (by omega) ej
            obtain ⟨f1, f2⟩ := kz_some (by omega) eo
            subst e1; subst f1
            have hcp := h10 (j - 1) (by omega)
            refine V_aload_n (pc' := 26) d_PC_code_25 rfl (by first | rfl | exact isR_rf _) rfl ?_
            refine V_getf (pc' := 29) d_PC_code_26 fl_PC_23 rfl (by first | assumption | exact aset_self _ _ _ | exact apush_self _ _) (by rfl) ?_
            refine V_iload_n (pc' := 30) d_PC_code_29 rfl rfl ?_
            refine V_iconst (pc' := 31) (v := 1) d_PC_code_30 (by decide) rfl ?_
            refine V_isub (pc' := 32) d_PC_code_31 rfl ?_
            -- at 32 aaload
            refine V_aald (pc' := 33) d_PC_code_32 rfl hpa rfl (pk_sub (a := j) (b := 1) e2) (by omega) (arv_get (by omega)) ?_
            refine V_astore_n (pc' := 34) d_PC_code_33 (by first | rfl | exact isR_rf _) (by decide) rfl ?_
            first | refine V_L [(0, _), (1, _), (2, _), (3, _)] ⟨rfl, rfl, rfl, rfl, trivial⟩ ?_ | (refine V_keep (by intro q hq e; simp only [List.mem_cons, List.not_mem_nil, or_false] at hq; rcases hq with rfl | rfl | rfl <;> first | rfl | exact va_rf_cat _ | exact absurd e (by decide)) ?_; refine V_L [(0, _), (1, _), (2, _), (3, _)] ⟨rfl, rfl, rfl, rfl, trivial⟩ ?_)
            refine V_aload_n (pc' := 35) d_PC_code_34 rfl (by first | rfl | exact isR_rf _) rfl ?_
            refine V_getf (pc' := 38) d_PC_code_35 fl_PC_64 rfl (by first | assumption | exact aset_self _ _ _ | exact apush_self _ _) (by rfl) ?_
            refine V_istore (pc' := 40) d_PC_code_38 (by decide) rfl ?_
            first | refine V_L [(0, _), (1, _), (2, _), (3, _), (4, _)] ⟨rfl, rfl, rfl, rfl, rfl, trivial⟩ ?_ | (refine V_keep (by intro q hq e; simp only [List.mem_cons, List.not_mem_nil, or_false] at hq; rcases hq with rfl | rfl | rfl | rfl <;> first | rfl | exact va_rf_cat _ | exact absurd e (by decide)) ?_; refine V_L [(0, _), (1, _), (2, _), (3, _), (4, _)] ⟨rfl, rfl, rfl, rfl, rfl, trivial⟩ ?_)
            refine V_aload_n (pc' := 41) d_PC_code_40 rfl (by first | rfl | exact isR_rf _) rfl ?_
            refine V_iload_n (pc' := 42) d_PC_code_41 rfl rfl ?_
            refine V_putf (pc' := 45) d_PC_code_42 fp_PC_64 rfl (by first | assumption | exact aset_self _ _ _ | exact apush_self _ _) (by first | rfl | exact ob_nar _ | exact nar_rf _) (by first | rfl | exact ob_fit _ | exact fits_rf _) (by exact Nat.le_of_ble_eq_true rfl) ?_
            have hJ2 := JX_part hJ (p := j - 1) (by omega) (spc S, spk S, sop S, fun i => if i = j - 1 then oo else scd S i, spy S) (fun q hq => ⟨rfl, rfl, if_neg hq, rfl⟩) rfl
            refine V_ex (fun g => JX h g o B B (ucd S (j - 1) oo)) ?_ (fun g1 hJ3 => ?_)
            · dsimp only at hJ2
              rw [if_pos rfl] at hJ2
              exact hJ2
            · refine V_iload (pc' := 47) d_PC_code_45 rfl rfl ?_
              refine V_iret d_PC_code_47 rfl (by first | decide | omega) (by first | decide | omega) ?_
              unfold codeS
              rw [ej, eo]
              exact ⟨rfl, B, hJ3⟩
        · refine bad ?_
          unfold codeS; rw [ej, kz_none.mpr (Or.inr (Int32.not_le.mp c20))]
theorem c_PC_rule (hX : IX h o B S) (hh : Hok h) (hk : skc S ≤ 20) (k op : Int32) : Ct x y_PC_rule b_PC_rule 5 (some .int) 1 0 0 [.ref o, .int k, .int op] h (PX h o B (ruleS S k op)) := by
  have hJ : JX h h o B B S := ⟨hX, XF_rf hh⟩
  obtain ⟨ho, hka, hva, hpa, hba, hra, hpv, h8, h9, h10, h11, iv, ip, is⟩ := id hX
  refine Ct_of (own := "PathCalls") (ini := false) rfl rfl (Nat.le_of_ble_eq_true rfl) (fun q => by cases q) ?_
  have bad : ruleS S k op = (-1, S) → ∀ z : Value, isR z = true → V x "PathCalls" b_PC_rule 5 (Option.some .int) false (rmd 1 0 0) 0 0 (PX h o B (ruleS S k op)) 19 [(0, .ref o), (1, .int k), (2, .int op), (3, z)] [] h 0 0 := by
    intro he z hz
    refine V_iconst (pc' := 20) (v := (-1)) d_PC_rule_19 (by decide) rfl ?_
    refine V_iret d_PC_rule_20 rfl (by first | decide | omega) (by first | decide | omega) ?_
    rw [he]; exact ⟨rfl, B, hJ⟩
  refine V_aload_n (pc' := 1) d_PC_rule_0 rfl (by first | rfl | exact isR_rf _) rfl ?_
  refine V_iload_n (pc' := 2) d_PC_rule_1 rfl rfl ?_
  -- at 2 invokevirtual
  refine V_callV (pc' := 5) (As := [_]) (ci := 0) d_PC_rule_2 mv_PC_39 mw_PC_kindNumbered rfl rfl rfl (by simp [Value.category]) rfl (by first | assumption | exact aset_self _ _ _ | exact apush_self _ _) (c_PC_kindNumbered hX hk k) (by first | decide | omega) (by first | decide | omega) (by first | decide | omega) (by first | decide | omega) ?_
  rintro _ _ ⟨rfl, rfl⟩
  cases ek : ki (skc S) k with
  | none =>
    rw [show va_rf (knr B (skc S) k) = .null from by unfold knr; rw [ek]; rfl]
    refine V_astore_n (pc' := 6) d_PC_rule_5 (by first | rfl | exact isR_rf _) (by decide) rfl ?_
    first | refine V_L [(0, _), (1, _), (2, _), (3, _)] ⟨rfl, rfl, rfl, rfl, trivial⟩ ?_ | (refine V_keep (by intro q hq e; simp only [List.mem_cons, List.not_mem_nil, or_false] at hq; rcases hq with rfl | rfl | rfl <;> first | rfl | exact va_rf_cat _ | exact absurd e (by decide)) ?_; refine V_L [(0, _), (1, _), (2, _), (3, _)] ⟨rfl, rfl, rfl, rfl, trivial⟩ ?_)
    refine V_aload_n (pc' := 7) d_PC_rule_6 rfl (by first | rfl | exact isR_rf _) rfl ?_
    refine V_ifnull (pc' := 10) (tgt := 19) (r := none) d_PC_rule_7 (by decide) rfl (fun c7 => ?_) (fun a7 c7 => ?_)
    · exact bad (by unfold ruleS; rw [ek]) _ rfl
    · cases c7
  | some j =>
    obtain ⟨e1, e2, e3⟩ := ki_some (by omega) ek
    subst e1
    have hck := h8 j e2 e3
    rw [show va_rf (knr B (skc S) (nI j)) = .ref (xk B j) from by unfold knr; rw [ek]; rfl]
    refine V_astore_n (pc' := 6) d_PC_rule_5 (by first | rfl | exact isR_rf _) (by decide) rfl ?_
    first | refine V_L [(0, _), (1, _), (2, _), (3, _)] ⟨rfl, rfl, rfl, rfl, trivial⟩ ?_ | (refine V_keep (by intro q hq e; simp only [List.mem_cons, List.not_mem_nil, or_false] at hq; rcases hq with rfl | rfl | rfl <;> first | rfl | exact va_rf_cat _ | exact absurd e (by decide)) ?_; refine V_L [(0, _), (1, _), (2, _), (3, _)] ⟨rfl, rfl, rfl, rfl, trivial⟩ ?_)
    refine V_aload_n (pc' := 7) d_PC_rule_6 rfl (by first | rfl | exact isR_rf _) rfl ?_
    refine V_ifnull (pc' := 10) (tgt := 19) (r := (some (xk B j))) d_PC_rule_7 (by decide) rfl (fun c7 => ?_) (fun a7 c7 => ?_)
    · cases c7
    · clear c7 a7
      refine V_iload_n (pc' := 11) d_PC_rule_10 rfl rfl ?_
      refine V_if_lt (pc' := 14) (tgt := 19) d_PC_rule_11 (by decide) rfl (fun c11 => ?_) (fun c11 => ?_)
      · exact bad (by unfold ruleS; rw [ek, kz_none.mpr (Or.inl c11)]) _ rfl
      · refine V_iload_n (pc' := 15) d_PC_rule_14 rfl rfl ?_
        refine V_iconst (pc' := 16) (v := 2) d_PC_rule_15 (by decide) rfl ?_
        refine V_icmp_le (pc' := 19) (tgt := 21) d_PC_rule_16 (by decide) rfl (fun c16 => ?_) (fun c16 => ?_)
        · cases eo : kz 2 op with
          | none =>
            rcases kz_none.mp eo with q | q
            · exact absurd q c11
            · exact absurd c16 (Int32.not_le.mpr q)
          | some oo =>
            obtain ⟨f1, f2⟩ := kz_some (by omega) eo
            subst f1
            refine V_aload_n (pc' := 22) d_PC_rule_21 rfl (by first | rfl | exact isR_rf _) rfl ?_
            refine V_getf (pc' := 25) d_PC_rule_22 fl_PC_184 rfl (by first | assumption | exact aset_self _ _ _ | exact apush_self _ _) (by rfl) ?_
            refine V_istore (pc' := 27) d_PC_rule_25 (by decide) rfl ?_
            first | refine V_L [(0, _), (1, _), (2, _), (3, _), (4, _)] ⟨rfl, rfl, rfl, rfl, rfl, trivial⟩ ?_ | (refine V_keep (by intro q hq e; simp only [List.mem_cons, List.not_mem_nil, or_false] at hq; rcases hq with rfl | rfl | rfl | rfl <;> first | rfl | exact va_rf_cat _ | exact absurd e (by decide)) ?_; refine V_L [(0, _), (1, _), (2, _), (3, _), (4, _)] ⟨rfl, rfl, rfl, rfl, rfl, trivial⟩ ?_)
            refine V_aload_n (pc' := 28) d_PC_rule_27 rfl (by first | rfl | exact isR_rf _) rfl ?_
            refine V_iload_n (pc' := 29) d_PC_rule_28 rfl rfl ?_
            refine V_putf (pc' := 32) d_PC_rule_29 fp_PC_184 rfl (by first | assumption | exact aset_self _ _ _ | exact apush_self _ _) (by first | rfl | exact ob_nar _ | exact nar_rf _) (by first | rfl | exact ob_fit _ | exact fits_rf _) (by exact Nat.le_of_ble_eq_true rfl) ?_
            refine V_ex (fun g => JX h g o B B (uru S j oo)) (JX_ru hJ hk e2 e3 oo) (fun g1 hJ3 => ?_)
            refine V_iload (pc' := 34) d_PC_rule_32 rfl rfl ?_
            refine V_iret d_PC_rule_34 rfl (by first | decide | omega) (by first | decide | omega) ?_
            unfold ruleS
            rw [ek, eo]
            exact ⟨rfl, B, hJ3⟩
        · exact bad (by unfold ruleS; rw [ek, kz_none.mpr (Or.inr (Int32.not_le.mp c16))]) _ rfl
theorem c_PC_segment (hX : IX h o B S) (k : Int32) : Cr x y_PC_segment b_PC_segment 2 (some .long) 0 [.ref o, .int k] h (.long (segS S k)) := by
  obtain ⟨ho, hka, hva, hpa, hba, hra, hpv, h8, h9, h10, h11, iv, ip, is⟩ := id hX
  refine Ct_of (own := "PathCalls") (ini := false) rfl rfl (Nat.le_of_ble_eq_true rfl) (fun q => by cases q) ?_
  have bad : ki 8 k = none → V x "PathCalls" b_PC_segment 2 (Option.some .long) false (rmd 0 0 0) 0 0 (fun r h' => r = some (.long (segS S k)) ∧ h = h') 22 [(0, .ref o), (1, .int k)] [] h 0 0 := by
    intro he
    refine V_lconst (pc' := 23) (v := 0) d_PC_segment_22 (by decide) rfl ?_
    refine V_lret d_PC_segment_23 rfl (by first | decide | omega) (by first | decide | omega) ?_
    unfold segS
    rw [he]; exact ⟨rfl, rfl⟩
  refine V_iload_n (pc' := 1) d_PC_segment_0 rfl rfl ?_
  refine V_iconst (pc' := 2) (v := 1) d_PC_segment_1 (by decide) rfl ?_
  refine V_icmp_lt (pc' := 5) (tgt := 22) d_PC_segment_2 (by decide) rfl (fun c2 => ?_) (fun c2 => ?_)
  · exact bad (ki_none.mpr (fun q => lt_one.mp c2 q.1))
  · refine V_iload_n (pc' := 6) d_PC_segment_5 rfl rfl ?_
    refine V_bipush (pc' := 8) (v := 8) d_PC_segment_6 (by decide) rfl ?_
    refine V_icmp_gt (pc' := 11) (tgt := 22) d_PC_segment_8 (by decide) rfl (fun c8 => ?_) (fun c8 => ?_)
    · exact bad (ki_none.mpr (fun q => absurd q.2 (Int32.not_le.mpr c8)))
    · obtain ⟨j, ej⟩ := wi_of (n := 8) c2 c8
      obtain ⟨e1, e2, e3⟩ := ki_some (by omega) ej
      subst e1
      refine V_aload_n (pc' := 12) d_PC_segment_11 rfl (by first | rfl | exact isR_rf _) rfl ?_
      refine V_getf (pc' := 15) d_PC_segment_12 fl_PC_34 rfl (by first | assumption | exact aset_self _ _ _ | exact apush_self _ _) (by rfl) ?_
      refine V_iload_n (pc' := 16) d_PC_segment_15 rfl rfl ?_
      refine V_iconst (pc' := 17) (v := 1) d_PC_segment_16 (by decide) rfl ?_
      refine V_isub (pc' := 18) d_PC_segment_17 rfl ?_
      -- at 18 laload
      refine V_lald (pc' := 19) d_PC_segment_18 rfl hpv rfl (pk_sub (a := j) (b := 1) e2) (by omega) (arv_get (by omega)) ?_
      refine V_goto (tgt := 23) d_PC_segment_19 (by decide) ?_
      refine V_lret d_PC_segment_23 rfl (by first | decide | omega) (by first | decide | omega) ?_
      unfold segS
      rw [ej, show j - 1 + 1 = j by omega]; exact ⟨rfl, rfl⟩
theorem c_PC_count (hX : IX h o B S) : Cr x y_PC_count b_PC_count 1 (some .int) 0 [.ref o] h (.int (countS S)) := by
  obtain ⟨ho, hka, hva, hpa, hba, hra, hpv, h8, h9, h10, h11, iv, ip, is⟩ := id hX
  refine Ct_of (own := "PathCalls") (ini := false) rfl rfl (Nat.le_of_ble_eq_true rfl) (fun q => by cases q) ?_
  refine V_aload_n (pc' := 1) d_PC_count_0 rfl (by first | rfl | exact isR_rf _) rfl ?_
  refine V_getf (pc' := 4) d_PC_count_1 fl_PC_30 rfl (by first | assumption | exact aset_self _ _ _ | exact apush_self _ _) (by rfl) ?_
  refine V_getf (pc' := 7) d_PC_count_4 fl_PC_181 rfl (by first | assumption | exact aset_self _ _ _ | exact apush_self _ _) (by rfl) ?_
  refine V_iret d_PC_count_7 rfl (by first | decide | omega) (by first | decide | omega) ?_
  exact ⟨rfl, rfl⟩
theorem c_PC_order (hX : IX h o B S) (hw : WX S) (i w : Int32) : Cr x y_PC_order b_PC_order 4 (some .int) 1 [.ref o, .int i, .int w] h (.int (orderS S i w)) := by
  obtain ⟨ho, hka, hva, hpa, hba, hra, hpv, h8, h9, h10, h11, iv, ip, is⟩ := id hX
  obtain ⟨w1, w2, w3, w4, w5, w6, w7, w8, w9⟩ := id hw
  refine Ct_of (own := "PathCalls") (ini := false) rfl rfl (Nat.le_of_ble_eq_true rfl) (fun q => by cases q) ?_
  refine V_aload_n (pc' := 1) d_PC_order_0 rfl (by first | rfl | exact isR_rf _) rfl ?_
  refine V_getf (pc' := 4) d_PC_order_1 fl_PC_30 rfl (by first | assumption | exact aset_self _ _ _ | exact apush_self _ _) (by rfl) ?_
  refine V_iload_n (pc' := 5) d_PC_order_4 rfl rfl ?_
  -- at 5 invokevirtual
  refine V_callV (pc' := 8) (As := [_]) (ci := 5) d_PC_order_5 mv_PC_159 mw_Bs_at rfl rfl rfl (by simp [Value.category]) rfl (by first | assumption | exact aset_self _ _ _ | exact apush_self _ _) (c_Bs_at hX w7 i) (by first | decide | omega) (by first | decide | omega) (by first | decide | omega) (by first | decide | omega) ?_
  rintro _ _ ⟨rfl, rfl⟩
  by_cases hb : i < 0 ∨ nI (ssz S) ≤ i
  · rw [show va_rf (rr B S (ax S i)) = .null from by unfold ax; rw [if_pos hb]; rfl]
    refine V_astore_n (pc' := 9) d_PC_order_8 (by first | rfl | exact isR_rf _) (by decide) rfl ?_
    first | refine V_L [(0, _), (1, _), (2, _), (3, _)] ⟨rfl, rfl, rfl, rfl, trivial⟩ ?_ | (refine V_keep (by intro q hq e; simp only [List.mem_cons, List.not_mem_nil, or_false] at hq; rcases hq with rfl | rfl | rfl <;> first | rfl | exact va_rf_cat _ | exact absurd e (by decide)) ?_; refine V_L [(0, _), (1, _), (2, _), (3, _)] ⟨rfl, rfl, rfl, rfl, trivial⟩ ?_)
    refine V_aload_n (pc' := 10) d_PC_order_9 rfl (by first | rfl | exact isR_rf _) rfl ?_
    refine V_ifnonnull (pc' := 13) (tgt := 15) (r := none) d_PC_order_10 (by decide) rfl (fun a10 c10 => ?_) (fun c10 => ?_)
    · cases c10
    · refine V_iconst (pc' := 14) (v := (-1)) d_PC_order_13 (by decide) rfl ?_
      refine V_iret d_PC_order_14 rfl (by first | decide | omega) (by first | decide | omega) ?_
      unfold orderS
      rw [if_pos hb]; exact ⟨rfl, rfl⟩
  · obtain ⟨j, hj, e1⟩ := nI_of (fun q => hb (Or.inl q))
    subst e1
    have hjz : j < ssz S := by
      rcases Nat.lt_or_ge j (ssz S) with q | q
      · exact q
      · exact absurd (Or.inr (nI_le q hj)) hb
    have hcj := h11 j hjz
    obtain ⟨y1, y2⟩ := w4 j hjz
    have hkj := h8 _ y1 y2
    rw [ax_n hjz w7, show va_rf (rr B S (some j)) = .ref (xs B (snm S j)) from rfl]
    refine V_astore_n (pc' := 9) d_PC_order_8 (by first | rfl | exact isR_rf _) (by decide) rfl ?_
    first | refine V_L [(0, _), (1, _), (2, _), (3, _)] ⟨rfl, rfl, rfl, rfl, trivial⟩ ?_ | (refine V_keep (by intro q hq e; simp only [List.mem_cons, List.not_mem_nil, or_false] at hq; rcases hq with rfl | rfl | rfl <;> first | rfl | exact va_rf_cat _ | exact absurd e (by decide)) ?_; refine V_L [(0, _), (1, _), (2, _), (3, _)] ⟨rfl, rfl, rfl, rfl, trivial⟩ ?_)
    refine V_aload_n (pc' := 10) d_PC_order_9 rfl (by first | rfl | exact isR_rf _) rfl ?_
    refine V_ifnonnull (pc' := 13) (tgt := 15) (r := (some (xs B (snm S j)))) d_PC_order_10 (by decide) rfl (fun a10 c10 => ?_) (fun c10 => ?_)
    · clear c10 a10
      cases ew : kz 3 w with
      | none =>
        refine V_iload_n (pc' := 16) d_PC_order_15 rfl rfl ?_
        -- at 16 tableswitch
        refine V_tableOut (tgt := 76) d_PC_order_16 ?_ (by decide) ?_
        · rcases kz_none.mp ew with q | q
          · exact Or.inl (Int32.lt_iff_toInt_lt.mp q)
          · exact Or.inr (Int32.lt_iff_toInt_lt.mp q)
        refine V_iconst (pc' := 77) (v := (-1)) d_PC_order_76 (by decide) rfl ?_
        refine V_iret d_PC_order_77 rfl (by first | decide | omega) (by first | decide | omega) ?_
        unfold orderS
        rw [if_neg hb, ew]
        exact ⟨rfl, rfl⟩
      | some oo =>
        obtain ⟨f1, f2⟩ := kz_some (by omega) ew
        subst f1
        have hres : orderS S (nI j) (nI oo) = ordO S j oo := by
          unfold orderS
          rw [if_neg hb, ew, nI_clamp hj]
        rcases (show oo = 0 ∨ oo = 1 ∨ oo = 2 ∨ oo = 3 by omega) with rfl | rfl | rfl | rfl
        · refine V_iload_n (pc' := 16) d_PC_order_15 rfl rfl ?_
          -- at 16 tableswitch
          refine V_tableIn (off := 32) (tgt := 48) d_PC_order_16 (by decide) (by decide) rfl (by decide) ?_
          refine V_aload_n (pc' := 49) d_PC_order_48 rfl (by first | rfl | exact isR_rf _) rfl ?_
          refine V_getf (pc' := 52) d_PC_order_49 fl_PC_174 rfl (by first | assumption | exact aset_self _ _ _ | exact apush_self _ _) (by rfl) ?_
          refine V_getf (pc' := 55) d_PC_order_52 fl_PC_175 rfl (by first | assumption | exact aset_self _ _ _ | exact apush_self _ _) (by rfl) ?_
          refine V_iret d_PC_order_55 rfl (by first | decide | omega) (by first | decide | omega) ?_
          rw [hres]; exact ⟨rfl, rfl⟩
        · refine V_iload_n (pc' := 16) d_PC_order_15 rfl rfl ?_
          -- at 16 tableswitch
          refine V_tableIn (off := 40) (tgt := 56) d_PC_order_16 (by decide) (by decide) rfl (by decide) ?_
          refine V_aload_n (pc' := 57) d_PC_order_56 rfl (by first | rfl | exact isR_rf _) rfl ?_
          refine V_getf (pc' := 60) d_PC_order_57 fl_PC_174 rfl (by first | assumption | exact aset_self _ _ _ | exact apush_self _ _) (by rfl) ?_
          refine V_getf (pc' := 63) d_PC_order_60 fl_PC_47 rfl (by first | assumption | exact aset_self _ _ _ | exact apush_self _ _) (by rfl) ?_
          refine V_iret d_PC_order_63 rfl (by first | decide | omega) (by first | decide | omega) ?_
          rw [hres]; exact ⟨rfl, rfl⟩
        · refine V_iload_n (pc' := 16) d_PC_order_15 rfl rfl ?_
          -- at 16 tableswitch
          refine V_tableIn (off := 48) (tgt := 64) d_PC_order_16 (by decide) (by decide) rfl (by decide) ?_
          refine V_aload_n (pc' := 65) d_PC_order_64 rfl (by first | rfl | exact isR_rf _) rfl ?_
          refine V_getf (pc' := 68) d_PC_order_65 fl_PC_178 rfl (by first | assumption | exact aset_self _ _ _ | exact apush_self _ _) (by rfl) ?_
          refine V_l2i (pc' := 69) d_PC_order_68 rfl ?_
          refine V_iret d_PC_order_69 rfl (by first | decide | omega) (by first | decide | omega) ?_
          rw [hres]; exact ⟨rfl, rfl⟩
        · refine V_iload_n (pc' := 16) d_PC_order_15 rfl rfl ?_
          -- at 16 tableswitch
          refine V_tableIn (off := 54) (tgt := 70) d_PC_order_16 (by decide) (by decide) rfl (by decide) ?_
          refine V_aload_n (pc' := 71) d_PC_order_70 rfl (by first | rfl | exact isR_rf _) rfl ?_
          refine V_getf (pc' := 74) d_PC_order_71 fl_PC_151 rfl (by first | assumption | exact aset_self _ _ _ | exact apush_self _ _) (by rfl) ?_
          refine V_l2i (pc' := 75) d_PC_order_74 rfl ?_
          refine V_iret d_PC_order_75 rfl (by first | decide | omega) (by first | decide | omega) ?_
          rw [hres]; exact ⟨rfl, rfl⟩
    · cases c10
theorem c_PC_position (hX : IX h o B S) (hw : WX S) (v w : Int32) : Cr x y_PC_position b_PC_position 4 (some .int) 1 [.ref o, .int v, .int w] h (.int (posS S v w)) := by
  obtain ⟨ho, hka, hva, hpa, hba, hra, hpv, h8, h9, h10, h11, iv, ip, is⟩ := id hX
  obtain ⟨w1, w2, w3, w4, w5, w6, w7, w8, w9⟩ := id hw
  refine Ct_of (own := "PathCalls") (ini := false) rfl rfl (Nat.le_of_ble_eq_true rfl) (fun q => by cases q) ?_
  refine V_aload_n (pc' := 1) d_PC_position_0 rfl (by first | rfl | exact isR_rf _) rfl ?_
  refine V_iload_n (pc' := 2) d_PC_position_1 rfl rfl ?_
  -- at 2 invokevirtual
  refine V_callV (pc' := 5) (As := [_]) (ci := 0) d_PC_position_2 mv_PC_67 mw_PC_viewNumbered rfl rfl rfl (by simp [Value.category]) rfl (by first | assumption | exact aset_self _ _ _ | exact apush_self _ _) (c_PC_viewNumbered hX w9 v) (by first | decide | omega) (by first | decide | omega) (by first | decide | omega) (by first | decide | omega) ?_
  rintro _ _ ⟨rfl, rfl⟩
  cases ek : ki (svc S) v with
  | none =>
    rw [show va_rf (vnr B (svc S) v) = .null from by unfold vnr; rw [ek]; rfl]
    refine V_astore_n (pc' := 6) d_PC_position_5 (by first | rfl | exact isR_rf _) (by decide) rfl ?_
    first | refine V_L [(0, _), (1, _), (2, _), (3, _)] ⟨rfl, rfl, rfl, rfl, trivial⟩ ?_ | (refine V_keep (by intro q hq e; simp only [List.mem_cons, List.not_mem_nil, or_false] at hq; rcases hq with rfl | rfl | rfl <;> first | rfl | exact va_rf_cat _ | exact absurd e (by decide)) ?_; refine V_L [(0, _), (1, _), (2, _), (3, _)] ⟨rfl, rfl, rfl, rfl, trivial⟩ ?_)
    refine V_aload_n (pc' := 7) d_PC_position_6 rfl (by first | rfl | exact isR_rf _) rfl ?_
    refine V_ifnonnull (pc' := 10) (tgt := 12) (r := none) d_PC_position_7 (by decide) rfl (fun a7 c7 => ?_) (fun c7 => ?_)
    · cases c7
    · refine V_iconst (pc' := 11) (v := (-1)) d_PC_position_10 (by decide) rfl ?_
      refine V_iret d_PC_position_11 rfl (by first | decide | omega) (by first | decide | omega) ?_
      unfold posS
      rw [ek]; exact ⟨rfl, rfl⟩
  | some j =>
    obtain ⟨e1, e2, e3⟩ := ki_some (by omega) ek
    subst e1
    have hcv := h9 j e2 e3
    have hpos : ∀ i, plc S (spo S j) = some i → i < ssz S := fun i hi => (plc_lt hi).1
    have hpar : ∀ i, plc S (spr S j) = some i → i < ssz S := fun i hi => (plc_lt hi).1
    rw [show va_rf (vnr B (svc S) (nI j)) = .ref (xv B j) from by unfold vnr; rw [ek]; rfl]
    refine V_astore_n (pc' := 6) d_PC_position_5 (by first | rfl | exact isR_rf _) (by decide) rfl ?_
    first | refine V_L [(0, _), (1, _), (2, _), (3, _)] ⟨rfl, rfl, rfl, rfl, trivial⟩ ?_ | (refine V_keep (by intro q hq e; simp only [List.mem_cons, List.not_mem_nil, or_false] at hq; rcases hq with rfl | rfl | rfl <;> first | rfl | exact va_rf_cat _ | exact absurd e (by decide)) ?_; refine V_L [(0, _), (1, _), (2, _), (3, _)] ⟨rfl, rfl, rfl, rfl, trivial⟩ ?_)
    refine V_aload_n (pc' := 7) d_PC_position_6 rfl (by first | rfl | exact isR_rf _) rfl ?_
    refine V_ifnonnull (pc' := 10) (tgt := 12) (r := (some (xv B j))) d_PC_position_7 (by decide) rfl (fun a7 c7 => ?_) (fun c7 => ?_)
    · clear c7 a7
      cases ew : kz 3 w with
      | none =>
        refine V_iload_n (pc' := 13) d_PC_position_12 rfl rfl ?_
        -- at 13 tableswitch
        refine V_tableOut (tgt := 95) d_PC_position_13 ?_ (by decide) ?_
        · rcases kz_none.mp ew with q | q
          · exact Or.inl (Int32.lt_iff_toInt_lt.mp q)
          · exact Or.inr (Int32.lt_iff_toInt_lt.mp q)
        refine V_iconst (pc' := 96) (v := (-1)) d_PC_position_95 (by decide) rfl ?_
        refine V_iret d_PC_position_96 rfl (by first | decide | omega) (by first | decide | omega) ?_
        unfold posS
        rw [ek]
        dsimp only
        rw [ew]
        exact ⟨rfl, rfl⟩
      | some oo =>
        obtain ⟨f1, f2⟩ := kz_some (by omega) ew
        subst f1
        have hres : posS S (nI j) (nI oo) = posO S j oo := by
          unfold posS
          rw [ek]
          dsimp only
          rw [ew]
        rcases (show oo = 0 ∨ oo = 1 ∨ oo = 2 ∨ oo = 3 by omega) with rfl | rfl | rfl | rfl
        · refine V_iload_n (pc' := 13) d_PC_position_12 rfl rfl ?_
          -- at 13 tableswitch
          refine V_tableIn (off := 31) (tgt := 44) d_PC_position_13 (by decide) (by decide) rfl (by decide) ?_
          refine V_aload_n (pc' := 45) d_PC_position_44 rfl (by first | rfl | exact isR_rf _) rfl ?_
          refine V_getf (pc' := 48) d_PC_position_45 fl_PC_95 rfl (by first | assumption | exact aset_self _ _ _ | exact apush_self _ _) (by rfl) ?_
          rw [sr_rr w2 (w8 j e2 e3).1]
          refine V_callS (pc' := 51) (As := [_]) d_PC_position_48 ms_PC_171 mw_PC_kindNumberOf rfl rfl rfl (by simp [Value.category]) (c_PC_kindNumberOf hX hw hpos) (by first | decide | omega) (by first | decide | omega) (by first | decide | omega) (by first | decide | omega) ?_
          rintro _ _ ⟨rfl, rfl⟩
          refine V_iret d_PC_position_51 rfl (by first | decide | omega) (by first | decide | omega) ?_
          rw [hres]; exact ⟨rfl, rfl⟩
        · refine V_iload_n (pc' := 13) d_PC_position_12 rfl rfl ?_
          -- at 13 tableswitch
          refine V_tableIn (off := 39) (tgt := 52) d_PC_position_13 (by decide) (by decide) rfl (by decide) ?_
          unfold posO at hres
          refine V_aload_n (pc' := 53) d_PC_position_52 rfl (by first | rfl | exact isR_rf _) rfl ?_
          refine V_getf (pc' := 56) d_PC_position_53 fl_PC_95 rfl (by first | assumption | exact aset_self _ _ _ | exact apush_self _ _) (by rfl) ?_
          rw [sr_rr w2 (w8 j e2 e3).1]
          cases ep : plc S (spo S j) with
          | none =>
            rw [ep] at hres
            refine V_ifnonnull (pc' := 59) (tgt := 63) (r := (rr B S none)) d_PC_position_56 (by decide) rfl (fun a56 c56 => ?_) (fun c56 => ?_)
            · cases c56
            · refine V_iconst (pc' := 60) (v := 0) d_PC_position_59 (by decide) rfl ?_
              refine V_goto (tgt := 73) d_PC_position_60 (by decide) ?_
              refine V_iret d_PC_position_73 rfl (by first | decide | omega) (by first | decide | omega) ?_
              rw [hres]; exact ⟨rfl, rfl⟩
          | some t =>
            rw [ep] at hres
            have htz := hpos t ep
            have hct := h11 t htz
            obtain ⟨y1, y2⟩ := w4 t htz
            have hkt := h8 _ y1 y2
            refine V_ifnonnull (pc' := 59) (tgt := 63) (r := (rr B S (some t))) d_PC_position_56 (by decide) rfl (fun a56 c56 => ?_) (fun c56 => ?_)
            · clear c56 a56
              refine V_aload_n (pc' := 64) d_PC_position_63 rfl (by first | rfl | exact isR_rf _) rfl ?_
              refine V_getf (pc' := 67) d_PC_position_64 fl_PC_95 rfl (by first | assumption | exact aset_self _ _ _ | exact apush_self _ _) (by rfl) ?_
              rw [sr_rr w2 (w8 j e2 e3).1, ep, show va_rf (rr B S (some t)) = .ref (xs B (snm S t)) from rfl]
              refine V_getf (pc' := 70) d_PC_position_67 fl_PC_174 rfl (by first | assumption | exact aset_self _ _ _ | exact apush_self _ _) (by rfl) ?_
              refine V_getf (pc' := 73) d_PC_position_70 fl_PC_47 rfl (by first | assumption | exact aset_self _ _ _ | exact apush_self _ _) (by rfl) ?_
              refine V_iret d_PC_position_73 rfl (by first | decide | omega) (by first | decide | omega) ?_
              rw [hres]; exact ⟨rfl, rfl⟩
            · cases c56
        · refine V_iload_n (pc' := 13) d_PC_position_12 rfl rfl ?_
          -- at 13 tableswitch
          refine V_tableIn (off := 61) (tgt := 74) d_PC_position_13 (by decide) (by decide) rfl (by decide) ?_
          refine V_aload_n (pc' := 75) d_PC_position_74 rfl (by first | rfl | exact isR_rf _) rfl ?_
          refine V_getf (pc' := 78) d_PC_position_75 fl_PC_83 rfl (by first | assumption | exact aset_self _ _ _ | exact apush_self _ _) (by rfl) ?_
          rw [sr_rr w2 (w8 j e2 e3).2]
          refine V_callS (pc' := 81) (As := [_]) d_PC_position_78 ms_PC_171 mw_PC_kindNumberOf rfl rfl rfl (by simp [Value.category]) (c_PC_kindNumberOf hX hw hpar) (by first | decide | omega) (by first | decide | omega) (by first | decide | omega) (by first | decide | omega) ?_
          rintro _ _ ⟨rfl, rfl⟩
          refine V_iret d_PC_position_81 rfl (by first | decide | omega) (by first | decide | omega) ?_
          rw [hres]; exact ⟨rfl, rfl⟩
        · refine V_iload_n (pc' := 13) d_PC_position_12 rfl rfl ?_
          -- at 13 tableswitch
          refine V_tableIn (off := 69) (tgt := 82) d_PC_position_13 (by decide) (by decide) rfl (by decide) ?_
          unfold posO at hres
          refine V_aload_n (pc' := 83) d_PC_position_82 rfl (by first | rfl | exact isR_rf _) rfl ?_
          refine V_getf (pc' := 86) d_PC_position_83 fl_PC_75 rfl (by first | assumption | exact aset_self _ _ _ | exact apush_self _ _) (by rfl) ?_
          refine V_if_eq (pc' := 89) (tgt := 93) d_PC_position_86 (by decide) rfl (fun c86 => ?_) (fun c86 => ?_)
          · refine V_iconst (pc' := 94) (v := 0) d_PC_position_93 (by decide) rfl ?_
            refine V_iret d_PC_position_94 rfl (by first | decide | omega) (by first | decide | omega) ?_
            rw [hres, ob_0.mp c86]; exact ⟨rfl, rfl⟩
          · refine V_iconst (pc' := 90) (v := 1) d_PC_position_89 (by decide) rfl ?_
            refine V_goto (tgt := 94) d_PC_position_90 (by decide) ?_
            refine V_iret d_PC_position_94 rfl (by first | decide | omega) (by first | decide | omega) ?_
            rw [hres, ob_nt c86]; exact ⟨rfl, rfl⟩
    · cases c7
theorem c_PC_within (hX : IX h o B S) (hw : WX S) (v : Int32) : Cr x y_PC_within b_PC_within 4 (some .int) 2 [.ref o, .int v] h (.int (withinS S v)) := by
  obtain ⟨ho, hka, hva, hpa, hba, hra, hpv, h8, h9, h10, h11, iv, ip, is⟩ := id hX
  obtain ⟨w1, w2, w3, w4, w5, w6, w7, w8, w9⟩ := id hw
  refine Ct_of (own := "PathCalls") (ini := false) rfl rfl (Nat.le_of_ble_eq_true rfl) (fun q => by cases q) ?_
  refine V_aload_n (pc' := 1) d_PC_within_0 rfl (by first | rfl | exact isR_rf _) rfl ?_
  refine V_iload_n (pc' := 2) d_PC_within_1 rfl rfl ?_
  -- at 2 invokevirtual
  refine V_callV (pc' := 5) (As := [_]) (ci := 0) d_PC_within_2 mv_PC_67 mw_PC_viewNumbered rfl rfl rfl (by simp [Value.category]) rfl (by first | assumption | exact aset_self _ _ _ | exact apush_self _ _) (c_PC_viewNumbered hX w9 v) (by first | decide | omega) (by first | decide | omega) (by first | decide | omega) (by first | decide | omega) ?_
  rintro _ _ ⟨rfl, rfl⟩
  cases ek : ki (svc S) v with
  | none =>
    rw [show va_rf (vnr B (svc S) v) = .null from by unfold vnr; rw [ek]; rfl]
    refine V_astore_n (pc' := 6) d_PC_within_5 (by first | rfl | exact isR_rf _) (by decide) rfl ?_
    first | refine V_L [(0, _), (1, _), (2, _)] ⟨rfl, rfl, rfl, trivial⟩ ?_ | (refine V_keep (by intro q hq e; simp only [List.mem_cons, List.not_mem_nil, or_false] at hq; rcases hq with rfl | rfl <;> first | rfl | exact va_rf_cat _ | exact absurd e (by decide)) ?_; refine V_L [(0, _), (1, _), (2, _)] ⟨rfl, rfl, rfl, trivial⟩ ?_)
    refine V_aload_n (pc' := 7) d_PC_within_6 rfl (by first | rfl | exact isR_rf _) rfl ?_
    refine V_ifnull (pc' := 10) (tgt := 17) (r := none) d_PC_within_7 (by decide) rfl (fun c7 => ?_) (fun a7 c7 => ?_)
    · refine V_iconst (pc' := 18) (v := (-1)) d_PC_within_17 (by decide) rfl ?_
      refine V_iret d_PC_within_18 rfl (by first | decide | omega) (by first | decide | omega) ?_
      unfold withinS
      rw [ek]; exact ⟨rfl, rfl⟩
    · cases c7
  | some j =>
    obtain ⟨e1, e2, e3⟩ := ki_some (by omega) ek
    subst e1
    have hcv := h9 j e2 e3
    have hpar : ∀ i, plc S (spr S j) = some i → i < ssz S := fun i hi => (plc_lt hi).1
    rw [show va_rf (vnr B (svc S) (nI j)) = .ref (xv B j) from by unfold vnr; rw [ek]; rfl]
    refine V_astore_n (pc' := 6) d_PC_within_5 (by first | rfl | exact isR_rf _) (by decide) rfl ?_
    first | refine V_L [(0, _), (1, _), (2, _)] ⟨rfl, rfl, rfl, trivial⟩ ?_ | (refine V_keep (by intro q hq e; simp only [List.mem_cons, List.not_mem_nil, or_false] at hq; rcases hq with rfl | rfl <;> first | rfl | exact va_rf_cat _ | exact absurd e (by decide)) ?_; refine V_L [(0, _), (1, _), (2, _)] ⟨rfl, rfl, rfl, trivial⟩ ?_)
    refine V_aload_n (pc' := 7) d_PC_within_6 rfl (by first | rfl | exact isR_rf _) rfl ?_
    refine V_ifnull (pc' := 10) (tgt := 17) (r := (some (xv B j))) d_PC_within_7 (by decide) rfl (fun c7 => ?_) (fun a7 c7 => ?_)
    · cases c7
    · clear c7 a7
      refine V_aload_n (pc' := 11) d_PC_within_10 rfl (by first | rfl | exact isR_rf _) rfl ?_
      refine V_getf (pc' := 14) d_PC_within_11 fl_PC_83 rfl (by first | assumption | exact aset_self _ _ _ | exact apush_self _ _) (by rfl) ?_
      rw [sr_rr w2 (w8 j e2 e3).2]
      cases ep : plc S (spr S j) with
      | none =>
        refine V_ifnonnull (pc' := 17) (tgt := 19) (r := (rr B S none)) d_PC_within_14 (by decide) rfl (fun a14 c14 => ?_) (fun c14 => ?_)
        · cases c14
        · refine V_iconst (pc' := 18) (v := (-1)) d_PC_within_17 (by decide) rfl ?_
          refine V_iret d_PC_within_18 rfl (by first | decide | omega) (by first | decide | omega) ?_
          unfold withinS
          rw [ek]
          dsimp only
          rw [ep]
          exact ⟨rfl, rfl⟩
      | some t =>
        have htz := hpar t ep
        have b1 := bhd_lt S t
        have b2 := bhd_ub S htz
        refine V_ifnonnull (pc' := 17) (tgt := 19) (r := (rr B S (some t))) d_PC_within_14 (by decide) rfl (fun a14 c14 => ?_) (fun c14 => ?_)
        · clear c14 a14
          refine V_aload_n (pc' := 20) d_PC_within_19 rfl (by first | rfl | exact isR_rf _) rfl ?_
          refine V_getf (pc' := 23) d_PC_within_20 fl_PC_30 rfl (by first | assumption | exact aset_self _ _ _ | exact apush_self _ _) (by rfl) ?_
          refine V_aload_n (pc' := 24) d_PC_within_23 rfl (by first | rfl | exact isR_rf _) rfl ?_
          refine V_getf (pc' := 27) d_PC_within_24 fl_PC_83 rfl (by first | assumption | exact aset_self _ _ _ | exact apush_self _ _) (by rfl) ?_
          rw [sr_rr w2 (w8 j e2 e3).2]
          refine V_callV (pc' := 30) (As := [_]) (ci := 5) d_PC_within_27 mv_PC_155 mw_Bs_indexOf rfl rfl rfl (by simp [Value.category]) rfl (by first | assumption | exact aset_self _ _ _ | exact apush_self _ _) (c_Bs_indexOf hX w7 hpar) (by first | decide | omega) (by first | decide | omega) (by first | decide | omega) (by first | decide | omega) ?_
          rintro _ _ ⟨rfl, rfl⟩
          rw [ep]
          refine V_istore_n (pc' := 31) d_PC_within_30 (by decide) rfl ?_
          first | refine V_L [(0, _), (1, _), (2, _), (3, _)] ⟨rfl, rfl, rfl, rfl, trivial⟩ ?_ | (refine V_keep (by intro q hq e; simp only [List.mem_cons, List.not_mem_nil, or_false] at hq; rcases hq with rfl | rfl | rfl <;> first | rfl | exact va_rf_cat _ | exact absurd e (by decide)) ?_; refine V_L [(0, _), (1, _), (2, _), (3, _)] ⟨rfl, rfl, rfl, rfl, trivial⟩ ?_)
          refine V_aload_n (pc' := 32) d_PC_within_31 rfl (by first | rfl | exact isR_rf _) rfl ?_
          refine V_getf (pc' := 35) d_PC_within_32 fl_PC_30 rfl (by first | assumption | exact aset_self _ _ _ | exact apush_self _ _) (by rfl) ?_
          refine V_iload_n (pc' := 36) d_PC_within_35 rfl rfl ?_
          -- at 36 invokevirtual
          refine V_callV (pc' := 39) (As := [_]) (ci := 5) d_PC_within_36 mv_PC_187 mw_Bs_endOfTree rfl rfl rfl (by simp [Value.category]) rfl (by first | assumption | exact aset_self _ _ _ | exact apush_self _ _) (c_Bs_endOfTree (q := some t) hX hw (fun z hz => by cases hz; exact htz)) (by first | decide | omega) (by first | decide | omega) (by first | decide | omega) (by first | decide | omega) ?_
          rintro _ _ ⟨rfl, rfl⟩
          refine V_iload_n (pc' := 40) d_PC_within_39 rfl rfl ?_
          refine V_isub (pc' := 41) d_PC_within_40 rfl ?_
          refine V_iconst (pc' := 42) (v := 1) d_PC_within_41 (by decide) rfl ?_
          refine V_isub (pc' := 43) d_PC_within_42 rfl ?_
          refine V_iret d_PC_within_43 rfl (by first | decide | omega) (by first | decide | omega) ?_
          unfold withinS
          rw [ek]
          dsimp only
          rw [ep]
          dsimp only
          refine ⟨?_, rfl⟩
          have e5 : nI (endS S (some t)) - oI (some t) - 1 = nI (bhd S t - t - 1) := by
            rw [oI_s, show endS S (some t) = bhd S t from rfl, pk_sub (by omega), show (1 : Int32) = nI 1 from rfl, pk_sub (by omega)]
          rw [e5]
        · cases c14
end X6
