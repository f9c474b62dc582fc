-- the class: rows, numbers, parts that fit
section X2
variable {x : CX} {h : AH} {o : Nat} {B : XB} {S : PS}
theorem c_Bs_isFull (hX : IX h o B S) (hz : ssz S ≤ 255) : Cr x y_Bs_isFull b_Bs_isFull 1 (some .boolean) 0 [.ref (xC B 3)] h (.int (ob false)) := by
  obtain ⟨ho, hka, hva, hpa, hba, hra, hpv, h8, h9, h10, h11, iv, ip, is⟩ := id hX
  refine Ct_of (own := "PathCalls$Base") (ini := false) rfl rfl (Nat.le_of_ble_eq_true rfl) (fun q => by cases q) ?_
  refine V_aload_n (pc' := 1) d_Bs_isFull_0 rfl (by first | rfl | exact isR_rf _) rfl ?_
  refine V_getf (pc' := 4) d_Bs_isFull_1 fl_Bs_17 rfl (by first | assumption | exact aset_self _ _ _ | exact apush_self _ _) (by rfl) ?_
  refine V_sipush (pc' := 7) (v := 256) d_Bs_isFull_4 (by decide) rfl ?_
  refine V_icmp_lt (pc' := 10) (tgt := 14) d_Bs_isFull_7 (by decide) rfl (fun c7 => ?_) (fun c7 => ?_)
  · refine V_iconst (pc' := 15) (v := 0) d_Bs_isFull_14 (by decide) rfl ?_
    refine V_zret d_Bs_isFull_15 rfl (by first | rfl | exact ob_nar _) (by first | decide | omega) (by first | decide | omega) ?_
    exact ⟨rfl, rfl⟩
  · exact absurd (nI_lt (b := 256) (by omega) (by omega)) c7
theorem c_Bs_at (hX : IX h o B S) (hz : ssz S ≤ 255) (i : Int32) : Cr x y_Bs_at b_Bs_at 2 (some (.object "PathCalls$Segment")) 0 [.ref (xC B 3), .int i] h (va_rf (rr B S (ax S i))) := by
  obtain ⟨ho, hka, hva, hpa, hba, hra, hpv, h8, h9, h10, h11, iv, ip, is⟩ := id hX
  refine Ct_of (own := "PathCalls$Base") (ini := false) rfl rfl (Nat.le_of_ble_eq_true rfl) (fun q => by cases q) ?_
  have bad : (i < 0 ∨ nI (ssz S) ≤ i) → V x "PathCalls$Base" b_Bs_at 2 (Option.some (.object "PathCalls$Segment")) false (rmd 0 0 0) 0 0 (fun r h' => r = some (va_rf (rr B S (ax S i))) ∧ h = h') 21 [(0, .ref (xC B 3)), (1, .int i)] [] h 0 0 := by
    intro q
    refine V_null (pc' := 22) d_Bs_at_21 rfl ?_
    refine V_aret d_Bs_at_22 rfl (by first | rfl | exact isR_rf _) (by first | decide | omega) (by first | decide | omega) ?_
    unfold ax
    rw [if_pos q]; exact ⟨rfl, rfl⟩
  refine V_iload_n (pc' := 1) d_Bs_at_0 rfl rfl ?_
  refine V_if_lt (pc' := 4) (tgt := 21) d_Bs_at_1 (by decide) rfl (fun c1 => ?_) (fun c1 => ?_)
  · exact bad (Or.inl c1)
  · refine V_iload_n (pc' := 5) d_Bs_at_4 rfl rfl ?_
    refine V_aload_n (pc' := 6) d_Bs_at_5 rfl (by first | rfl | exact isR_rf _) rfl ?_
    refine V_getf (pc' := 9) d_Bs_at_6 fl_Bs_17 rfl (by first | assumption | exact aset_self _ _ _ | exact apush_self _ _) (by rfl) ?_
    refine V_icmp_ge (pc' := 12) (tgt := 21) d_Bs_at_9 (by decide) rfl (fun c9 => ?_) (fun c9 => ?_)
    · exact bad (Or.inr c9)
    · obtain ⟨j, hj, e1⟩ := nI_of c1
      subst e1
      have hjz : j < ssz S := by
        rcases Nat.lt_or_ge j (ssz S) with q | q
        · exact q
        · exact absurd (nI_le q hj) c9
      refine V_aload_n (pc' := 13) d_Bs_at_12 rfl (by first | rfl | exact isR_rf _) rfl ?_
      refine V_getf (pc' := 16) d_Bs_at_13 fl_Bs_11 rfl (by first | assumption | exact aset_self _ _ _ | exact apush_self _ _) (by rfl) ?_
      refine V_iload_n (pc' := 17) d_Bs_at_16 rfl rfl ?_
      -- at 17 aaload
      refine V_aald (pc' := 18) d_Bs_at_17 rfl hra rfl rfl hj (arv_get (by omega)) ?_
      rw [if_pos hjz]
      refine V_goto (tgt := 22) d_Bs_at_18 (by decide) ?_
      refine V_aret d_Bs_at_22 rfl (by first | rfl | exact isR_rf _) (by first | decide | omega) (by first | decide | omega) ?_
      rw [ax_n hjz hz]
      exact ⟨rfl, rfl⟩
theorem c_Bs_indexOf (hX : IX h o B S) (hz : ssz S ≤ 255) {q : Option Nat} (hq : ∀ i, q = some i → i < ssz S) : Cr x y_Bs_indexOf b_Bs_indexOf 3 (some .int) 0 [.ref (xC B 3), va_rf (rr B S q)] h (.int (oI q)) := by
  obtain ⟨ho, hka, hva, hpa, hba, hra, hpv, h8, h9, h10, h11, iv, ip, is⟩ := id hX
  refine Ct_of (own := "PathCalls$Base") (ini := false) rfl rfl (by simp [lg_sl, va_rf_cat, cat_ref, cat_int, cat_long, cat_null]) (fun q => by cases q) ?_
  refine V_eq (L' := [(0, .ref (xC B 3)), (1, va_rf (rr B S q))]) (by simp [lv_args, va_rf_cat, cat_ref, cat_int, cat_long, cat_null]) rfl rfl ?_
  have loop : ∀ (n i : Nat), i + n = ssz S → (∀ j, q = some j → i ≤ j) → V x "PathCalls$Base" b_Bs_indexOf 3 (Option.some .int) false (rmd 0 0 0) 0 0 (fun r h' => r = some (.int (oI q)) ∧ h = h') 2 [(0, .ref (xC B 3)), (1, va_rf (rr B S q)), (2, .int (nI i))] [] h 0 0 := by
    intro n
    induction n with
    | zero =>
      intro i hi hge
      refine V_iload_n (pc' := 3) d_Bs_indexOf_2 rfl rfl ?_
      refine V_aload_n (pc' := 4) d_Bs_indexOf_3 rfl (by first | rfl | exact isR_rf _) rfl ?_
      refine V_getf (pc' := 7) d_Bs_indexOf_4 fl_Bs_17 rfl (by first | assumption | exact aset_self _ _ _ | exact apush_self _ _) (by rfl) ?_
      refine V_icmp_ge (pc' := 10) (tgt := 28) d_Bs_indexOf_7 (by decide) rfl (fun c7 => ?_) (fun c7 => ?_)
      · refine V_iconst (pc' := 29) (v := (-1)) d_Bs_indexOf_28 (by decide) rfl ?_
        refine V_iret d_Bs_indexOf_29 rfl (by first | decide | omega) (by first | decide | omega) ?_
        have e : q = none := by
          cases q with
          | none => rfl
          | some j => have := hge j rfl; have := hq j rfl; omega
        rw [e]; exact ⟨rfl, rfl⟩
      · exact absurd (nI_le (by omega) (by omega)) c7
    | succ n ih =>
      intro i hi hge
      refine V_iload_n (pc' := 3) d_Bs_indexOf_2 rfl rfl ?_
      refine V_aload_n (pc' := 4) d_Bs_indexOf_3 rfl (by first | rfl | exact isR_rf _) rfl ?_
      refine V_getf (pc' := 7) d_Bs_indexOf_4 fl_Bs_17 rfl (by first | assumption | exact aset_self _ _ _ | exact apush_self _ _) (by rfl) ?_
      refine V_icmp_ge (pc' := 10) (tgt := 28) d_Bs_indexOf_7 (by decide) rfl (fun c7 => ?_) (fun c7 => ?_)
      · exact absurd c7 (nI_ge (by omega) (by omega))
      · refine V_aload_n (pc' := 11) d_Bs_indexOf_10 rfl (by first | rfl | exact isR_rf _) rfl ?_
        refine V_getf (pc' := 14) d_Bs_indexOf_11 fl_Bs_11 rfl (by first | assumption | exact aset_self _ _ _ | exact apush_self _ _) (by rfl) ?_
        refine V_iload_n (pc' := 15) d_Bs_indexOf_14 rfl rfl ?_
        -- at 15 aaload
        refine V_aald (pc' := 16) d_Bs_indexOf_15 rfl hra rfl rfl (by omega) (arv_get (by omega)) ?_
        rw [if_pos (show i < ssz S by omega)]
        refine V_aload_n (pc' := 17) d_Bs_indexOf_16 rfl (by first | rfl | exact isR_rf _) rfl ?_
        refine V_acmp_ne (pc' := 20) (tgt := 22) (rx := (rr B S (some i))) (ry := (rr B S q)) d_Bs_indexOf_17 (by decide) rfl (fun c17 => ?_) (fun c17 => ?_)
        · first | refine V_iincN (pc' := 25) d_Bs_indexOf_22 rfl (by decide) rfl ?_ | refine V_iinc (pc' := 25) d_Bs_indexOf_22 rfl rfl (by decide) rfl ?_
          first | refine V_L [(0, _), (1, _), (2, _)] ⟨rfl, rfl, rfl, trivial⟩ ?_ | (refine V_keep (by intro q hq e; simp only [List.mem_cons, List.not_mem_nil, or_false] at hq; rcases hq with rfl | rfl | rfl <;> first | rfl | exact va_rf_cat _ | exact absurd e (by decide)) ?_; refine V_L [(0, _), (1, _), (2, _)] ⟨rfl, rfl, rfl, trivial⟩ ?_)
          refine V_goto (tgt := 2) d_Bs_indexOf_25 (by decide) ?_
          refine V_L [(0, .ref (xC B 3)), (1, va_rf (rr B S q)), (2, .int (nI (i + 1)))] ⟨rfl, rfl, rfl, trivial⟩ ?_
          refine ih (i + 1) (by omega) (fun j hj => ?_)
          have h1 := hge j hj
          rcases Nat.lt_or_ge i j with z | z
          · exact z
          · exact absurd (by rw [hj, show i = j by omega]) c17
        · refine V_iload_n (pc' := 21) d_Bs_indexOf_20 rfl rfl ?_
          refine V_iret d_Bs_indexOf_21 rfl (by first | decide | omega) (by first | decide | omega) ?_
          have e := (rr_inj hX (fun k hk => by cases hk; omega) hq).mp c17
          rw [← e]; exact ⟨rfl, rfl⟩
  refine V_iconst (pc' := 1) (v := 0) d_Bs_indexOf_0 (by decide) rfl ?_
  refine V_istore_n (pc' := 2) d_Bs_indexOf_1 (by decide) rfl ?_
  first | refine V_L [(0, _), (1, _), (2, _)] ⟨rfl, rfl, rfl, trivial⟩ ?_ | (refine V_keep (by intro q hq e; simp only [List.mem_cons, List.not_mem_nil, or_false] at hq; rcases hq with rfl | rfl <;> first | rfl | exact va_rf_cat _ | exact absurd e (by decide)) ?_; refine V_L [(0, _), (1, _), (2, _)] ⟨rfl, rfl, rfl, trivial⟩ ?_)
  exact loop (ssz S) 0 (by omega) (fun _ _ => Nat.zero_le _)
theorem c_Bs_endOfTree (hX : IX h o B S) (hw : WX S) {q : Option Nat} (hq : ∀ i, q = some i → i < ssz S) : Cr x y_Bs_endOfTree b_Bs_endOfTree 4 (some .int) 1 [.ref (xC B 3), .int (oI q)] h (.int (nI (endS S q))) := by
  obtain ⟨ho, hka, hva, hpa, hba, hra, hpv, h8, h9, h10, h11, iv, ip, is⟩ := id hX
  obtain ⟨w1, w2, w3, w4, w5, w6, w7, w8, w9⟩ := id hw
  refine Ct_of (own := "PathCalls$Base") (ini := false) rfl rfl (Nat.le_of_ble_eq_true rfl) (fun q => by cases q) ?_
  refine V_aload_n (pc' := 1) d_Bs_endOfTree_0 rfl (by first | rfl | exact isR_rf _) rfl ?_
  refine V_iload_n (pc' := 2) d_Bs_endOfTree_1 rfl rfl ?_
  -- at 2 invokevirtual
  refine V_callV (pc' := 5) (As := [_]) (ci := 5) d_Bs_endOfTree_2 mv_Bs_21 mw_Bs_at rfl rfl rfl (by simp [Value.category]) rfl (by first | assumption | exact aset_self _ _ _ | exact apush_self _ _) (c_Bs_at hX w7 (oI q)) (by first | decide | omega) (by first | decide | omega) (by first | decide | omega) (by first | decide | omega) ?_
  rintro _ _ ⟨rfl, rfl⟩
  rw [ax_o hq w7]
  cases q with
  | none =>
    refine V_astore_n (pc' := 6) d_Bs_endOfTree_5 (by first | rfl | exact isR_rf _) (by decide) rfl ?_
    first | refine V_L [(0, _), (1, _), (2, _)] ⟨rfl, rfl, rfl, trivial⟩ ?_ | (refine V_keep (by intro q hq e; simp only [List.mem_cons, List.not_mem_nil, or_false] at hq; rcases hq with rfl | rfl <;> first | rfl | exact va_rf_cat _ | exact absurd e (by decide)) ?_; refine V_L [(0, _), (1, _), (2, _)] ⟨rfl, rfl, rfl, trivial⟩ ?_)
    refine V_aload_n (pc' := 7) d_Bs_endOfTree_6 rfl (by first | rfl | exact isR_rf _) rfl ?_
    refine V_ifnonnull (pc' := 10) (tgt := 15) (r := (rr B S none)) d_Bs_endOfTree_7 (by decide) rfl (fun a7 c7 => ?_) (fun c7 => ?_)
    · cases c7
    · refine V_aload_n (pc' := 11) d_Bs_endOfTree_10 rfl (by first | rfl | exact isR_rf _) rfl ?_
      refine V_getf (pc' := 14) d_Bs_endOfTree_11 fl_Bs_17 rfl (by first | assumption | exact aset_self _ _ _ | exact apush_self _ _) (by rfl) ?_
      refine V_iret d_Bs_endOfTree_14 rfl (by first | decide | omega) (by first | decide | omega) ?_
      exact ⟨rfl, rfl⟩
  | some t =>
    have htz := hq t rfl
    have ht1 := h11 t htz
    obtain ⟨s1, s2⟩ := w4 t htz
    have hkt := h8 _ s1 s2
    have hlt : slo S t ≤ 8 := (w5 _ s1 s2).2
    refine V_astore_n (pc' := 6) d_Bs_endOfTree_5 (by first | rfl | exact isR_rf _) (by decide) rfl ?_
    first | refine V_L [(0, _), (1, _), (2, _)] ⟨rfl, rfl, rfl, trivial⟩ ?_ | (refine V_keep (by intro q hq e; simp only [List.mem_cons, List.not_mem_nil, or_false] at hq; rcases hq with rfl | rfl <;> first | rfl | exact va_rf_cat _ | exact absurd e (by decide)) ?_; refine V_L [(0, _), (1, _), (2, _)] ⟨rfl, rfl, rfl, trivial⟩ ?_)
    refine V_aload_n (pc' := 7) d_Bs_endOfTree_6 rfl (by first | rfl | exact isR_rf _) rfl ?_
    refine V_ifnonnull (pc' := 10) (tgt := 15) (r := (rr B S (some t))) d_Bs_endOfTree_7 (by decide) rfl (fun a7 c7 => ?_) (fun c7 => ?_)
    · clear c7 a7
      rw [show va_rf (rr B S (some t)) = .ref (xs B (snm S t)) from rfl]
      have loop : ∀ (n k : Nat), k + n = ssz S → bhd S t = bh (slo S) (ssz S) (slo S t) n k → V x "PathCalls$Base" b_Bs_endOfTree 4 (Option.some .int) false (rmd 1 0 0) 0 0 (fun r h' => r = some (.int (nI (endS S (some t)))) ∧ h = h') 19 [(0, .ref (xC B 3)), (1, .int (oI (some t))), (2, .ref (xs B (snm S t))), (3, .int (nI k))] [] h 0 0 := by
        intro n
        induction n with
        | zero =>
          intro k hk he
          refine V_iload_n (pc' := 20) d_Bs_endOfTree_19 rfl rfl ?_
          refine V_aload_n (pc' := 21) d_Bs_endOfTree_20 rfl (by first | rfl | exact isR_rf _) rfl ?_
          refine V_getf (pc' := 24) d_Bs_endOfTree_21 fl_Bs_17 rfl (by first | assumption | exact aset_self _ _ _ | exact apush_self _ _) (by rfl) ?_
          refine V_icmp_ge (pc' := 27) (tgt := 55) d_Bs_endOfTree_24 (by decide) rfl (fun c24 => ?_) (fun c24 => ?_)
          · refine V_iload_n (pc' := 56) d_Bs_endOfTree_55 rfl rfl ?_
            refine V_iret d_Bs_endOfTree_56 rfl (by first | decide | omega) (by first | decide | omega) ?_
            rw [show endS S (some t) = k from he]
            exact ⟨rfl, rfl⟩
          · exact absurd (nI_le (by omega) (by omega)) c24
        | succ n ih =>
          intro k hk he
          have hkz : k < ssz S := by omega
          have hk1 := h11 k hkz
          obtain ⟨y1, y2⟩ := w4 k hkz
          have hkk := h8 _ y1 y2
          have hkl : slo S k ≤ 8 := (w5 _ y1 y2).2
          refine V_iload_n (pc' := 20) d_Bs_endOfTree_19 rfl rfl ?_
          refine V_aload_n (pc' := 21) d_Bs_endOfTree_20 rfl (by first | rfl | exact isR_rf _) rfl ?_
          refine V_getf (pc' := 24) d_Bs_endOfTree_21 fl_Bs_17 rfl (by first | assumption | exact aset_self _ _ _ | exact apush_self _ _) (by rfl) ?_
          refine V_icmp_ge (pc' := 27) (tgt := 55) d_Bs_endOfTree_24 (by decide) rfl (fun c24 => ?_) (fun c24 => ?_)
          · exact absurd c24 (nI_ge (by omega) (by omega))
          · refine V_aload_n (pc' := 28) d_Bs_endOfTree_27 rfl (by first | rfl | exact isR_rf _) rfl ?_
            refine V_getf (pc' := 31) d_Bs_endOfTree_28 fl_Bs_11 rfl (by first | assumption | exact aset_self _ _ _ | exact apush_self _ _) (by rfl) ?_
            refine V_iload_n (pc' := 32) d_Bs_endOfTree_31 rfl rfl ?_
            -- at 32 aaload
            refine V_aald (pc' := 33) d_Bs_endOfTree_32 rfl hra rfl rfl (by omega) (arv_get (by omega)) ?_
            rw [if_pos hkz]
            refine V_getf (pc' := 36) d_Bs_endOfTree_33 fl_Bs_25 rfl (by first | assumption | exact aset_self _ _ _ | exact apush_self _ _) (by rfl) ?_
            refine V_getf (pc' := 39) d_Bs_endOfTree_36 fl_Bs_29 rfl (by first | assumption | exact aset_self _ _ _ | exact apush_self _ _) (by rfl) ?_
            refine V_aload_n (pc' := 40) d_Bs_endOfTree_39 rfl (by first | rfl | exact isR_rf _) rfl ?_
            refine V_getf (pc' := 43) d_Bs_endOfTree_40 fl_Bs_25 rfl (by first | assumption | exact aset_self _ _ _ | exact apush_self _ _) (by rfl) ?_
            refine V_getf (pc' := 46) d_Bs_endOfTree_43 fl_Bs_29 rfl (by first | assumption | exact aset_self _ _ _ | exact apush_self _ _) (by rfl) ?_
            refine V_icmp_le (pc' := 49) (tgt := 55) d_Bs_endOfTree_46 (by decide) rfl (fun c46 => ?_) (fun c46 => ?_)
            · refine V_iload_n (pc' := 56) d_Bs_endOfTree_55 rfl rfl ?_
              refine V_iret d_Bs_endOfTree_56 rfl (by first | decide | omega) (by first | decide | omega) ?_
              have : slo S k ≤ slo S t := (nI_leI (by omega) (by omega)).mp c46
              rw [show endS S (some t) = k from by show bhd S t = k; rw [he, bh, if_neg (by omega)]]
              exact ⟨rfl, rfl⟩
            · first | refine V_iincN (pc' := 52) d_Bs_endOfTree_49 rfl (by decide) rfl ?_ | refine V_iinc (pc' := 52) d_Bs_endOfTree_49 rfl rfl (by decide) rfl ?_
              first | refine V_L [(0, _), (1, _), (2, _), (3, _)] ⟨rfl, rfl, rfl, rfl, trivial⟩ ?_ | (refine V_keep (by intro q hq e; simp only [List.mem_cons, List.not_mem_nil, or_false] at hq; rcases hq with rfl | rfl | rfl | rfl <;> first | rfl | exact va_rf_cat _ | exact absurd e (by decide)) ?_; refine V_L [(0, _), (1, _), (2, _), (3, _)] ⟨rfl, rfl, rfl, rfl, trivial⟩ ?_)
              refine V_goto (tgt := 19) d_Bs_endOfTree_52 (by decide) ?_
              have : ¬ slo S k ≤ slo S t := fun z => c46 (show nI (slo S k) ≤ nI (slo S t) from nI_le z (by omega))
              exact ih (k + 1) (by omega) (by rw [he, bh, if_pos ⟨hkz, by omega⟩])
      refine V_iload_n (pc' := 16) d_Bs_endOfTree_15 rfl rfl ?_
      refine V_iconst (pc' := 17) (v := 1) d_Bs_endOfTree_16 (by decide) rfl ?_
      refine V_iadd (pc' := 18) d_Bs_endOfTree_17 rfl ?_
      rw [show oI (some t) + 1 = nI (t + 1) from nI_1 t]
      refine V_istore_n (pc' := 19) d_Bs_endOfTree_18 (by decide) rfl ?_
      first | refine V_L [(0, _), (1, _), (2, _), (3, _)] ⟨rfl, rfl, rfl, rfl, trivial⟩ ?_ | (refine V_keep (by intro q hq e; simp only [List.mem_cons, List.not_mem_nil, or_false] at hq; rcases hq with rfl | rfl | rfl <;> first | rfl | exact va_rf_cat _ | exact absurd e (by decide)) ?_; refine V_L [(0, _), (1, _), (2, _), (3, _)] ⟨rfl, rfl, rfl, rfl, trivial⟩ ?_)
      exact loop (ssz S - (t + 1)) (t + 1) (by omega) (bh_fuel _ _ _ (by omega) (by omega))
    · cases c7
theorem c_PC_kindNumbered (hX : IX h o B S) (hk : skc S ≤ 20) (k : Int32) : Cr x y_PC_kindNumbered b_PC_kindNumbered 2 (some (.object "PathCalls$Kind")) 0 [.ref o, .int k] h (va_rf (knr B (skc S) k)) := by
  obtain ⟨ho, hka, hva, hpa, hba, hra, hpv, h8, h9, h10, h11, iv, ip, is⟩ := id hX
  refine Ct_of (own := "PathCalls") (ini := false) rfl rfl (Nat.le_of_ble_eq_true rfl) (fun q => by cases q) ?_
  have bad : ki (skc S) k = none → V x "PathCalls" b_PC_kindNumbered 2 (Option.some (.object "PathCalls$Kind")) false (rmd 0 0 0) 0 0 (fun r h' => r = some (va_rf (knr B (skc S) k)) ∧ h = h') 24 [(0, .ref o), (1, .int k)] [] h 0 0 := by
    intro q
    refine V_null (pc' := 25) d_PC_kindNumbered_24 rfl ?_
    refine V_aret d_PC_kindNumbered_25 rfl (by first | rfl | exact isR_rf _) (by first | decide | omega) (by first | decide | omega) ?_
    unfold knr
    rw [q]; exact ⟨rfl, rfl⟩
  refine V_iload_n (pc' := 1) d_PC_kindNumbered_0 rfl rfl ?_
  refine V_iconst (pc' := 2) (v := 1) d_PC_kindNumbered_1 (by decide) rfl ?_
  refine V_icmp_lt (pc' := 5) (tgt := 24) d_PC_kindNumbered_2 (by decide) rfl (fun c2 => ?_) (fun c2 => ?_)
  · exact bad (ki_none.mpr (fun q => lt_one.mp c2 q.1))
  · refine V_iload_n (pc' := 6) d_PC_kindNumbered_5 rfl rfl ?_
    refine V_aload_n (pc' := 7) d_PC_kindNumbered_6 rfl (by first | rfl | exact isR_rf _) rfl ?_
    refine V_getf (pc' := 10) d_PC_kindNumbered_7 fl_PC_43 rfl (by first | assumption | exact aset_self _ _ _ | exact apush_self _ _) (by rfl) ?_
    refine V_icmp_gt (pc' := 13) (tgt := 24) d_PC_kindNumbered_10 (by decide) rfl (fun c10 => ?_) (fun c10 => ?_)
    · exact bad (ki_none.mpr (fun q => absurd q.2 (Int32.not_le.mpr c10)))
    · obtain ⟨j, ej⟩ := ki_of c2 (Int32.not_lt.mp c10)
      obtain ⟨e1, e2, e3⟩ := ki_some (by omega) ej
      subst e1
      refine V_aload_n (pc' := 14) d_PC_kindNumbered_13 rfl (by first | rfl | exact isR_rf _) rfl ?_
      refine V_getf (pc' := 17) d_PC_kindNumbered_14 fl_PC_11 rfl (by first | assumption | exact aset_self _ _ _ | exact apush_self _ _) (by rfl) ?_
      refine V_iload_n (pc' := 18) d_PC_kindNumbered_17 rfl rfl ?_
      refine V_iconst (pc' := 19) (v := 1) d_PC_kindNumbered_18 (by decide) rfl ?_
      refine V_isub (pc' := 20) d_PC_kindNumbered_19 rfl ?_
      -- at 20 aaload
      refine V_aald (pc' := 21) d_PC_kindNumbered_20 rfl hka rfl (pk_sub (a := j) (b := 1) e2) (by omega) (arv_get (by omega)) ?_
      rw [if_pos (show j - 1 < skc S by omega), show j - 1 + 1 = j by omega]
      refine V_goto (tgt := 25) d_PC_kindNumbered_21 (by decide) ?_
      refine V_aret d_PC_kindNumbered_25 rfl (by first | rfl | exact isR_rf _) (by first | decide | omega) (by first | decide | omega) ?_
      unfold knr
      rw [ej]; exact ⟨rfl, rfl⟩
theorem c_PC_viewNumbered (hX : IX h o B S) (hk : svc S ≤ 9) (k : Int32) : Cr x y_PC_viewNumbered b_PC_viewNumbered 2 (some (.object "PathCalls$View")) 0 [.ref o, .int k] h (va_rf (vnr B (svc S) k)) := by
  obtain ⟨ho, hka, hva, hpa, hba, hra, hpv, h8, h9, h10, h11, iv, ip, is⟩ := id hX
  refine Ct_of (own := "PathCalls") (ini := false) rfl rfl (Nat.le_of_ble_eq_true rfl) (fun q => by cases q) ?_
  have bad : ki (svc S) k = none → V x "PathCalls" b_PC_viewNumbered 2 (Option.some (.object "PathCalls$View")) false (rmd 0 0 0) 0 0 (fun r h' => r = some (va_rf (vnr B (svc S) k)) ∧ h = h') 24 [(0, .ref o), (1, .int k)] [] h 0 0 := by
    intro q
    refine V_null (pc' := 25) d_PC_viewNumbered_24 rfl ?_
    refine V_aret d_PC_viewNumbered_25 rfl (by first | rfl | exact isR_rf _) (by first | decide | omega) (by first | decide | omega) ?_
    unfold vnr
    rw [q]; exact ⟨rfl, rfl⟩
  refine V_iload_n (pc' := 1) d_PC_viewNumbered_0 rfl rfl ?_
  refine V_iconst (pc' := 2) (v := 1) d_PC_viewNumbered_1 (by decide) rfl ?_
  refine V_icmp_lt (pc' := 5) (tgt := 24) d_PC_viewNumbered_2 (by decide) rfl (fun c2 => ?_) (fun c2 => ?_)
  · exact bad (ki_none.mpr (fun q => lt_one.mp c2 q.1))
  · refine V_iload_n (pc' := 6) d_PC_viewNumbered_5 rfl rfl ?_
    refine V_aload_n (pc' := 7) d_PC_viewNumbered_6 rfl (by first | rfl | exact isR_rf _) rfl ?_
    refine V_getf (pc' := 10) d_PC_viewNumbered_7 fl_PC_53 rfl (by first | assumption | exact aset_self _ _ _ | exact apush_self _ _) (by rfl) ?_
    refine V_icmp_gt (pc' := 13) (tgt := 24) d_PC_viewNumbered_10 (by decide) rfl (fun c10 => ?_) (fun c10 => ?_)
    · exact bad (ki_none.mpr (fun q => absurd q.2 (Int32.not_le.mpr c10)))
    · obtain ⟨j, ej⟩ := ki_of c2 (Int32.not_lt.mp c10)
      obtain ⟨e1, e2, e3⟩ := ki_some (by omega) ej
      subst e1
      refine V_aload_n (pc' := 14) d_PC_viewNumbered_13 rfl (by first | rfl | exact isR_rf _) rfl ?_
      refine V_getf (pc' := 17) d_PC_viewNumbered_14 fl_PC_17 rfl (by first | assumption | exact aset_self _ _ _ | exact apush_self _ _) (by rfl) ?_
      refine V_iload_n (pc' := 18) d_PC_viewNumbered_17 rfl rfl ?_
      refine V_iconst (pc' := 19) (v := 1) d_PC_viewNumbered_18 (by decide) rfl ?_
      refine V_isub (pc' := 20) d_PC_viewNumbered_19 rfl ?_
      -- at 20 aaload
      refine V_aald (pc' := 21) d_PC_viewNumbered_20 rfl hva rfl (pk_sub (a := j) (b := 1) e2) (by omega) (arv_get (by omega)) ?_
      rw [if_pos (show j - 1 < svc S by omega), show j - 1 + 1 = j by omega]
      refine V_goto (tgt := 25) d_PC_viewNumbered_21 (by decide) ?_
      refine V_aret d_PC_viewNumbered_25 rfl (by first | rfl | exact isR_rf _) (by first | decide | omega) (by first | decide | omega) ?_
      unfold vnr
      rw [ej]; exact ⟨rfl, rfl⟩
theorem c_PC_kindNumberOf (hX : IX h o B S) (hw : WX S) {q : Option Nat} (hq : ∀ i, q = some i → i < ssz S) : Cr x y_PC_kindNumberOf b_PC_kindNumberOf 1 (some .int) 0 [va_rf (rr B S q)] h (.int (oz (sso S) q)) := by
  obtain ⟨ho, hka, hva, hpa, hba, hra, hpv, h8, h9, h10, h11, iv, ip, is⟩ := id hX
  obtain ⟨w1, w2, w3, w4, w5, w6, w7, w8, w9⟩ := id hw
  refine Ct_of (own := "PathCalls") (ini := false) rfl rfl (by simp [lg_sl, va_rf_cat, cat_ref, cat_int, cat_long, cat_null]) (fun q => by cases q) ?_
  refine V_eq (L' := [(0, va_rf (rr B S q))]) (by simp [lv_args, va_rf_cat, cat_ref, cat_int, cat_long, cat_null]) rfl rfl ?_
  cases q with
  | none =>
    refine V_aload_n (pc' := 1) d_PC_kindNumberOf_0 rfl (by first | rfl | exact isR_rf _) rfl ?_
    refine V_ifnonnull (pc' := 4) (tgt := 8) (r := (rr B S none)) d_PC_kindNumberOf_1 (by decide) rfl (fun a1 c1 => ?_) (fun c1 => ?_)
    · cases c1
    · refine V_iconst (pc' := 5) (v := 0) d_PC_kindNumberOf_4 (by decide) rfl ?_
      refine V_goto (tgt := 15) d_PC_kindNumberOf_5 (by decide) ?_
      refine V_iret d_PC_kindNumberOf_15 rfl (by first | decide | omega) (by first | decide | omega) ?_
      exact ⟨rfl, rfl⟩
  | some t =>
    have htz := hq t rfl
    have ht1 := h11 t htz
    obtain ⟨s1, s2⟩ := w4 t htz
    have hkt := h8 _ s1 s2
    refine V_aload_n (pc' := 1) d_PC_kindNumberOf_0 rfl (by first | rfl | exact isR_rf _) rfl ?_
    refine V_ifnonnull (pc' := 4) (tgt := 8) (r := (rr B S (some t))) d_PC_kindNumberOf_1 (by decide) rfl (fun a1 c1 => ?_) (fun c1 => ?_)
    · clear c1 a1
      rw [show va_rf (rr B S (some t)) = .ref (xs B (snm S t)) from rfl]
      refine V_aload_n (pc' := 9) d_PC_kindNumberOf_8 rfl (by first | rfl | exact isR_rf _) rfl ?_
      refine V_getf (pc' := 12) d_PC_kindNumberOf_9 fl_PC_174 rfl (by first | assumption | exact aset_self _ _ _ | exact apush_self _ _) (by rfl) ?_
      refine V_getf (pc' := 15) d_PC_kindNumberOf_12 fl_PC_175 rfl (by first | assumption | exact aset_self _ _ _ | exact apush_self _ _) (by rfl) ?_
      refine V_iret d_PC_kindNumberOf_15 rfl (by first | decide | omega) (by first | decide | omega) ?_
      exact ⟨rfl, rfl⟩
    · cases c1
theorem c_PC_partsFit (hX : IX h o B S) (hw : WX S) {n : Nat} (hp : PV S n) : Cr x y_PC_partsFit b_PC_partsFit 3 (some .boolean) 1 [.ref o, .int (nI n)] h (.int (ob (af S n))) := by
  obtain ⟨ho, hka, hva, hpa, hba, hra, hpv, h8, h9, h10, h11, iv, ip, is⟩ := id hX
  obtain ⟨w1, w2, w3, w4, w5, w6, w7, w8, w9⟩ := id hw
  obtain ⟨v1, v2⟩ := id hp
  refine Ct_of (own := "PathCalls") (ini := false) rfl rfl (Nat.le_of_ble_eq_true rfl) (fun q => by cases q) ?_
  have mono : ∀ d p, af S p = false → af S (p + d) = false := by
    intro d
    induction d with
    | zero => intro p hp0; exact hp0
    | succ d ih => intro p hp0; rw [← Nat.add_assoc, af, ih p hp0, Bool.false_and]
  have loop : ∀ (d p : Nat), p + d = n + 1 → 1 ≤ p → (p ≤ n → af S p = true) → (n < p → af S n = true) → V x "PathCalls" b_PC_partsFit 3 (Option.some .boolean) false (rmd 1 0 0) 0 0 (fun r h' => r = some (.int (ob (af S n))) ∧ h = h') 2 [(0, .ref o), (1, .int (nI n)), (2, .int (nI p))] [] h 0 0 := by
    intro d
    induction d with
    | zero =>
      intro p hpd hp1 hpa1 hpa2
      refine V_iload_n (pc' := 3) d_PC_partsFit_2 rfl rfl ?_
      refine V_iload_n (pc' := 4) d_PC_partsFit_3 rfl rfl ?_
      refine V_icmp_ge (pc' := 7) (tgt := 41) d_PC_partsFit_4 (by decide) rfl (fun c4 => ?_) (fun c4 => ?_)
      · refine V_iconst (pc' := 42) (v := 1) d_PC_partsFit_41 (by decide) rfl ?_
        refine V_zret d_PC_partsFit_42 rfl (by first | rfl | exact ob_nar _) (by first | decide | omega) (by first | decide | omega) ?_
        rw [hpa2 (by omega)]; exact ⟨rfl, rfl⟩
      · exact absurd (nI_le (by omega) (by omega)) c4
    | succ d ih =>
      intro p hpd hp1 hpa1 hpa2
      refine V_iload_n (pc' := 3) d_PC_partsFit_2 rfl rfl ?_
      refine V_iload_n (pc' := 4) d_PC_partsFit_3 rfl rfl ?_
      refine V_icmp_ge (pc' := 7) (tgt := 41) d_PC_partsFit_4 (by decide) rfl (fun c4 => ?_) (fun c4 => ?_)
      · refine V_iconst (pc' := 42) (v := 1) d_PC_partsFit_41 (by decide) rfl ?_
        refine V_zret d_PC_partsFit_42 rfl (by first | rfl | exact ob_nar _) (by first | decide | omega) (by first | decide | omega) ?_
        have : n ≤ p := (nI_leI (by omega) (by omega)).mp c4
        have e : p = n := by omega
        rw [← e, hpa1 (by omega)]; exact ⟨rfl, rfl⟩
      · have hpn : p < n := by
          rcases Nat.lt_or_ge p n with z | z
          · exact z
          · exact absurd (nI_le z (by omega)) c4
        obtain ⟨p1, p2, p3, p4⟩ := v2 p hpn
        obtain ⟨q1, q2, q3, q4⟩ := v2 (p - 1) (by omega)
        have hc1 := h10 p (by omega)
        have hc2 := h10 (p - 1) (by omega)
        have hk1 := h8 _ p1 p2
        have hp0 : (p == 0) = false := by simp; omega
        refine V_aload_n (pc' := 8) d_PC_partsFit_7 rfl (by first | rfl | exact isR_rf _) rfl ?_
        refine V_getf (pc' := 11) d_PC_partsFit_8 fl_PC_23 rfl (by first | assumption | exact aset_self _ _ _ | exact apush_self _ _) (by rfl) ?_
        refine V_iload_n (pc' := 12) d_PC_partsFit_11 rfl rfl ?_
        -- at 12 aaload
        refine V_aald (pc' := 13) d_PC_partsFit_12 rfl hpa rfl rfl (by omega) (arv_get (by omega)) ?_
        refine V_getf (pc' := 16) d_PC_partsFit_13 fl_PC_117 rfl (by first | assumption | exact aset_self _ _ _ | exact apush_self _ _) (by rfl) ?_
        rw [kr_pos p1]
        refine V_aload_n (pc' := 17) d_PC_partsFit_16 rfl (by first | rfl | exact isR_rf _) rfl ?_
        refine V_getf (pc' := 20) d_PC_partsFit_17 fl_PC_23 rfl (by first | assumption | exact aset_self _ _ _ | exact apush_self _ _) (by rfl) ?_
        refine V_iload_n (pc' := 21) d_PC_partsFit_20 rfl rfl ?_
        refine V_iconst (pc' := 22) (v := 1) d_PC_partsFit_21 (by decide) rfl ?_
        refine V_isub (pc' := 23) d_PC_partsFit_22 rfl ?_
        -- at 23 aaload
        refine V_aald (pc' := 24) d_PC_partsFit_23 rfl hpa rfl (pk_sub (a := p) (b := 1) hp1) (by omega) (arv_get (by omega)) ?_
        refine V_getf (pc' := 27) d_PC_partsFit_24 fl_PC_117 rfl (by first | assumption | exact aset_self _ _ _ | exact apush_self _ _) (by rfl) ?_
        rw [kr_pos q1]
        rw [show va_rf (some (xk B (spk S p))) = .ref (xk B (spk S p)) from rfl, show va_rf (some (xk B (spk S (p - 1)))) = .ref (xk B (spk S (p - 1))) from rfl]
        refine V_callV (pc' := 30) (As := [_]) (ci := 1) d_PC_partsFit_27 mv_PC_191 mw_Kd_liesBelow rfl rfl rfl (by simp [Value.category]) rfl (by first | assumption | exact aset_self _ _ _ | exact apush_self _ _) (c_Kd_liesBelow (a := spk S p) (b := spk S (p - 1)) hX w1 p1 p2 q1 q2 w6) (by first | decide | omega) (by first | decide | omega) (by first | decide | omega) (by first | decide | omega) ?_
        rintro _ _ ⟨rfl, rfl⟩
        refine V_if_ne (pc' := 33) (tgt := 35) d_PC_partsFit_30 (by decide) rfl (fun c30 => ?_) (fun c30 => ?_)
        · first | refine V_iincN (pc' := 38) d_PC_partsFit_35 rfl (by decide) rfl ?_ | refine V_iinc (pc' := 38) d_PC_partsFit_35 rfl rfl (by decide) rfl ?_
          first | refine V_L [(0, _), (1, _), (2, _)] ⟨rfl, rfl, rfl, trivial⟩ ?_ | (refine V_keep (by intro q hq e; simp only [List.mem_cons, List.not_mem_nil, or_false] at hq; rcases hq with rfl | rfl | rfl <;> first | rfl | exact va_rf_cat _ | exact absurd e (by decide)) ?_; refine V_L [(0, _), (1, _), (2, _)] ⟨rfl, rfl, rfl, trivial⟩ ?_)
          refine V_goto (tgt := 2) d_PC_partsFit_38 (by decide) ?_
          refine V_L [(0, .ref o), (1, .int (nI n)), (2, .int (nI (p + 1)))] ⟨rfl, rfl, rfl, trivial⟩ ?_
          refine ih (p + 1) (by omega) (by omega) (fun _ => ?_) (fun z => by omega)
          rw [af, hpa1 (by omega), ob_nt c30, Bool.or_true]; rfl
        · refine V_iconst (pc' := 34) (v := 0) d_PC_partsFit_33 (by decide) rfl ?_
          refine V_zret d_PC_partsFit_34 rfl (by first | rfl | exact ob_nar _) (by first | decide | omega) (by first | decide | omega) ?_
          have z : af S (p + 1) = false := by rw [af, hp0, ob_0.mp c30, Bool.or_false, Bool.and_false]
          have := mono (n - (p + 1)) (p + 1) z
          rw [show p + 1 + (n - (p + 1)) = n by omega] at this
          rw [this]; exact ⟨rfl, rfl⟩
  refine V_iconst (pc' := 1) (v := 1) d_PC_partsFit_0 (by decide) rfl ?_
  refine V_istore_n (pc' := 2) d_PC_partsFit_1 (by decide) rfl ?_
  first | refine V_L [(0, _), (1, _), (2, _)] ⟨rfl, rfl, rfl, trivial⟩ ?_ | (refine V_keep (by intro q hq e; simp only [List.mem_cons, List.not_mem_nil, or_false] at hq; rcases hq with rfl | rfl <;> first | rfl | exact va_rf_cat _ | exact absurd e (by decide)) ?_; refine V_L [(0, _), (1, _), (2, _)] ⟨rfl, rfl, rfl, trivial⟩ ?_)
  refine loop n 1 (by omega) (by omega) (fun _ => ?_) (fun q => ?_)
  · simp [af]
  · have e : n = 0 := by omega
    rw [e]; rfl
end X2
