-- the class: searches, 2
section X4
variable {x : CX} {h : AH} {o : Nat} {B : XB} {S : PS}
theorem c_PC_isAsParts (hX : IX h o B S) (hw : WX S) (hSo : So S) {v i n : Nat} (hv1 : 1 ≤ v) (hv2 : v ≤ svc S) (hi : i < ssz S) (hp : PV S n) : Cr x y_PC_isAsParts b_PC_isAsParts 7 (some .boolean) 3 [.ref o, .ref (xv B v), .int (nI i), .int (nI n)] h (.int (ob (fit S i n (plc S (spo S v))))) := by
  obtain ⟨ho, hka, hva, hpa, hba, hra, hpv, h8, h9, h10, h11, iv, ip, is⟩ := id hX
  obtain ⟨w1, w2, w3, w4, w5, w6, w7, w8, w9⟩ := id hw
  obtain ⟨v1, v2⟩ := id hp
  have hci := h11 i hi
  obtain ⟨s1, s2⟩ := w4 i hi
  refine Ct_of (own := "PathCalls") (ini := false) rfl rfl (Nat.le_of_ble_eq_true rfl) (fun q => by cases q) ?_
  generalize epos : plc S (spo S v) = pos
  have loop : ∀ (p : Nat), p ≤ n → (fa S i pos n = fa S i pos p) → (n == 0 || sso S i == spk S (n - 1)) = true → V x "PathCalls" b_PC_isAsParts 7 (Option.some .boolean) false (rmd 3 0 0) 0 0 (fun r h' => r = some (.int (ob (fit S i n pos))) ∧ h = h') 45 [(0, .ref o), (1, .ref (xv B v)), (2, .int (nI i)), (3, .int (nI n)), (4, .ref (xs B (snm S i))), (5, .int (nI p - 1))] [] h 0 0 := by
    intro p
    induction p with
    | zero =>
      intro hpn hfa hn
      refine V_iload (pc' := 47) d_PC_isAsParts_45 rfl rfl ?_
      refine V_if_lt (pc' := 50) (tgt := 98) d_PC_isAsParts_47 (by decide) rfl (fun c47 => ?_) (fun c47 => ?_)
      · refine V_iconst (pc' := 99) (v := 1) d_PC_isAsParts_98 (by decide) rfl ?_
        refine V_zret d_PC_isAsParts_99 rfl (by first | rfl | exact ob_nar _) (by first | decide | omega) (by first | decide | omega) ?_
        have : fit S i n pos = true := by unfold fit; rw [hn, hfa]; rfl
        rw [this]; exact ⟨rfl, rfl⟩
      · exact absurd (by decide) c47
    | succ p ih =>
      intro hpn hfa hn
      refine V_L [(0, .ref o), (1, .ref (xv B v)), (2, .int (nI i)), (3, .int (nI n)), (4, .ref (xs B (snm S i))), (5, .int (nI p))] ⟨rfl, rfl, rfl, rfl, rfl, (by rw [← nI_pred p]; rfl), trivial⟩ ?_
      obtain ⟨p1, p2, p3, p4⟩ := v2 p (by omega)
      have hcp := h10 p (by omega)
      have bad : fp1 S i pos p = false → ∀ z : Value, isR z = true → V x "PathCalls" b_PC_isAsParts 7 (Option.some .boolean) false (rmd 3 0 0) 0 0 (fun r h' => r = some (.int (ob (fit S i n pos))) ∧ h = h') 90 [(0, .ref o), (1, .ref (xv B v)), (2, .int (nI i)), (3, .int (nI n)), (4, .ref (xs B (snm S i))), (5, .int (nI p)), (6, z)] [] h 0 0 := by
        intro hf z hz
        refine V_iconst (pc' := 91) (v := 0) d_PC_isAsParts_90 (by decide) rfl ?_
        refine V_zret d_PC_isAsParts_91 rfl (by first | rfl | exact ob_nar _) (by first | decide | omega) (by first | decide | omega) ?_
        have : fit S i n pos = false := by unfold fit; rw [hfa, fa, hf, Bool.and_false, Bool.and_false]
        rw [this]; exact ⟨rfl, rfl⟩
      refine V_iload (pc' := 47) d_PC_isAsParts_45 rfl rfl ?_
      refine V_if_lt (pc' := 50) (tgt := 98) d_PC_isAsParts_47 (by decide) rfl (fun c47 => ?_) (fun c47 => ?_)
      · exact absurd c47 (nI_pos (by omega))
      · refine V_aload (pc' := 52) d_PC_isAsParts_50 rfl (by first | rfl | exact isR_rf _) rfl ?_
        refine V_aload_n (pc' := 53) d_PC_isAsParts_52 rfl (by first | rfl | exact isR_rf _) rfl ?_
        refine V_getf (pc' := 56) d_PC_isAsParts_53 fl_PC_23 rfl (by first | assumption | exact aset_self _ _ _ | exact apush_self _ _) (by rfl) ?_
        refine V_iload (pc' := 58) d_PC_isAsParts_56 rfl rfl ?_
        -- at 58 aaload
        refine V_aald (pc' := 59) d_PC_isAsParts_58 rfl hpa rfl rfl (by omega) (arv_get (by omega)) ?_
        refine V_getf (pc' := 62) d_PC_isAsParts_59 fl_PC_117 rfl (by first | assumption | exact aset_self _ _ _ | exact apush_self _ _) (by rfl) ?_
        rw [kr_pos p1]
        rw [show va_rf (some (xk B (spk S p))) = .ref (xk B (spk S p)) from rfl]
        refine V_callS (pc' := 65) (As := [_, _]) d_PC_isAsParts_62 ms_PC_199 mw_Sg_around rfl rfl rfl (by simp [Value.category]) (c_Sg_around (q := some i) (kd := spk S p) hX w1 w2 w3 w4 (fun j hj => by cases hj; exact hi) p1 p2 (w5 _ p1 p2).1) (by first | decide | omega) (by first | decide | omega) (by first | decide | omega) (by first | decide | omega) ?_
        rintro _ _ ⟨rfl, rfl⟩
        cases ek : okd S (some i) (spk S p) with
        | none =>
          have hf : fp1 S i pos p = false := by unfold fp1; rw [ek]
          rw [show va_rf (rr B S none) = .null from rfl]
          refine V_astore (pc' := 67) d_PC_isAsParts_65 (by first | rfl | exact isR_rf _) (by decide) rfl ?_
          first | refine V_L [(0, _), (1, _), (2, _), (3, _), (4, _), (5, _), (6, _)] ⟨rfl, rfl, rfl, rfl, rfl, rfl, rfl, trivial⟩ ?_ | (refine V_keep (by intro q hq e; simp only [List.mem_cons, List.not_mem_nil, or_false] at hq; rcases hq with rfl | rfl | rfl | rfl | rfl | rfl <;> first | rfl | exact va_rf_cat _ | exact absurd e (by decide)) ?_; refine V_L [(0, _), (1, _), (2, _), (3, _), (4, _), (5, _), (6, _)] ⟨rfl, rfl, rfl, rfl, rfl, rfl, rfl, trivial⟩ ?_)
          refine V_aload (pc' := 69) d_PC_isAsParts_67 rfl (by first | rfl | exact isR_rf _) rfl ?_
          refine V_ifnull (pc' := 72) (tgt := 90) (r := none) d_PC_isAsParts_69 (by decide) rfl (fun c69 => ?_) (fun a69 c69 => ?_)
          · exact bad hf _ rfl
          · cases c69
        | some k =>
          obtain ⟨k1, k2⟩ := okd_in w3 hi ek (w5 _ p1 p2).1
          have hkz : k < ssz S := by omega
          have hfp : fp1 S i pos p = (rel (sop S p) (sky S k) (spy S p) && (!(cb (scd S p) 2) || decide (okd S pos (spk S p) = some k)) && (!(cb (scd S p) 1) || !(ltw S p k (ssz S) (i + 1)))) := by
            unfold fp1
            rw [ek]
            dsimp only
            rw [ltw_later w3 w2 hSo hkz k1 k2, Bool.and_assoc, Bool.and_assoc, Bool.and_comm (!(cb (scd S p) 1) || _)]
          rw [show va_rf (rr B S (some k)) = .ref (xs B (snm S k)) from rfl]
          refine V_astore (pc' := 67) d_PC_isAsParts_65 (by first | rfl | exact isR_rf _) (by decide) rfl ?_
          first | refine V_L [(0, _), (1, _), (2, _), (3, _), (4, _), (5, _), (6, _)] ⟨rfl, rfl, rfl, rfl, rfl, rfl, rfl, trivial⟩ ?_ | (refine V_keep (by intro q hq e; simp only [List.mem_cons, List.not_mem_nil, or_false] at hq; rcases hq with rfl | rfl | rfl | rfl | rfl | rfl <;> first | rfl | exact va_rf_cat _ | exact absurd e (by decide)) ?_; refine V_L [(0, _), (1, _), (2, _), (3, _), (4, _), (5, _), (6, _)] ⟨rfl, rfl, rfl, rfl, rfl, rfl, rfl, trivial⟩ ?_)
          refine V_aload (pc' := 69) d_PC_isAsParts_67 rfl (by first | rfl | exact isR_rf _) rfl ?_
          refine V_ifnull (pc' := 72) (tgt := 90) (r := (some (xs B (snm S k)))) d_PC_isAsParts_69 (by decide) rfl (fun c69 => ?_) (fun a69 c69 => ?_)
          · cases c69
          · clear c69 a69
            refine V_aload_n (pc' := 73) d_PC_isAsParts_72 rfl (by first | rfl | exact isR_rf _) rfl ?_
            refine V_aload_n (pc' := 74) d_PC_isAsParts_73 rfl (by first | rfl | exact isR_rf _) rfl ?_
            refine V_aload (pc' := 76) d_PC_isAsParts_74 rfl (by first | rfl | exact isR_rf _) rfl ?_
            refine V_aload_n (pc' := 77) d_PC_isAsParts_76 rfl (by first | rfl | exact isR_rf _) rfl ?_
            refine V_getf (pc' := 80) d_PC_isAsParts_77 fl_PC_23 rfl (by first | assumption | exact aset_self _ _ _ | exact apush_self _ _) (by rfl) ?_
            refine V_iload (pc' := 82) d_PC_isAsParts_80 rfl rfl ?_
            -- at 82 aaload
            refine V_aald (pc' := 83) d_PC_isAsParts_82 rfl hpa rfl rfl (by omega) (arv_get (by omega)) ?_
            refine V_iload_n (pc' := 84) d_PC_isAsParts_83 rfl rfl ?_
            -- at 84 invokevirtual
            refine V_callV (pc' := 87) (As := [_, _, _, _]) (ci := 0) d_PC_isAsParts_84 mv_PC_211 mw_PC_isAsPart rfl rfl rfl (by simp [Value.category]) rfl (by first | assumption | exact aset_self _ _ _ | exact apush_self _ _) (c_PC_isAsPart (k := k) (p := p) (i := i) (v := v) (b := fp1 S i pos p) hX hw hv1 hv2 hi hkz (by omega) p3 p1 p2 (by rw [hfp, epos])) (by first | decide | omega) (by first | decide | omega) (by first | decide | omega) (by first | decide | omega) ?_
            rintro _ _ ⟨rfl, rfl⟩
            refine V_if_ne (pc' := 90) (tgt := 92) d_PC_isAsParts_87 (by decide) rfl (fun c87 => ?_) (fun c87 => ?_)
            · refine V_iinc (pc' := 95) d_PC_isAsParts_92 rfl rfl (by decide) rfl ?_
              first | refine V_L [(0, _), (1, _), (2, _), (3, _), (4, _), (5, _), (6, _)] ⟨rfl, rfl, rfl, rfl, rfl, rfl, rfl, trivial⟩ ?_ | (refine V_keep (by intro q hq e; simp only [List.mem_cons, List.not_mem_nil, or_false] at hq; rcases hq with rfl | rfl | rfl | rfl | rfl | rfl | rfl <;> first | rfl | exact va_rf_cat _ | exact absurd e (by decide)) ?_; refine V_L [(0, _), (1, _), (2, _), (3, _), (4, _), (5, _), (6, _)] ⟨rfl, rfl, rfl, rfl, rfl, rfl, rfl, trivial⟩ ?_)
              refine V_goto (tgt := 45) d_PC_isAsParts_95 (by decide) ?_
              refine V_L [(0, .ref o), (1, .ref (xv B v)), (2, .int (nI i)), (3, .int (nI n)), (4, .ref (xs B (snm S i))), (5, .int (nI p - 1))] ⟨rfl, rfl, rfl, rfl, rfl, (by show some (Value.int (nI p + Int32.ofInt (-1))) = _; rw [Int32.sub_eq_add_neg]; rfl), trivial⟩ ?_
              refine ih (by omega) ?_ hn
              rw [hfa, fa, ob_nt c87, Bool.and_true]
            · exact bad (ob_0.mp c87) _ rfl
  have start : (n == 0 || sso S i == spk S (n - 1)) = true → V x "PathCalls" b_PC_isAsParts 7 (Option.some .boolean) false (rmd 3 0 0) 0 0 (fun r h' => r = some (.int (ob (fit S i n pos))) ∧ h = h') 40 [(0, .ref o), (1, .ref (xv B v)), (2, .int (nI i)), (3, .int (nI n)), (4, .ref (xs B (snm S i)))] [] h 0 0 := by
    intro hn
    refine V_iload_n (pc' := 41) d_PC_isAsParts_40 rfl rfl ?_
    refine V_iconst (pc' := 42) (v := 1) d_PC_isAsParts_41 (by decide) rfl ?_
    refine V_isub (pc' := 43) d_PC_isAsParts_42 rfl ?_
    refine V_istore (pc' := 45) d_PC_isAsParts_43 (by decide) rfl ?_
    first | refine V_L [(0, _), (1, _), (2, _), (3, _), (4, _), (5, _)] ⟨rfl, rfl, rfl, rfl, rfl, rfl, trivial⟩ ?_ | (refine V_keep (by intro q hq e; simp only [List.mem_cons, List.not_mem_nil, or_false] at hq; rcases hq with rfl | rfl | rfl | rfl | rfl <;> first | rfl | exact va_rf_cat _ | exact absurd e (by decide)) ?_; refine V_L [(0, _), (1, _), (2, _), (3, _), (4, _), (5, _)] ⟨rfl, rfl, rfl, rfl, rfl, rfl, trivial⟩ ?_)
    exact loop n (Nat.le_refl _) rfl hn
  refine V_aload_n (pc' := 1) d_PC_isAsParts_0 rfl (by first | rfl | exact isR_rf _) rfl ?_
  refine V_getf (pc' := 4) d_PC_isAsParts_1 fl_PC_30 rfl (by first | assumption | exact aset_self _ _ _ | exact apush_self _ _) (by rfl) ?_
  refine V_iload_n (pc' := 5) d_PC_isAsParts_4 rfl rfl ?_
  -- at 5 invokevirtual
  refine V_callV (pc' := 8) (As := [_]) (ci := 5) d_PC_isAsParts_5 mv_PC_159 mw_Bs_at rfl rfl rfl (by simp [Value.category]) rfl (by first | assumption | exact aset_self _ _ _ | exact apush_self _ _) (c_Bs_at hX w7 (nI i)) (by first | decide | omega) (by first | decide | omega) (by first | decide | omega) (by first | decide | omega) ?_
  rintro _ _ ⟨rfl, rfl⟩
  rw [ax_n hi w7, show va_rf (rr B S (some i)) = .ref (xs B (snm S i)) from rfl]
  refine V_astore (pc' := 10) d_PC_isAsParts_8 (by first | rfl | exact isR_rf _) (by decide) rfl ?_
  first | refine V_L [(0, _), (1, _), (2, _), (3, _), (4, _)] ⟨rfl, rfl, rfl, rfl, rfl, trivial⟩ ?_ | (refine V_keep (by intro q hq e; simp only [List.mem_cons, List.not_mem_nil, or_false] at hq; rcases hq with rfl | rfl | rfl | rfl <;> first | rfl | exact va_rf_cat _ | exact absurd e (by decide)) ?_; refine V_L [(0, _), (1, _), (2, _), (3, _), (4, _)] ⟨rfl, rfl, rfl, rfl, rfl, trivial⟩ ?_)
  refine V_aload (pc' := 12) d_PC_isAsParts_10 rfl (by first | rfl | exact isR_rf _) rfl ?_
  refine V_ifnull (pc' := 15) (tgt := 38) (r := (some (xs B (snm S i)))) d_PC_isAsParts_12 (by decide) rfl (fun c12 => ?_) (fun a12 c12 => ?_)
  · cases c12
  · clear c12 a12
    refine V_iload_n (pc' := 16) d_PC_isAsParts_15 rfl rfl ?_
    refine V_if_le (pc' := 19) (tgt := 40) d_PC_isAsParts_16 (by decide) rfl (fun c16 => ?_) (fun c16 => ?_)
    · have e : n = 0 := by
        rcases Nat.eq_zero_or_pos n with q | q
        · exact q
        · exact absurd (nI_lt (a := 0) (b := n) q (by omega)) (Int32.not_lt.mpr c16)
      exact start (by rw [e]; rfl)
    · have hn1 : 1 ≤ n := by
        rcases Nat.eq_zero_or_pos n with q | q
        · rw [q] at c16; exact absurd (Int32.le_refl _) c16
        · exact q
      obtain ⟨q1, q2, q3, q4⟩ := v2 (n - 1) (by omega)
      have hcn := h10 (n - 1) (by omega)
      refine V_aload (pc' := 21) d_PC_isAsParts_19 rfl (by first | rfl | exact isR_rf _) rfl ?_
      refine V_getf (pc' := 24) d_PC_isAsParts_21 fl_PC_174 rfl (by first | assumption | exact aset_self _ _ _ | exact apush_self _ _) (by rfl) ?_
      refine V_aload_n (pc' := 25) d_PC_isAsParts_24 rfl (by first | rfl | exact isR_rf _) rfl ?_
      refine V_getf (pc' := 28) d_PC_isAsParts_25 fl_PC_23 rfl (by first | assumption | exact aset_self _ _ _ | exact apush_self _ _) (by rfl) ?_
      refine V_iload_n (pc' := 29) d_PC_isAsParts_28 rfl rfl ?_
      refine V_iconst (pc' := 30) (v := 1) d_PC_isAsParts_29 (by decide) rfl ?_
      refine V_isub (pc' := 31) d_PC_isAsParts_30 rfl ?_
      -- at 31 aaload
      refine V_aald (pc' := 32) d_PC_isAsParts_31 rfl hpa rfl (pk_sub (a := n) (b := 1) hn1) (by omega) (arv_get (by omega)) ?_
      refine V_getf (pc' := 35) d_PC_isAsParts_32 fl_PC_117 rfl (by first | assumption | exact aset_self _ _ _ | exact apush_self _ _) (by rfl) ?_
      rw [kr_pos q1]
      refine V_acmp_eq (pc' := 38) (tgt := 40) (rx := (some (xk B (sso S i)))) (ry := (some (xk B (spk S (n - 1))))) d_PC_isAsParts_35 (by decide) rfl (fun c35 => ?_) (fun c35 => ?_)
      · have e := (IX_kinj hX w1 s1 s2 q1 q2).mp (Option.some.inj c35)
        exact start (by rw [e]; simp)
      · refine V_iconst (pc' := 39) (v := 0) d_PC_isAsParts_38 (by decide) rfl ?_
        refine V_zret d_PC_isAsParts_39 rfl (by first | rfl | exact ob_nar _) (by first | decide | omega) (by first | decide | omega) ?_
        have e : ¬ sso S i = spk S (n - 1) := fun q => c35 (by rw [q])
        have : fit S i n pos = false := by
          unfold fit
          have z1 : (n == 0) = false := by simp; omega
          have z2 : (sso S i == spk S (n - 1)) = false := by simp [e]
          rw [z1, z2]; rfl
        rw [this]; exact ⟨rfl, rfl⟩
theorem c_PC_firstAsParts (hX : IX h o B S) (hw : WX S) (hSo : So S) {v a b n : Nat} (hv1 : 1 ≤ v) (hv2 : v ≤ svc S) (ha : a ≤ 1001) (hb : b ≤ ssz S) (hp : PV S n) : Cr x y_PC_firstAsParts b_PC_firstAsParts 6 (some (.object "PathCalls$Segment")) 4 [.ref o, .ref (xv B v), .int (nI a), .int (nI b), .int (nI n)] h (va_rf (rr B S (frst S a b n (plc S (spo S v))))) := by
  obtain ⟨ho, hka, hva, hpa, hba, hra, hpv, h8, h9, h10, h11, iv, ip, is⟩ := id hX
  have w7 := hw.2.2.2.2.2.2.1
  refine Ct_of (own := "PathCalls") (ini := false) rfl rfl (Nat.le_of_ble_eq_true rfl) (fun q => by cases q) ?_
  have loop : ∀ (c i : Nat), b - i = c → i ≤ 1001 → frst S a b n (plc S (spo S v)) = fs1 (fun i => fit S i n (plc S (spo S v))) c i → V x "PathCalls" b_PC_firstAsParts 6 (Option.some (.object "PathCalls$Segment")) false (rmd 4 0 0) 0 0 (fun r h' => r = some (va_rf (rr B S (frst S a b n (plc S (spo S v))))) ∧ h = h') 3 [(0, .ref o), (1, .ref (xv B v)), (2, .int (nI a)), (3, .int (nI b)), (4, .int (nI n)), (5, .int (nI i))] [] h 0 0 := by
    intro c
    induction c with
    | zero =>
      intro i hi hi2 he
      refine V_iload (pc' := 5) d_PC_firstAsParts_3 rfl rfl ?_
      refine V_iload_n (pc' := 6) d_PC_firstAsParts_5 rfl rfl ?_
      refine V_icmp_ge (pc' := 9) (tgt := 37) d_PC_firstAsParts_6 (by decide) rfl (fun c6 => ?_) (fun c6 => ?_)
      · refine V_null (pc' := 38) d_PC_firstAsParts_37 rfl ?_
        refine V_aret d_PC_firstAsParts_38 rfl (by first | rfl | exact isR_rf _) (by first | decide | omega) (by first | decide | omega) ?_
        rw [he]; exact ⟨rfl, rfl⟩
      · exact absurd (nI_le (by omega) (by omega)) c6
    | succ c ih =>
      intro i hi hi2 he
      refine V_iload (pc' := 5) d_PC_firstAsParts_3 rfl rfl ?_
      refine V_iload_n (pc' := 6) d_PC_firstAsParts_5 rfl rfl ?_
      refine V_icmp_ge (pc' := 9) (tgt := 37) d_PC_firstAsParts_6 (by decide) rfl (fun c6 => ?_) (fun c6 => ?_)
      · exact absurd c6 (nI_ge (by omega) (by omega))
      · refine V_aload_n (pc' := 10) d_PC_firstAsParts_9 rfl (by first | rfl | exact isR_rf _) rfl ?_
        refine V_aload_n (pc' := 11) d_PC_firstAsParts_10 rfl (by first | rfl | exact isR_rf _) rfl ?_
        refine V_iload (pc' := 13) d_PC_firstAsParts_11 rfl rfl ?_
        refine V_iload (pc' := 15) d_PC_firstAsParts_13 rfl rfl ?_
        -- at 15 invokevirtual
        refine V_callV (pc' := 18) (As := [_, _, _]) (ci := 0) d_PC_firstAsParts_15 mv_PC_207 mw_PC_isAsParts rfl rfl rfl (by simp [Value.category]) rfl (by first | assumption | exact aset_self _ _ _ | exact apush_self _ _) (c_PC_isAsParts (i := i) (n := n) (v := v) hX hw hSo hv1 hv2 (by omega) hp) (by first | decide | omega) (by first | decide | omega) (by first | decide | omega) (by first | decide | omega) ?_
        rintro _ _ ⟨rfl, rfl⟩
        refine V_if_eq (pc' := 21) (tgt := 31) d_PC_firstAsParts_18 (by decide) rfl (fun c18 => ?_) (fun c18 => ?_)
        · first | refine V_iincN (pc' := 34) d_PC_firstAsParts_31 rfl (by decide) rfl ?_ | refine V_iinc (pc' := 34) d_PC_firstAsParts_31 rfl rfl (by decide) rfl ?_
          first | refine V_L [(0, _), (1, _), (2, _), (3, _), (4, _), (5, _)] ⟨rfl, rfl, rfl, rfl, rfl, rfl, trivial⟩ ?_ | (refine V_keep (by intro q hq e; simp only [List.mem_cons, List.not_mem_nil, or_false] at hq; rcases hq with rfl | rfl | rfl | rfl | rfl | rfl <;> first | rfl | exact va_rf_cat _ | exact absurd e (by decide)) ?_; refine V_L [(0, _), (1, _), (2, _), (3, _), (4, _), (5, _)] ⟨rfl, rfl, rfl, rfl, rfl, rfl, trivial⟩ ?_)
          refine V_goto (tgt := 3) d_PC_firstAsParts_34 (by decide) ?_
          refine ih (i + 1) (by omega) (by omega) ?_
          rw [he, fs1, if_neg (by rw [ob_0.mp c18]; decide)]
        · refine V_aload_n (pc' := 22) d_PC_firstAsParts_21 rfl (by first | rfl | exact isR_rf _) rfl ?_
          refine V_getf (pc' := 25) d_PC_firstAsParts_22 fl_PC_30 rfl (by first | assumption | exact aset_self _ _ _ | exact apush_self _ _) (by rfl) ?_
          refine V_iload (pc' := 27) d_PC_firstAsParts_25 rfl rfl ?_
          -- at 27 invokevirtual
          refine V_callV (pc' := 30) (As := [_]) (ci := 5) d_PC_firstAsParts_27 mv_PC_159 mw_Bs_at rfl rfl rfl (by simp [Value.category]) rfl (by first | assumption | exact aset_self _ _ _ | exact apush_self _ _) (c_Bs_at hX w7 (nI i)) (by first | decide | omega) (by first | decide | omega) (by first | decide | omega) (by first | decide | omega) ?_
          rintro _ _ ⟨rfl, rfl⟩
          rw [ax_n (show i < ssz S by omega) w7]
          refine V_aret d_PC_firstAsParts_30 rfl (by first | rfl | exact isR_rf _) (by first | decide | omega) (by first | decide | omega) ?_
          rw [he, fs1, if_pos (ob_nt c18)]; exact ⟨rfl, rfl⟩
  refine V_iload_n (pc' := 1) d_PC_firstAsParts_0 rfl rfl ?_
  refine V_istore (pc' := 3) d_PC_firstAsParts_1 (by decide) rfl ?_
  first | refine V_L [(0, _), (1, _), (2, _), (3, _), (4, _), (5, _)] ⟨rfl, rfl, rfl, rfl, rfl, rfl, trivial⟩ ?_ | (refine V_keep (by intro q hq e; simp only [List.mem_cons, List.not_mem_nil, or_false] at hq; rcases hq with rfl | rfl | rfl | rfl | rfl <;> first | rfl | exact va_rf_cat _ | exact absurd e (by decide)) ?_; refine V_L [(0, _), (1, _), (2, _), (3, _), (4, _), (5, _)] ⟨rfl, rfl, rfl, rfl, rfl, rfl, trivial⟩ ?_)
  exact loop (b - a) a rfl ha rfl
theorem c_PC_parentForInsert (hX : IX h o B S) (hw : WX S) (hSo : So S) {v n kd : Nat} (hv1 : 1 ≤ v) (hv2 : v ≤ svc S) (hp : PV S n) (hn : 1 ≤ n) (hk1 : 1 ≤ kd) (hk2 : kd ≤ skc S) (hab : 1 < n → sab S kd ≠ 0) : Cr x y_PC_parentForInsert b_PC_parentForInsert 4 (some (.object "PathCalls$Segment")) 5 [.ref o, .ref (xv B v), .ref (xk B kd), .int (nI (n - 1))] h (va_rf (rr B S (parS S n kd (plc S (spo S v))))) := by
  obtain ⟨ho, hka, hva, hpa, hba, hra, hpv, h8, h9, h10, h11, iv, ip, is⟩ := id hX
  obtain ⟨w1, w2, w3, w4, w5, w6, w7, w8, w9⟩ := id hw
  obtain ⟨v1, v2⟩ := id hp
  have hck := h8 kd hk1 hk2
  have hcv := h9 v hv1 hv2
  have hlt := w6 kd hk1 hk2
  refine Ct_of (own := "PathCalls") (ini := false) rfl rfl (Nat.le_of_ble_eq_true rfl) (fun q => by cases q) ?_
  refine V_iload_n (pc' := 1) d_PC_parentForInsert_0 rfl rfl ?_
  refine V_if_le (pc' := 4) (tgt := 19) d_PC_parentForInsert_1 (by decide) rfl (fun c1 => ?_) (fun c1 => ?_)
  · have e : ¬ 1 < n := by
      intro z
      exact absurd (nI_lt (a := 0) (b := n - 1) (by omega) (by omega)) (Int32.not_lt.mpr c1)
    rcases Nat.eq_zero_or_pos (sab S kd) with z | z
    · refine V_aload_n (pc' := 20) d_PC_parentForInsert_19 rfl (by first | rfl | exact isR_rf _) rfl ?_
      refine V_getf (pc' := 23) d_PC_parentForInsert_20 fl_PC_125 rfl (by first | assumption | exact aset_self _ _ _ | exact apush_self _ _) (by rfl) ?_
      rw [z]
      refine V_ifnonnull (pc' := 26) (tgt := 30) (r := none) d_PC_parentForInsert_23 (by decide) rfl (fun a23 c23 => ?_) (fun c23 => ?_)
      · cases c23
      · refine V_null (pc' := 27) d_PC_parentForInsert_26 rfl ?_
        refine V_goto (tgt := 41) d_PC_parentForInsert_27 (by decide) ?_
        refine V_aret d_PC_parentForInsert_41 rfl (by first | rfl | exact isR_rf _) (by first | decide | omega) (by first | decide | omega) ?_
        have : parS S n kd (plc S (spo S v)) = none := by unfold parS; rw [if_pos z]
        rw [this]; exact ⟨rfl, rfl⟩
    · refine V_aload_n (pc' := 20) d_PC_parentForInsert_19 rfl (by first | rfl | exact isR_rf _) rfl ?_
      refine V_getf (pc' := 23) d_PC_parentForInsert_20 fl_PC_125 rfl (by first | assumption | exact aset_self _ _ _ | exact apush_self _ _) (by rfl) ?_
      rw [kr_pos z]
      refine V_ifnonnull (pc' := 26) (tgt := 30) (r := (some (xk B (sab S kd)))) d_PC_parentForInsert_23 (by decide) rfl (fun a23 c23 => ?_) (fun c23 => ?_)
      · clear c23 a23
        refine V_aload_n (pc' := 31) d_PC_parentForInsert_30 rfl (by first | rfl | exact isR_rf _) rfl ?_
        refine V_getf (pc' := 34) d_PC_parentForInsert_31 fl_PC_95 rfl (by first | assumption | exact aset_self _ _ _ | exact apush_self _ _) (by rfl) ?_
        rw [sr_rr w2 (w8 v hv1 hv2).1]
        refine V_aload_n (pc' := 35) d_PC_parentForInsert_34 rfl (by first | rfl | exact isR_rf _) rfl ?_
        refine V_getf (pc' := 38) d_PC_parentForInsert_35 fl_PC_125 rfl (by first | assumption | exact aset_self _ _ _ | exact apush_self _ _) (by rfl) ?_
        rw [kr_pos z, show va_rf (some (xk B (sab S kd))) = .ref (xk B (sab S kd)) from rfl]
        refine V_callS (pc' := 41) (As := [_, _]) d_PC_parentForInsert_38 ms_PC_199 mw_Sg_around rfl rfl rfl (by simp [Value.category]) (c_Sg_around (q := plc S (spo S v)) (kd := sab S kd) hX w1 w2 w3 w4 (fun j hj => (plc_lt hj).1) z (by omega) (w5 _ z (by omega)).1) (by first | decide | omega) (by first | decide | omega) (by first | decide | omega) (by first | decide | omega) ?_
        rintro _ _ ⟨rfl, rfl⟩
        refine V_aret d_PC_parentForInsert_41 rfl (by first | rfl | exact isR_rf _) (by first | decide | omega) (by first | decide | omega) ?_
        have : parS S n kd (plc S (spo S v)) = okd S (plc S (spo S v)) (sab S kd) := by unfold parS; rw [if_neg (by omega), if_neg e]
        rw [this]; exact ⟨rfl, rfl⟩
      · cases c23
  · have e : 1 < n := by
      rcases Nat.lt_or_ge 1 n with z | z
      · exact z
      · have : n - 1 = 0 := by omega
        rw [this] at c1; exact absurd (Int32.le_refl _) c1
    refine V_aload_n (pc' := 5) d_PC_parentForInsert_4 rfl (by first | rfl | exact isR_rf _) rfl ?_
    refine V_aload_n (pc' := 6) d_PC_parentForInsert_5 rfl (by first | rfl | exact isR_rf _) rfl ?_
    refine V_iconst (pc' := 7) (v := 0) d_PC_parentForInsert_6 (by decide) rfl ?_
    refine V_aload_n (pc' := 8) d_PC_parentForInsert_7 rfl (by first | rfl | exact isR_rf _) rfl ?_
    refine V_getf (pc' := 11) d_PC_parentForInsert_8 fl_PC_30 rfl (by first | assumption | exact aset_self _ _ _ | exact apush_self _ _) (by rfl) ?_
    refine V_getf (pc' := 14) d_PC_parentForInsert_11 fl_PC_181 rfl (by first | assumption | exact aset_self _ _ _ | exact apush_self _ _) (by rfl) ?_
    refine V_iload_n (pc' := 15) d_PC_parentForInsert_14 rfl rfl ?_
    -- at 15 invokevirtual
    refine V_callV (pc' := 18) (As := [_, _, _, _]) (ci := 0) d_PC_parentForInsert_15 mv_PC_195 mw_PC_firstAsParts rfl rfl rfl (by simp [Value.category]) rfl (by first | assumption | exact aset_self _ _ _ | exact apush_self _ _) (c_PC_firstAsParts (v := v) (a := 0) (b := ssz S) (n := n - 1) hX hw hSo hv1 hv2 (by omega) (Nat.le_refl _) ⟨by omega, fun p hp => v2 p (by omega)⟩) (by first | decide | omega) (by first | decide | omega) (by first | decide | omega) (by first | decide | omega) ?_
    rintro _ _ ⟨rfl, rfl⟩
    refine V_aret d_PC_parentForInsert_18 rfl (by first | rfl | exact isR_rf _) (by first | decide | omega) (by first | decide | omega) ?_
    have : parS S n kd (plc S (spo S v)) = frst S 0 (ssz S) (n - 1) (plc S (spo S v)) := by unfold parS; rw [if_neg (hab e), if_pos e]
    rw [this]; exact ⟨rfl, rfl⟩
theorem c_PC_search (hX : IX h o B S) (hw : WX S) (hSo : So S) {v c n : Nat} (hv1 : 1 ≤ v) (hv2 : v ≤ svc S) (hp : PV S n) (hc : c = 0 ∨ c = 1 ∨ c = 2) (hpr : c = 2 → ∃ k, plc S (spr S v) = some k) : Cr x y_PC_search b_PC_search 8 (some (.object "PathCalls$Segment")) 5 [.ref o, .ref (xv B v), .int (nI c), .int (nI n)] h (va_rf (rr B S (frst S (fromS S c (plc S (spo S v)) (plc S (spr S v))) (toS S c (plc S (spr S v))) n (plc S (spo S v))))) := by
  obtain ⟨ho, hka, hva, hpa, hba, hra, hpv, h8, h9, h10, h11, iv, ip, is⟩ := id hX
  obtain ⟨w1, w2, w3, w4, w5, w6, w7, w8, w9⟩ := id hw
  have hcv := h9 v hv1 hv2
  have hpos : ∀ j, plc S (spo S v) = some j → j < ssz S := fun j hj => (plc_lt hj).1
  have hpar : ∀ j, plc S (spr S v) = some j → j < ssz S := fun j hj => (plc_lt hj).1
  have hnx : nx (plc S (spo S v)) ≤ 1001 := by
    cases e : plc S (spo S v) with
    | none => exact Nat.zero_le _
    | some j => have := hpos j e; show j + 1 ≤ 1001; omega
  refine Ct_of (own := "PathCalls") (ini := false) rfl rfl (Nat.le_of_ble_eq_true rfl) (fun q => by cases q) ?_
  rcases hc with rfl | rfl | rfl
  · refine V_iload_n (pc' := 1) d_PC_search_0 rfl rfl ?_
    refine V_if_ne (pc' := 4) (tgt := 19) d_PC_search_1 (by decide) rfl (fun c1 => ?_) (fun c1 => ?_)
    · exact absurd rfl c1
    · refine V_aload_n (pc' := 5) d_PC_search_4 rfl (by first | rfl | exact isR_rf _) rfl ?_
      refine V_aload_n (pc' := 6) d_PC_search_5 rfl (by first | rfl | exact isR_rf _) rfl ?_
      refine V_iconst (pc' := 7) (v := 0) d_PC_search_6 (by decide) rfl ?_
      refine V_aload_n (pc' := 8) d_PC_search_7 rfl (by first | rfl | exact isR_rf _) rfl ?_
      refine V_getf (pc' := 11) d_PC_search_8 fl_PC_30 rfl (by first | assumption | exact aset_self _ _ _ | exact apush_self _ _) (by rfl) ?_
      refine V_getf (pc' := 14) d_PC_search_11 fl_PC_181 rfl (by first | assumption | exact aset_self _ _ _ | exact apush_self _ _) (by rfl) ?_
      refine V_iload_n (pc' := 15) d_PC_search_14 rfl rfl ?_
      -- at 15 invokevirtual
      refine V_callV (pc' := 18) (As := [_, _, _, _]) (ci := 0) d_PC_search_15 mv_PC_195 mw_PC_firstAsParts rfl rfl rfl (by simp [Value.category]) rfl (by first | assumption | exact aset_self _ _ _ | exact apush_self _ _) (c_PC_firstAsParts (v := v) (a := 0) (b := ssz S) (n := n) hX hw hSo hv1 hv2 (by omega) (Nat.le_refl _) hp) (by first | decide | omega) (by first | decide | omega) (by first | decide | omega) (by first | decide | omega) ?_
      rintro _ _ ⟨rfl, rfl⟩
      refine V_aret d_PC_search_18 rfl (by first | rfl | exact isR_rf _) (by first | decide | omega) (by first | decide | omega) ?_
      exact ⟨rfl, rfl⟩
  · refine V_iload_n (pc' := 1) d_PC_search_0 rfl rfl ?_
    refine V_if_ne (pc' := 4) (tgt := 19) d_PC_search_1 (by decide) rfl (fun c1 => ?_) (fun c1 => ?_)
    · refine V_aload_n (pc' := 20) d_PC_search_19 rfl (by first | rfl | exact isR_rf _) rfl ?_
      refine V_getf (pc' := 23) d_PC_search_20 fl_PC_30 rfl (by first | assumption | exact aset_self _ _ _ | exact apush_self _ _) (by rfl) ?_
      refine V_aload_n (pc' := 24) d_PC_search_23 rfl (by first | rfl | exact isR_rf _) rfl ?_
      refine V_getf (pc' := 27) d_PC_search_24 fl_PC_95 rfl (by first | assumption | exact aset_self _ _ _ | exact apush_self _ _) (by rfl) ?_
      rw [sr_rr w2 (w8 v hv1 hv2).1]
      refine V_callV (pc' := 30) (As := [_]) (ci := 5) d_PC_search_27 mv_PC_155 mw_Bs_indexOf rfl rfl rfl (by simp [Value.category]) rfl (by first | assumption | exact aset_self _ _ _ | exact apush_self _ _) (c_Bs_indexOf hX w7 hpos) (by first | decide | omega) (by first | decide | omega) (by first | decide | omega) (by first | decide | omega) ?_
      rintro _ _ ⟨rfl, rfl⟩
      refine V_iconst (pc' := 31) (v := 1) d_PC_search_30 (by decide) rfl ?_
      refine V_iadd (pc' := 32) d_PC_search_31 rfl ?_
      rw [oI_nx]
      refine V_istore (pc' := 34) d_PC_search_32 (by decide) rfl ?_
      first | refine V_L [(0, _), (1, _), (2, _), (3, _), (4, _)] ⟨rfl, rfl, rfl, rfl, rfl, trivial⟩ ?_ | (refine V_keep (by intro q hq e; simp only [List.mem_cons, List.not_mem_nil, or_false] at hq; rcases hq with rfl | rfl | rfl | rfl <;> first | rfl | exact va_rf_cat _ | exact absurd e (by decide)) ?_; refine V_L [(0, _), (1, _), (2, _), (3, _), (4, _)] ⟨rfl, rfl, rfl, rfl, rfl, trivial⟩ ?_)
      refine V_iload_n (pc' := 35) d_PC_search_34 rfl rfl ?_
      refine V_iconst (pc' := 36) (v := 1) d_PC_search_35 (by decide) rfl ?_
      refine V_icmp_ne (pc' := 39) (tgt := 55) d_PC_search_36 (by decide) rfl (fun c36 => ?_) (fun c36 => ?_)
      · exact absurd rfl c36
      · refine V_aload_n (pc' := 40) d_PC_search_39 rfl (by first | rfl | exact isR_rf _) rfl ?_
        refine V_aload_n (pc' := 41) d_PC_search_40 rfl (by first | rfl | exact isR_rf _) rfl ?_
        refine V_iload (pc' := 43) d_PC_search_41 rfl rfl ?_
        refine V_aload_n (pc' := 44) d_PC_search_43 rfl (by first | rfl | exact isR_rf _) rfl ?_
        refine V_getf (pc' := 47) d_PC_search_44 fl_PC_30 rfl (by first | assumption | exact aset_self _ _ _ | exact apush_self _ _) (by rfl) ?_
        refine V_getf (pc' := 50) d_PC_search_47 fl_PC_181 rfl (by first | assumption | exact aset_self _ _ _ | exact apush_self _ _) (by rfl) ?_
        refine V_iload_n (pc' := 51) d_PC_search_50 rfl rfl ?_
        -- at 51 invokevirtual
        refine V_callV (pc' := 54) (As := [_, _, _, _]) (ci := 0) d_PC_search_51 mv_PC_195 mw_PC_firstAsParts rfl rfl rfl (by simp [Value.category]) rfl (by first | assumption | exact aset_self _ _ _ | exact apush_self _ _) (c_PC_firstAsParts (v := v) (a := nx (plc S (spo S v))) (b := ssz S) (n := n) hX hw hSo hv1 hv2 hnx (Nat.le_refl _) hp) (by first | decide | omega) (by first | decide | omega) (by first | decide | omega) (by first | decide | omega) ?_
        rintro _ _ ⟨rfl, rfl⟩
        refine V_aret d_PC_search_54 rfl (by first | rfl | exact isR_rf _) (by first | decide | omega) (by first | decide | omega) ?_
        exact ⟨rfl, rfl⟩
    · exact absurd c1 (by decide)
  · obtain ⟨k, ek⟩ := hpr rfl
    have hkz := hpar k ek
    have b1 := bhd_lt S k
    have b2 := bhd_ub S hkz
    refine V_iload_n (pc' := 1) d_PC_search_0 rfl rfl ?_
    refine V_if_ne (pc' := 4) (tgt := 19) d_PC_search_1 (by decide) rfl (fun c1 => ?_) (fun c1 => ?_)
    · refine V_aload_n (pc' := 20) d_PC_search_19 rfl (by first | rfl | exact isR_rf _) rfl ?_
      refine V_getf (pc' := 23) d_PC_search_20 fl_PC_30 rfl (by first | assumption | exact aset_self _ _ _ | exact apush_self _ _) (by rfl) ?_
      refine V_aload_n (pc' := 24) d_PC_search_23 rfl (by first | rfl | exact isR_rf _) rfl ?_
      refine V_getf (pc' := 27) d_PC_search_24 fl_PC_95 rfl (by first | assumption | exact aset_self _ _ _ | exact apush_self _ _) (by rfl) ?_
      rw [sr_rr w2 (w8 v hv1 hv2).1]
      refine V_callV (pc' := 30) (As := [_]) (ci := 5) d_PC_search_27 mv_PC_155 mw_Bs_indexOf rfl rfl rfl (by simp [Value.category]) rfl (by first | assumption | exact aset_self _ _ _ | exact apush_self _ _) (c_Bs_indexOf hX w7 hpos) (by first | decide | omega) (by first | decide | omega) (by first | decide | omega) (by first | decide | omega) ?_
      rintro _ _ ⟨rfl, rfl⟩
      refine V_iconst (pc' := 31) (v := 1) d_PC_search_30 (by decide) rfl ?_
      refine V_iadd (pc' := 32) d_PC_search_31 rfl ?_
      rw [oI_nx]
      refine V_istore (pc' := 34) d_PC_search_32 (by decide) rfl ?_
      first | refine V_L [(0, _), (1, _), (2, _), (3, _), (4, _)] ⟨rfl, rfl, rfl, rfl, rfl, trivial⟩ ?_ | (refine V_keep (by intro q hq e; simp only [List.mem_cons, List.not_mem_nil, or_false] at hq; rcases hq with rfl | rfl | rfl | rfl <;> first | rfl | exact va_rf_cat _ | exact absurd e (by decide)) ?_; refine V_L [(0, _), (1, _), (2, _), (3, _), (4, _)] ⟨rfl, rfl, rfl, rfl, rfl, trivial⟩ ?_)
      refine V_iload_n (pc' := 35) d_PC_search_34 rfl rfl ?_
      refine V_iconst (pc' := 36) (v := 1) d_PC_search_35 (by decide) rfl ?_
      refine V_icmp_ne (pc' := 39) (tgt := 55) d_PC_search_36 (by decide) rfl (fun c36 => ?_) (fun c36 => ?_)
      · refine V_aload_n (pc' := 56) d_PC_search_55 rfl (by first | rfl | exact isR_rf _) rfl ?_
        refine V_getf (pc' := 59) d_PC_search_56 fl_PC_30 rfl (by first | assumption | exact aset_self _ _ _ | exact apush_self _ _) (by rfl) ?_
        refine V_aload_n (pc' := 60) d_PC_search_59 rfl (by first | rfl | exact isR_rf _) rfl ?_
        refine V_getf (pc' := 63) d_PC_search_60 fl_PC_83 rfl (by first | assumption | exact aset_self _ _ _ | exact apush_self _ _) (by rfl) ?_
        rw [sr_rr w2 (w8 v hv1 hv2).2]
        refine V_callV (pc' := 66) (As := [_]) (ci := 5) d_PC_search_63 mv_PC_155 mw_Bs_indexOf rfl rfl rfl (by simp [Value.category]) rfl (by first | assumption | exact aset_self _ _ _ | exact apush_self _ _) (c_Bs_indexOf hX w7 hpar) (by first | decide | omega) (by first | decide | omega) (by first | decide | omega) (by first | decide | omega) ?_
        rintro _ _ ⟨rfl, rfl⟩
        rw [ek]
        refine V_istore (pc' := 68) d_PC_search_66 (by decide) rfl ?_
        first | refine V_L [(0, _), (1, _), (2, _), (3, _), (4, _), (5, _)] ⟨rfl, rfl, rfl, rfl, rfl, rfl, trivial⟩ ?_ | (refine V_keep (by intro q hq e; simp only [List.mem_cons, List.not_mem_nil, or_false] at hq; rcases hq with rfl | rfl | rfl | rfl | rfl <;> first | rfl | exact va_rf_cat _ | exact absurd e (by decide)) ?_; refine V_L [(0, _), (1, _), (2, _), (3, _), (4, _), (5, _)] ⟨rfl, rfl, rfl, rfl, rfl, rfl, trivial⟩ ?_)
        refine V_aload_n (pc' := 69) d_PC_search_68 rfl (by first | rfl | exact isR_rf _) rfl ?_
        refine V_getf (pc' := 72) d_PC_search_69 fl_PC_95 rfl (by first | assumption | exact aset_self _ _ _ | exact apush_self _ _) (by rfl) ?_
        rw [sr_rr w2 (w8 v hv1 hv2).1]
        refine V_aload_n (pc' := 73) d_PC_search_72 rfl (by first | rfl | exact isR_rf _) rfl ?_
        refine V_getf (pc' := 76) d_PC_search_73 fl_PC_83 rfl (by first | assumption | exact aset_self _ _ _ | exact apush_self _ _) (by rfl) ?_
        rw [sr_rr w2 (w8 v hv1 hv2).2, ek, show va_rf (rr B S (some k)) = .ref (xs B (snm S k)) from rfl]
        refine V_callS (pc' := 79) (As := [_, _]) d_PC_search_76 ms_PC_203 mw_Sg_isOrLiesIn rfl rfl rfl (by simp [Value.category]) (c_Sg_isOrLiesIn (q := plc S (spo S v)) (t := k) hX w2 w3 hpos hkz) (by first | decide | omega) (by first | decide | omega) (by first | decide | omega) (by first | decide | omega) ?_
        rintro _ _ ⟨rfl, rfl⟩
        have fin : ∀ (a : Nat), a = fromS S 2 (plc S (spo S v)) (some k) → a ≤ 1001 → V x "PathCalls" b_PC_search 8 (Option.some (.object "PathCalls$Segment")) false (rmd 5 0 0) 0 0 (fun r h' => r = some (va_rf (rr B S (frst S (fromS S 2 (plc S (spo S v)) (some k)) (toS S 2 (some k)) n (plc S (spo S v))))) ∧ h = h') 95 [(0, .ref o), (1, .ref (xv B v)), (3, .int (nI n)), (5, .int (oI (some k)))] [.int (nI a)] h 0 0 := by
          intro a ha ha2
          refine V_istore (pc' := 97) d_PC_search_95 (by decide) rfl ?_
          first | refine V_L [(0, _), (1, _), (3, _), (5, _), (7, _)] ⟨rfl, rfl, rfl, rfl, rfl, trivial⟩ ?_ | (refine V_keep (by intro q hq e; simp only [List.mem_cons, List.not_mem_nil, or_false] at hq; rcases hq with rfl | rfl | rfl | rfl <;> first | rfl | exact va_rf_cat _ | exact absurd e (by decide)) ?_; refine V_L [(0, _), (1, _), (3, _), (5, _), (7, _)] ⟨rfl, rfl, rfl, rfl, rfl, trivial⟩ ?_)
          refine V_aload_n (pc' := 98) d_PC_search_97 rfl (by first | rfl | exact isR_rf _) rfl ?_
          refine V_aload_n (pc' := 99) d_PC_search_98 rfl (by first | rfl | exact isR_rf _) rfl ?_
          refine V_iload (pc' := 101) d_PC_search_99 rfl rfl ?_
          refine V_aload_n (pc' := 102) d_PC_search_101 rfl (by first | rfl | exact isR_rf _) rfl ?_
          refine V_getf (pc' := 105) d_PC_search_102 fl_PC_30 rfl (by first | assumption | exact aset_self _ _ _ | exact apush_self _ _) (by rfl) ?_
          refine V_iload (pc' := 107) d_PC_search_105 rfl rfl ?_
          -- at 107 invokevirtual
          refine V_callV (pc' := 110) (As := [_]) (ci := 5) d_PC_search_107 mv_PC_187 mw_Bs_endOfTree rfl rfl rfl (by simp [Value.category]) rfl (by first | assumption | exact aset_self _ _ _ | exact apush_self _ _) (c_Bs_endOfTree (q := some k) hX hw (fun j hj => by cases hj; exact hkz)) (by first | decide | omega) (by first | decide | omega) (by first | decide | omega) (by first | decide | omega) ?_
          rintro _ _ ⟨rfl, rfl⟩
          refine V_iload_n (pc' := 111) d_PC_search_110 rfl rfl ?_
          -- at 111 invokevirtual
          refine V_callV (pc' := 114) (As := [_, _, _, _]) (ci := 0) d_PC_search_111 mv_PC_195 mw_PC_firstAsParts rfl rfl rfl (by simp [Value.category]) rfl (by first | assumption | exact aset_self _ _ _ | exact apush_self _ _) (c_PC_firstAsParts (v := v) (a := a) (b := bhd S k) (n := n) hX hw hSo hv1 hv2 ha2 b2 hp) (by first | decide | omega) (by first | decide | omega) (by first | decide | omega) (by first | decide | omega) ?_
          rintro _ _ ⟨rfl, rfl⟩
          refine V_aret d_PC_search_114 rfl (by first | rfl | exact isR_rf _) (by first | decide | omega) (by first | decide | omega) ?_
          rw [ha]
          exact ⟨rfl, rfl⟩
        have hwi : inR S k (plc S (spo S v)) = wth S (plc S (spo S v)) (some k) := by
          cases e : plc S (spo S v) with
          | none => rfl
          | some j => exact (wth_inR w3 (hpos j e) hkz).symm
        refine V_istore (pc' := 81) d_PC_search_79 (by decide) rfl ?_
        first | refine V_L [(0, _), (1, _), (2, _), (3, _), (4, _), (5, _), (6, _)] ⟨rfl, rfl, rfl, rfl, rfl, rfl, rfl, trivial⟩ ?_ | (refine V_keep (by intro q hq e; simp only [List.mem_cons, List.not_mem_nil, or_false] at hq; rcases hq with rfl | rfl | rfl | rfl | rfl | rfl <;> first | rfl | exact va_rf_cat _ | exact absurd e (by decide)) ?_; refine V_L [(0, _), (1, _), (2, _), (3, _), (4, _), (5, _), (6, _)] ⟨rfl, rfl, rfl, rfl, rfl, rfl, rfl, trivial⟩ ?_)
        refine V_iload (pc' := 83) d_PC_search_81 rfl rfl ?_
        refine V_if_eq (pc' := 86) (tgt := 91) d_PC_search_83 (by decide) rfl (fun c83 => ?_) (fun c83 => ?_)
        · refine V_iload (pc' := 93) d_PC_search_91 rfl rfl ?_
          refine V_iconst (pc' := 94) (v := 1) d_PC_search_93 (by decide) rfl ?_
          refine V_iadd (pc' := 95) d_PC_search_94 rfl ?_
          rw [show oI (some k) + 1 = nI (k + 1) from nI_1 k]
          refine V_L [(0, .ref o), (1, .ref (xv B v)), (3, .int (nI n)), (5, .int (oI (some k)))] ⟨rfl, rfl, rfl, rfl, trivial⟩ ?_
          refine fin (k + 1) ?_ (by omega)
          unfold fromS
          rw [if_neg (by decide), if_neg (by decide), if_neg (by rw [← hwi, ob_0.mp c83]; decide)]; rfl
        · refine V_iload (pc' := 88) d_PC_search_86 rfl rfl ?_
          refine V_goto (tgt := 95) d_PC_search_88 (by decide) ?_
          refine V_L [(0, .ref o), (1, .ref (xv B v)), (3, .int (nI n)), (5, .int (oI (some k)))] ⟨rfl, rfl, rfl, rfl, trivial⟩ ?_
          refine fin (nx (plc S (spo S v))) ?_ hnx
          unfold fromS
          rw [if_neg (by decide), if_neg (by decide), if_pos (by rw [← hwi, ob_nt c83])]
      · exact absurd c36 (by decide)
    · exact absurd c1 (by decide)
end X4
