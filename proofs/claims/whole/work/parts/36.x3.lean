-- the class: searches
def ltw (S : PS) (p k : Nat) : Nat → Nat → Bool
  | 0, _ => false
  | n + 1, j => if j < ssz S ∧ slo S k ≤ slo S j then (if (sso S j = sso S k ∧ pnm S j = pnm S k) ∧ rel (sop S p) (sky S j) (spy S p) = true then true else ltw S p k n (j + 1)) else false
section X3
variable {x : CX} {h : AH} {o : Nat} {B : XB} {S : PS}
theorem sr_inj {h : AH} {o : Nat} {B : XB} {S : PS} (hX : IX h o B S) (hN : Nm S) {a b : Nat} (ha : Lv S a) (hb : Lv S b) : sr B a = sr B b ↔ a = b := by
  refine ⟨fun e => ?_, fun e => by rw [e]⟩
  rw [sr_rr hN ha, sr_rr hN hb] at e
  have h1 : ∀ {nm : Nat}, ∀ i, plc S nm = some i → i < ssz S := fun i hi => (plc_lt hi).1
  have e2 := (rr_inj hX h1 h1).mp e
  rcases ha with ha | ⟨i, hi, ha⟩
  · rcases hb with hb | ⟨j, hj, hb⟩
    · rw [ha, hb]
    · subst hb
      rw [plc_of hN hj, ha] at e2
      cases e2
  · subst ha
    rw [plc_of hN hi] at e2
    rcases hb with hb | ⟨j, hj, hb⟩
    · subst hb
      cases e2
    · subst hb
      rw [plc_of hN hj] at e2
      cases e2
      rfl
theorem pnm_lv {S : PS} (hT : Tr S) {i : Nat} (hi : i < ssz S) : Lv S (pnm S i) := by
  unfold pnm
  split
  · rename_i c
    have := (hT.par_lev hi c).2
    exact Or.inr ⟨par S i, by omega, rfl⟩
  · exact Or.inl rfl
theorem c_Bs_hasToldTwinBehind (hX : IX h o B S) (hw : WX S) {i k p : Nat} (hi : i < ssz S) (hk : k < ssz S) (hp : p < 8) (hop : sop S p ≤ 6) : Cr x y_Bs_hasToldTwinBehind b_Bs_hasToldTwinBehind 5 (some .boolean) 1 [.ref (xC B 3), .int (nI i), .ref (xs B (snm S k)), .ref (xp B p)] h (.int (ob (ltw S p k (ssz S) (i + 1)))) := by
  obtain ⟨ho, hka, hva, hpa, hba, hra, hpv, h8, h9, h10, h11, iv, ip, is⟩ := id hX
  obtain ⟨w1, w2, w3, w4, w5, w6, w7, w8, w9⟩ := id hw
  have hck := h11 k hk
  obtain ⟨s1, s2⟩ := w4 k hk
  have hkk := h8 _ s1 s2
  have hkl : slo S k ≤ 8 := (w5 _ s1 s2).2
  have hcp := h10 p hp
  refine Ct_of (own := "PathCalls$Base") (ini := false) rfl rfl (Nat.le_of_ble_eq_true rfl) (fun q => by cases q) ?_
  have loop : ∀ (n j : Nat), ssz S < j + n → j ≤ ssz S → ltw S p k (ssz S) (i + 1) = ltw S p k n j → V x "PathCalls$Base" b_Bs_hasToldTwinBehind 5 (Option.some .boolean) false (rmd 1 0 0) 0 0 (fun r h' => r = some (.int (ob (ltw S p k (ssz S) (i + 1)))) ∧ h = h') 5 [(0, .ref (xC B 3)), (1, .int (nI i)), (2, .ref (xs B (snm S k))), (3, .ref (xp B p)), (4, .int (nI j))] [] h 0 0 := by
    intro n
    induction n with
    | zero => intro j hj hj2; omega
    | succ n ih =>
      intro j hj hj2 he
      refine V_iload (pc' := 7) d_Bs_hasToldTwinBehind_5 rfl rfl ?_
      refine V_aload_n (pc' := 8) d_Bs_hasToldTwinBehind_7 rfl (by first | rfl | exact isR_rf _) rfl ?_
      refine V_getf (pc' := 11) d_Bs_hasToldTwinBehind_8 fl_Bs_17 rfl (by first | assumption | exact aset_self _ _ _ | exact apush_self _ _) (by rfl) ?_
      refine V_icmp_ge (pc' := 14) (tgt := 76) d_Bs_hasToldTwinBehind_11 (by decide) rfl (fun c11 => ?_) (fun c11 => ?_)
      · refine V_iconst (pc' := 77) (v := 0) d_Bs_hasToldTwinBehind_76 (by decide) rfl ?_
        refine V_zret d_Bs_hasToldTwinBehind_77 rfl (by first | rfl | exact ob_nar _) (by first | decide | omega) (by first | decide | omega) ?_
        have : ssz S ≤ j := (nI_leI (by omega) (by omega)).mp c11
        rw [he, ltw, if_neg (by omega)]; exact ⟨rfl, rfl⟩
      · have hjz : j < ssz S := by
          rcases Nat.lt_or_ge j (ssz S) with z | z
          · exact z
          · exact absurd (nI_le z (by omega)) c11
        have hcj := h11 j hjz
        obtain ⟨y1, y2⟩ := w4 j hjz
        have hkj := h8 _ y1 y2
        have hjl : slo S j ≤ 8 := (w5 _ y1 y2).2
        have next : ¬ ((sso S j = sso S k ∧ pnm S j = pnm S k) ∧ rel (sop S p) (sky S j) (spy S p) = true) → slo S k ≤ slo S j → V x "PathCalls$Base" b_Bs_hasToldTwinBehind 5 (Option.some .boolean) false (rmd 1 0 0) 0 0 (fun r h' => r = some (.int (ob (ltw S p k (ssz S) (i + 1)))) ∧ h = h') 70 [(0, .ref (xC B 3)), (1, .int (nI i)), (2, .ref (xs B (snm S k))), (3, .ref (xp B p)), (4, .int (nI j))] [] h 0 0 := by
          intro hn hl
          first | refine V_iincN (pc' := 73) d_Bs_hasToldTwinBehind_70 rfl (by decide) rfl ?_ | refine V_iinc (pc' := 73) d_Bs_hasToldTwinBehind_70 rfl rfl (by decide) rfl ?_
          first | refine V_L [(0, _), (1, _), (2, _), (3, _), (4, _)] ⟨rfl, rfl, rfl, rfl, rfl, trivial⟩ ?_ | (refine V_keep (by intro q hq e; simp only [List.mem_cons, List.not_mem_nil, or_false] at hq; rcases hq with rfl | rfl | rfl | rfl | rfl <;> first | rfl | exact va_rf_cat _ | exact absurd e (by decide)) ?_; refine V_L [(0, _), (1, _), (2, _), (3, _), (4, _)] ⟨rfl, rfl, rfl, rfl, rfl, trivial⟩ ?_)
          refine V_goto (tgt := 5) d_Bs_hasToldTwinBehind_73 (by decide) ?_
          exact ih (j + 1) (by omega) (by omega) (by rw [he, ltw, if_pos ⟨hjz, hl⟩, if_neg hn])
        refine V_aload_n (pc' := 15) d_Bs_hasToldTwinBehind_14 rfl (by first | rfl | exact isR_rf _) rfl ?_
        refine V_getf (pc' := 18) d_Bs_hasToldTwinBehind_15 fl_Bs_11 rfl (by first | assumption | exact aset_self _ _ _ | exact apush_self _ _) (by rfl) ?_
        refine V_iload (pc' := 20) d_Bs_hasToldTwinBehind_18 rfl rfl ?_
        -- at 20 aaload
        refine V_aald (pc' := 21) d_Bs_hasToldTwinBehind_20 rfl hra rfl rfl (by omega) (arv_get (by omega)) ?_
        rw [if_pos hjz]
        refine V_getf (pc' := 24) d_Bs_hasToldTwinBehind_21 fl_Bs_25 rfl (by first | assumption | exact aset_self _ _ _ | exact apush_self _ _) (by rfl) ?_
        refine V_getf (pc' := 27) d_Bs_hasToldTwinBehind_24 fl_Bs_29 rfl (by first | assumption | exact aset_self _ _ _ | exact apush_self _ _) (by rfl) ?_
        refine V_aload_n (pc' := 28) d_Bs_hasToldTwinBehind_27 rfl (by first | rfl | exact isR_rf _) rfl ?_
        refine V_getf (pc' := 31) d_Bs_hasToldTwinBehind_28 fl_Bs_25 rfl (by first | assumption | exact aset_self _ _ _ | exact apush_self _ _) (by rfl) ?_
        refine V_getf (pc' := 34) d_Bs_hasToldTwinBehind_31 fl_Bs_29 rfl (by first | assumption | exact aset_self _ _ _ | exact apush_self _ _) (by rfl) ?_
        refine V_icmp_lt (pc' := 37) (tgt := 76) d_Bs_hasToldTwinBehind_34 (by decide) rfl (fun c34 => ?_) (fun c34 => ?_)
        · refine V_iconst (pc' := 77) (v := 0) d_Bs_hasToldTwinBehind_76 (by decide) rfl ?_
          refine V_zret d_Bs_hasToldTwinBehind_77 rfl (by first | rfl | exact ob_nar _) (by first | decide | omega) (by first | decide | omega) ?_
          have : slo S j < slo S k := (nI_ltI (by omega) (by omega)).mp c34
          rw [he, ltw, if_neg (by omega)]; exact ⟨rfl, rfl⟩
        · have hl : slo S k ≤ slo S j := by
            rcases Nat.lt_or_ge (slo S j) (slo S k) with z | z
            · exact absurd (show nI (slo S j) < nI (slo S k) from nI_lt z (by omega)) c34
            · exact z
          refine V_aload_n (pc' := 38) d_Bs_hasToldTwinBehind_37 rfl (by first | rfl | exact isR_rf _) rfl ?_
          refine V_getf (pc' := 41) d_Bs_hasToldTwinBehind_38 fl_Bs_11 rfl (by first | assumption | exact aset_self _ _ _ | exact apush_self _ _) (by rfl) ?_
          refine V_iload (pc' := 43) d_Bs_hasToldTwinBehind_41 rfl rfl ?_
          -- at 43 aaload
          refine V_aald (pc' := 44) d_Bs_hasToldTwinBehind_43 rfl hra rfl rfl (by omega) (arv_get (by omega)) ?_
          rw [if_pos hjz]
          refine V_aload_n (pc' := 45) d_Bs_hasToldTwinBehind_44 rfl (by first | rfl | exact isR_rf _) rfl ?_
          -- at 45 invokevirtual
          refine V_callV (pc' := 48) (As := [_]) (ci := 2) d_Bs_hasToldTwinBehind_45 mv_Bs_38 mw_Sg_isTwinOf rfl rfl rfl (by simp [Value.category]) rfl (by first | assumption | exact aset_self _ _ _ | exact apush_self _ _) (c_Sg_isTwinOf (k1 := xk B (sso S j)) (p1 := sr B (pnm S j)) (k2 := xk B (sso S k)) (p2 := sr B (pnm S k)) hcj hck) (by first | decide | omega) (by first | decide | omega) (by first | decide | omega) (by first | decide | omega) ?_
          rintro _ _ ⟨rfl, rfl⟩
          have htw : (xk B (sso S j) = xk B (sso S k) ∧ sr B (pnm S j) = sr B (pnm S k)) ↔ (sso S j = sso S k ∧ pnm S j = pnm S k) := by
            rw [IX_kinj hX w1 y1 y2 s1 s2, sr_inj hX w2 (pnm_lv w3 hjz) (pnm_lv w3 hk)]
          refine V_if_eq (pc' := 51) (tgt := 70) d_Bs_hasToldTwinBehind_48 (by decide) rfl (fun c48 => ?_) (fun c48 => ?_)
          · refine next (fun z => ?_) hl
            have := ob_0.mp c48
            rw [decide_eq_true (htw.mpr z.1)] at this
            cases this
          · have htt : sso S j = sso S k ∧ pnm S j = pnm S k := by
              have := ob_nt c48
              exact htw.mp (of_decide_eq_true this)
            refine V_aload_n (pc' := 52) d_Bs_hasToldTwinBehind_51 rfl (by first | rfl | exact isR_rf _) rfl ?_
            refine V_aload_n (pc' := 53) d_Bs_hasToldTwinBehind_52 rfl (by first | rfl | exact isR_rf _) rfl ?_
            refine V_getf (pc' := 56) d_Bs_hasToldTwinBehind_53 fl_Bs_11 rfl (by first | assumption | exact aset_self _ _ _ | exact apush_self _ _) (by rfl) ?_
            refine V_iload (pc' := 58) d_Bs_hasToldTwinBehind_56 rfl rfl ?_
            -- at 58 aaload
            refine V_aald (pc' := 59) d_Bs_hasToldTwinBehind_58 rfl hra rfl rfl (by omega) (arv_get (by omega)) ?_
            rw [if_pos hjz]
            refine V_getf (pc' := 62) d_Bs_hasToldTwinBehind_59 fl_Bs_41 rfl (by first | assumption | exact aset_self _ _ _ | exact apush_self _ _) (by rfl) ?_
            -- at 62 invokevirtual
            refine V_callV (pc' := 65) (As := [_]) (ci := 4) d_Bs_hasToldTwinBehind_62 mv_Bs_45 mw_Pt_tells rfl rfl rfl (by simp [Value.category]) rfl (by first | assumption | exact aset_self _ _ _ | exact apush_self _ _) (c_Pt_tells hop hcp) (by first | decide | omega) (by first | decide | omega) (by first | decide | omega) (by first | decide | omega) ?_
            rintro _ _ ⟨rfl, rfl⟩
            refine V_if_eq (pc' := 68) (tgt := 70) d_Bs_hasToldTwinBehind_65 (by decide) rfl (fun c65 => ?_) (fun c65 => ?_)
            · exact next (fun z => by rw [ob_0.mp c65] at z; cases z.2) hl
            · refine V_iconst (pc' := 69) (v := 1) d_Bs_hasToldTwinBehind_68 (by decide) rfl ?_
              refine V_zret d_Bs_hasToldTwinBehind_69 rfl (by first | rfl | exact ob_nar _) (by first | decide | omega) (by first | decide | omega) ?_
              rw [he, ltw, if_pos ⟨hjz, hl⟩, if_pos ⟨htt, ob_nt c65⟩]; exact ⟨rfl, rfl⟩
  refine V_iload_n (pc' := 1) d_Bs_hasToldTwinBehind_0 rfl rfl ?_
  refine V_iconst (pc' := 2) (v := 1) d_Bs_hasToldTwinBehind_1 (by decide) rfl ?_
  refine V_iadd (pc' := 3) d_Bs_hasToldTwinBehind_2 rfl ?_
  rw [nI_1]
  refine V_istore (pc' := 5) d_Bs_hasToldTwinBehind_3 (by decide) rfl ?_
  first | refine V_L [(0, _), (1, _), (2, _), (3, _), (4, _)] ⟨rfl, rfl, rfl, rfl, rfl, trivial⟩ ?_ | (refine V_keep (by intro q hq e; simp only [List.mem_cons, List.not_mem_nil, or_false] at hq; rcases hq with rfl | rfl | rfl | rfl <;> first | rfl | exact va_rf_cat _ | exact absurd e (by decide)) ?_; refine V_L [(0, _), (1, _), (2, _), (3, _), (4, _)] ⟨rfl, rfl, rfl, rfl, rfl, trivial⟩ ?_)
  have fuel : ∀ (a b j : Nat), ssz S ≤ j + a → ssz S ≤ j + b → ltw S p k a j = ltw S p k b j := by
    intro a
    induction a with
    | zero =>
      intro b j h1 h2
      cases b with
      | zero => rfl
      | succ b => rw [ltw, ltw, if_neg (by omega)]
    | succ a ih =>
      intro b j h1 h2
      cases b with
      | zero => rw [ltw, ltw, if_neg (by omega)]
      | succ b =>
        rw [ltw, ltw]
        by_cases c : j < ssz S ∧ slo S k ≤ slo S j
        · rw [if_pos c, if_pos c]
          by_cases c2 : (sso S j = sso S k ∧ pnm S j = pnm S k) ∧ rel (sop S p) (sky S j) (spy S p) = true
          · rw [if_pos c2, if_pos c2]
          · rw [if_neg c2, if_neg c2]
            exact ih b (j + 1) (by omega) (by omega)
        · rw [if_neg c, if_neg c]
  exact loop (ssz S + 1) (i + 1) (by omega) (by omega) (fuel _ _ _ (by omega) (by omega))
theorem c_PC_isAsPart (hX : IX h o B S) (hw : WX S) {v i k p : Nat} (hv1 : 1 ≤ v) (hv2 : v ≤ svc S) (hi : i < ssz S) (hk : k < ssz S) (hp : p < 8) (hop : sop S p ≤ 6) (hk1 : 1 ≤ spk S p) (hk2 : spk S p ≤ skc S) {b : Bool} (hb : b = (rel (sop S p) (sky S k) (spy S p) && (!(cb (scd S p) 2) || decide (okd S (plc S (spo S v)) (spk S p) = some k)) && (!(cb (scd S p) 1) || !(ltw S p k (ssz S) (i + 1))))) : Cr x y_PC_isAsPart b_PC_isAsPart 5 (some .boolean) 2 [.ref o, .ref (xv B v), .ref (xs B (snm S k)), .ref (xp B p), .int (nI i)] h (.int (ob b)) := by
  obtain ⟨ho, hka, hva, hpa, hba, hra, hpv, h8, h9, h10, h11, iv, ip, is⟩ := id hX
  obtain ⟨w1, w2, w3, w4, w5, w6, w7, w8, w9⟩ := id hw
  have hck := h11 k hk
  have hcp := h10 p hp
  have hcv := h9 v hv1 hv2
  have hpl : ∀ j, plc S (spo S v) = some j → j < ssz S := fun j hj => (plc_lt hj).1
  have hol : ∀ j, okd S (plc S (spo S v)) (spk S p) = some j → j < ssz S := by
    intro j hj
    cases e : plc S (spo S v) with
    | none => rw [e] at hj; cases hj
    | some z =>
      rw [e] at hj
      have := (okd_lt hj).1
      have := hpl z e
      omega
  refine Ct_of (own := "PathCalls") (ini := false) rfl rfl (Nat.le_of_ble_eq_true rfl) (fun q => by cases q) ?_
  have part2 : rel (sop S p) (sky S k) (spy S p) = true → (!(cb (scd S p) 2) || decide (okd S (plc S (spo S v)) (spk S p) = some k)) = true → V x "PathCalls" b_PC_isAsPart 5 (Option.some .boolean) false (rmd 2 0 0) 0 0 (fun r h' => r = some (.int (ob b)) ∧ h = h') 38 [(0, .ref o), (1, .ref (xv B v)), (2, .ref (xs B (snm S k))), (3, .ref (xp B p)), (4, .int (nI i))] [] h 0 0 := by
    intro r1 r2
    rw [r1, r2] at hb
    refine V_aload_n (pc' := 39) d_PC_isAsPart_38 rfl (by first | rfl | exact isR_rf _) rfl ?_
    refine V_iconst (pc' := 40) (v := 1) d_PC_isAsPart_39 (by decide) rfl ?_
    -- at 40 invokevirtual
    refine V_callV (pc' := 43) (As := [_]) (ci := 4) d_PC_isAsPart_40 mv_PC_219 mw_Pt_has rfl rfl rfl (by simp [Value.category]) rfl (by first | assumption | exact aset_self _ _ _ | exact apush_self _ _) (c_Pt_has hcp) (by first | decide | omega) (by first | decide | omega) (by first | decide | omega) (by first | decide | omega) ?_
    rintro _ _ ⟨rfl, rfl⟩
    refine V_if_eq (pc' := 46) (tgt := 60) d_PC_isAsPart_43 (by decide) rfl (fun c43 => ?_) (fun c43 => ?_)
    · refine V_iconst (pc' := 61) (v := 1) d_PC_isAsPart_60 (by decide) rfl ?_
      refine V_goto (tgt := 65) d_PC_isAsPart_61 (by decide) ?_
      refine V_zret d_PC_isAsPart_65 rfl (by first | rfl | exact ob_nar _) (by first | decide | omega) (by first | decide | omega) ?_
      rw [hb, ob_0.mp c43]; exact ⟨rfl, rfl⟩
    · refine V_aload_n (pc' := 47) d_PC_isAsPart_46 rfl (by first | rfl | exact isR_rf _) rfl ?_
      refine V_getf (pc' := 50) d_PC_isAsPart_47 fl_PC_30 rfl (by first | assumption | exact aset_self _ _ _ | exact apush_self _ _) (by rfl) ?_
      refine V_iload (pc' := 52) d_PC_isAsPart_50 rfl rfl ?_
      refine V_aload_n (pc' := 53) d_PC_isAsPart_52 rfl (by first | rfl | exact isR_rf _) rfl ?_
      refine V_aload_n (pc' := 54) d_PC_isAsPart_53 rfl (by first | rfl | exact isR_rf _) rfl ?_
      -- at 54 invokevirtual
      refine V_callV (pc' := 57) (As := [_, _, _]) (ci := 5) d_PC_isAsPart_54 mv_PC_222 mw_Bs_hasToldTwinBehind rfl rfl rfl (by simp [Value.category]) rfl (by first | assumption | exact aset_self _ _ _ | exact apush_self _ _) (c_Bs_hasToldTwinBehind hX hw hi hk hp hop) (by first | decide | omega) (by first | decide | omega) (by first | decide | omega) (by first | decide | omega) ?_
      rintro _ _ ⟨rfl, rfl⟩
      refine V_if_ne (pc' := 60) (tgt := 64) d_PC_isAsPart_57 (by decide) rfl (fun c57 => ?_) (fun c57 => ?_)
      · refine V_iconst (pc' := 65) (v := 0) d_PC_isAsPart_64 (by decide) rfl ?_
        refine V_zret d_PC_isAsPart_65 rfl (by first | rfl | exact ob_nar _) (by first | decide | omega) (by first | decide | omega) ?_
        rw [hb, ob_nt c43, ob_nt c57]; exact ⟨rfl, rfl⟩
      · refine V_iconst (pc' := 61) (v := 1) d_PC_isAsPart_60 (by decide) rfl ?_
        refine V_goto (tgt := 65) d_PC_isAsPart_61 (by decide) ?_
        refine V_zret d_PC_isAsPart_65 rfl (by first | rfl | exact ob_nar _) (by first | decide | omega) (by first | decide | omega) ?_
        rw [hb, ob_nt c43, ob_0.mp c57]; exact ⟨rfl, rfl⟩
  refine V_aload_n (pc' := 1) d_PC_isAsPart_0 rfl (by first | rfl | exact isR_rf _) rfl ?_
  refine V_aload_n (pc' := 2) d_PC_isAsPart_1 rfl (by first | rfl | exact isR_rf _) rfl ?_
  refine V_getf (pc' := 5) d_PC_isAsPart_2 fl_PC_178 rfl (by first | assumption | exact aset_self _ _ _ | exact apush_self _ _) (by rfl) ?_
  -- at 5 invokevirtual
  refine V_callV (pc' := 8) (As := [_]) (ci := 4) d_PC_isAsPart_5 mv_PC_215 mw_Pt_tells rfl rfl rfl (by simp [Value.category]) rfl (by first | assumption | exact aset_self _ _ _ | exact apush_self _ _) (c_Pt_tells hop hcp) (by first | decide | omega) (by first | decide | omega) (by first | decide | omega) (by first | decide | omega) ?_
  rintro _ _ ⟨rfl, rfl⟩
  refine V_if_ne (pc' := 11) (tgt := 13) d_PC_isAsPart_8 (by decide) rfl (fun c8 => ?_) (fun c8 => ?_)
  · have r1 := ob_nt c8
    refine V_aload_n (pc' := 14) d_PC_isAsPart_13 rfl (by first | rfl | exact isR_rf _) rfl ?_
    refine V_iconst (pc' := 15) (v := 2) d_PC_isAsPart_14 (by decide) rfl ?_
    -- at 15 invokevirtual
    refine V_callV (pc' := 18) (As := [_]) (ci := 4) d_PC_isAsPart_15 mv_PC_219 mw_Pt_has rfl rfl rfl (by simp [Value.category]) rfl (by first | assumption | exact aset_self _ _ _ | exact apush_self _ _) (c_Pt_has hcp) (by first | decide | omega) (by first | decide | omega) (by first | decide | omega) (by first | decide | omega) ?_
    rintro _ _ ⟨rfl, rfl⟩
    refine V_if_eq (pc' := 21) (tgt := 38) d_PC_isAsPart_18 (by decide) rfl (fun c18 => ?_) (fun c18 => ?_)
    · exact part2 r1 (by rw [ob_0.mp c18]; rfl)
    · refine V_aload_n (pc' := 22) d_PC_isAsPart_21 rfl (by first | rfl | exact isR_rf _) rfl ?_
      refine V_getf (pc' := 25) d_PC_isAsPart_22 fl_PC_95 rfl (by first | assumption | exact aset_self _ _ _ | exact apush_self _ _) (by rfl) ?_
      rw [sr_rr w2 (w8 v hv1 hv2).1]
      refine V_aload_n (pc' := 26) d_PC_isAsPart_25 rfl (by first | rfl | exact isR_rf _) rfl ?_
      refine V_getf (pc' := 29) d_PC_isAsPart_26 fl_PC_117 rfl (by first | assumption | exact aset_self _ _ _ | exact apush_self _ _) (by rfl) ?_
      rw [kr_pos hk1]
      rw [show va_rf (some (xk B (spk S p))) = .ref (xk B (spk S p)) from rfl]
      refine V_callS (pc' := 32) (As := [_, _]) d_PC_isAsPart_29 ms_PC_199 mw_Sg_around rfl rfl rfl (by simp [Value.category]) (c_Sg_around (q := plc S (spo S v)) (kd := spk S p) hX w1 w2 w3 w4 hpl hk1 hk2 (w5 _ hk1 hk2).1) (by first | decide | omega) (by first | decide | omega) (by first | decide | omega) (by first | decide | omega) ?_
      rintro _ _ ⟨rfl, rfl⟩
      refine V_aload_n (pc' := 33) d_PC_isAsPart_32 rfl (by first | rfl | exact isR_rf _) rfl ?_
      refine V_acmp_eq (pc' := 36) (tgt := 38) (rx := (rr B S (okd S (plc S (spo S v)) (spk S p)))) (ry := (rr B S (some k))) d_PC_isAsPart_33 (by decide) rfl (fun c33 => ?_) (fun c33 => ?_)
      · have e := (rr_inj hX hol (fun j hj => by cases hj; exact hk)).mp c33
        exact part2 r1 (by rw [decide_eq_true e, Bool.or_true])
      · refine V_iconst (pc' := 37) (v := 0) d_PC_isAsPart_36 (by decide) rfl ?_
        refine V_zret d_PC_isAsPart_37 rfl (by first | rfl | exact ob_nar _) (by first | decide | omega) (by first | decide | omega) ?_
        have e : ¬ okd S (plc S (spo S v)) (spk S p) = some k := fun z => c33 (by rw [z])
        rw [hb, r1, ob_nt c18, decide_eq_false e]; exact ⟨rfl, rfl⟩
  · refine V_iconst (pc' := 12) (v := 0) d_PC_isAsPart_11 (by decide) rfl ?_
    refine V_zret d_PC_isAsPart_12 rfl (by first | rfl | exact ob_nar _) (by first | decide | omega) (by first | decide | omega) ?_
    rw [hb, ob_0.mp c8]; exact ⟨rfl, rfl⟩
end X3
