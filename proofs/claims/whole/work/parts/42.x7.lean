-- the class: get
def stv (S : PS) (f : Nat) : Option Nat → Int32
  | none => 0
  | some p => if sso S f = sso S p then 0 else if slo S f < slo S p then 3 else if slo S f = slo S p then 4 else 0
theorem flp_ne {S : PS} {v f : Nat} {pr : Nat → Nat} : ∀ (n i : Nat), i ≠ v → flp S v f n pr i = pr i
  | 0, i, _ => rfl
  | n + 1, i, h => by
    rw [flp]
    by_cases c : cb (scd S n) 4 = true
    · rw [if_pos c]
      cases e : okd S (some f) (spk S n) with
      | none => exact flp_ne n i h
      | some k => exact (if_neg h).trans (flp_ne n i h)
    · rw [if_neg c]; exact flp_ne n i h
section X7
variable {x : CX} {h h0 : AH} {o : Nat} {B B0 : XB} {S : PS}
theorem JX_shc (hJ : JX h0 h o B0 B S) (f : Nat → Int64) (hf : ∀ l, 1 ≤ l → l ≤ 8 → f l = ssh S l) : JX h0 h o B0 B (S.1, S.2.1, S.2.2.1, S.2.2.2.1, f) := by
  obtain ⟨⟨ho, hka, hva, hpa, hba, hra, hpv, h8, h9, h10, h11, iv, ip, is⟩, hF⟩ := hJ
  refine ⟨⟨ho, hka, hva, hpa, hba, hra, hpv.trans ?_, h8, h9, h10, h11, iv, ip, is⟩, hF⟩
  refine congrArg (fun l => some (50 + 4, l)) (arv_congr (fun i hi => ?_))
  show Value.long (ssh S (i + 1)) = Value.long (f (i + 1))
  rw [hf (i + 1) (by omega) (by omega)]
theorem JX_hd (hJ : JX h0 h o B0 B S) {v : Nat} (hv1 : 1 ≤ v) (hv2 : v ≤ svc S) (b : Bool) : JX h0 (aset h (xv B v) (3, (vce B S v).set 2 (.int (ob b)))) o B0 B (uhd S v b) := by
  have h1 := JX_view hJ hv1 hv2 (po := spo S) (pr := spr S) (hd := fun i => if i = v then b else shd S i) (fun w hw => ⟨rfl, rfl, if_neg hw⟩)
  rw [if_pos rfl] at h1
  exact h1
theorem JX_po (hJ : JX h0 h o B0 B S) {v : Nat} (hv1 : 1 ≤ v) (hv2 : v ≤ svc S) (nm : Nat) : JX h0 (aset h (xv B v) (3, (vce B S v).set 0 (va_rf (sr B nm)))) o B0 B (upo S v nm) := by
  have h1 := JX_view hJ hv1 hv2 (po := fun i => if i = v then nm else spo S i) (pr := spr S) (hd := shd S) (fun w hw => ⟨if_neg hw, rfl, rfl⟩)
  rw [if_pos rfl] at h1
  exact h1
theorem JX_pr (hJ : JX h0 h o B0 B S) {v : Nat} (hv1 : 1 ≤ v) (hv2 : v ≤ svc S) (nm : Nat) : JX h0 (aset h (xv B v) (3, (vce B S v).set 1 (va_rf (sr B nm)))) o B0 B (upr S v nm) := by
  have h1 := JX_view hJ hv1 hv2 (po := spo S) (pr := fun i => if i = v then nm else spr S i) (hd := shd S) (fun w hw => ⟨rfl, if_neg hw, rfl⟩)
  rw [if_pos rfl] at h1
  exact h1
theorem c_PC_tellMissing (hJ : JX h0 h o B0 B S) {v c : Nat} (hv1 : 1 ≤ v) (hv2 : v ≤ svc S) (hc : c ≤ 2) : Ct x y_PC_tellMissing b_PC_tellMissing 2 (some .int) 0 0 0 [.ref (xv B v), .int (nI c)] h (fun r h' => r = some (.int (if c = 1 then 2 else 1)) ∧ JX h0 h' o B0 B (if c = 1 then upo S v 0 else S)) := by
  have hcv := hJ.1.2.2.2.2.2.2.2.2.1 v hv1 hv2
  refine Ct_of (own := "PathCalls") (ini := false) rfl rfl (Nat.le_of_ble_eq_true rfl) (fun q => by cases q) ?_
  refine V_iload_n (pc' := 1) d_PC_tellMissing_0 rfl rfl ?_
  refine V_iconst (pc' := 2) (v := 1) d_PC_tellMissing_1 (by decide) rfl ?_
  refine V_icmp_eq (pc' := 5) (tgt := 7) d_PC_tellMissing_2 (by decide) rfl (fun c2 => ?_) (fun c2 => ?_)
  · have e : c = 1 := (nI_sm (by omega) (by omega) rfl).mp c2
    refine V_aload_n (pc' := 8) d_PC_tellMissing_7 rfl (by first | rfl | exact isR_rf _) rfl ?_
    refine V_null (pc' := 9) d_PC_tellMissing_8 rfl ?_
    refine V_putf (pc' := 12) d_PC_tellMissing_9 fp_PC_95 rfl (by first | assumption | exact aset_self _ _ _ | exact apush_self _ _) (by first | rfl | exact ob_nar _ | exact nar_rf _) (by first | rfl | exact ob_fit _ | exact fits_rf _) (by exact Nat.le_of_ble_eq_true rfl) ?_
    refine V_iconst (pc' := 13) (v := 2) d_PC_tellMissing_12 (by decide) rfl ?_
    refine V_iret d_PC_tellMissing_13 rfl (by first | decide | omega) (by first | decide | omega) ?_
    rw [if_pos e, if_pos e]
    exact ⟨rfl, JX_po hJ hv1 hv2 0⟩
  · have e : ¬ c = 1 := fun z => c2 (by rw [z]; rfl)
    refine V_iconst (pc' := 6) (v := 1) d_PC_tellMissing_5 (by decide) rfl ?_
    refine V_iret d_PC_tellMissing_6 rfl (by first | decide | omega) (by first | decide | omega) ?_
    rw [if_neg e, if_neg e]
    exact ⟨rfl, hJ⟩
theorem c_PC_stepStatus (hX : IX h o B S) (hw : WX S) {q : Option Nat} (hq : ∀ i, q = some i → i < ssz S) {f : Nat} (hf : f < ssz S) : Cr x y_PC_stepStatus b_PC_stepStatus 2 (some .int) 0 [va_rf (rr B S q), .ref (xs B (snm S f))] h (.int (stv S f q)) := by
  obtain ⟨ho, hka, hva, hpa, hba, hra, hpv, h8, h9, h10, h11, iv, ip, is⟩ := id hX
  obtain ⟨w1, w2, w3, w4, w5, w6, w7, w8, w9⟩ := id hw
  have hcf := h11 f hf
  obtain ⟨s1, s2⟩ := w4 f hf
  have hkf := h8 _ s1 s2
  have hlf : slo S f ≤ 8 := (w5 _ s1 s2).2
  refine Ct_of (own := "PathCalls") (ini := false) rfl rfl (by simp [lg_sl, va_rf_cat, cat_ref, cat_int, cat_long, cat_null]) (fun q => by cases q) ?_
  refine V_eq (L' := [(0, va_rf (rr B S q)), (1, .ref (xs B (snm S f)))]) (by simp [lv_args, va_rf_cat, cat_ref, cat_int, cat_long, cat_null]) rfl rfl ?_
  cases q with
  | none =>
    refine V_aload_n (pc' := 1) d_PC_stepStatus_0 rfl (by first | rfl | exact isR_rf _) rfl ?_
    refine V_ifnull (pc' := 4) (tgt := 15) (r := (rr B S none)) d_PC_stepStatus_1 (by decide) rfl (fun c1 => ?_) (fun a1 c1 => ?_)
    · refine V_iconst (pc' := 16) (v := 0) d_PC_stepStatus_15 (by decide) rfl ?_
      refine V_iret d_PC_stepStatus_16 rfl (by first | decide | omega) (by first | decide | omega) ?_
      exact ⟨rfl, rfl⟩
    · cases c1
  | some t =>
    have htz := hq t rfl
    have hct := h11 t htz
    obtain ⟨y1, y2⟩ := w4 t htz
    have hkt := h8 _ y1 y2
    have hlt : slo S t ≤ 8 := (w5 _ y1 y2).2
    have hst : stv S f (some t) = (if sso S f = sso S t then 0 else if slo S f < slo S t then 3 else if slo S f = slo S t then 4 else 0) := rfl
    refine V_aload_n (pc' := 1) d_PC_stepStatus_0 rfl (by first | rfl | exact isR_rf _) rfl ?_
    refine V_ifnull (pc' := 4) (tgt := 15) (r := (rr B S (some t))) d_PC_stepStatus_1 (by decide) rfl (fun c1 => ?_) (fun a1 c1 => ?_)
    · cases c1
    · clear c1 a1
      rw [show va_rf (rr B S (some t)) = .ref (xs B (snm S t)) from rfl]
      refine V_aload_n (pc' := 5) d_PC_stepStatus_4 rfl (by first | rfl | exact isR_rf _) rfl ?_
      refine V_getf (pc' := 8) d_PC_stepStatus_5 fl_PC_174 rfl (by first | assumption | exact aset_self _ _ _ | exact apush_self _ _) (by rfl) ?_
      refine V_aload_n (pc' := 9) d_PC_stepStatus_8 rfl (by first | rfl | exact isR_rf _) rfl ?_
      refine V_getf (pc' := 12) d_PC_stepStatus_9 fl_PC_174 rfl (by first | assumption | exact aset_self _ _ _ | exact apush_self _ _) (by rfl) ?_
      refine V_acmp_ne (pc' := 15) (tgt := 17) (rx := (some (xk B (sso S f)))) (ry := (some (xk B (sso S t)))) d_PC_stepStatus_12 (by decide) rfl (fun c12 => ?_) (fun c12 => ?_)
      · have q1 : ¬ sso S f = sso S t := fun z => c12 (by rw [z])
        refine V_aload_n (pc' := 18) d_PC_stepStatus_17 rfl (by first | rfl | exact isR_rf _) rfl ?_
        refine V_getf (pc' := 21) d_PC_stepStatus_18 fl_PC_174 rfl (by first | assumption | exact aset_self _ _ _ | exact apush_self _ _) (by rfl) ?_
        refine V_getf (pc' := 24) d_PC_stepStatus_21 fl_PC_47 rfl (by first | assumption | exact aset_self _ _ _ | exact apush_self _ _) (by rfl) ?_
        refine V_aload_n (pc' := 25) d_PC_stepStatus_24 rfl (by first | rfl | exact isR_rf _) rfl ?_
        refine V_getf (pc' := 28) d_PC_stepStatus_25 fl_PC_174 rfl (by first | assumption | exact aset_self _ _ _ | exact apush_self _ _) (by rfl) ?_
        refine V_getf (pc' := 31) d_PC_stepStatus_28 fl_PC_47 rfl (by first | assumption | exact aset_self _ _ _ | exact apush_self _ _) (by rfl) ?_
        refine V_icmp_ge (pc' := 34) (tgt := 36) d_PC_stepStatus_31 (by decide) rfl (fun c31 => ?_) (fun c31 => ?_)
        · have q2 : ¬ slo S f < slo S t := by
            have : slo S t ≤ slo S f := (nI_leI (by omega) (by omega)).mp c31
            omega
          refine V_aload_n (pc' := 37) d_PC_stepStatus_36 rfl (by first | rfl | exact isR_rf _) rfl ?_
          refine V_getf (pc' := 40) d_PC_stepStatus_37 fl_PC_174 rfl (by first | assumption | exact aset_self _ _ _ | exact apush_self _ _) (by rfl) ?_
          refine V_getf (pc' := 43) d_PC_stepStatus_40 fl_PC_47 rfl (by first | assumption | exact aset_self _ _ _ | exact apush_self _ _) (by rfl) ?_
          refine V_aload_n (pc' := 44) d_PC_stepStatus_43 rfl (by first | rfl | exact isR_rf _) rfl ?_
          refine V_getf (pc' := 47) d_PC_stepStatus_44 fl_PC_174 rfl (by first | assumption | exact aset_self _ _ _ | exact apush_self _ _) (by rfl) ?_
          refine V_getf (pc' := 50) d_PC_stepStatus_47 fl_PC_47 rfl (by first | assumption | exact aset_self _ _ _ | exact apush_self _ _) (by rfl) ?_
          refine V_icmp_ne (pc' := 53) (tgt := 57) d_PC_stepStatus_50 (by decide) rfl (fun c50 => ?_) (fun c50 => ?_)
          · refine V_iconst (pc' := 58) (v := 0) d_PC_stepStatus_57 (by decide) rfl ?_
            refine V_iret d_PC_stepStatus_58 rfl (by first | decide | omega) (by first | decide | omega) ?_
            have q3 : ¬ slo S f = slo S t := fun z => c50 (show nI (slo S f) = nI (slo S t) by rw [z])
            rw [hst, if_neg q1, if_neg q2, if_neg q3]; exact ⟨rfl, rfl⟩
          · refine V_iconst (pc' := 54) (v := 4) d_PC_stepStatus_53 (by decide) rfl ?_
            refine V_goto (tgt := 58) d_PC_stepStatus_54 (by decide) ?_
            refine V_iret d_PC_stepStatus_58 rfl (by first | decide | omega) (by first | decide | omega) ?_
            have q3 : slo S f = slo S t := (nI_eq (by omega) (by omega)).mp c50
            rw [hst, if_neg q1, if_neg q2, if_pos q3]; exact ⟨rfl, rfl⟩
        · refine V_iconst (pc' := 35) (v := 3) d_PC_stepStatus_34 (by decide) rfl ?_
          refine V_iret d_PC_stepStatus_35 rfl (by first | decide | omega) (by first | decide | omega) ?_
          have q2 : slo S f < slo S t := by
            rcases Nat.lt_or_ge (slo S f) (slo S t) with z | z
            · exact z
            · exact absurd (show nI (slo S t) ≤ nI (slo S f) from nI_le z (by omega)) c31
          rw [hst, if_neg q1, if_pos q2]; exact ⟨rfl, rfl⟩
      · refine V_iconst (pc' := 16) (v := 0) d_PC_stepStatus_15 (by decide) rfl ?_
        refine V_iret d_PC_stepStatus_16 rfl (by first | decide | omega) (by first | decide | omega) ?_
        have q1 : sso S f = sso S t := (IX_kinj hX w1 s1 s2 y1 y2).mp (Option.some.inj c12)
        rw [hst, if_pos q1]; exact ⟨rfl, rfl⟩
theorem c_PC_newParentage (hX : IX h o B S) (hw : WX S) {v c f n : Nat} (hv1 : 1 ≤ v) (hv2 : v ≤ svc S) (hf : f < ssz S) (hp : PV S n) (hok : ∀ p, p < n → ∃ k, okd S (some f) (spk S p) = some k) (hc : c ≤ 2) : Cr x y_PC_newParentage b_PC_newParentage 6 (some (.object "PathCalls$Segment")) 1 [.ref o, .ref (xv B v), .int (nI c), .ref (xs B (snm S f)), .int (nI n)] h (va_rf (sr B (flp S v f n (fun i => if i = v then (if c < 2 then snm S f else spr S v) else spr S i) v))) := by
  obtain ⟨ho, hka, hva, hpa, hba, hra, hpv, h8, h9, h10, h11, iv, ip, is⟩ := id hX
  obtain ⟨w1, w2, w3, w4, w5, w6, w7, w8, w9⟩ := id hw
  obtain ⟨v1, v2⟩ := id hp
  have hcv := h9 v hv1 hv2
  generalize epr : (fun i => if i = v then (if c < 2 then snm S f else spr S v) else spr S i) = pr0
  have epv : pr0 v = if c < 2 then snm S f else spr S v := by rw [← epr]; exact if_pos rfl
  refine Ct_of (own := "PathCalls") (ini := false) rfl rfl (Nat.le_of_ble_eq_true rfl) (fun q => by cases q) ?_
  have loop : ∀ (p : Nat), p ≤ n → flp S v f n pr0 v = flp S v f p pr0 v → V x "PathCalls" b_PC_newParentage 6 (Option.some (.object "PathCalls$Segment")) false (rmd 1 0 0) 0 0 (fun r h' => r = some (va_rf (sr B (flp S v f n pr0 v))) ∧ h = h') 6 [(0, .ref o), (1, .ref (xv B v)), (2, .int (nI c)), (3, .ref (xs B (snm S f))), (4, .int (nI n)), (5, .int (nI p - 1))] [] h 0 0 := by
    intro p
    induction p with
    | zero =>
      intro hpn he
      have e0 : flp S v f n pr0 v = pr0 v := he
      refine V_iload (pc' := 8) d_PC_newParentage_6 rfl rfl ?_
      refine V_if_lt (pc' := 11) (tgt := 46) d_PC_newParentage_8 (by decide) rfl (fun c8 => ?_) (fun c8 => ?_)
      · refine V_iload_n (pc' := 47) d_PC_newParentage_46 rfl rfl ?_
        refine V_iconst (pc' := 48) (v := 2) d_PC_newParentage_47 (by decide) rfl ?_
        refine V_icmp_ne (pc' := 51) (tgt := 58) d_PC_newParentage_48 (by decide) rfl (fun c48 => ?_) (fun c48 => ?_)
        · refine V_aload_n (pc' := 59) d_PC_newParentage_58 rfl (by first | rfl | exact isR_rf _) rfl ?_
          refine V_aret d_PC_newParentage_59 rfl (by first | rfl | exact isR_rf _) (by first | decide | omega) (by first | decide | omega) ?_
          have hc2 : c < 2 := by
            have : ¬ c = 2 := fun z => c48 (by rw [z]; rfl)
            omega
          rw [e0, epv, if_pos hc2]
          refine ⟨?_, rfl⟩
          unfold sr
          rw [if_neg (by have := w2.1 f hf; omega)]; rfl
        · refine V_aload_n (pc' := 52) d_PC_newParentage_51 rfl (by first | rfl | exact isR_rf _) rfl ?_
          refine V_getf (pc' := 55) d_PC_newParentage_52 fl_PC_83 rfl (by first | assumption | exact aset_self _ _ _ | exact apush_self _ _) (by rfl) ?_
          refine V_goto (tgt := 59) d_PC_newParentage_55 (by decide) ?_
          refine V_aret d_PC_newParentage_59 rfl (by first | rfl | exact isR_rf _) (by first | decide | omega) (by first | decide | omega) ?_
          have hc2 : ¬ c < 2 := by
            have : c = 2 := (nI_sm (by omega) (by omega) rfl).mp c48
            omega
          rw [e0, epv, if_neg hc2]
          exact ⟨rfl, rfl⟩
      · exact absurd (by decide) c8
    | succ p ih =>
      intro hpn he
      refine V_L [(0, .ref o), (1, .ref (xv B v)), (2, .int (nI c)), (3, .ref (xs B (snm S f))), (4, .int (nI n)), (5, .int (nI p))] ⟨rfl, rfl, rfl, rfl, rfl, (by rw [← nI_pred p]; rfl), trivial⟩ ?_
      obtain ⟨p1, p2, p3, p4⟩ := v2 p (by omega)
      have hcp := h10 p (by omega)
      obtain ⟨k, ek⟩ := hok p (by omega)
      obtain ⟨k1, k2, k3, k4⟩ := okd_lt ek
      refine V_iload (pc' := 8) d_PC_newParentage_6 rfl rfl ?_
      refine V_if_lt (pc' := 11) (tgt := 46) d_PC_newParentage_8 (by decide) rfl (fun c8 => ?_) (fun c8 => ?_)
      · exact absurd c8 (nI_pos (by omega))
      · refine V_aload_n (pc' := 12) d_PC_newParentage_11 rfl (by first | rfl | exact isR_rf _) rfl ?_
        refine V_getf (pc' := 15) d_PC_newParentage_12 fl_PC_23 rfl (by first | assumption | exact aset_self _ _ _ | exact apush_self _ _) (by rfl) ?_
        refine V_iload (pc' := 17) d_PC_newParentage_15 rfl rfl ?_
        -- at 17 aaload
        refine V_aald (pc' := 18) d_PC_newParentage_17 rfl hpa rfl rfl (by omega) (arv_get (by omega)) ?_
        refine V_iconst (pc' := 19) (v := 4) d_PC_newParentage_18 (by decide) rfl ?_
        -- at 19 invokevirtual
        refine V_callV (pc' := 22) (As := [_]) (ci := 4) d_PC_newParentage_19 mv_PC_219 mw_Pt_has rfl rfl rfl (by simp [Value.category]) rfl (by first | assumption | exact aset_self _ _ _ | exact apush_self _ _) (c_Pt_has hcp) (by first | decide | omega) (by first | decide | omega) (by first | decide | omega) (by first | decide | omega) ?_
        rintro _ _ ⟨rfl, rfl⟩
        refine V_if_eq (pc' := 25) (tgt := 40) d_PC_newParentage_22 (by decide) rfl (fun c22 => ?_) (fun c22 => ?_)
        · refine V_iinc (pc' := 43) d_PC_newParentage_40 rfl rfl (by decide) rfl ?_
          first | refine V_L [(0, _), (1, _), (2, _), (3, _), (4, _), (5, _)] ⟨rfl, rfl, rfl, rfl, rfl, rfl, trivial⟩ ?_ | (refine V_keep (by intro q hq e; simp only [List.mem_cons, List.not_mem_nil, or_false] at hq; rcases hq with rfl | rfl | rfl | rfl | rfl | rfl <;> first | rfl | exact va_rf_cat _ | exact absurd e (by decide)) ?_; refine V_L [(0, _), (1, _), (2, _), (3, _), (4, _), (5, _)] ⟨rfl, rfl, rfl, rfl, rfl, rfl, trivial⟩ ?_)
          refine V_goto (tgt := 6) d_PC_newParentage_43 (by decide) ?_
          refine V_L [(0, .ref o), (1, .ref (xv B v)), (2, .int (nI c)), (3, .ref (xs B (snm S f))), (4, .int (nI n)), (5, .int (nI p - 1))] ⟨rfl, rfl, rfl, rfl, rfl, (by show some (Value.int (nI p + Int32.ofInt (-1))) = _; rw [Int32.sub_eq_add_neg]; rfl), trivial⟩ ?_
          refine ih (by omega) ?_
          rw [he, flp, if_neg (by rw [ob_0.mp c22]; decide)]
        · refine V_aload_n (pc' := 26) d_PC_newParentage_25 rfl (by first | rfl | exact isR_rf _) rfl ?_
          refine V_aload_n (pc' := 27) d_PC_newParentage_26 rfl (by first | rfl | exact isR_rf _) rfl ?_
          refine V_getf (pc' := 30) d_PC_newParentage_27 fl_PC_23 rfl (by first | assumption | exact aset_self _ _ _ | exact apush_self _ _) (by rfl) ?_
          refine V_iload (pc' := 32) d_PC_newParentage_30 rfl rfl ?_
          -- at 32 aaload
          refine V_aald (pc' := 33) d_PC_newParentage_32 rfl hpa rfl rfl (by omega) (arv_get (by omega)) ?_
          refine V_getf (pc' := 36) d_PC_newParentage_33 fl_PC_117 rfl (by first | assumption | exact aset_self _ _ _ | exact apush_self _ _) (by rfl) ?_
          rw [kr_pos p1, show va_rf (some (xk B (spk S p))) = .ref (xk B (spk S p)) from rfl]
          refine V_callS (pc' := 39) (As := [_, _]) d_PC_newParentage_36 ms_PC_199 mw_Sg_around rfl rfl rfl (by simp [Value.category]) (c_Sg_around (q := some f) (kd := spk S p) hX w1 w2 w3 w4 (fun j hj => by cases hj; exact hf) p1 p2 (w5 _ p1 p2).1) (by first | decide | omega) (by first | decide | omega) (by first | decide | omega) (by first | decide | omega) ?_
          rintro _ _ ⟨rfl, rfl⟩
          rw [ek]
          refine V_aret d_PC_newParentage_39 rfl (by first | rfl | exact isR_rf _) (by first | decide | omega) (by first | decide | omega) ?_
          have e1 : flp S v f n pr0 v = snm S k := by
            rw [he, flp, if_pos (ob_nt c22), ek]
            exact if_pos rfl
          rw [e1]
          refine ⟨?_, rfl⟩
          unfold sr
          rw [if_neg (by have := w2.1 k (by omega); omega)]; rfl
  refine V_iload (pc' := 2) d_PC_newParentage_0 rfl rfl ?_
  refine V_iconst (pc' := 3) (v := 1) d_PC_newParentage_2 (by decide) rfl ?_
  refine V_isub (pc' := 4) d_PC_newParentage_3 rfl ?_
  refine V_istore (pc' := 6) d_PC_newParentage_4 (by decide) rfl ?_
  first | refine V_L [(0, _), (1, _), (2, _), (3, _), (4, _), (5, _)] ⟨rfl, rfl, rfl, rfl, rfl, rfl, trivial⟩ ?_ | (refine V_keep (by intro q hq e; simp only [List.mem_cons, List.not_mem_nil, or_false] at hq; rcases hq with rfl | rfl | rfl | rfl | rfl <;> first | rfl | exact va_rf_cat _ | exact absurd e (by decide)) ?_; refine V_L [(0, _), (1, _), (2, _), (3, _), (4, _), (5, _)] ⟨rfl, rfl, rfl, rfl, rfl, rfl, trivial⟩ ?_)
  exact loop n (Nat.le_refl _) rfl
theorem c_PC_keepValue (hJ : JX h0 h o B0 B S) (hw : WX S) {k : Nat} (hk : k < ssz S) : Ct x y_PC_keepValue b_PC_keepValue 2 none 0 0 0 [.ref o, .ref (xs B (snm S k))] h (fun r h' => r = none ∧ JX h0 h' o B0 B (ush S (slo S k) (svl S k))) := by
  obtain ⟨ho, hka, hva, hpa, hba, hra, hpv, h8, h9, h10, h11, iv, ip, is⟩ := id hJ.1
  obtain ⟨w1, w2, w3, w4, w5, w6, w7, w8, w9⟩ := id hw
  have hck := h11 k hk
  obtain ⟨s1, s2⟩ := w4 k hk
  have hkk := h8 _ s1 s2
  have hl1 : 1 ≤ slo S k := (w5 _ s1 s2).1
  have hl2 : slo S k ≤ 8 := (w5 _ s1 s2).2
  refine Ct_of (own := "PathCalls") (ini := false) rfl rfl (Nat.le_of_ble_eq_true rfl) (fun q => by cases q) ?_
  refine V_aload_n (pc' := 1) d_PC_keepValue_0 rfl (by first | rfl | exact isR_rf _) rfl ?_
  refine V_ifnull (pc' := 4) (tgt := 45) (r := (some (xs B (snm S k)))) d_PC_keepValue_1 (by decide) rfl (fun c1 => ?_) (fun a1 c1 => ?_)
  · cases c1
  · clear c1 a1
    refine V_aload_n (pc' := 5) d_PC_keepValue_4 rfl (by first | rfl | exact isR_rf _) rfl ?_
    refine V_getf (pc' := 8) d_PC_keepValue_5 fl_PC_174 rfl (by first | assumption | exact aset_self _ _ _ | exact apush_self _ _) (by rfl) ?_
    refine V_getf (pc' := 11) d_PC_keepValue_8 fl_PC_47 rfl (by first | assumption | exact aset_self _ _ _ | exact apush_self _ _) (by rfl) ?_
    refine V_iconst (pc' := 12) (v := 1) d_PC_keepValue_11 (by decide) rfl ?_
    refine V_icmp_lt (pc' := 15) (tgt := 45) d_PC_keepValue_12 (by decide) rfl (fun c12 => ?_) (fun c12 => ?_)
    · exact absurd (show nI (slo S k) < nI 1 from c12) (nI_nlt hl1 (by omega))
    · refine V_aload_n (pc' := 16) d_PC_keepValue_15 rfl (by first | rfl | exact isR_rf _) rfl ?_
      refine V_getf (pc' := 19) d_PC_keepValue_16 fl_PC_174 rfl (by first | assumption | exact aset_self _ _ _ | exact apush_self _ _) (by rfl) ?_
      refine V_getf (pc' := 22) d_PC_keepValue_19 fl_PC_47 rfl (by first | assumption | exact aset_self _ _ _ | exact apush_self _ _) (by rfl) ?_
      refine V_bipush (pc' := 24) (v := 8) d_PC_keepValue_22 (by decide) rfl ?_
      refine V_icmp_gt (pc' := 27) (tgt := 45) d_PC_keepValue_24 (by decide) rfl (fun c24 => ?_) (fun c24 => ?_)
      · exact absurd (show nI 8 < nI (slo S k) from c24) (nI_nlt hl2 (by omega))
      · refine V_aload_n (pc' := 28) d_PC_keepValue_27 rfl (by first | rfl | exact isR_rf _) rfl ?_
        refine V_getf (pc' := 31) d_PC_keepValue_28 fl_PC_34 rfl (by first | assumption | exact aset_self _ _ _ | exact apush_self _ _) (by rfl) ?_
        refine V_aload_n (pc' := 32) d_PC_keepValue_31 rfl (by first | rfl | exact isR_rf _) rfl ?_
        refine V_getf (pc' := 35) d_PC_keepValue_32 fl_PC_174 rfl (by first | assumption | exact aset_self _ _ _ | exact apush_self _ _) (by rfl) ?_
        refine V_getf (pc' := 38) d_PC_keepValue_35 fl_PC_47 rfl (by first | assumption | exact aset_self _ _ _ | exact apush_self _ _) (by rfl) ?_
        refine V_iconst (pc' := 39) (v := 1) d_PC_keepValue_38 (by decide) rfl ?_
        refine V_isub (pc' := 40) d_PC_keepValue_39 rfl ?_
        rw [show nI (slv S (sso S k)) - 1 = nI (slo S k - 1) from pk_sub (a := slo S k) (b := 1) hl1]
        refine V_aload_n (pc' := 41) d_PC_keepValue_40 rfl (by first | rfl | exact isR_rf _) rfl ?_
        refine V_getf (pc' := 44) d_PC_keepValue_41 fl_PC_151 rfl (by first | assumption | exact aset_self _ _ _ | exact apush_self _ _) (by rfl) ?_
        -- at 44 lastore
        refine V_last (pc' := 45) d_PC_keepValue_44 rfl hpv rfl rfl (by omega) (arv_get (by omega)) ?_
        refine V_vret d_PC_keepValue_45 rfl (by first | decide | omega) (by first | decide | omega) ?_
        have h1 := JX_sh hJ (l := slo S k - 1) (by omega) (svl S k)
        rw [show slo S k - 1 + 1 = slo S k by omega] at h1
        exact ⟨rfl, h1⟩
theorem c_PC_keepPath (hJ : JX h0 h o B0 B S) (hw : WX S) {f n : Nat} (hf : f < ssz S) (hp : PV S n) (hok : ∀ p, p < n → ∃ k, okd S (some f) (spk S p) = some k) : Ct x y_PC_keepPath b_PC_keepPath 4 none 1 0 0 [.ref o, .ref (xs B (snm S f)), .int (nI n)] h (fun r h' => r = none ∧ JX h0 h' o B0 B (mkT S (spo S) (spr S) (fls S f n (fun l => if l = slo S f then svl S f else if l < 9 then 0 else ssh S l)))) := by
  obtain ⟨w1, w2, w3, w4, w5, w6, w7, w8, w9⟩ := id hw
  obtain ⟨v1, v2⟩ := id hp
  refine Ct_of (own := "PathCalls") (ini := false) rfl rfl (Nat.le_of_ble_eq_true rfl) (fun q => by cases q) ?_
  have lp2 : ∀ (d p : Nat), p + d = n → ∀ (g : AH) (sh : Nat → Int64), sh = fls S f p (fun l => if l = slo S f then svl S f else if l < 9 then 0 else ssh S l) → JX h0 g o B0 B (mkT S (spo S) (spr S) sh) → V x "PathCalls" b_PC_keepPath 4 (Option.none : Option Jvm.ClassFile.FieldType) false (rmd 1 0 0) 0 0 (fun r h' => r = none ∧ JX h0 h' o B0 B (mkT S (spo S) (spr S) (fls S f n (fun l => if l = slo S f then svl S f else if l < 9 then 0 else ssh S l)))) 28 [(0, .ref o), (1, .ref (xs B (snm S f))), (2, .int (nI n)), (3, .int (nI p))] [] g 0 0 := by
    intro d
    induction d with
    | zero =>
      intro p hpd g sh hsh hJ
      have e : p = n := by omega
      subst e
      refine V_iload_n (pc' := 29) d_PC_keepPath_28 rfl rfl ?_
      refine V_iload_n (pc' := 30) d_PC_keepPath_29 rfl rfl ?_
      refine V_icmp_ge (pc' := 33) (tgt := 70) d_PC_keepPath_30 (by decide) rfl (fun c30 => ?_) (fun c30 => ?_)
      · refine V_vret d_PC_keepPath_70 rfl (by first | decide | omega) (by first | decide | omega) ?_
        rw [← hsh]
        exact ⟨rfl, hJ⟩
      · exact absurd (Int32.le_refl _) c30
    | succ d ih =>
      intro p hpd g sh hsh hJ
      obtain ⟨ho, hka, hva, hpa, hba, hra, hpv, h8, h9, h10, h11, iv, ip, is⟩ := id hJ.1
      obtain ⟨p1, p2, p3, p4⟩ := v2 p (by omega)
      have hcp := h10 p (by omega)
      obtain ⟨k, ek⟩ := hok p (by omega)
      obtain ⟨k1, k2, k3, k4⟩ := okd_lt ek
      refine V_iload_n (pc' := 29) d_PC_keepPath_28 rfl rfl ?_
      refine V_iload_n (pc' := 30) d_PC_keepPath_29 rfl rfl ?_
      refine V_icmp_ge (pc' := 33) (tgt := 70) d_PC_keepPath_30 (by decide) rfl (fun c30 => ?_) (fun c30 => ?_)
      · exact absurd c30 (nI_ge (by omega) (by omega))
      · refine V_aload_n (pc' := 34) d_PC_keepPath_33 rfl (by first | rfl | exact isR_rf _) rfl ?_
        refine V_getf (pc' := 37) d_PC_keepPath_34 fl_PC_23 rfl (by first | assumption | exact aset_self _ _ _ | exact apush_self _ _) (by rfl) ?_
        refine V_iload_n (pc' := 38) d_PC_keepPath_37 rfl rfl ?_
        -- at 38 aaload
        refine V_aald (pc' := 39) d_PC_keepPath_38 rfl hpa rfl rfl (by omega) (arv_get (by omega)) ?_
        refine V_bipush (pc' := 41) (v := 8) d_PC_keepPath_39 (by decide) rfl ?_
        -- at 41 invokevirtual
        refine V_callV (pc' := 44) (As := [_]) (ci := 4) d_PC_keepPath_41 mv_PC_219 mw_Pt_has rfl rfl rfl (by simp [Value.category]) rfl (by first | assumption | exact aset_self _ _ _ | exact apush_self _ _) (c_Pt_has (c := scd S p) hcp) (by first | decide | omega) (by first | decide | omega) (by first | decide | omega) (by first | decide | omega) ?_
        rintro _ _ ⟨rfl, rfl⟩
        refine V_if_eq (pc' := 47) (tgt := 64) d_PC_keepPath_44 (by decide) rfl (fun c44 => ?_) (fun c44 => ?_)
        · first | refine V_iincN (pc' := 67) d_PC_keepPath_64 rfl (by decide) rfl ?_ | refine V_iinc (pc' := 67) d_PC_keepPath_64 rfl rfl (by decide) rfl ?_
          first | refine V_L [(0, _), (1, _), (2, _), (3, _)] ⟨rfl, rfl, rfl, rfl, trivial⟩ ?_ | (refine V_keep (by intro q hq e; simp only [List.mem_cons, List.not_mem_nil, or_false] at hq; rcases hq with rfl | rfl | rfl | rfl <;> first | rfl | exact va_rf_cat _ | exact absurd e (by decide)) ?_; refine V_L [(0, _), (1, _), (2, _), (3, _)] ⟨rfl, rfl, rfl, rfl, trivial⟩ ?_)
          refine V_goto (tgt := 28) d_PC_keepPath_67 (by decide) ?_
          refine ih (p + 1) (by omega) g sh ?_ hJ
          rw [fls, if_neg (by rw [ob_0.mp c44]; decide), hsh]
        · refine V_aload_n (pc' := 48) d_PC_keepPath_47 rfl (by first | rfl | exact isR_rf _) rfl ?_
          refine V_aload_n (pc' := 49) d_PC_keepPath_48 rfl (by first | rfl | exact isR_rf _) rfl ?_
          refine V_aload_n (pc' := 50) d_PC_keepPath_49 rfl (by first | rfl | exact isR_rf _) rfl ?_
          refine V_getf (pc' := 53) d_PC_keepPath_50 fl_PC_23 rfl (by first | assumption | exact aset_self _ _ _ | exact apush_self _ _) (by rfl) ?_
          refine V_iload_n (pc' := 54) d_PC_keepPath_53 rfl rfl ?_
          -- at 54 aaload
          refine V_aald (pc' := 55) d_PC_keepPath_54 rfl hpa rfl rfl (by omega) (arv_get (by omega)) ?_
          refine V_getf (pc' := 58) d_PC_keepPath_55 fl_PC_117 rfl (by first | assumption | exact aset_self _ _ _ | exact apush_self _ _) (by rfl) ?_
          rw [show spk (mkT S (spo S) (spr S) sh) p = spk S p from rfl, kr_pos p1, show va_rf (some (xk B (spk S p))) = .ref (xk B (spk S p)) from rfl]
          refine V_callS (pc' := 61) (As := [_, _]) d_PC_keepPath_58 ms_PC_199 mw_Sg_around rfl rfl rfl (by simp [Value.category]) (c_Sg_around (S := mkT S (spo S) (spr S) sh) (q := some f) (kd := spk S p) hJ.1 w1 w2 w3 w4 (fun j hj => by cases hj; exact hf) p1 p2 (w5 _ p1 p2).1) (by first | decide | omega) (by first | decide | omega) (by first | decide | omega) (by first | decide | omega) ?_
          rintro _ _ ⟨rfl, rfl⟩
          rw [show okd (mkT S (spo S) (spr S) sh) (some f) (spk S p) = some k from ek, show va_rf (rr B (mkT S (spo S) (spr S) sh) (some k)) = .ref (xs B (snm S k)) from rfl]
          refine V_callV (pc' := 64) (As := [_]) (ci := 0) d_PC_keepPath_61 mv_PC_226 mw_PC_keepValue rfl rfl rfl (by simp [Value.category]) rfl (by first | assumption | exact aset_self _ _ _ | exact apush_self _ _) (c_PC_keepValue (S := mkT S (spo S) (spr S) sh) (k := k) hJ hw (show k < ssz S by omega)) (by first | decide | omega) (by first | decide | omega) (by first | decide | omega) (by first | decide | omega) ?_
          rintro _ g2 ⟨rfl, hJ2⟩
          first | refine V_iincN (pc' := 67) d_PC_keepPath_64 rfl (by decide) rfl ?_ | refine V_iinc (pc' := 67) d_PC_keepPath_64 rfl rfl (by decide) rfl ?_
          first | refine V_L [(0, _), (1, _), (2, _), (3, _)] ⟨rfl, rfl, rfl, rfl, trivial⟩ ?_ | (refine V_keep (by intro q hq e; simp only [List.mem_cons, List.not_mem_nil, or_false] at hq; rcases hq with rfl | rfl | rfl | rfl <;> first | rfl | exact va_rf_cat _ | exact absurd e (by decide)) ?_; refine V_L [(0, _), (1, _), (2, _), (3, _)] ⟨rfl, rfl, rfl, rfl, trivial⟩ ?_)
          refine V_goto (tgt := 28) d_PC_keepPath_67 (by decide) ?_
          refine ih (p + 1) (by omega) g2 (fun i => if i = slv S (spk S p) then svl S k else sh i) ?_ ?_
          · rw [fls, if_pos (ob_nt c44), ek, hsh]
          · have e1 : slo S k = slv S (spk S p) := by unfold slo; rw [k2]
            rw [show slo (mkT S (spo S) (spr S) sh) k = slv S (spk S p) from e1] at hJ2
            exact hJ2
  have lp1 : ∀ (d l : Nat), l + d = 8 → ∀ (g : AH), JX h0 g o B0 B (mkT S (spo S) (spr S) (fun q => if 1 ≤ q ∧ q ≤ l then 0 else ssh S q)) → V x "PathCalls" b_PC_keepPath 4 (Option.none : Option Jvm.ClassFile.FieldType) false (rmd 1 0 0) 0 0 (fun r h' => r = none ∧ JX h0 h' o B0 B (mkT S (spo S) (spr S) (fls S f n (fun l => if l = slo S f then svl S f else if l < 9 then 0 else ssh S l)))) 2 [(0, .ref o), (1, .ref (xs B (snm S f))), (2, .int (nI n)), (3, .int (nI l))] [] g 0 0 := by
    intro d
    induction d with
    | zero =>
      intro l hl g hJ
      have e : l = 8 := by omega
      subst e
      have ho := hJ.1.1
      refine V_iload_n (pc' := 3) d_PC_keepPath_2 rfl rfl ?_
      refine V_bipush (pc' := 5) (v := 8) d_PC_keepPath_3 (by decide) rfl ?_
      refine V_icmp_ge (pc' := 8) (tgt := 21) d_PC_keepPath_5 (by decide) rfl (fun c5 => ?_) (fun c5 => ?_)
      · refine V_aload_n (pc' := 22) d_PC_keepPath_21 rfl (by first | rfl | exact isR_rf _) rfl ?_
        refine V_aload_n (pc' := 23) d_PC_keepPath_22 rfl (by first | rfl | exact isR_rf _) rfl ?_
        -- at 23 invokevirtual
        refine V_callV (pc' := 26) (As := [_]) (ci := 0) d_PC_keepPath_23 mv_PC_226 mw_PC_keepValue rfl rfl rfl (by simp [Value.category]) rfl (by first | assumption | exact aset_self _ _ _ | exact apush_self _ _) (c_PC_keepValue (S := mkT S (spo S) (spr S) (fun q => if 1 ≤ q ∧ q ≤ 8 then 0 else ssh S q)) (k := f) hJ hw hf) (by first | decide | omega) (by first | decide | omega) (by first | decide | omega) (by first | decide | omega) ?_
        rintro _ g2 ⟨rfl, hJ2⟩
        refine V_iconst (pc' := 27) (v := 0) d_PC_keepPath_26 (by decide) rfl ?_
        refine V_istore_n (pc' := 28) d_PC_keepPath_27 (by decide) rfl ?_
        first | refine V_L [(0, _), (1, _), (2, _), (3, _)] ⟨rfl, rfl, rfl, rfl, trivial⟩ ?_ | (refine V_keep (by intro q hq e; simp only [List.mem_cons, List.not_mem_nil, or_false] at hq; rcases hq with rfl | rfl | rfl | rfl <;> first | rfl | exact va_rf_cat _ | exact absurd e (by decide)) ?_; refine V_L [(0, _), (1, _), (2, _), (3, _)] ⟨rfl, rfl, rfl, rfl, trivial⟩ ?_)
        refine lp2 n 0 (by omega) g2 _ rfl ?_
        have h1 := JX_shc hJ2 (fun l => if l = slo S f then svl S f else if l < 9 then 0 else ssh S l) (fun l h1 h2 => ?_)
        · exact h1
        · show (if l = slo S f then svl S f else if l < 9 then 0 else ssh S l) = (if l = slo S f then svl S f else if 1 ≤ l ∧ l ≤ 8 then 0 else ssh S l)
          by_cases e : l = slo S f
          · rw [if_pos e, if_pos e]
          · rw [if_neg e, if_neg e, if_pos (by omega), if_pos ⟨h1, h2⟩]
      · exact absurd (by decide) c5
    | succ d ih =>
      intro l hl g hJ
      obtain ⟨ho, hka, hva, hpa, hba, hra, hpv, h8, h9, h10, h11, iv, ip, is⟩ := id hJ.1
      refine V_iload_n (pc' := 3) d_PC_keepPath_2 rfl rfl ?_
      refine V_bipush (pc' := 5) (v := 8) d_PC_keepPath_3 (by decide) rfl ?_
      refine V_icmp_ge (pc' := 8) (tgt := 21) d_PC_keepPath_5 (by decide) rfl (fun c5 => ?_) (fun c5 => ?_)
      · exact absurd (show nI 8 ≤ nI l from c5) (nI_ge (by omega) (by omega))
      · refine V_aload_n (pc' := 9) d_PC_keepPath_8 rfl (by first | rfl | exact isR_rf _) rfl ?_
        refine V_getf (pc' := 12) d_PC_keepPath_9 fl_PC_34 rfl (by first | assumption | exact aset_self _ _ _ | exact apush_self _ _) (by rfl) ?_
        refine V_iload_n (pc' := 13) d_PC_keepPath_12 rfl rfl ?_
        refine V_lconst (pc' := 14) (v := 0) d_PC_keepPath_13 (by decide) rfl ?_
        refine V_last (pc' := 15) d_PC_keepPath_14 rfl hpv rfl rfl (by omega) (arv_get (by omega)) ?_
        refine V_ex (fun g => JX h0 g o B0 B _) (JX_sh hJ (l := l) (by omega) 0) (fun g2 hJ2 => ?_)
        first | refine V_iincN (pc' := 18) d_PC_keepPath_15 rfl (by decide) rfl ?_ | refine V_iinc (pc' := 18) d_PC_keepPath_15 rfl rfl (by decide) rfl ?_
        first | refine V_L [(0, _), (1, _), (2, _), (3, _)] ⟨rfl, rfl, rfl, rfl, trivial⟩ ?_ | (refine V_keep (by intro q hq e; simp only [List.mem_cons, List.not_mem_nil, or_false] at hq; rcases hq with rfl | rfl | rfl | rfl <;> first | rfl | exact va_rf_cat _ | exact absurd e (by decide)) ?_; refine V_L [(0, _), (1, _), (2, _), (3, _)] ⟨rfl, rfl, rfl, rfl, trivial⟩ ?_)
        refine V_goto (tgt := 2) d_PC_keepPath_18 (by decide) ?_
        refine ih (l + 1) (by omega) g2 ?_
        have e : (fun q => if 1 ≤ q ∧ q ≤ l + 1 then (0 : Int64) else ssh S q) = (fun i => if i = l + 1 then 0 else if 1 ≤ i ∧ i ≤ l then 0 else ssh S i) := by
          funext q
          by_cases q1 : q = l + 1
          · rw [if_pos q1, if_pos ⟨by omega, by omega⟩]
          · rw [if_neg q1]
            by_cases q2 : 1 ≤ q ∧ q ≤ l
            · rw [if_pos q2, if_pos ⟨q2.1, by omega⟩]
            · rw [if_neg q2, if_neg (by omega)]
        rw [e]
        exact hJ2
  refine V_iconst (pc' := 1) (v := 0) d_PC_keepPath_0 (by decide) rfl ?_
  refine V_istore_n (pc' := 2) d_PC_keepPath_1 (by decide) rfl ?_
  first | refine V_L [(0, _), (1, _), (2, _), (3, _)] ⟨rfl, rfl, rfl, rfl, trivial⟩ ?_ | (refine V_keep (by intro q hq e; simp only [List.mem_cons, List.not_mem_nil, or_false] at hq; rcases hq with rfl | rfl | rfl <;> first | rfl | exact va_rf_cat _ | exact absurd e (by decide)) ?_; refine V_L [(0, _), (1, _), (2, _), (3, _)] ⟨rfl, rfl, rfl, rfl, trivial⟩ ?_)
  refine lp1 8 0 (by omega) h ?_
  have e : (fun q => if 1 ≤ q ∧ q ≤ 0 then (0 : Int64) else ssh S q) = ssh S := by
    funext q
    rw [if_neg (by omega)]
  rw [e]
  exact hJ
end X7
