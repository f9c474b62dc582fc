-- the class's small methods
section X1
variable {x : CX} {h : AH} {o : Nat} {B : XB} {S : PS}
theorem c_Kd_liesBelow (hX : IX h o B S) (hkc : skc S ≤ 20) {a b : Nat} (ha : 1 ≤ a) (ha2 : a ≤ skc S) (hb : 1 ≤ b) (hb2 : b ≤ skc S) (hd : ∀ k, 1 ≤ k → k ≤ skc S → sab S k < k) : Cr x y_Kd_liesBelow b_Kd_liesBelow 3 (some .boolean) 0 [.ref (xk B a), .ref (xk B b)] h (.int (ob (isb S a b))) := by
  obtain ⟨ho, hka, hva, hpa, hba, hra, hpv, h8, h9, h10, h11, iv, ip, is⟩ := id hX
  have hka2 := h8 a ha ha2
  refine Ct_of (own := "PathCalls$Kind") (ini := false) rfl rfl (Nat.le_of_ble_eq_true rfl) (fun q => by cases q) ?_
  have loop : ∀ (n k : Nat), k < n → k ≤ skc S → isb S a b = blw (sab S) b n k → V x "PathCalls$Kind" b_Kd_liesBelow 3 (Option.some .boolean) false (rmd 0 0 0) 0 0 (fun r h' => r = some (.int (ob (isb S a b))) ∧ h = h') 5 [(0, .ref (xk B a)), (1, .ref (xk B b)), (2, va_rf (kr B k))] [] h 0 0 := by
    intro n
    induction n with
    | zero => intro k hk; omega
    | succ n ih =>
      intro k hk hk2 he
      refine V_aload_n (pc' := 6) d_Kd_liesBelow_5 rfl (by first | rfl | exact isR_rf _) rfl ?_
      refine V_ifnull (pc' := 9) (tgt := 24) d_Kd_liesBelow_6 (by decide) rfl (fun c6 => ?_) (fun a6 c6 => ?_)
      · refine V_iconst (pc' := 25) (v := 0) d_Kd_liesBelow_24 (by decide) rfl ?_
        refine V_zret d_Kd_liesBelow_25 rfl (by first | rfl | exact ob_nar _) (by first | decide | omega) (by first | decide | omega) ?_
        have : isb S a b = false := by rw [he, blw, if_pos (kr_none c6)]
        rw [this]; exact ⟨rfl, rfl⟩
      · obtain ⟨k0, rfl⟩ := kr_some c6
        rw [c6]
        have hkk := h8 k (by omega) hk2
        refine V_aload_n (pc' := 10) d_Kd_liesBelow_9 rfl (by first | rfl | exact isR_rf _) rfl ?_
        refine V_aload_n (pc' := 11) d_Kd_liesBelow_10 rfl (by first | rfl | exact isR_rf _) rfl ?_
        refine V_acmp_ne (pc' := 14) (tgt := 16) (rx := (some (xk B k))) (ry := (some (xk B b))) d_Kd_liesBelow_11 (by decide) rfl (fun c11 => ?_) (fun c11 => ?_)
        · have hne : ¬ k = b := fun q => c11 (by rw [q])
          refine V_aload_n (pc' := 17) d_Kd_liesBelow_16 rfl (by first | rfl | exact isR_rf _) rfl ?_
          refine V_getf (pc' := 20) d_Kd_liesBelow_17 fl_Kd_21 rfl (by first | assumption | exact aset_self _ _ _ | exact apush_self _ _) (by rfl) ?_
          refine V_astore_n (pc' := 21) d_Kd_liesBelow_20 (by first | rfl | exact isR_rf _) (by decide) rfl ?_
          first | refine V_L [(0, _), (1, _), (2, _)] ⟨rfl, rfl, rfl, trivial⟩ ?_ | (refine V_keep (by intro q hq e; simp only [List.mem_cons, List.not_mem_nil, or_false] at hq; rcases hq with rfl | rfl | rfl <;> first | rfl | exact va_rf_cat _ | exact absurd e (by decide)) ?_; refine V_L [(0, _), (1, _), (2, _)] ⟨rfl, rfl, rfl, trivial⟩ ?_)
          refine V_goto (tgt := 5) d_Kd_liesBelow_21 (by decide) ?_
          have := hd k (by omega) hk2
          refine ih (sab S k) (by omega) (by omega) ?_
          rw [he, blw, if_neg k0, if_neg hne]
        · refine V_iconst (pc' := 15) (v := 1) d_Kd_liesBelow_14 (by decide) rfl ?_
          refine V_zret d_Kd_liesBelow_15 rfl (by first | rfl | exact ob_nar _) (by first | decide | omega) (by first | decide | omega) ?_
          have e : k = b := (IX_kinj hX hkc (by omega) hk2 hb hb2).mp (Option.some.inj c11)
          have : isb S a b = true := by rw [he, blw, if_neg k0, if_pos e]
          rw [this]; exact ⟨rfl, rfl⟩
  refine V_aload_n (pc' := 1) d_Kd_liesBelow_0 rfl (by first | rfl | exact isR_rf _) rfl ?_
  refine V_getf (pc' := 4) d_Kd_liesBelow_1 fl_Kd_21 rfl (by first | assumption | exact aset_self _ _ _ | exact apush_self _ _) (by rfl) ?_
  refine V_astore_n (pc' := 5) d_Kd_liesBelow_4 (by first | rfl | exact isR_rf _) (by decide) rfl ?_
  first | refine V_L [(0, _), (1, _), (2, _)] ⟨rfl, rfl, rfl, trivial⟩ ?_ | (refine V_keep (by intro q hq e; simp only [List.mem_cons, List.not_mem_nil, or_false] at hq; rcases hq with rfl | rfl <;> first | rfl | exact va_rf_cat _ | exact absurd e (by decide)) ?_; refine V_L [(0, _), (1, _), (2, _)] ⟨rfl, rfl, rfl, trivial⟩ ?_)
  have := hd a ha ha2
  exact loop 21 (sab S a) (by omega) (by omega) rfl
theorem c_Sg_around (hX : IX h o B S) (hkc : skc S ≤ 20) (hN : Nm S) (hT : Tr S) (hso : ∀ i, i < ssz S → 1 ≤ sso S i ∧ sso S i ≤ skc S) {q : Option Nat} (hq : ∀ i, q = some i → i < ssz S) {kd : Nat} (hk1 : 1 ≤ kd) (hk2 : kd ≤ skc S) (hl : 1 ≤ slv S kd) : Cr x y_Sg_around b_Sg_around 3 (some (.object "PathCalls$Segment")) 0 [va_rf (rr B S q), .ref (xk B kd)] h (va_rf (rr B S (okd S q kd))) := by
  obtain ⟨ho, hka, hva, hpa, hba, hra, hpv, h8, h9, h10, h11, iv, ip, is⟩ := id hX
  refine Ct_of (own := "PathCalls$Segment") (ini := false) rfl rfl (by simp [lg_sl, va_rf_cat, cat_ref, cat_int, cat_long, cat_null]) (fun q => by cases q) ?_
  refine V_eq (L' := [(0, va_rf (rr B S q)), (1, .ref (xk B kd))]) (by simp [lv_args, va_rf_cat, cat_ref, cat_int, cat_long, cat_null]) rfl rfl ?_
  have loop : ∀ (n : Nat) (c : Option Nat), (∀ i, c = some i → i < ssz S ∧ slo S i ≤ n) → okd S q kd = okd S c kd → V x "PathCalls$Segment" b_Sg_around 3 (Option.some (.object "PathCalls$Segment")) false (rmd 0 0 0) 0 0 (fun r h' => r = some (va_rf (rr B S (okd S q kd))) ∧ h = h') 2 [(0, va_rf (rr B S q)), (1, .ref (xk B kd)), (2, va_rf (rr B S c))] [] h 0 0 := by
    intro n
    induction n with
    | zero =>
      intro c hc he
      cases c with
      | none =>
        refine V_aload_n (pc' := 3) d_Sg_around_2 rfl (by first | rfl | exact isR_rf _) rfl ?_
        refine V_ifnull (pc' := 6) (tgt := 24) (r := (rr B S none)) d_Sg_around_3 (by decide) rfl (fun c3 => ?_) (fun a3 c3 => ?_)
        · refine V_null (pc' := 25) d_Sg_around_24 rfl ?_
          refine V_aret d_Sg_around_25 rfl (by first | rfl | exact isR_rf _) (by first | decide | omega) (by first | decide | omega) ?_
          rw [he]; exact ⟨rfl, rfl⟩
        · cases c3
      | some i =>
        have := hc i rfl
        have := hT.2.2 i this.1
        omega
    | succ n ih =>
      intro c hc he
      cases c with
      | none =>
        refine V_aload_n (pc' := 3) d_Sg_around_2 rfl (by first | rfl | exact isR_rf _) rfl ?_
        refine V_ifnull (pc' := 6) (tgt := 24) (r := (rr B S none)) d_Sg_around_3 (by decide) rfl (fun c3 => ?_) (fun a3 c3 => ?_)
        · refine V_null (pc' := 25) d_Sg_around_24 rfl ?_
          refine V_aret d_Sg_around_25 rfl (by first | rfl | exact isR_rf _) (by first | decide | omega) (by first | decide | omega) ?_
          rw [he]; exact ⟨rfl, rfl⟩
        · cases c3
      | some i =>
        obtain ⟨hi, hin⟩ := hc i rfl
        obtain ⟨s1, s2⟩ := hso i hi
        have hcell := h11 i hi
        refine V_aload_n (pc' := 3) d_Sg_around_2 rfl (by first | rfl | exact isR_rf _) rfl ?_
        refine V_ifnull (pc' := 6) (tgt := 24) (r := (rr B S (some i))) d_Sg_around_3 (by decide) rfl (fun c3 => ?_) (fun a3 c3 => ?_)
        · cases c3
        · clear c3 a3
          rw [show va_rf (rr B S (some i)) = .ref (xs B (snm S i)) from rfl]
          refine V_aload_n (pc' := 7) d_Sg_around_6 rfl (by first | rfl | exact isR_rf _) rfl ?_
          refine V_getf (pc' := 10) d_Sg_around_7 fl_Sg_7 rfl (by first | assumption | exact aset_self _ _ _ | exact apush_self _ _) (by rfl) ?_
          refine V_aload_n (pc' := 11) d_Sg_around_10 rfl (by first | rfl | exact isR_rf _) rfl ?_
          refine V_acmp_ne (pc' := 14) (tgt := 16) (rx := (some (xk B (sso S i)))) (ry := (some (xk B kd))) d_Sg_around_11 (by decide) rfl (fun c11 => ?_) (fun c11 => ?_)
          · have hne : ¬ sso S i = kd := fun z => c11 (by rw [z])
            refine V_aload_n (pc' := 17) d_Sg_around_16 rfl (by first | rfl | exact isR_rf _) rfl ?_
            refine V_getf (pc' := 20) d_Sg_around_17 fl_Sg_13 rfl (by first | assumption | exact aset_self _ _ _ | exact apush_self _ _) (by rfl) ?_
            rw [sr_par hN hT hi]
            refine V_astore_n (pc' := 21) d_Sg_around_20 (by first | rfl | exact isR_rf _) (by decide) rfl ?_
            first | refine V_L [(0, _), (1, _), (2, _)] ⟨rfl, rfl, rfl, trivial⟩ ?_ | (refine V_keep (by intro q hq e; simp only [List.mem_cons, List.not_mem_nil, or_false] at hq; rcases hq with rfl | rfl | rfl <;> first | rfl | exact va_rf_cat _ | exact absurd e (by decide)) ?_; refine V_L [(0, _), (1, _), (2, _)] ⟨rfl, rfl, rfl, trivial⟩ ?_)
            refine V_goto (tgt := 2) d_Sg_around_21 (by decide) ?_
            refine ih _ ?_ ?_
            · intro j hj
              split at hj
              · rename_i c2
                cases hj
                obtain ⟨p1, p2⟩ := hT.par_lev hi c2
                exact ⟨by omega, by omega⟩
              · cases hj
            · rw [he, okd_par hT hi hl hne]
              by_cases c2 : 2 ≤ slo S i
              · rw [if_pos c2, if_pos c2]
              · rw [if_neg c2, if_neg c2]; rfl
          · refine V_aload_n (pc' := 15) d_Sg_around_14 rfl (by first | rfl | exact isR_rf _) rfl ?_
            refine V_aret d_Sg_around_15 rfl (by first | rfl | exact isR_rf _) (by first | decide | omega) (by first | decide | omega) ?_
            have e : sso S i = kd := (IX_kinj hX hkc s1 s2 hk1 hk2).mp (Option.some.inj c11)
            rw [he, ← e, okd_self]
            exact ⟨rfl, rfl⟩
  refine V_aload_n (pc' := 1) d_Sg_around_0 rfl (by first | rfl | exact isR_rf _) rfl ?_
  refine V_astore_n (pc' := 2) d_Sg_around_1 (by first | rfl | exact isR_rf _) (by decide) rfl ?_
  first | refine V_L [(0, _), (1, _), (2, _)] ⟨rfl, rfl, rfl, trivial⟩ ?_ | (refine V_keep (by intro q hq e; simp only [List.mem_cons, List.not_mem_nil, or_false] at hq; rcases hq with rfl | rfl <;> first | rfl | exact va_rf_cat _ | exact absurd e (by decide)) ?_; refine V_L [(0, _), (1, _), (2, _)] ⟨rfl, rfl, rfl, trivial⟩ ?_)
  exact loop (match q with | none => 0 | some i => slo S i) q (fun i hi => by subst hi; exact ⟨hq i rfl, Nat.le_refl _⟩) rfl
theorem c_Sg_isOrLiesIn (hX : IX h o B S) (hN : Nm S) (hT : Tr S) {q : Option Nat} (hq : ∀ i, q = some i → i < ssz S) {t : Nat} (ht : t < ssz S) : Cr x y_Sg_isOrLiesIn b_Sg_isOrLiesIn 3 (some .boolean) 0 [va_rf (rr B S q), .ref (xs B (snm S t))] h (.int (ob (inR S t q))) := by
  obtain ⟨ho, hka, hva, hpa, hba, hra, hpv, h8, h9, h10, h11, iv, ip, is⟩ := id hX
  refine Ct_of (own := "PathCalls$Segment") (ini := false) rfl rfl (by simp [lg_sl, va_rf_cat, cat_ref, cat_int, cat_long, cat_null]) (fun q => by cases q) ?_
  refine V_eq (L' := [(0, va_rf (rr B S q)), (1, .ref (xs B (snm S t)))]) (by simp [lv_args, va_rf_cat, cat_ref, cat_int, cat_long, cat_null]) rfl rfl ?_
  have loop : ∀ (n : Nat) (c : Option Nat), (∀ i, c = some i → i < ssz S ∧ slo S i ≤ n) → inR S t q = inR S t c → V x "PathCalls$Segment" b_Sg_isOrLiesIn 3 (Option.some .boolean) false (rmd 0 0 0) 0 0 (fun r h' => r = some (.int (ob (inR S t q))) ∧ h = h') 2 [(0, va_rf (rr B S q)), (1, .ref (xs B (snm S t))), (2, va_rf (rr B S c))] [] h 0 0 := by
    intro n
    induction n with
    | zero =>
      intro c hc he
      cases c with
      | none =>
        refine V_aload_n (pc' := 3) d_Sg_isOrLiesIn_2 rfl (by first | rfl | exact isR_rf _) rfl ?_
        refine V_ifnull (pc' := 6) (tgt := 21) (r := (rr B S none)) d_Sg_isOrLiesIn_3 (by decide) rfl (fun c3 => ?_) (fun a3 c3 => ?_)
        · refine V_iconst (pc' := 22) (v := 0) d_Sg_isOrLiesIn_21 (by decide) rfl ?_
          refine V_zret d_Sg_isOrLiesIn_22 rfl (by first | rfl | exact ob_nar _) (by first | decide | omega) (by first | decide | omega) ?_
          rw [he]; exact ⟨rfl, rfl⟩
        · cases c3
      | some i =>
        have := hc i rfl
        have := hT.2.2 i this.1
        omega
    | succ n ih =>
      intro c hc he
      cases c with
      | none =>
        refine V_aload_n (pc' := 3) d_Sg_isOrLiesIn_2 rfl (by first | rfl | exact isR_rf _) rfl ?_
        refine V_ifnull (pc' := 6) (tgt := 21) (r := (rr B S none)) d_Sg_isOrLiesIn_3 (by decide) rfl (fun c3 => ?_) (fun a3 c3 => ?_)
        · refine V_iconst (pc' := 22) (v := 0) d_Sg_isOrLiesIn_21 (by decide) rfl ?_
          refine V_zret d_Sg_isOrLiesIn_22 rfl (by first | rfl | exact ob_nar _) (by first | decide | omega) (by first | decide | omega) ?_
          rw [he]; exact ⟨rfl, rfl⟩
        · cases c3
      | some i =>
        obtain ⟨hi, hin⟩ := hc i rfl
        have hcell := h11 i hi
        refine V_aload_n (pc' := 3) d_Sg_isOrLiesIn_2 rfl (by first | rfl | exact isR_rf _) rfl ?_
        refine V_ifnull (pc' := 6) (tgt := 21) (r := (rr B S (some i))) d_Sg_isOrLiesIn_3 (by decide) rfl (fun c3 => ?_) (fun a3 c3 => ?_)
        · cases c3
        · clear c3 a3
          rw [show va_rf (rr B S (some i)) = .ref (xs B (snm S i)) from rfl]
          refine V_aload_n (pc' := 7) d_Sg_isOrLiesIn_6 rfl (by first | rfl | exact isR_rf _) rfl ?_
          refine V_aload_n (pc' := 8) d_Sg_isOrLiesIn_7 rfl (by first | rfl | exact isR_rf _) rfl ?_
          refine V_acmp_ne (pc' := 11) (tgt := 13) (rx := (some (xs B (snm S i)))) (ry := (some (xs B (snm S t)))) d_Sg_isOrLiesIn_8 (by decide) rfl (fun c8 => ?_) (fun c8 => ?_)
          · have hne : ¬ i = t := fun z => c8 (by rw [z])
            refine V_aload_n (pc' := 14) d_Sg_isOrLiesIn_13 rfl (by first | rfl | exact isR_rf _) rfl ?_
            refine V_getf (pc' := 17) d_Sg_isOrLiesIn_14 fl_Sg_13 rfl (by first | assumption | exact aset_self _ _ _ | exact apush_self _ _) (by rfl) ?_
            rw [sr_par hN hT hi]
            refine V_astore_n (pc' := 18) d_Sg_isOrLiesIn_17 (by first | rfl | exact isR_rf _) (by decide) rfl ?_
            first | refine V_L [(0, _), (1, _), (2, _)] ⟨rfl, rfl, rfl, trivial⟩ ?_ | (refine V_keep (by intro q hq e; simp only [List.mem_cons, List.not_mem_nil, or_false] at hq; rcases hq with rfl | rfl | rfl <;> first | rfl | exact va_rf_cat _ | exact absurd e (by decide)) ?_; refine V_L [(0, _), (1, _), (2, _)] ⟨rfl, rfl, rfl, trivial⟩ ?_)
            refine V_goto (tgt := 2) d_Sg_isOrLiesIn_18 (by decide) ?_
            refine ih _ ?_ ?_
            · intro j hj
              split at hj
              · rename_i c2
                cases hj
                obtain ⟨p1, p2⟩ := hT.par_lev hi c2
                exact ⟨by omega, by omega⟩
              · cases hj
            · rw [he, inR_par hT ht hi hne]
              by_cases c2 : 2 ≤ slo S i
              · rw [if_pos c2, if_pos c2]
              · rw [if_neg c2, if_neg c2]; rfl
          · refine V_iconst (pc' := 12) (v := 1) d_Sg_isOrLiesIn_11 (by decide) rfl ?_
            refine V_zret d_Sg_isOrLiesIn_12 rfl (by first | rfl | exact ob_nar _) (by first | decide | omega) (by first | decide | omega) ?_
            have e : i = t := is i t hi ht (Option.some.inj c8)
            rw [he, e, inR_self]
            exact ⟨rfl, rfl⟩
  refine V_aload_n (pc' := 1) d_Sg_isOrLiesIn_0 rfl (by first | rfl | exact isR_rf _) rfl ?_
  refine V_astore_n (pc' := 2) d_Sg_isOrLiesIn_1 (by first | rfl | exact isR_rf _) (by decide) rfl ?_
  first | refine V_L [(0, _), (1, _), (2, _)] ⟨rfl, rfl, rfl, trivial⟩ ?_ | (refine V_keep (by intro q hq e; simp only [List.mem_cons, List.not_mem_nil, or_false] at hq; rcases hq with rfl | rfl <;> first | rfl | exact va_rf_cat _ | exact absurd e (by decide)) ?_; refine V_L [(0, _), (1, _), (2, _)] ⟨rfl, rfl, rfl, trivial⟩ ?_)
  exact loop (match q with | none => 0 | some i => slo S i) q (fun i hi => by subst hi; exact ⟨hq i rfl, Nat.le_refl _⟩) rfl
theorem c_Sg_isTwinOf {a b k1 k2 : Nat} {p1 p2 : Option Nat} {y1 y2 z1 z2 : Value} (ha : h.2 a = some (2, [.ref k1, va_rf p1, y1, z1])) (hb : h.2 b = some (2, [.ref k2, va_rf p2, y2, z2])) : Cr x y_Sg_isTwinOf b_Sg_isTwinOf 2 (some .boolean) 0 [.ref a, .ref b] h (.int (ob (decide (k1 = k2 ∧ p1 = p2)))) := by
  refine Ct_of (own := "PathCalls$Segment") (ini := false) rfl rfl (Nat.le_of_ble_eq_true rfl) (fun q => by cases q) ?_
  refine V_aload_n (pc' := 1) d_Sg_isTwinOf_0 rfl (by first | rfl | exact isR_rf _) rfl ?_
  refine V_getf (pc' := 4) d_Sg_isTwinOf_1 fl_Sg_7 rfl (by first | assumption | exact aset_self _ _ _ | exact apush_self _ _) (by rfl) ?_
  refine V_aload_n (pc' := 5) d_Sg_isTwinOf_4 rfl (by first | rfl | exact isR_rf _) rfl ?_
  refine V_getf (pc' := 8) d_Sg_isTwinOf_5 fl_Sg_7 rfl (by first | assumption | exact aset_self _ _ _ | exact apush_self _ _) (by rfl) ?_
  refine V_acmp_ne (pc' := 11) (tgt := 26) (rx := (some k1)) (ry := (some k2)) d_Sg_isTwinOf_8 (by decide) rfl (fun c8 => ?_) (fun c8 => ?_)
  · refine V_iconst (pc' := 27) (v := 0) d_Sg_isTwinOf_26 (by decide) rfl ?_
    refine V_zret d_Sg_isTwinOf_27 rfl (by first | rfl | exact ob_nar _) (by first | decide | omega) (by first | decide | omega) ?_
    rw [decide_eq_false (fun q => c8 (by rw [q.1]))]; exact ⟨rfl, rfl⟩
  · have e := Option.some.inj c8
    refine V_aload_n (pc' := 12) d_Sg_isTwinOf_11 rfl (by first | rfl | exact isR_rf _) rfl ?_
    refine V_getf (pc' := 15) d_Sg_isTwinOf_12 fl_Sg_13 rfl (by first | assumption | exact aset_self _ _ _ | exact apush_self _ _) (by rfl) ?_
    refine V_aload_n (pc' := 16) d_Sg_isTwinOf_15 rfl (by first | rfl | exact isR_rf _) rfl ?_
    refine V_getf (pc' := 19) d_Sg_isTwinOf_16 fl_Sg_13 rfl (by first | assumption | exact aset_self _ _ _ | exact apush_self _ _) (by rfl) ?_
    refine V_acmp_ne (pc' := 22) (tgt := 26) (rx := p1) (ry := p2) d_Sg_isTwinOf_19 (by decide) rfl (fun c19 => ?_) (fun c19 => ?_)
    · refine V_iconst (pc' := 27) (v := 0) d_Sg_isTwinOf_26 (by decide) rfl ?_
      refine V_zret d_Sg_isTwinOf_27 rfl (by first | rfl | exact ob_nar _) (by first | decide | omega) (by first | decide | omega) ?_
      rw [decide_eq_false (fun q => c19 q.2)]; exact ⟨rfl, rfl⟩
    · refine V_iconst (pc' := 23) (v := 1) d_Sg_isTwinOf_22 (by decide) rfl ?_
      refine V_goto (tgt := 27) d_Sg_isTwinOf_23 (by decide) ?_
      refine V_zret d_Sg_isTwinOf_27 rfl (by first | rfl | exact ob_nar _) (by first | decide | omega) (by first | decide | omega) ?_
      rw [decide_eq_true ⟨e, c19⟩]; exact ⟨rfl, rfl⟩
theorem c_Sg_isEqualTwinOf {a b k1 k2 : Nat} {p1 p2 : Option Nat} {y1 y2 : Int64} {z1 z2 : Value} (ha : h.2 a = some (2, [.ref k1, va_rf p1, .long y1, z1])) (hb : h.2 b = some (2, [.ref k2, va_rf p2, .long y2, z2])) : Cr x y_Sg_isEqualTwinOf b_Sg_isEqualTwinOf 2 (some .boolean) 1 [.ref a, .ref b] h (.int (ob (decide ((k1 = k2 ∧ p1 = p2) ∧ y1 = y2)))) := by
  refine Ct_of (own := "PathCalls$Segment") (ini := false) rfl rfl (Nat.le_of_ble_eq_true rfl) (fun q => by cases q) ?_
  refine V_aload_n (pc' := 1) d_Sg_isEqualTwinOf_0 rfl (by first | rfl | exact isR_rf _) rfl ?_
  refine V_aload_n (pc' := 2) d_Sg_isEqualTwinOf_1 rfl (by first | rfl | exact isR_rf _) rfl ?_
  -- at 2 invokevirtual
  refine V_callV (pc' := 5) (As := [_]) (ci := 2) d_Sg_isEqualTwinOf_2 mv_Sg_24 mw_Sg_isTwinOf rfl rfl rfl (by simp [Value.category]) rfl (by first | assumption | exact aset_self _ _ _ | exact apush_self _ _) (c_Sg_isTwinOf ha hb) (by first | decide | omega) (by first | decide | omega) (by first | decide | omega) (by first | decide | omega) ?_
  rintro _ _ ⟨rfl, rfl⟩
  refine V_if_eq (pc' := 8) (tgt := 24) d_Sg_isEqualTwinOf_5 (by decide) rfl (fun c5 => ?_) (fun c5 => ?_)
  · refine V_iconst (pc' := 25) (v := 0) d_Sg_isEqualTwinOf_24 (by decide) rfl ?_
    refine V_zret d_Sg_isEqualTwinOf_25 rfl (by first | rfl | exact ob_nar _) (by first | decide | omega) (by first | decide | omega) ?_
    have q : ¬ (k1 = k2 ∧ p1 = p2) := by
      have := ob_0.mp c5
      simpa using this
    rw [decide_eq_false (fun z => q z.1)]; exact ⟨rfl, rfl⟩
  · have q : k1 = k2 ∧ p1 = p2 := by
      have := ob_nt c5
      simpa using this
    refine V_aload_n (pc' := 9) d_Sg_isEqualTwinOf_8 rfl (by first | rfl | exact isR_rf _) rfl ?_
    refine V_getf (pc' := 12) d_Sg_isEqualTwinOf_9 fl_Sg_17 rfl (by first | assumption | exact aset_self _ _ _ | exact apush_self _ _) (by rfl) ?_
    refine V_aload_n (pc' := 13) d_Sg_isEqualTwinOf_12 rfl (by first | rfl | exact isR_rf _) rfl ?_
    refine V_getf (pc' := 16) d_Sg_isEqualTwinOf_13 fl_Sg_17 rfl (by first | assumption | exact aset_self _ _ _ | exact apush_self _ _) (by rfl) ?_
    refine V_lcmp (pc' := 17) d_Sg_isEqualTwinOf_16 rfl ?_
    refine V_if_ne (pc' := 20) (tgt := 24) d_Sg_isEqualTwinOf_17 (by decide) rfl (fun c17 => ?_) (fun c17 => ?_)
    · refine V_iconst (pc' := 25) (v := 0) d_Sg_isEqualTwinOf_24 (by decide) rfl ?_
      refine V_zret d_Sg_isEqualTwinOf_25 rfl (by first | rfl | exact ob_nar _) (by first | decide | omega) (by first | decide | omega) ?_
      rw [decide_eq_false (fun z => c17 ((lg_cmp_eq _ _).mpr z.2))]; exact ⟨rfl, rfl⟩
    · refine V_iconst (pc' := 21) (v := 1) d_Sg_isEqualTwinOf_20 (by decide) rfl ?_
      refine V_goto (tgt := 25) d_Sg_isEqualTwinOf_21 (by decide) ?_
      refine V_zret d_Sg_isEqualTwinOf_25 rfl (by first | rfl | exact ob_nar _) (by first | decide | omega) (by first | decide | omega) ?_
      rw [decide_eq_true ⟨q, (lg_cmp_eq _ _).mp c17⟩]; exact ⟨rfl, rfl⟩
theorem c_Pt_has {a c : Nat} {d : Int32} {y1 y2 y3 : Value} (ha : h.2 a = some (4, [y1, y2, y3, .int (nI c)])) : Cr x y_Pt_has b_Pt_has 2 (some .boolean) 0 [.ref a, .int d] h (.int (ob (cb c d))) := by
  refine Ct_of (own := "PathCalls$Part") (ini := false) rfl rfl (Nat.le_of_ble_eq_true rfl) (fun q => by cases q) ?_
  refine V_aload_n (pc' := 1) d_Pt_has_0 rfl (by first | rfl | exact isR_rf _) rfl ?_
  refine V_getf (pc' := 4) d_Pt_has_1 fl_Pt_21 rfl (by first | assumption | exact aset_self _ _ _ | exact apush_self _ _) (by rfl) ?_
  refine V_iload_n (pc' := 5) d_Pt_has_4 rfl rfl ?_
  refine V_iand (pc' := 6) d_Pt_has_5 rfl ?_
  refine V_if_eq (pc' := 9) (tgt := 13) d_Pt_has_6 (by decide) rfl (fun c6 => ?_) (fun c6 => ?_)
  · refine V_iconst (pc' := 14) (v := 0) d_Pt_has_13 (by decide) rfl ?_
    refine V_zret d_Pt_has_14 rfl (by first | rfl | exact ob_nar _) (by first | decide | omega) (by first | decide | omega) ?_
    rw [(cb_z c d).mp c6]; exact ⟨rfl, rfl⟩
  · refine V_iconst (pc' := 10) (v := 1) d_Pt_has_9 (by decide) rfl ?_
    refine V_goto (tgt := 14) d_Pt_has_10 (by decide) ?_
    refine V_zret d_Pt_has_14 rfl (by first | rfl | exact ob_nar _) (by first | decide | omega) (by first | decide | omega) ?_
    have : cb c d = true := by
      cases e : cb c d
      · exact absurd ((cb_z c d).mpr e) c6
      · rfl
    rw [this]; exact ⟨rfl, rfl⟩
theorem c_Pt_tells {p op : Nat} {a b : Int64} {y1 y4 : Value} (ho : op ≤ 6) (hp : h.2 p = some (4, [y1, .int (nI op), .long b, y4])) : Cr x y_Pt_tells b_Pt_tells 3 (some .boolean) 0 [.ref p, .long a] h (.int (ob (rel op a b))) := by
  refine Ct_of (own := "PathCalls$Part") (ini := false) rfl rfl (Nat.le_of_ble_eq_true rfl) (fun q => by cases q) ?_
  rcases (show op = 0 ∨ op = 1 ∨ op = 2 ∨ op = 3 ∨ op = 4 ∨ op = 5 ∨ op = 6 by omega) with rfl | rfl | rfl | rfl | rfl | rfl | rfl
  · refine V_aload_n (pc' := 1) d_Pt_tells_0 rfl (by first | rfl | exact isR_rf _) rfl ?_
    refine V_getf (pc' := 4) d_Pt_tells_1 fl_Pt_13 rfl (by first | assumption | exact aset_self _ _ _ | exact apush_self _ _) (by rfl) ?_
    -- at 4 tableswitch
    refine V_tableOut (tgt := 134) d_Pt_tells_4 (Or.inl (by decide)) (by decide) ?_
    refine V_iconst (pc' := 135) (v := 1) d_Pt_tells_134 (by decide) rfl ?_
    refine V_zret d_Pt_tells_135 rfl (by first | rfl | exact ob_nar _) (by first | decide | omega) (by first | decide | omega) ?_
    exact ⟨rfl, rfl⟩
  · refine V_aload_n (pc' := 1) d_Pt_tells_0 rfl (by first | rfl | exact isR_rf _) rfl ?_
    refine V_getf (pc' := 4) d_Pt_tells_1 fl_Pt_13 rfl (by first | assumption | exact aset_self _ _ _ | exact apush_self _ _) (by rfl) ?_
    -- at 4 tableswitch
    refine V_tableIn (off := 40) (tgt := 44) d_Pt_tells_4 (by decide) (by decide) rfl (by decide) ?_
    refine V_lload_n (pc' := 45) d_Pt_tells_44 rfl rfl ?_
    refine V_aload_n (pc' := 46) d_Pt_tells_45 rfl (by first | rfl | exact isR_rf _) rfl ?_
    refine V_getf (pc' := 49) d_Pt_tells_46 fl_Pt_17 rfl (by first | assumption | exact aset_self _ _ _ | exact apush_self _ _) (by rfl) ?_
    refine V_lcmp (pc' := 50) d_Pt_tells_49 rfl ?_
    refine V_if_ne (pc' := 53) (tgt := 57) d_Pt_tells_50 (by decide) rfl (fun c50 => ?_) (fun c50 => ?_)
    · refine V_iconst (pc' := 58) (v := 0) d_Pt_tells_57 (by decide) rfl ?_
      refine V_zret d_Pt_tells_58 rfl (by first | rfl | exact ob_nar _) (by first | decide | omega) (by first | decide | omega) ?_
      have : rel 1 a b = false := decide_eq_false (fun q => c50 ((lg_cmp_eq a b).mpr q))
      rw [this]; exact ⟨rfl, rfl⟩
    · refine V_iconst (pc' := 54) (v := 1) d_Pt_tells_53 (by decide) rfl ?_
      refine V_goto (tgt := 58) d_Pt_tells_54 (by decide) ?_
      refine V_zret d_Pt_tells_58 rfl (by first | rfl | exact ob_nar _) (by first | decide | omega) (by first | decide | omega) ?_
      have : rel 1 a b = true := decide_eq_true ((lg_cmp_eq a b).mp c50)
      rw [this]; exact ⟨rfl, rfl⟩
  · refine V_aload_n (pc' := 1) d_Pt_tells_0 rfl (by first | rfl | exact isR_rf _) rfl ?_
    refine V_getf (pc' := 4) d_Pt_tells_1 fl_Pt_13 rfl (by first | assumption | exact aset_self _ _ _ | exact apush_self _ _) (by rfl) ?_
    -- at 4 tableswitch
    refine V_tableIn (off := 55) (tgt := 59) d_Pt_tells_4 (by decide) (by decide) rfl (by decide) ?_
    refine V_lload_n (pc' := 60) d_Pt_tells_59 rfl rfl ?_
    refine V_aload_n (pc' := 61) d_Pt_tells_60 rfl (by first | rfl | exact isR_rf _) rfl ?_
    refine V_getf (pc' := 64) d_Pt_tells_61 fl_Pt_17 rfl (by first | assumption | exact aset_self _ _ _ | exact apush_self _ _) (by rfl) ?_
    refine V_lcmp (pc' := 65) d_Pt_tells_64 rfl ?_
    refine V_if_le (pc' := 68) (tgt := 72) d_Pt_tells_65 (by decide) rfl (fun c65 => ?_) (fun c65 => ?_)
    · refine V_iconst (pc' := 73) (v := 0) d_Pt_tells_72 (by decide) rfl ?_
      refine V_zret d_Pt_tells_73 rfl (by first | rfl | exact ob_nar _) (by first | decide | omega) (by first | decide | omega) ?_
      have : rel 2 a b = false := decide_eq_false (fun q => absurd ((lg_cmp_gt a b).mpr q) (Int32.not_lt.mpr c65))
      rw [this]; exact ⟨rfl, rfl⟩
    · refine V_iconst (pc' := 69) (v := 1) d_Pt_tells_68 (by decide) rfl ?_
      refine V_goto (tgt := 73) d_Pt_tells_69 (by decide) ?_
      refine V_zret d_Pt_tells_73 rfl (by first | rfl | exact ob_nar _) (by first | decide | omega) (by first | decide | omega) ?_
      have : rel 2 a b = true := decide_eq_true ((lg_cmp_gt a b).mp (Int32.not_le.mp c65))
      rw [this]; exact ⟨rfl, rfl⟩
  · refine V_aload_n (pc' := 1) d_Pt_tells_0 rfl (by first | rfl | exact isR_rf _) rfl ?_
    refine V_getf (pc' := 4) d_Pt_tells_1 fl_Pt_13 rfl (by first | assumption | exact aset_self _ _ _ | exact apush_self _ _) (by rfl) ?_
    -- at 4 tableswitch
    refine V_tableIn (off := 70) (tgt := 74) d_Pt_tells_4 (by decide) (by decide) rfl (by decide) ?_
    refine V_lload_n (pc' := 75) d_Pt_tells_74 rfl rfl ?_
    refine V_aload_n (pc' := 76) d_Pt_tells_75 rfl (by first | rfl | exact isR_rf _) rfl ?_
    refine V_getf (pc' := 79) d_Pt_tells_76 fl_Pt_17 rfl (by first | assumption | exact aset_self _ _ _ | exact apush_self _ _) (by rfl) ?_
    refine V_lcmp (pc' := 80) d_Pt_tells_79 rfl ?_
    refine V_if_ge (pc' := 83) (tgt := 87) d_Pt_tells_80 (by decide) rfl (fun c80 => ?_) (fun c80 => ?_)
    · refine V_iconst (pc' := 88) (v := 0) d_Pt_tells_87 (by decide) rfl ?_
      refine V_zret d_Pt_tells_88 rfl (by first | rfl | exact ob_nar _) (by first | decide | omega) (by first | decide | omega) ?_
      have : rel 3 a b = false := decide_eq_false (fun q => absurd ((lg_cmp_lt a b).mpr q) (Int32.not_lt.mpr c80))
      rw [this]; exact ⟨rfl, rfl⟩
    · refine V_iconst (pc' := 84) (v := 1) d_Pt_tells_83 (by decide) rfl ?_
      refine V_goto (tgt := 88) d_Pt_tells_84 (by decide) ?_
      refine V_zret d_Pt_tells_88 rfl (by first | rfl | exact ob_nar _) (by first | decide | omega) (by first | decide | omega) ?_
      have : rel 3 a b = true := decide_eq_true ((lg_cmp_lt a b).mp (Int32.not_le.mp c80))
      rw [this]; exact ⟨rfl, rfl⟩
  · refine V_aload_n (pc' := 1) d_Pt_tells_0 rfl (by first | rfl | exact isR_rf _) rfl ?_
    refine V_getf (pc' := 4) d_Pt_tells_1 fl_Pt_13 rfl (by first | assumption | exact aset_self _ _ _ | exact apush_self _ _) (by rfl) ?_
    -- at 4 tableswitch
    refine V_tableIn (off := 85) (tgt := 89) d_Pt_tells_4 (by decide) (by decide) rfl (by decide) ?_
    refine V_lload_n (pc' := 90) d_Pt_tells_89 rfl rfl ?_
    refine V_aload_n (pc' := 91) d_Pt_tells_90 rfl (by first | rfl | exact isR_rf _) rfl ?_
    refine V_getf (pc' := 94) d_Pt_tells_91 fl_Pt_17 rfl (by first | assumption | exact aset_self _ _ _ | exact apush_self _ _) (by rfl) ?_
    refine V_lcmp (pc' := 95) d_Pt_tells_94 rfl ?_
    refine V_if_lt (pc' := 98) (tgt := 102) d_Pt_tells_95 (by decide) rfl (fun c95 => ?_) (fun c95 => ?_)
    · refine V_iconst (pc' := 103) (v := 0) d_Pt_tells_102 (by decide) rfl ?_
      refine V_zret d_Pt_tells_103 rfl (by first | rfl | exact ob_nar _) (by first | decide | omega) (by first | decide | omega) ?_
      have : rel 4 a b = false := decide_eq_false (fun q => absurd ((lg_cmp_ge a b).mpr q) (Int32.not_le.mpr c95))
      rw [this]; exact ⟨rfl, rfl⟩
    · refine V_iconst (pc' := 99) (v := 1) d_Pt_tells_98 (by decide) rfl ?_
      refine V_goto (tgt := 103) d_Pt_tells_99 (by decide) ?_
      refine V_zret d_Pt_tells_103 rfl (by first | rfl | exact ob_nar _) (by first | decide | omega) (by first | decide | omega) ?_
      have : rel 4 a b = true := decide_eq_true ((lg_cmp_ge a b).mp (Int32.not_lt.mp c95))
      rw [this]; exact ⟨rfl, rfl⟩
  · refine V_aload_n (pc' := 1) d_Pt_tells_0 rfl (by first | rfl | exact isR_rf _) rfl ?_
    refine V_getf (pc' := 4) d_Pt_tells_1 fl_Pt_13 rfl (by first | assumption | exact aset_self _ _ _ | exact apush_self _ _) (by rfl) ?_
    -- at 4 tableswitch
    refine V_tableIn (off := 100) (tgt := 104) d_Pt_tells_4 (by decide) (by decide) rfl (by decide) ?_
    refine V_lload_n (pc' := 105) d_Pt_tells_104 rfl rfl ?_
    refine V_aload_n (pc' := 106) d_Pt_tells_105 rfl (by first | rfl | exact isR_rf _) rfl ?_
    refine V_getf (pc' := 109) d_Pt_tells_106 fl_Pt_17 rfl (by first | assumption | exact aset_self _ _ _ | exact apush_self _ _) (by rfl) ?_
    refine V_lcmp (pc' := 110) d_Pt_tells_109 rfl ?_
    refine V_if_gt (pc' := 113) (tgt := 117) d_Pt_tells_110 (by decide) rfl (fun c110 => ?_) (fun c110 => ?_)
    · refine V_iconst (pc' := 118) (v := 0) d_Pt_tells_117 (by decide) rfl ?_
      refine V_zret d_Pt_tells_118 rfl (by first | rfl | exact ob_nar _) (by first | decide | omega) (by first | decide | omega) ?_
      have : rel 5 a b = false := decide_eq_false (fun q => absurd ((lg_cmp_le a b).mpr q) (Int32.not_le.mpr c110))
      rw [this]; exact ⟨rfl, rfl⟩
    · refine V_iconst (pc' := 114) (v := 1) d_Pt_tells_113 (by decide) rfl ?_
      refine V_goto (tgt := 118) d_Pt_tells_114 (by decide) ?_
      refine V_zret d_Pt_tells_118 rfl (by first | rfl | exact ob_nar _) (by first | decide | omega) (by first | decide | omega) ?_
      have : rel 5 a b = true := decide_eq_true ((lg_cmp_le a b).mp (Int32.not_lt.mp c110))
      rw [this]; exact ⟨rfl, rfl⟩
  · refine V_aload_n (pc' := 1) d_Pt_tells_0 rfl (by first | rfl | exact isR_rf _) rfl ?_
    refine V_getf (pc' := 4) d_Pt_tells_1 fl_Pt_13 rfl (by first | assumption | exact aset_self _ _ _ | exact apush_self _ _) (by rfl) ?_
    -- at 4 tableswitch
    refine V_tableIn (off := 115) (tgt := 119) d_Pt_tells_4 (by decide) (by decide) rfl (by decide) ?_
    refine V_lload_n (pc' := 120) d_Pt_tells_119 rfl rfl ?_
    refine V_aload_n (pc' := 121) d_Pt_tells_120 rfl (by first | rfl | exact isR_rf _) rfl ?_
    refine V_getf (pc' := 124) d_Pt_tells_121 fl_Pt_17 rfl (by first | assumption | exact aset_self _ _ _ | exact apush_self _ _) (by rfl) ?_
    refine V_lcmp (pc' := 125) d_Pt_tells_124 rfl ?_
    refine V_if_eq (pc' := 128) (tgt := 132) d_Pt_tells_125 (by decide) rfl (fun c125 => ?_) (fun c125 => ?_)
    · refine V_iconst (pc' := 133) (v := 0) d_Pt_tells_132 (by decide) rfl ?_
      refine V_zret d_Pt_tells_133 rfl (by first | rfl | exact ob_nar _) (by first | decide | omega) (by first | decide | omega) ?_
      have : rel 6 a b = false := decide_eq_false (fun q => q ((lg_cmp_eq a b).mp c125))
      rw [this]; exact ⟨rfl, rfl⟩
    · refine V_iconst (pc' := 129) (v := 1) d_Pt_tells_128 (by decide) rfl ?_
      refine V_goto (tgt := 133) d_Pt_tells_129 (by decide) ?_
      refine V_zret d_Pt_tells_133 rfl (by first | rfl | exact ob_nar _) (by first | decide | omega) (by first | decide | omega) ?_
      have : rel 6 a b = true := decide_eq_true (fun q => c125 ((lg_cmp_eq a b).mpr q))
      rw [this]; exact ⟨rfl, rfl⟩
end X1
