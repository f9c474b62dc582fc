-- the class: insert, what it reads
theorem pn_iff {S : PS} (hT : Tr S) (hN : Nm S) {q : Option Nat} (hq : ∀ p, q = some p → p < ssz S) {i : Nat} (hi : i < ssz S) : ((if 2 ≤ slo S i then some (par S i) else none) = q) ↔ pnm S i = pl0 S q := by
  unfold pnm
  by_cases c : 2 ≤ slo S i
  · rw [if_pos c, if_pos c]
    have h1 := hT.par_lev hi c
    have h2 := hN.1 (par S i) (by omega)
    cases q with
    | none => exact ⟨fun e => (by cases e), fun e => by have e2 : snm S (par S i) = 0 := e; omega⟩
    | some p => exact ⟨fun e => by cases e; rfl, fun e => congrArg some (hN.2 _ _ (by omega) (hq p rfl) e)⟩
  · rw [if_neg c, if_neg c]
    cases q with
    | none => exact ⟨fun _ => rfl, fun _ => rfl⟩
    | some p => exact ⟨fun e => (by cases e), fun e => by have e2 : 0 = snm S p := e; have := hN.1 p (hq p rfl); omega⟩
theorem sr_pl0 {B : XB} {S : PS} (hN : Nm S) {q : Option Nat} (hq : ∀ p, q = some p → p < ssz S) : sr B (pl0 S q) = rr B S q := by
  cases q with
  | none => rfl
  | some p =>
    show sr B (snm S p) = _
    unfold sr
    rw [if_neg (by have := hN.1 p (hq p rfl); omega)]
    rfl
def exF (P : Nat → Bool) : Nat → Nat → Bool
  | 0, _ => false
  | n + 1, i => if P i = true then true else exF P n (i + 1)
theorem exF_iff {P : Nat → Bool} : ∀ (n i : Nat), exF P n i = true ↔ ∃ j, i ≤ j ∧ j < i + n ∧ P j = true
  | 0, i => ⟨fun h => (by cases h), fun ⟨j, a, b, _⟩ => (by omega)⟩
  | n + 1, i => by
    rw [exF]
    by_cases c : P i = true
    · rw [if_pos c]
      exact ⟨fun _ => ⟨i, Nat.le_refl _, by omega, c⟩, fun _ => rfl⟩
    · rw [if_neg c, exF_iff n (i + 1)]
      constructor
      · rintro ⟨j, a, b, d⟩
        exact ⟨j, by omega, by omega, d⟩
      · rintro ⟨j, a, b, d⟩
        refine ⟨j, ?_, by omega, d⟩
        rcases Nat.lt_or_ge i j with z | z
        · exact z
        · have e : i = j := by omega
          rw [e] at c
          exact absurd d c
section X11
variable {x : CX} {h h0 : AH} {o : Nat} {B B0 : XB} {S : PS}
theorem tw_iff (hX : IX h o B S) (hw : WX S) {q : Option Nat} (hq : ∀ p, q = some p → p < ssz S) {kd i : Nat} {key : Int64} (hk1 : 1 ≤ kd) (hk2 : kd ≤ skc S) (hi : i < ssz S) : decide ((xk B (sso S i) = xk B kd ∧ sr B (pnm S i) = rr B S q) ∧ sky S i = key) = decide ((sso S i = kd ∧ pnm S i = pl0 S q) ∧ sky S i = key) := by
  obtain ⟨w1, w2, w3, w4, w5, w6, w7, w8, w9⟩ := id hw
  refine decide_eq_decide.mpr (and_congr (and_congr (IX_kinj hX w1 (w4 i hi).1 (w4 i hi).2 hk1 hk2) ?_) Iff.rfl)
  rw [sr_par w2 w3 hi, ← pn_iff w3 w2 hq hi]
  refine rr_inj hX (fun j hj => ?_) hq
  split at hj
  · rename_i c
    cases hj
    have := w3.par_lev hi c
    omega
  · cases hj
theorem c_Bs_hasEqualTwin (hX : IX h o B S) (hw : WX S) (hSo : So S) {q : Option Nat} (hq : ∀ p, q = some p → p < ssz S) {a kd : Nat} {key : Int64} {y : Value} (hk1 : 1 ≤ kd) (hk2 : kd ≤ skc S) (ha : h.2 a = some (2, [.ref (xk B kd), va_rf (rr B S q), .long key, y])) : Cr x y_Bs_hasEqualTwin b_Bs_hasEqualTwin 3 (some .boolean) 2 [.ref (xC B 3), .ref a] h (.int (ob (scT S kd key (endS S q) (ssz S) (at0 S kd q)))) := by
  obtain ⟨ho, hka, hva, hpa, hba, hra, hpv, h8, h9, h10, h11, iv, ip, is⟩ := id hX
  obtain ⟨w1, w2, w3, w4, w5, w6, w7, w8, w9⟩ := id hw
  have he : scT S kd key (endS S q) (ssz S) (at0 S kd q) = exF (fun i => decide ((sso S i = kd ∧ pnm S i = pl0 S q) ∧ sky S i = key)) (ssz S) 0 := by
    rw [Bool.eq_iff_iff, scT_at0 w3 w2 hq hSo, exF_iff]
    constructor
    · rintro ⟨j, a, b, c⟩
      exact ⟨j, Nat.zero_le _, by omega, decide_eq_true ⟨b, c⟩⟩
    · rintro ⟨j, -, b, c⟩
      have d := of_decide_eq_true c
      exact ⟨j, by omega, d.1, d.2⟩
  rw [he]
  generalize eP : (fun i => decide ((sso S i = kd ∧ pnm S i = pl0 S q) ∧ sky S i = key)) = P
  refine Ct_of (own := "PathCalls$Base") (ini := false) rfl rfl (Nat.le_of_ble_eq_true rfl) (fun q => by cases q) ?_
  have loop : ∀ (n i : Nat), i + n = ssz S → exF P (ssz S) 0 = exF P n i → V x "PathCalls$Base" b_Bs_hasEqualTwin 3 (Option.some .boolean) false (rmd 2 0 0) 0 0 (fun r h' => r = some (.int (ob (exF P (ssz S) 0))) ∧ h = h') 2 [(0, .ref (xC B 3)), (1, .ref a), (2, .int (nI i))] [] h 0 0 := by
    intro n
    induction n with
    | zero =>
      intro i hi hge
      refine V_iload_n (pc' := 3) d_Bs_hasEqualTwin_2 rfl rfl ?_
      refine V_aload_n (pc' := 4) d_Bs_hasEqualTwin_3 rfl (by first | rfl | exact isR_rf _) rfl ?_
      refine V_getf (pc' := 7) d_Bs_hasEqualTwin_4 fl_Bs_17 rfl (by first | assumption | exact aset_self _ _ _ | exact apush_self _ _) (by rfl) ?_
      refine V_icmp_ge (pc' := 10) (tgt := 31) d_Bs_hasEqualTwin_7 (by decide) rfl (fun c7 => ?_) (fun c7 => ?_)
      · refine V_iconst (pc' := 32) (v := 0) d_Bs_hasEqualTwin_31 (by decide) rfl ?_
        refine V_zret d_Bs_hasEqualTwin_32 rfl (by first | rfl | exact ob_nar _) (by first | decide | omega) (by first | decide | omega) ?_
        rw [hge]; exact ⟨rfl, rfl⟩
      · exact absurd (nI_le (by omega) (by omega)) c7
    | succ n ih =>
      intro i hi hge
      have hiz : i < ssz S := by omega
      have hci := h11 i hiz
      refine V_iload_n (pc' := 3) d_Bs_hasEqualTwin_2 rfl rfl ?_
      refine V_aload_n (pc' := 4) d_Bs_hasEqualTwin_3 rfl (by first | rfl | exact isR_rf _) rfl ?_
      refine V_getf (pc' := 7) d_Bs_hasEqualTwin_4 fl_Bs_17 rfl (by first | assumption | exact aset_self _ _ _ | exact apush_self _ _) (by rfl) ?_
      refine V_icmp_ge (pc' := 10) (tgt := 31) d_Bs_hasEqualTwin_7 (by decide) rfl (fun c7 => ?_) (fun c7 => ?_)
      · exact absurd c7 (nI_ge (by omega) (by omega))
      · refine V_aload_n (pc' := 11) d_Bs_hasEqualTwin_10 rfl (by first | rfl | exact isR_rf _) rfl ?_
        refine V_getf (pc' := 14) d_Bs_hasEqualTwin_11 fl_Bs_11 rfl (by first | assumption | exact aset_self _ _ _ | exact apush_self _ _) (by rfl) ?_
        refine V_iload_n (pc' := 15) d_Bs_hasEqualTwin_14 rfl rfl ?_
        -- at 15 aaload
        refine V_aald (pc' := 16) d_Bs_hasEqualTwin_15 rfl hra rfl rfl (by omega) (arv_get (by omega)) ?_
        rw [if_pos hiz]
        refine V_aload_n (pc' := 17) d_Bs_hasEqualTwin_16 rfl (by first | rfl | exact isR_rf _) rfl ?_
        -- at 17 invokevirtual
        refine V_callV (pc' := 20) (As := [_]) (ci := 2) d_Bs_hasEqualTwin_17 mv_Bs_34 mw_Sg_isEqualTwinOf rfl rfl rfl (by simp [Value.category]) rfl (by first | assumption | exact aset_self _ _ _ | exact apush_self _ _) (c_Sg_isEqualTwinOf hci ha) (by first | decide | omega) (by first | decide | omega) (by first | decide | omega) (by first | decide | omega) ?_
        rintro _ _ ⟨rfl, rfl⟩
        have eb : decide ((xk B (sso S i) = xk B kd ∧ sr B (pnm S i) = rr B S q) ∧ sky S i = key) = P i := by
          rw [tw_iff hX hw hq hk1 hk2 hiz, ← eP]
        rw [eb]
        refine V_if_eq (pc' := 23) (tgt := 25) d_Bs_hasEqualTwin_20 (by decide) rfl (fun c20 => ?_) (fun c20 => ?_)
        · first | refine V_iincN (pc' := 28) d_Bs_hasEqualTwin_25 rfl (by decide) rfl ?_ | refine V_iinc (pc' := 28) d_Bs_hasEqualTwin_25 rfl rfl (by decide) rfl ?_
          first | refine V_L [(0, _), (1, _), (2, _)] ⟨rfl, rfl, rfl, trivial⟩ ?_ | (refine V_keep (by intro q hq e; simp only [List.mem_cons, List.not_mem_nil, or_false] at hq; rcases hq with rfl | rfl | rfl <;> first | rfl | exact va_rf_cat _ | exact absurd e (by decide)) ?_; refine V_L [(0, _), (1, _), (2, _)] ⟨rfl, rfl, rfl, trivial⟩ ?_)
          refine V_goto (tgt := 2) d_Bs_hasEqualTwin_28 (by decide) ?_
          refine ih (i + 1) (by omega) ?_
          rw [hge, exF, if_neg (by rw [ob_0.mp c20]; decide)]
        · refine V_iconst (pc' := 24) (v := 1) d_Bs_hasEqualTwin_23 (by decide) rfl ?_
          refine V_zret d_Bs_hasEqualTwin_24 rfl (by first | rfl | exact ob_nar _) (by first | decide | omega) (by first | decide | omega) ?_
          rw [hge, exF, if_pos (ob_nt c20)]; exact ⟨rfl, rfl⟩
  refine V_iconst (pc' := 1) (v := 0) d_Bs_hasEqualTwin_0 (by decide) rfl ?_
  refine V_istore_n (pc' := 2) d_Bs_hasEqualTwin_1 (by decide) rfl ?_
  first | refine V_L [(0, _), (1, _), (2, _)] ⟨rfl, rfl, rfl, trivial⟩ ?_ | (refine V_keep (by intro q hq e; simp only [List.mem_cons, List.not_mem_nil, or_false] at hq; rcases hq with rfl | rfl <;> first | rfl | exact va_rf_cat _ | exact absurd e (by decide)) ?_; refine V_L [(0, _), (1, _), (2, _)] ⟨rfl, rfl, rfl, trivial⟩ ?_)
  exact loop (ssz S) 0 (by omega) rfl
set_option maxHeartbeats 4000000 in
theorem c_Bs_goesAhead (hX : IX h o B S) (hw : WX S) {q pos : Option Nat} (hq : ∀ p, q = some p → p < ssz S) (hpos : ∀ p, pos = some p → p < ssz S) {a kd i : Nat} {key : Int64} {y : Value} (hk1 : 1 ≤ kd) (hk2 : kd ≤ skc S) (hru : sru S kd ≤ 2) (hi : i < ssz S) (ha : h.2 a = some (2, [.ref (xk B kd), va_rf (rr B S q), .long key, y])) : Cr x y_Bs_goesAhead b_Bs_goesAhead 4 (some .boolean) 2 [.ref a, .ref (xs B (snm S i)), va_rf (rr B S pos)] h (.int (ob (ga S kd key q pos i))) := by
  obtain ⟨ho, hka, hva, hpa, hba, hra, hpv, h8, h9, h10, h11, iv, ip, is⟩ := id hX
  obtain ⟨w1, w2, w3, w4, w5, w6, w7, w8, w9⟩ := id hw
  have hci := h11 i hi
  have hkd := h8 kd hk1 hk2
  obtain ⟨k1, k2⟩ := w4 i hi
  have hki := h8 _ k1 k2
  refine Ct_of (own := "PathCalls$Base") (ini := false) rfl rfl (by simp [lg_sl, va_rf_cat, cat_ref, cat_int, cat_long, cat_null]) (fun q => by cases q) ?_
  refine V_eq (L' := [(0, .ref a), (1, .ref (xs B (snm S i))), (2, va_rf (rr B S pos))]) (by simp [lv_args, va_rf_cat, cat_ref, cat_int, cat_long, cat_null]) rfl rfl ?_
  refine V_aload_n (pc' := 1) d_Bs_goesAhead_0 rfl (by first | rfl | exact isR_rf _) rfl ?_
  refine V_getf (pc' := 4) d_Bs_goesAhead_1 fl_Bs_25 rfl (by first | assumption | exact aset_self _ _ _ | exact apush_self _ _) (by rfl) ?_
  refine V_aload_n (pc' := 5) d_Bs_goesAhead_4 rfl (by first | rfl | exact isR_rf _) rfl ?_
  refine V_getf (pc' := 8) d_Bs_goesAhead_5 fl_Bs_25 rfl (by first | assumption | exact aset_self _ _ _ | exact apush_self _ _) (by rfl) ?_
  refine V_acmp_eq (pc' := 11) (tgt := 34) (rx := (some (xk B kd))) (ry := (some (xk B (sso S i)))) d_Bs_goesAhead_8 (by decide) rfl (fun c8 => ?_) (fun c8 => ?_)
  · have e : sso S i = kd := ((IX_kinj hX w1 hk1 hk2 k1 k2).mp (Option.some.inj c8)).symm
    refine V_aload_n (pc' := 35) d_Bs_goesAhead_34 rfl (by first | rfl | exact isR_rf _) rfl ?_
    refine V_getf (pc' := 38) d_Bs_goesAhead_35 fl_Bs_41 rfl (by first | assumption | exact aset_self _ _ _ | exact apush_self _ _) (by rfl) ?_
    refine V_aload_n (pc' := 39) d_Bs_goesAhead_38 rfl (by first | rfl | exact isR_rf _) rfl ?_
    refine V_getf (pc' := 42) d_Bs_goesAhead_39 fl_Bs_41 rfl (by first | assumption | exact aset_self _ _ _ | exact apush_self _ _) (by rfl) ?_
    refine V_lcmp (pc' := 43) d_Bs_goesAhead_42 rfl ?_
    refine V_if_eq (pc' := 46) (tgt := 64) d_Bs_goesAhead_43 (by decide) rfl (fun c43 => ?_) (fun c43 => ?_)
    · have e2 : sky S i = key := ((lg_cmp_eq _ _).mp c43).symm
      have hga : ga S kd key q pos i = (if sru S kd = 0 then true else if sru S kd = 1 then false else (!(plcd S kd key q pos) || decide (pos = some i))) := by
        unfold ga
        rw [if_pos e, if_pos e2]
      refine V_aload_n (pc' := 65) d_Bs_goesAhead_64 rfl (by first | rfl | exact isR_rf _) rfl ?_
      refine V_getf (pc' := 68) d_Bs_goesAhead_65 fl_Bs_25 rfl (by first | assumption | exact aset_self _ _ _ | exact apush_self _ _) (by rfl) ?_
      refine V_getf (pc' := 71) d_Bs_goesAhead_68 fl_Bs_70 rfl (by first | assumption | exact aset_self _ _ _ | exact apush_self _ _) (by rfl) ?_
      refine V_if_eq (pc' := 74) (tgt := 85) d_Bs_goesAhead_71 (by decide) rfl (fun c71 => ?_) (fun c71 => ?_)
      · have r0 : sru S kd = 0 := (nI_sm (by omega) (by omega) rfl).mp c71
        refine V_aload_n (pc' := 86) d_Bs_goesAhead_85 rfl (by first | rfl | exact isR_rf _) rfl ?_
        refine V_getf (pc' := 89) d_Bs_goesAhead_86 fl_Bs_25 rfl (by first | assumption | exact aset_self _ _ _ | exact apush_self _ _) (by rfl) ?_
        refine V_getf (pc' := 92) d_Bs_goesAhead_89 fl_Bs_70 rfl (by first | assumption | exact aset_self _ _ _ | exact apush_self _ _) (by rfl) ?_
        refine V_if_ne (pc' := 95) (tgt := 99) d_Bs_goesAhead_92 (by decide) rfl (fun c92 => ?_) (fun c92 => ?_)
        · exact absurd c71 c92
        · refine V_iconst (pc' := 96) (v := 1) d_Bs_goesAhead_95 (by decide) rfl ?_
          refine V_goto (tgt := 100) d_Bs_goesAhead_96 (by decide) ?_
          refine V_zret d_Bs_goesAhead_100 rfl (by first | rfl | exact ob_nar _) (by first | decide | omega) (by first | decide | omega) ?_
          rw [hga, if_pos r0]; exact ⟨rfl, rfl⟩
      · have r0 : ¬ sru S kd = 0 := fun z => c71 (by rw [z]; rfl)
        refine V_aload_n (pc' := 75) d_Bs_goesAhead_74 rfl (by first | rfl | exact isR_rf _) rfl ?_
        refine V_getf (pc' := 78) d_Bs_goesAhead_75 fl_Bs_25 rfl (by first | assumption | exact aset_self _ _ _ | exact apush_self _ _) (by rfl) ?_
        refine V_getf (pc' := 81) d_Bs_goesAhead_78 fl_Bs_70 rfl (by first | assumption | exact aset_self _ _ _ | exact apush_self _ _) (by rfl) ?_
        refine V_iconst (pc' := 82) (v := 1) d_Bs_goesAhead_81 (by decide) rfl ?_
        refine V_icmp_ne (pc' := 85) (tgt := 101) d_Bs_goesAhead_82 (by decide) rfl (fun c82 => ?_) (fun c82 => ?_)
        · have r1 : ¬ sru S kd = 1 := fun z => c82 (by rw [z]; rfl)
          rw [if_neg r0, if_neg r1] at hga
          have cut118 : ∀ b : Bool, b = plcd S kd key q pos → V x "PathCalls$Base" b_Bs_goesAhead 4 (Option.some .boolean) false (rmd 2 0 0) 0 0 (fun r h' => r = some (.int (ob (ga S kd key q pos i))) ∧ h = h') 118 [(0, .ref a), (1, .ref (xs B (snm S i))), (2, va_rf (rr B S pos))] [.int (ob b)] h 0 0 := by
            intro b hb
            rw [← hb] at hga
            refine V_istore_n (pc' := 119) d_Bs_goesAhead_118 (by decide) rfl ?_
            first | refine V_L [(0, _), (1, _), (2, _), (3, _)] ⟨rfl, rfl, rfl, rfl, trivial⟩ ?_ | (refine V_keep (by intro q hq e; simp only [List.mem_cons, List.not_mem_nil, or_false] at hq; rcases hq with rfl | rfl | rfl <;> first | rfl | exact va_rf_cat _ | exact absurd e (by decide)) ?_; refine V_L [(0, _), (1, _), (2, _), (3, _)] ⟨rfl, rfl, rfl, rfl, trivial⟩ ?_)
            refine V_iload_n (pc' := 120) d_Bs_goesAhead_119 rfl rfl ?_
            refine V_if_eq (pc' := 123) (tgt := 128) d_Bs_goesAhead_120 (by decide) rfl (fun c120 => ?_) (fun c120 => ?_)
            · refine V_iconst (pc' := 129) (v := 1) d_Bs_goesAhead_128 (by decide) rfl ?_
              refine V_goto (tgt := 133) d_Bs_goesAhead_129 (by decide) ?_
              refine V_zret d_Bs_goesAhead_133 rfl (by first | rfl | exact ob_nar _) (by first | decide | omega) (by first | decide | omega) ?_
              rw [hga, ob_0.mp c120]; exact ⟨rfl, rfl⟩
            · have hb1 := ob_nt c120
              rw [hb1] at hga
              refine V_aload_n (pc' := 124) d_Bs_goesAhead_123 rfl (by first | rfl | exact isR_rf _) rfl ?_
              refine V_aload_n (pc' := 125) d_Bs_goesAhead_124 rfl (by first | rfl | exact isR_rf _) rfl ?_
              refine V_acmp_ne (pc' := 128) (tgt := 132) (rx := (rr B S (some i))) (ry := (rr B S pos)) d_Bs_goesAhead_125 (by decide) rfl (fun c125 => ?_) (fun c125 => ?_)
              · refine V_iconst (pc' := 133) (v := 0) d_Bs_goesAhead_132 (by decide) rfl ?_
                refine V_zret d_Bs_goesAhead_133 rfl (by first | rfl | exact ob_nar _) (by first | decide | omega) (by first | decide | omega) ?_
                rw [hga, decide_eq_false (fun z => c125 (by rw [z]))]; exact ⟨rfl, rfl⟩
              · refine V_iconst (pc' := 129) (v := 1) d_Bs_goesAhead_128 (by decide) rfl ?_
                refine V_goto (tgt := 133) d_Bs_goesAhead_129 (by decide) ?_
                refine V_zret d_Bs_goesAhead_133 rfl (by first | rfl | exact ob_nar _) (by first | decide | omega) (by first | decide | omega) ?_
                have e3 := (rr_inj hX (fun k hk => by cases hk; exact hi) hpos).mp c125
                rw [hga, decide_eq_true e3.symm]; exact ⟨rfl, rfl⟩
          refine V_aload_n (pc' := 102) d_Bs_goesAhead_101 rfl (by first | rfl | exact isR_rf _) rfl ?_
          cases hp : pos with
          | none =>
            rw [hp] at cut118
            refine V_ifnull (pc' := 105) (tgt := 117) (r := (rr B S none)) d_Bs_goesAhead_102 (by decide) rfl (fun c102 => ?_) (fun a102 c102 => ?_)
            · refine V_iconst (pc' := 118) (v := 0) d_Bs_goesAhead_117 (by decide) rfl ?_
              exact cut118 false rfl
            · cases c102
          | some j =>
            have hcj := h11 j (hpos j hp)
            rw [hp] at cut118
            refine V_ifnull (pc' := 105) (tgt := 117) (r := (rr B S (some j))) d_Bs_goesAhead_102 (by decide) rfl (fun c102 => ?_) (fun a102 c102 => ?_)
            · cases c102
            · clear c102 a102
              rw [show va_rf (rr B S (some j)) = .ref (xs B (snm S j)) from rfl] at cut118 ⊢
              refine V_aload_n (pc' := 106) d_Bs_goesAhead_105 rfl (by first | rfl | exact isR_rf _) rfl ?_
              refine V_aload_n (pc' := 107) d_Bs_goesAhead_106 rfl (by first | rfl | exact isR_rf _) rfl ?_
              -- at 107 invokevirtual
              refine V_callV (pc' := 110) (As := [_]) (ci := 2) d_Bs_goesAhead_107 mv_Bs_34 mw_Sg_isEqualTwinOf rfl rfl rfl (by simp [Value.category]) rfl (by first | assumption | exact aset_self _ _ _ | exact apush_self _ _) (c_Sg_isEqualTwinOf hcj ha) (by first | decide | omega) (by first | decide | omega) (by first | decide | omega) (by first | decide | omega) ?_
              rintro _ _ ⟨rfl, rfl⟩
              rw [tw_iff hX hw hq hk1 hk2 (hpos j hp)]
              refine V_if_eq (pc' := 113) (tgt := 117) d_Bs_goesAhead_110 (by decide) rfl (fun c110 => ?_) (fun c110 => ?_)
              · refine V_iconst (pc' := 118) (v := 0) d_Bs_goesAhead_117 (by decide) rfl ?_
                exact cut118 false (ob_0.mp c110).symm
              · refine V_iconst (pc' := 114) (v := 1) d_Bs_goesAhead_113 (by decide) rfl ?_
                refine V_goto (tgt := 118) d_Bs_goesAhead_114 (by decide) ?_
                exact cut118 true (ob_nt c110).symm
        · have r1 : sru S kd = 1 := (nI_sm (by omega) (by omega) rfl).mp c82
          refine V_aload_n (pc' := 86) d_Bs_goesAhead_85 rfl (by first | rfl | exact isR_rf _) rfl ?_
          refine V_getf (pc' := 89) d_Bs_goesAhead_86 fl_Bs_25 rfl (by first | assumption | exact aset_self _ _ _ | exact apush_self _ _) (by rfl) ?_
          refine V_getf (pc' := 92) d_Bs_goesAhead_89 fl_Bs_70 rfl (by first | assumption | exact aset_self _ _ _ | exact apush_self _ _) (by rfl) ?_
          refine V_if_ne (pc' := 95) (tgt := 99) d_Bs_goesAhead_92 (by decide) rfl (fun c92 => ?_) (fun c92 => ?_)
          · refine V_iconst (pc' := 100) (v := 0) d_Bs_goesAhead_99 (by decide) rfl ?_
            refine V_zret d_Bs_goesAhead_100 rfl (by first | rfl | exact ob_nar _) (by first | decide | omega) (by first | decide | omega) ?_
            rw [hga, if_neg r0, if_pos r1]; exact ⟨rfl, rfl⟩
          · exact absurd c92 c71
    · have e2 : ¬ sky S i = key := fun z => c43 ((lg_cmp_eq _ _).mpr z.symm)
      have hga : ga S kd key q pos i = decide (key < sky S i) := by
        unfold ga
        rw [if_pos e, if_neg e2]
      refine V_aload_n (pc' := 47) d_Bs_goesAhead_46 rfl (by first | rfl | exact isR_rf _) rfl ?_
      refine V_getf (pc' := 50) d_Bs_goesAhead_47 fl_Bs_41 rfl (by first | assumption | exact aset_self _ _ _ | exact apush_self _ _) (by rfl) ?_
      refine V_aload_n (pc' := 51) d_Bs_goesAhead_50 rfl (by first | rfl | exact isR_rf _) rfl ?_
      refine V_getf (pc' := 54) d_Bs_goesAhead_51 fl_Bs_41 rfl (by first | assumption | exact aset_self _ _ _ | exact apush_self _ _) (by rfl) ?_
      refine V_lcmp (pc' := 55) d_Bs_goesAhead_54 rfl ?_
      refine V_if_ge (pc' := 58) (tgt := 62) d_Bs_goesAhead_55 (by decide) rfl (fun c55 => ?_) (fun c55 => ?_)
      · refine V_iconst (pc' := 63) (v := 0) d_Bs_goesAhead_62 (by decide) rfl ?_
        refine V_zret d_Bs_goesAhead_63 rfl (by first | rfl | exact ob_nar _) (by first | decide | omega) (by first | decide | omega) ?_
        rw [hga, decide_eq_false (fun z => absurd ((lg_cmp_lt _ _).mpr z) (Int32.not_lt.mpr c55))]; exact ⟨rfl, rfl⟩
      · refine V_iconst (pc' := 59) (v := 1) d_Bs_goesAhead_58 (by decide) rfl ?_
        refine V_goto (tgt := 63) d_Bs_goesAhead_59 (by decide) ?_
        refine V_zret d_Bs_goesAhead_63 rfl (by first | rfl | exact ob_nar _) (by first | decide | omega) (by first | decide | omega) ?_
        rw [hga, decide_eq_true ((lg_cmp_lt _ _).mp (Int32.not_le.mp c55))]; exact ⟨rfl, rfl⟩
  · have e : ¬ sso S i = kd := fun z => c8 (by rw [z])
    have hga : ga S kd key q pos i = decide (kd < sso S i) := by
      unfold ga
      rw [if_neg e]
    refine V_aload_n (pc' := 12) d_Bs_goesAhead_11 rfl (by first | rfl | exact isR_rf _) rfl ?_
    refine V_getf (pc' := 15) d_Bs_goesAhead_12 fl_Bs_25 rfl (by first | assumption | exact aset_self _ _ _ | exact apush_self _ _) (by rfl) ?_
    refine V_getf (pc' := 18) d_Bs_goesAhead_15 fl_Bs_67 rfl (by first | assumption | exact aset_self _ _ _ | exact apush_self _ _) (by rfl) ?_
    refine V_aload_n (pc' := 19) d_Bs_goesAhead_18 rfl (by first | rfl | exact isR_rf _) rfl ?_
    refine V_getf (pc' := 22) d_Bs_goesAhead_19 fl_Bs_25 rfl (by first | assumption | exact aset_self _ _ _ | exact apush_self _ _) (by rfl) ?_
    refine V_getf (pc' := 25) d_Bs_goesAhead_22 fl_Bs_67 rfl (by first | assumption | exact aset_self _ _ _ | exact apush_self _ _) (by rfl) ?_
    refine V_icmp_ge (pc' := 28) (tgt := 32) d_Bs_goesAhead_25 (by decide) rfl (fun c25 => ?_) (fun c25 => ?_)
    · refine V_iconst (pc' := 33) (v := 0) d_Bs_goesAhead_32 (by decide) rfl ?_
      refine V_zret d_Bs_goesAhead_33 rfl (by first | rfl | exact ob_nar _) (by first | decide | omega) (by first | decide | omega) ?_
      have : ¬ kd < sso S i := by
        have : sso S i ≤ kd := (nI_leI (by omega) (by omega)).mp c25
        omega
      rw [hga, decide_eq_false this]; exact ⟨rfl, rfl⟩
    · refine V_iconst (pc' := 29) (v := 1) d_Bs_goesAhead_28 (by decide) rfl ?_
      refine V_goto (tgt := 33) d_Bs_goesAhead_29 (by decide) ?_
      refine V_zret d_Bs_goesAhead_33 rfl (by first | rfl | exact ob_nar _) (by first | decide | omega) (by first | decide | omega) ?_
      have : kd < sso S i := by
        rcases Nat.lt_or_ge kd (sso S i) with z | z
        · exact z
        · exact absurd (nI_le z (by omega)) c25
      rw [hga, decide_eq_true this]; exact ⟨rfl, rfl⟩
set_option maxHeartbeats 4000000 in
theorem c_Bs_placeFor (hX : IX h o B S) (hw : WX S) (hSo : So S) {q pos : Option Nat} (hq : ∀ p, q = some p → p < ssz S) (hpos : ∀ p, pos = some p → p < ssz S) {a kd : Nat} {key : Int64} {y : Value} (hk1 : 1 ≤ kd) (hk2 : kd ≤ skc S) (hru : sru S kd ≤ 2) (ha : h.2 a = some (2, [.ref (xk B kd), va_rf (rr B S q), .long key, y])) : Cr x y_Bs_placeFor b_Bs_placeFor 6 (some .int) 3 [.ref (xC B 3), .ref a, va_rf (rr B S pos)] h (.int (nI (at1 S kd key pos q))) := by
  obtain ⟨ho, hka, hva, hpa, hba, hra, hpv, h8, h9, h10, h11, iv, ip, is⟩ := id hX
  obtain ⟨w1, w2, w3, w4, w5, w6, w7, w8, w9⟩ := id hw
  obtain ⟨u1, u2⟩ := end_ub hq
  refine Ct_of (own := "PathCalls$Base") (ini := false) rfl rfl (by simp [lg_sl, va_rf_cat, cat_ref, cat_int, cat_long, cat_null]) (fun q => by cases q) ?_
  refine V_eq (L' := [(0, .ref (xC B 3)), (1, .ref a), (2, va_rf (rr B S pos))]) (by simp [lv_args, va_rf_cat, cat_ref, cat_int, cat_long, cat_null]) rfl rfl ?_
  have loop : ∀ (n i : Nat), i + n = endS S q → nx q ≤ i → (∀ z, nx q ≤ z → z < i → ¬ (pnm S z = pl0 S q ∧ ga S kd key q pos z = true)) → V x "PathCalls$Base" b_Bs_placeFor 6 (Option.some .int) false (rmd 3 0 0) 0 0 (fun r h' => r = some (.int (nI (at1 S kd key pos q))) ∧ h = h') 21 [(0, .ref (xC B 3)), (1, .ref a), (2, va_rf (rr B S pos)), (3, .int (oI q)), (4, .int (nI (endS S q))), (5, .int (nI i))] [] h 0 0 := by
    intro n
    induction n with
    | zero =>
      intro i hi h1 hge
      have e : i = endS S q := by omega
      subst e
      refine V_iload (pc' := 23) d_Bs_placeFor_21 rfl rfl ?_
      refine V_iload (pc' := 25) d_Bs_placeFor_23 rfl rfl ?_
      refine V_icmp_ge (pc' := 28) (tgt := 69) d_Bs_placeFor_25 (by decide) rfl (fun c25 => ?_) (fun c25 => ?_)
      · refine V_iload (pc' := 71) d_Bs_placeFor_69 rfl rfl ?_
        refine V_iret d_Bs_placeFor_71 rfl (by first | decide | omega) (by first | decide | omega) ?_
        rw [← ga_at1 w3 w2 hq hSo hpos hru ⟨u2, Nat.le_refl _, hge, fun z => by omega⟩]
        exact ⟨rfl, rfl⟩
      · exact absurd (Int32.le_refl _) c25
    | succ n ih =>
      intro i hi h1 hge
      have hiz : i < ssz S := by omega
      have hci := h11 i hiz
      have next : ¬ (pnm S i = pl0 S q ∧ ga S kd key q pos i = true) → V x "PathCalls$Base" b_Bs_placeFor 6 (Option.some .int) false (rmd 3 0 0) 0 0 (fun r h' => r = some (.int (nI (at1 S kd key pos q))) ∧ h = h') 63 [(0, .ref (xC B 3)), (1, .ref a), (2, va_rf (rr B S pos)), (3, .int (oI q)), (4, .int (nI (endS S q))), (5, .int (nI i))] [] h 0 0 := by
        intro hno
        first | refine V_iincN (pc' := 66) d_Bs_placeFor_63 rfl (by decide) rfl ?_ | refine V_iinc (pc' := 66) d_Bs_placeFor_63 rfl rfl (by decide) rfl ?_
        first | refine V_L [(0, _), (1, _), (2, _), (3, _), (4, _), (5, _)] ⟨rfl, rfl, rfl, rfl, rfl, rfl, trivial⟩ ?_ | (refine V_keep (by intro q hq e; simp only [List.mem_cons, List.not_mem_nil, or_false] at hq; rcases hq with rfl | rfl | rfl | rfl | rfl | rfl <;> first | rfl | exact va_rf_cat _ | exact absurd e (by decide)) ?_; refine V_L [(0, _), (1, _), (2, _), (3, _), (4, _), (5, _)] ⟨rfl, rfl, rfl, rfl, rfl, rfl, trivial⟩ ?_)
        refine V_goto (tgt := 21) d_Bs_placeFor_66 (by decide) ?_
        refine V_L [(0, .ref (xC B 3)), (1, .ref a), (2, va_rf (rr B S pos)), (3, .int (oI q)), (4, .int (nI (endS S q))), (5, .int (nI (i + 1)))] ⟨rfl, rfl, rfl, rfl, rfl, rfl, trivial⟩ ?_
        refine ih (i + 1) (by omega) (by omega) (fun z a b => ?_)
        by_cases e : z = i
        · rw [e]; exact hno
        · exact hge z a (by omega)
      refine V_iload (pc' := 23) d_Bs_placeFor_21 rfl rfl ?_
      refine V_iload (pc' := 25) d_Bs_placeFor_23 rfl rfl ?_
      refine V_icmp_ge (pc' := 28) (tgt := 69) d_Bs_placeFor_25 (by decide) rfl (fun c25 => ?_) (fun c25 => ?_)
      · exact absurd c25 (nI_ge (by omega) (by omega))
      · refine V_aload_n (pc' := 29) d_Bs_placeFor_28 rfl (by first | rfl | exact isR_rf _) rfl ?_
        refine V_getf (pc' := 32) d_Bs_placeFor_29 fl_Bs_11 rfl (by first | assumption | exact aset_self _ _ _ | exact apush_self _ _) (by rfl) ?_
        refine V_iload (pc' := 34) d_Bs_placeFor_32 rfl rfl ?_
        -- at 34 aaload
        refine V_aald (pc' := 35) d_Bs_placeFor_34 rfl hra rfl rfl (by omega) (arv_get (by omega)) ?_
        rw [if_pos hiz]
        refine V_getf (pc' := 38) d_Bs_placeFor_35 fl_Bs_51 rfl (by first | assumption | exact aset_self _ _ _ | exact apush_self _ _) (by rfl) ?_
        refine V_aload_n (pc' := 39) d_Bs_placeFor_38 rfl (by first | rfl | exact isR_rf _) rfl ?_
        refine V_getf (pc' := 42) d_Bs_placeFor_39 fl_Bs_51 rfl (by first | assumption | exact aset_self _ _ _ | exact apush_self _ _) (by rfl) ?_
        rw [sr_par w2 w3 hiz]
        refine V_acmp_ne (pc' := 45) (tgt := 63) (rx := (rr B S (if 2 ≤ slo S i then some (par S i) else none))) (ry := (rr B S q)) d_Bs_placeFor_42 (by decide) rfl (fun c42 => ?_) (fun c42 => ?_)
        · refine next (fun z => c42 ?_)
          rw [(pn_iff w3 w2 hq hiz).mpr z.1]
        · have e1 : (if 2 ≤ slo S i then some (par S i) else none) = q := (rr_inj hX (fun j hj => by
            split at hj
            · rename_i c
              cases hj
              have := w3.par_lev hiz c
              omega
            · cases hj) hq).mp c42
          have e2 := (pn_iff w3 w2 hq hiz).mp e1
          refine V_aload_n (pc' := 46) d_Bs_placeFor_45 rfl (by first | rfl | exact isR_rf _) rfl ?_
          refine V_aload_n (pc' := 47) d_Bs_placeFor_46 rfl (by first | rfl | exact isR_rf _) rfl ?_
          refine V_getf (pc' := 50) d_Bs_placeFor_47 fl_Bs_11 rfl (by first | assumption | exact aset_self _ _ _ | exact apush_self _ _) (by rfl) ?_
          refine V_iload (pc' := 52) d_Bs_placeFor_50 rfl rfl ?_
          -- at 52 aaload
          refine V_aald (pc' := 53) d_Bs_placeFor_52 rfl hra rfl rfl (by omega) (arv_get (by omega)) ?_
          rw [if_pos hiz]
          refine V_aload_n (pc' := 54) d_Bs_placeFor_53 rfl (by first | rfl | exact isR_rf _) rfl ?_
          -- at 54 invokestatic
          refine V_callS (pc' := 57) (As := [_, _, _]) d_Bs_placeFor_54 ms_Bs_63 mw_Bs_goesAhead rfl rfl rfl (by simp [Value.category]) (c_Bs_goesAhead hX hw hq hpos hk1 hk2 hru hiz ha) (by first | decide | omega) (by first | decide | omega) (by first | decide | omega) (by first | decide | omega) ?_
          rintro _ _ ⟨rfl, rfl⟩
          refine V_if_eq (pc' := 60) (tgt := 63) d_Bs_placeFor_57 (by decide) rfl (fun c57 => ?_) (fun c57 => ?_)
          · exact next (fun z => by rw [ob_0.mp c57] at z; cases z.2)
          · refine V_iload (pc' := 62) d_Bs_placeFor_60 rfl rfl ?_
            refine V_iret d_Bs_placeFor_62 rfl (by first | decide | omega) (by first | decide | omega) ?_
            rw [← ga_at1 w3 w2 hq hSo hpos hru ⟨h1, by omega, hge, fun _ => ⟨e2, ob_nt c57⟩⟩]
            exact ⟨rfl, rfl⟩
  refine V_aload_n (pc' := 1) d_Bs_placeFor_0 rfl (by first | rfl | exact isR_rf _) rfl ?_
  refine V_aload_n (pc' := 2) d_Bs_placeFor_1 rfl (by first | rfl | exact isR_rf _) rfl ?_
  refine V_getf (pc' := 5) d_Bs_placeFor_2 fl_Bs_51 rfl (by first | assumption | exact aset_self _ _ _ | exact apush_self _ _) (by rfl) ?_
  -- at 5 invokevirtual
  refine V_callV (pc' := 8) (As := [_]) (ci := 5) d_Bs_placeFor_5 mv_Bs_55 mw_Bs_indexOf rfl rfl rfl (by simp [Value.category]) rfl (by first | assumption | exact aset_self _ _ _ | exact apush_self _ _) (c_Bs_indexOf hX w7 hq) (by first | decide | omega) (by first | decide | omega) (by first | decide | omega) (by first | decide | omega) ?_
  rintro _ _ ⟨rfl, rfl⟩
  refine V_istore_n (pc' := 9) d_Bs_placeFor_8 (by decide) rfl ?_
  first | refine V_L [(0, _), (1, _), (2, _), (3, _)] ⟨rfl, rfl, rfl, rfl, trivial⟩ ?_ | (refine V_keep (by intro q hq e; simp only [List.mem_cons, List.not_mem_nil, or_false] at hq; rcases hq with rfl | rfl | rfl <;> first | rfl | exact va_rf_cat _ | exact absurd e (by decide)) ?_; refine V_L [(0, _), (1, _), (2, _), (3, _)] ⟨rfl, rfl, rfl, rfl, trivial⟩ ?_)
  refine V_aload_n (pc' := 10) d_Bs_placeFor_9 rfl (by first | rfl | exact isR_rf _) rfl ?_
  refine V_iload_n (pc' := 11) d_Bs_placeFor_10 rfl rfl ?_
  -- at 11 invokevirtual
  refine V_callV (pc' := 14) (As := [_]) (ci := 5) d_Bs_placeFor_11 mv_Bs_59 mw_Bs_endOfTree rfl rfl rfl (by simp [Value.category]) rfl (by first | assumption | exact aset_self _ _ _ | exact apush_self _ _) (c_Bs_endOfTree hX hw hq) (by first | decide | omega) (by first | decide | omega) (by first | decide | omega) (by first | decide | omega) ?_
  rintro _ _ ⟨rfl, rfl⟩
  refine V_istore (pc' := 16) d_Bs_placeFor_14 (by decide) rfl ?_
  first | refine V_L [(0, _), (1, _), (2, _), (3, _), (4, _)] ⟨rfl, rfl, rfl, rfl, rfl, trivial⟩ ?_ | (refine V_keep (by intro q hq e; simp only [List.mem_cons, List.not_mem_nil, or_false] at hq; rcases hq with rfl | rfl | rfl | rfl <;> first | rfl | exact va_rf_cat _ | exact absurd e (by decide)) ?_; refine V_L [(0, _), (1, _), (2, _), (3, _), (4, _)] ⟨rfl, rfl, rfl, rfl, rfl, trivial⟩ ?_)
  refine V_iload_n (pc' := 17) d_Bs_placeFor_16 rfl rfl ?_
  refine V_iconst (pc' := 18) (v := 1) d_Bs_placeFor_17 (by decide) rfl ?_
  refine V_iadd (pc' := 19) d_Bs_placeFor_18 rfl ?_
  rw [oI_nx]
  refine V_istore (pc' := 21) d_Bs_placeFor_19 (by decide) rfl ?_
  first | refine V_L [(0, _), (1, _), (2, _), (3, _), (4, _), (5, _)] ⟨rfl, rfl, rfl, rfl, rfl, rfl, trivial⟩ ?_ | (refine V_keep (by intro q hq e; simp only [List.mem_cons, List.not_mem_nil, or_false] at hq; rcases hq with rfl | rfl | rfl | rfl | rfl <;> first | rfl | exact va_rf_cat _ | exact absurd e (by decide)) ?_; refine V_L [(0, _), (1, _), (2, _), (3, _), (4, _), (5, _)] ⟨rfl, rfl, rfl, rfl, rfl, rfl, trivial⟩ ?_)
  exact loop (endS S q - nx q) (nx q) (by omega) (Nat.le_refl _) (fun z a b => by omega)
theorem c_PC_partsFitInsert (hX : IX h o B S) (hw : WX S) {n : Nat} (hp : PV S n) : Cr x y_PC_partsFitInsert b_PC_partsFitInsert 2 (some .boolean) 2 [.ref o, .int (nI n)] h (.int (ob (!((n == 0 || !(af S n)) || (decide (1 < n) && !(sab S (spk S (n - 1)) == spk S (n - 2))))))) := by
  obtain ⟨ho, hka, hva, hpa, hba, hra, hpv, h8, h9, h10, h11, iv, ip, is⟩ := id hX
  obtain ⟨w1, w2, w3, w4, w5, w6, w7, w8, w9⟩ := id hw
  obtain ⟨v1, v2⟩ := id hp
  refine Ct_of (own := "PathCalls") (ini := false) rfl rfl (Nat.le_of_ble_eq_true rfl) (fun q => by cases q) ?_
  refine V_iload_n (pc' := 1) d_PC_partsFitInsert_0 rfl rfl ?_
  refine V_iconst (pc' := 2) (v := 1) d_PC_partsFitInsert_1 (by decide) rfl ?_
  refine V_icmp_lt (pc' := 5) (tgt := 13) d_PC_partsFitInsert_2 (by decide) rfl (fun c2 => ?_) (fun c2 => ?_)
  · refine V_iconst (pc' := 14) (v := 0) d_PC_partsFitInsert_13 (by decide) rfl ?_
    refine V_zret d_PC_partsFitInsert_14 rfl (by first | rfl | exact ob_nar _) (by first | decide | omega) (by first | decide | omega) ?_
    have e : n = 0 := by
      have : n < 1 := (nI_ltI (b := 1) (by omega) (by omega)).mp c2
      omega
    rw [e]; exact ⟨rfl, rfl⟩
  · have e : 1 ≤ n := by
      rcases Nat.lt_or_ge n 1 with z | z
      · exact absurd (nI_lt (b := 1) z (by omega)) c2
      · exact z
    have e0 : (n == 0) = false := by simp; omega
    refine V_aload_n (pc' := 6) d_PC_partsFitInsert_5 rfl (by first | rfl | exact isR_rf _) rfl ?_
    refine V_iload_n (pc' := 7) d_PC_partsFitInsert_6 rfl rfl ?_
    -- at 7 invokevirtual
    refine V_callV (pc' := 10) (As := [_]) (ci := 0) d_PC_partsFitInsert_7 mv_PC_79 mw_PC_partsFit rfl rfl rfl (by simp [Value.category]) rfl (by first | assumption | exact aset_self _ _ _ | exact apush_self _ _) (c_PC_partsFit hX hw hp) (by first | decide | omega) (by first | decide | omega) (by first | decide | omega) (by first | decide | omega) ?_
    rintro _ _ ⟨rfl, rfl⟩
    refine V_if_ne (pc' := 13) (tgt := 15) d_PC_partsFitInsert_10 (by decide) rfl (fun c10 => ?_) (fun c10 => ?_)
    · have haf := ob_nt c10
      refine V_iload_n (pc' := 16) d_PC_partsFitInsert_15 rfl rfl ?_
      refine V_iconst (pc' := 17) (v := 1) d_PC_partsFitInsert_16 (by decide) rfl ?_
      refine V_icmp_eq (pc' := 20) (tgt := 48) d_PC_partsFitInsert_17 (by decide) rfl (fun c17 => ?_) (fun c17 => ?_)
      · have e1 : n = 1 := (nI_sm (by omega) (by omega) rfl).mp c17
        refine V_iconst (pc' := 49) (v := 1) d_PC_partsFitInsert_48 (by decide) rfl ?_
        refine V_goto (tgt := 53) d_PC_partsFitInsert_49 (by decide) ?_
        refine V_zret d_PC_partsFitInsert_53 rfl (by first | rfl | exact ob_nar _) (by first | decide | omega) (by first | decide | omega) ?_
        rw [e0, haf, e1]; exact ⟨rfl, rfl⟩
      · have e1 : 1 < n := by
          have : ¬ n = 1 := fun z => c17 (by rw [z]; rfl)
          omega
        obtain ⟨p1, p2, p3, p4⟩ := v2 (n - 1) (by omega)
        obtain ⟨q1, q2, q3, q4⟩ := v2 (n - 2) (by omega)
        have hcp := h10 (n - 1) (by omega)
        have hcq := h10 (n - 2) (by omega)
        have hkp := h8 _ p1 p2
        have hsb := w6 _ p1 p2
        refine V_aload_n (pc' := 21) d_PC_partsFitInsert_20 rfl (by first | rfl | exact isR_rf _) rfl ?_
        refine V_getf (pc' := 24) d_PC_partsFitInsert_21 fl_PC_23 rfl (by first | assumption | exact aset_self _ _ _ | exact apush_self _ _) (by rfl) ?_
        refine V_iload_n (pc' := 25) d_PC_partsFitInsert_24 rfl rfl ?_
        refine V_iconst (pc' := 26) (v := 1) d_PC_partsFitInsert_25 (by decide) rfl ?_
        refine V_isub (pc' := 27) d_PC_partsFitInsert_26 rfl ?_
        -- at 27 aaload
        refine V_aald (pc' := 28) d_PC_partsFitInsert_27 rfl hpa rfl (pk_sub (a := n) (b := 1) e) (by omega) (arv_get (by omega)) ?_
        refine V_getf (pc' := 31) d_PC_partsFitInsert_28 fl_PC_117 rfl (by first | assumption | exact aset_self _ _ _ | exact apush_self _ _) (by rfl) ?_
        rw [kr_pos p1, show va_rf (some (xk B (spk S (n - 1)))) = .ref (xk B (spk S (n - 1))) from rfl]
        refine V_getf (pc' := 34) d_PC_partsFitInsert_31 fl_PC_125 rfl (by first | assumption | exact aset_self _ _ _ | exact apush_self _ _) (by rfl) ?_
        refine V_aload_n (pc' := 35) d_PC_partsFitInsert_34 rfl (by first | rfl | exact isR_rf _) rfl ?_
        refine V_getf (pc' := 38) d_PC_partsFitInsert_35 fl_PC_23 rfl (by first | assumption | exact aset_self _ _ _ | exact apush_self _ _) (by rfl) ?_
        refine V_iload_n (pc' := 39) d_PC_partsFitInsert_38 rfl rfl ?_
        refine V_iconst (pc' := 40) (v := 2) d_PC_partsFitInsert_39 (by decide) rfl ?_
        refine V_isub (pc' := 41) d_PC_partsFitInsert_40 rfl ?_
        -- at 41 aaload
        refine V_aald (pc' := 42) d_PC_partsFitInsert_41 rfl hpa rfl (pk_sub (a := n) (b := 2) e1) (by omega) (arv_get (by omega)) ?_
        refine V_getf (pc' := 45) d_PC_partsFitInsert_42 fl_PC_117 rfl (by first | assumption | exact aset_self _ _ _ | exact apush_self _ _) (by rfl) ?_
        refine V_acmp_ne (pc' := 48) (tgt := 52) (rx := (kr B (sab S (spk S (n - 1))))) (ry := (kr B (spk S (n - 2)))) d_PC_partsFitInsert_45 (by decide) rfl (fun c45 => ?_) (fun c45 => ?_)
        · refine V_iconst (pc' := 53) (v := 0) d_PC_partsFitInsert_52 (by decide) rfl ?_
          refine V_zret d_PC_partsFitInsert_53 rfl (by first | rfl | exact ob_nar _) (by first | decide | omega) (by first | decide | omega) ?_
          have : ¬ sab S (spk S (n - 1)) = spk S (n - 2) := fun z => c45 (by rw [z])
          rw [e0, haf, decide_eq_true e1]
          simp [this, ob]
        · refine V_iconst (pc' := 49) (v := 1) d_PC_partsFitInsert_48 (by decide) rfl ?_
          refine V_goto (tgt := 53) d_PC_partsFitInsert_49 (by decide) ?_
          refine V_zret d_PC_partsFitInsert_53 rfl (by first | rfl | exact ob_nar _) (by first | decide | omega) (by first | decide | omega) ?_
          have z := (kr_inj hX w1 (by omega) q2).mp c45
          rw [e0, haf, decide_eq_true e1, z]
          simp [ob]
    · refine V_iconst (pc' := 14) (v := 0) d_PC_partsFitInsert_13 (by decide) rfl ?_
      refine V_zret d_PC_partsFitInsert_14 rfl (by first | rfl | exact ob_nar _) (by first | decide | omega) (by first | decide | omega) ?_
      rw [e0, ob_0.mp c10]; exact ⟨rfl, rfl⟩
end X11
