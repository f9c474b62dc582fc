-- the reference's searches
def RW (S : PS) : Prop := ssz S ≤ 1000 ∧ (∀ i, i < ssz S → sso S i < 21) ∧ (∀ k, k < 21 → slv S k ≤ 8) ∧ (∀ k, 1 ≤ k → k ≤ skc S → 0 < ssz S → slo S 0 ≤ slv S k) ∧ skc S ≤ 20
def PV (S : PS) (n : Nat) : Prop := n ≤ 8 ∧ ∀ p, p < n → 1 ≤ spk S p ∧ spk S p ≤ skc S ∧ sop S p ≤ 6 ∧ scd S p ≤ 15
theorem RW.lo {S : PS} (h : RW S) : ∀ i, i < ssz S → slo S i < 21 := fun i hi => Nat.lt_of_le_of_lt (h.2.2.1 _ (h.2.1 i hi)) (by decide)
theorem cb_z (c : Nat) (b : Int32) : (nI c &&& b) = 0 ↔ cb c b = false := by
  unfold cb
  by_cases q : (nI c &&& b) = 0 <;> simp [q]
section M3
variable {x : CX} {h : AH} {m : Nat} {A : Nat → Nat} {S : PS}
theorem c_Md_hasLater (hI : IM h m A S) (hw : RW S) {n : Nat} (hv : PV S n) {k p : Nat} (hk : k < ssz S) (hp : p < n) : Cr x y_Md_hasLater b_Md_hasLater 5 (some .boolean) 2 [.ref m, .int (nI k), .int (nI p)] h (.int (ob (later S k p))) := by
  obtain ⟨hm, h0, h1, h2, h3, h5, h6, h7, h8, h11, h12, h13, h15, h16, h17, h18, h20, -⟩ := id hI
  obtain ⟨w1, w2, w3, w4, w5⟩ := id hw
  have wl := hw.lo
  obtain ⟨v1, v2⟩ := hv
  obtain ⟨p1, p2, p3, p4⟩ := v2 p hp
  refine Ct_of (own := "PathCallsModel") (ini := false) rfl rfl (Nat.le_of_ble_eq_true rfl) (fun q => by cases q) ?_
  have loop : ∀ (n j : Nat), ssz S < j + n → ∀ b : Bool, later S k p = (b || lat S p k n j) → j ≤ ssz S → V x "PathCallsModel" b_Md_hasLater 5 (Option.some .boolean) false (rmd 2 0 0) 0 0 (fun r h' => r = some (.int (ob (later S k p))) ∧ h = h') 9 [(0, .ref m), (1, .int (nI k)), (2, .int (nI p)), (3, .int (ob b)), (4, .int (nI j))] [] h 0 0 := by
    intro n
    induction n with
    | zero => intro j hj b hb hj2; omega
    | succ n ih =>
      intro j hj b hb hj2
      have out : ¬ (j < ssz S ∧ slo S j = slo S k ∧ sso S j = sso S k) → later S k p = b := by
        intro q
        rw [hb, lat, if_neg q, Bool.or_false]
      refine V_iload (pc' := 11) d_Md_hasLater_9 rfl rfl ?_
      refine V_aload_n (pc' := 12) d_Md_hasLater_11 rfl (by first | rfl | exact isR_rf _) rfl ?_
      refine V_getf (pc' := 15) d_Md_hasLater_12 fl_Md_74 rfl (by first | assumption | exact aset_self _ _ _ | exact apush_self _ _) (by rfl) ?_
      refine V_icmp_ge (pc' := 18) (tgt := 94) d_Md_hasLater_15 (by decide) rfl (fun c15 => ?_) (fun c15 => ?_)
      · refine V_iload_n (pc' := 95) d_Md_hasLater_94 rfl rfl ?_
        refine V_zret d_Md_hasLater_95 rfl (by first | rfl | exact ob_nar _) (by first | decide | omega) (by first | decide | omega) ?_
        rw [out (fun q => absurd c15 (nI_ge q.1 (by omega)))]
        exact ⟨rfl, rfl⟩
      · have hjz : j < ssz S := by
          rcases Nat.lt_or_ge j (ssz S) with q | q
          · exact q
          · exact absurd (nI_le q (by omega)) c15
        have e1 := wl j hjz
        have e2 := wl k hk
        have e3 := w2 j hjz
        have e4 := w2 k hk
        refine V_aload_n (pc' := 19) d_Md_hasLater_18 rfl (by first | rfl | exact isR_rf _) rfl ?_
        refine V_iload (pc' := 21) d_Md_hasLater_19 rfl rfl ?_
        -- at 21 invokevirtual
        refine V_callV (pc' := 24) (As := [_]) (ci := 6) d_Md_hasLater_21 mv_Md_77 mw_Md_levelOf rfl rfl rfl (by simp [Value.category]) rfl (by first | assumption | exact aset_self _ _ _ | exact apush_self _ _) (c_Md_levelOf hI (i := j) (by omega) e3) (by first | decide | omega) (by first | decide | omega) (by first | decide | omega) (by first | decide | omega) ?_
        rintro _ _ ⟨rfl, rfl⟩
        refine V_aload_n (pc' := 25) d_Md_hasLater_24 rfl (by first | rfl | exact isR_rf _) rfl ?_
        refine V_iload_n (pc' := 26) d_Md_hasLater_25 rfl rfl ?_
        -- at 26 invokevirtual
        refine V_callV (pc' := 29) (As := [_]) (ci := 6) d_Md_hasLater_26 mv_Md_77 mw_Md_levelOf rfl rfl rfl (by simp [Value.category]) rfl (by first | assumption | exact aset_self _ _ _ | exact apush_self _ _) (c_Md_levelOf hI (i := k) (by omega) e4) (by first | decide | omega) (by first | decide | omega) (by first | decide | omega) (by first | decide | omega) ?_
        rintro _ _ ⟨rfl, rfl⟩
        refine V_icmp_ne (pc' := 32) (tgt := 94) d_Md_hasLater_29 (by decide) rfl (fun c29 => ?_) (fun c29 => ?_)
        · refine V_iload_n (pc' := 95) d_Md_hasLater_94 rfl rfl ?_
          refine V_zret d_Md_hasLater_95 rfl (by first | rfl | exact ob_nar _) (by first | decide | omega) (by first | decide | omega) ?_
          rw [out (fun q => c29 (by rw [q.2.1]))]
          exact ⟨rfl, rfl⟩
        · have e5 := (nI_eq (by omega) (by omega)).mp c29
          refine V_aload_n (pc' := 33) d_Md_hasLater_32 rfl (by first | rfl | exact isR_rf _) rfl ?_
          refine V_getf (pc' := 36) d_Md_hasLater_33 fl_Md_26 rfl (by first | assumption | exact aset_self _ _ _ | exact apush_self _ _) (by rfl) ?_
          refine V_iload (pc' := 38) d_Md_hasLater_36 rfl rfl ?_
          -- at 38 iaload
          refine V_iald (pc' := 39) d_Md_hasLater_38 rfl h6 rfl rfl (by omega) (arv_get (by omega)) ?_
          refine V_aload_n (pc' := 40) d_Md_hasLater_39 rfl (by first | rfl | exact isR_rf _) rfl ?_
          refine V_getf (pc' := 43) d_Md_hasLater_40 fl_Md_26 rfl (by first | assumption | exact aset_self _ _ _ | exact apush_self _ _) (by rfl) ?_
          refine V_iload_n (pc' := 44) d_Md_hasLater_43 rfl rfl ?_
          -- at 44 iaload
          refine V_iald (pc' := 45) d_Md_hasLater_44 rfl h6 rfl rfl (by omega) (arv_get (by omega)) ?_
          refine V_icmp_ne (pc' := 48) (tgt := 94) d_Md_hasLater_45 (by decide) rfl (fun c45 => ?_) (fun c45 => ?_)
          · refine V_iload_n (pc' := 95) d_Md_hasLater_94 rfl rfl ?_
            refine V_zret d_Md_hasLater_95 rfl (by first | rfl | exact ob_nar _) (by first | decide | omega) (by first | decide | omega) ?_
            rw [out (fun q => c45 (by rw [q.2.2]))]
            exact ⟨rfl, rfl⟩
          · have e6 := (nI_eq (by omega) (by omega)).mp c45
            have step : later S k p = ((b || rel (sop S p) (sky S j) (spy S p)) || lat S p k n (bhd S j)) := by
              rw [hb, lat, if_pos ⟨hjz, e5, e6⟩, Bool.or_assoc]
            have h9 := bhd_lt S j
            have h10 := bhd_ub S hjz
            have tail : ∀ b2 : Bool, b2 = (b || rel (sop S p) (sky S j) (spy S p)) → V x "PathCallsModel" b_Md_hasLater 5 (Option.some .boolean) false (rmd 2 0 0) 0 0 (fun r h' => r = some (.int (ob (later S k p))) ∧ h = h') 82 [(0, .ref m), (1, .int (nI k)), (2, .int (nI p)), (3, .int (ob b)), (4, .int (nI j))] [.int (ob b2)] h 0 0 := by
              intro b2 hb2
              refine V_istore_n (pc' := 83) d_Md_hasLater_82 (by decide) rfl ?_
              refine V_aload_n (pc' := 84) d_Md_hasLater_83 rfl (by first | rfl | exact isR_rf _) rfl ?_
              refine V_iload (pc' := 86) d_Md_hasLater_84 rfl rfl ?_
              -- at 86 invokevirtual
              refine V_callV (pc' := 89) (As := [_]) (ci := 6) d_Md_hasLater_86 mv_Md_85 mw_Md_behind rfl rfl rfl (by simp [Value.category]) rfl (by first | assumption | exact aset_self _ _ _ | exact apush_self _ _) (c_Md_behind hI w1 w2 wl hjz) (by first | decide | omega) (by first | decide | omega) (by first | decide | omega) (by first | decide | omega) ?_
              rintro _ _ ⟨rfl, rfl⟩
              refine V_istore (pc' := 91) d_Md_hasLater_89 (by decide) rfl ?_
              refine V_goto (tgt := 9) d_Md_hasLater_91 (by decide) ?_
              refine V_L [(0, .ref m), (1, .int (nI k)), (2, .int (nI p)), (3, .int (ob b2)), (4, .int (nI (bhd S j)))] ⟨rfl, rfl, rfl, rfl, rfl, trivial⟩ ?_
              exact ih (bhd S j) (by omega) b2 (by rw [step, hb2]) h10
            refine V_iload_n (pc' := 49) d_Md_hasLater_48 rfl rfl ?_
            refine V_if_ne (pc' := 52) (tgt := 77) d_Md_hasLater_49 (by decide) rfl (fun c49 => ?_) (fun c49 => ?_)
            · refine V_iconst (pc' := 78) (v := 1) d_Md_hasLater_77 (by decide) rfl ?_
              refine V_goto (tgt := 82) d_Md_hasLater_78 (by decide) ?_
              have : b = true := by cases b <;> simp_all [ob]
              exact tail true (by rw [this]; rfl)
            · have hbf : b = false := ob_0.mp c49
              refine V_aload_n (pc' := 53) d_Md_hasLater_52 rfl (by first | rfl | exact isR_rf _) rfl ?_
              refine V_getf (pc' := 56) d_Md_hasLater_53 fl_Md_48 rfl (by first | assumption | exact aset_self _ _ _ | exact apush_self _ _) (by rfl) ?_
              refine V_iload_n (pc' := 57) d_Md_hasLater_56 rfl rfl ?_
              -- at 57 iaload
              refine V_iald (pc' := 58) d_Md_hasLater_57 rfl h16 rfl rfl (by omega) (arv_get (by omega)) ?_
              refine V_aload_n (pc' := 59) d_Md_hasLater_58 rfl (by first | rfl | exact isR_rf _) rfl ?_
              refine V_getf (pc' := 62) d_Md_hasLater_59 fl_Md_29 rfl (by first | assumption | exact aset_self _ _ _ | exact apush_self _ _) (by rfl) ?_
              refine V_iload (pc' := 64) d_Md_hasLater_62 rfl rfl ?_
              -- at 64 laload
              refine V_lald (pc' := 65) d_Md_hasLater_64 rfl h7 rfl rfl (by omega) (arv_get (by omega)) ?_
              refine V_aload_n (pc' := 66) d_Md_hasLater_65 rfl (by first | rfl | exact isR_rf _) rfl ?_
              refine V_getf (pc' := 69) d_Md_hasLater_66 fl_Md_54 rfl (by first | assumption | exact aset_self _ _ _ | exact apush_self _ _) (by rfl) ?_
              refine V_iload_n (pc' := 70) d_Md_hasLater_69 rfl rfl ?_
              -- at 70 laload
              refine V_lald (pc' := 71) d_Md_hasLater_70 rfl h18 rfl rfl (by omega) (arv_get (by omega)) ?_
              refine V_callS (pc' := 74) (As := [_, _, _]) d_Md_hasLater_71 ms_Md_88 mw_Md_relates rfl rfl rfl (by simp [Value.category]) (c_Md_relates (by omega)) (by first | decide | omega) (by first | decide | omega) (by first | decide | omega) (by first | decide | omega) ?_
              rintro _ _ ⟨rfl, rfl⟩
              refine V_if_eq (pc' := 77) (tgt := 81) d_Md_hasLater_74 (by decide) rfl (fun c74 => ?_) (fun c74 => ?_)
              · refine V_iconst (pc' := 82) (v := 0) d_Md_hasLater_81 (by decide) rfl ?_
                exact tail false (by rw [hbf, ob_0.mp c74]; rfl)
              · refine V_iconst (pc' := 78) (v := 1) d_Md_hasLater_77 (by decide) rfl ?_
                refine V_goto (tgt := 82) d_Md_hasLater_78 (by decide) ?_
                have : rel (sop S p) (sky S j) (spy S p) = true := by
                  cases e : rel (sop S p) (sky S j) (spy S p)
                  · exact absurd (ob_0.mpr e) c74
                  · rfl
                exact tail true (by rw [this, Bool.or_true])
  refine V_iconst (pc' := 1) (v := 0) d_Md_hasLater_0 (by decide) rfl ?_
  refine V_istore_n (pc' := 2) d_Md_hasLater_1 (by decide) rfl ?_
  refine V_aload_n (pc' := 3) d_Md_hasLater_2 rfl (by first | rfl | exact isR_rf _) rfl ?_
  refine V_iload_n (pc' := 4) d_Md_hasLater_3 rfl rfl ?_
  -- at 4 invokevirtual
  refine V_callV (pc' := 7) (As := [_]) (ci := 6) d_Md_hasLater_4 mv_Md_85 mw_Md_behind rfl rfl rfl (by simp [Value.category]) rfl (by first | assumption | exact aset_self _ _ _ | exact apush_self _ _) (c_Md_behind hI w1 w2 wl hk) (by first | decide | omega) (by first | decide | omega) (by first | decide | omega) (by first | decide | omega) ?_
  rintro _ _ ⟨rfl, rfl⟩
  refine V_istore (pc' := 9) d_Md_hasLater_7 (by decide) rfl ?_
  have h9 := bhd_lt S k
  have h10 := bhd_ub S hk
  refine loop (ssz S + 1) (bhd S k) (by omega) false ?_ h10
  rw [Bool.false_or]
  exact lat_fuel _ _ _ (by omega) (by omega)
theorem c_Md_areFit (hI : IM h m A S) (hv : PV S (spc S)) (hk : skc S ≤ 20) (hd : ∀ k, k < 21 → 0 < k → sab S k < k) : Cr x y_Md_areFit b_Md_areFit 3 (some .boolean) 1 [.ref m] h (.int (ob (af S (spc S)))) := by
  obtain ⟨hm, h0, h1, h2, h3, h5, h6, h7, h8, h11, h12, h13, h15, h16, h17, h18, h20, -⟩ := id hI
  obtain ⟨v1, v2⟩ := hv
  refine Ct_of (own := "PathCallsModel") (ini := false) rfl rfl (Nat.le_of_ble_eq_true rfl) (fun q => by cases q) ?_
  have loop : ∀ (n p : Nat), p + n = spc S + 1 → 1 ≤ p → (∀ q, p ≤ q → q ≤ spc S → True) → ∀ b : Bool, (p ≤ spc S → b = af S p) → (spc S < p → b = af S (spc S)) → V x "PathCallsModel" b_Md_areFit 3 (Option.some .boolean) false (rmd 1 0 0) 0 0 (fun r h' => r = some (.int (ob (af S (spc S)))) ∧ h = h') 4 [(0, .ref m), (1, .int (ob b)), (2, .int (nI p))] [] h 0 0 := by
    intro n
    induction n with
    | zero =>
      intro p hp hp1 _ b hb hb2
      refine V_iload_n (pc' := 5) d_Md_areFit_4 rfl rfl ?_
      refine V_aload_n (pc' := 6) d_Md_areFit_5 rfl (by first | rfl | exact isR_rf _) rfl ?_
      refine V_getf (pc' := 9) d_Md_areFit_6 fl_Md_71 rfl (by first | assumption | exact aset_self _ _ _ | exact apush_self _ _) (by rfl) ?_
      refine V_icmp_ge (pc' := 12) (tgt := 49) d_Md_areFit_9 (by decide) rfl (fun c9 => ?_) (fun c9 => ?_)
      · refine V_iload_n (pc' := 50) d_Md_areFit_49 rfl rfl ?_
        refine V_zret d_Md_areFit_50 rfl (by first | rfl | exact ob_nar _) (by first | decide | omega) (by first | decide | omega) ?_
        rw [hb2 (by omega)]
        exact ⟨rfl, rfl⟩
      · exact absurd (nI_le (by omega) (by omega)) c9
    | succ n ih =>
      intro p hp hp1 _ b hb hb2
      refine V_iload_n (pc' := 5) d_Md_areFit_4 rfl rfl ?_
      refine V_aload_n (pc' := 6) d_Md_areFit_5 rfl (by first | rfl | exact isR_rf _) rfl ?_
      refine V_getf (pc' := 9) d_Md_areFit_6 fl_Md_71 rfl (by first | assumption | exact aset_self _ _ _ | exact apush_self _ _) (by rfl) ?_
      refine V_icmp_ge (pc' := 12) (tgt := 49) d_Md_areFit_9 (by decide) rfl (fun c9 => ?_) (fun c9 => ?_)
      · refine V_iload_n (pc' := 50) d_Md_areFit_49 rfl rfl ?_
        refine V_zret d_Md_areFit_50 rfl (by first | rfl | exact ob_nar _) (by first | decide | omega) (by first | decide | omega) ?_
        have : spc S ≤ p := (nI_leI (by omega) (by omega)).mp c9
        have e : p = spc S := by omega
        rw [hb (by omega), e]
        exact ⟨rfl, rfl⟩
      · have hlt : p < spc S := by
          rcases Nat.lt_or_ge p (spc S) with q | q
          · exact q
          · exact absurd (nI_le q (by omega)) c9
        have tail : ∀ b2 : Bool, b2 = af S (p + 1) → V x "PathCallsModel" b_Md_areFit 3 (Option.some .boolean) false (rmd 1 0 0) 0 0 (fun r h' => r = some (.int (ob (af S (spc S)))) ∧ h = h') 42 [(0, .ref m), (1, .int (ob b)), (2, .int (nI p))] [.int (ob b2)] h 0 0 := by
          intro b2 hb2
          refine V_istore_n (pc' := 43) d_Md_areFit_42 (by decide) rfl ?_
          first | refine V_iincN (pc' := 46) d_Md_areFit_43 rfl (by decide) rfl ?_ | refine V_iinc (pc' := 46) d_Md_areFit_43 rfl rfl (by decide) rfl ?_
          refine V_goto (tgt := 4) d_Md_areFit_46 (by decide) ?_
          refine V_L [(0, .ref m), (1, .int (ob b2)), (2, .int (nI (p + 1)))] ⟨rfl, rfl, rfl, trivial⟩ ?_
          exact ih (p + 1) (by omega) (by omega) (fun _ _ _ => trivial) b2 (fun _ => hb2) (fun q => by omega)
        have hp0 : (p == 0) = false := by simp; omega
        refine V_iload_n (pc' := 13) d_Md_areFit_12 rfl rfl ?_
        refine V_if_eq (pc' := 16) (tgt := 41) d_Md_areFit_13 (by decide) rfl (fun c13 => ?_) (fun c13 => ?_)
        · refine V_iconst (pc' := 42) (v := 0) d_Md_areFit_41 (by decide) rfl ?_
          refine tail false ?_
          rw [af, ← hb (by omega), ob_0.mp c13]; rfl
        · have hbt : b = true := by cases b <;> simp_all [ob]
          obtain ⟨p1, p2, p3, p4⟩ := v2 p hlt
          obtain ⟨q1, q2, q3, q4⟩ := v2 (p - 1) (by omega)
          refine V_aload_n (pc' := 17) d_Md_areFit_16 rfl (by first | rfl | exact isR_rf _) rfl ?_
          refine V_aload_n (pc' := 18) d_Md_areFit_17 rfl (by first | rfl | exact isR_rf _) rfl ?_
          refine V_getf (pc' := 21) d_Md_areFit_18 fl_Md_45 rfl (by first | assumption | exact aset_self _ _ _ | exact apush_self _ _) (by rfl) ?_
          refine V_iload_n (pc' := 22) d_Md_areFit_21 rfl rfl ?_
          -- at 22 iaload
          refine V_iald (pc' := 23) d_Md_areFit_22 rfl h15 rfl rfl (by omega) (arv_get (by omega)) ?_
          refine V_aload_n (pc' := 24) d_Md_areFit_23 rfl (by first | rfl | exact isR_rf _) rfl ?_
          refine V_getf (pc' := 27) d_Md_areFit_24 fl_Md_45 rfl (by first | assumption | exact aset_self _ _ _ | exact apush_self _ _) (by rfl) ?_
          refine V_iload_n (pc' := 28) d_Md_areFit_27 rfl rfl ?_
          refine V_iconst (pc' := 29) (v := 1) d_Md_areFit_28 (by decide) rfl ?_
          refine V_isub (pc' := 30) d_Md_areFit_29 rfl ?_
          -- at 30 iaload
          refine V_iald (pc' := 31) d_Md_areFit_30 rfl h15 rfl (pk_sub hp1) (by omega) (arv_get (by omega)) ?_
          refine V_callV (pc' := 34) (As := [_, _]) (ci := 6) d_Md_areFit_31 mv_Md_99 mw_Md_isBelow rfl rfl rfl (by simp [Value.category]) rfl (by first | assumption | exact aset_self _ _ _ | exact apush_self _ _) (c_Md_isBelow (a := spk S p) (b := spk S (p - 1)) hI (by omega) (by omega) hd (by omega)) (by first | decide | omega) (by first | decide | omega) (by first | decide | omega) (by first | decide | omega) ?_
          rintro _ _ ⟨rfl, rfl⟩
          refine V_if_eq (pc' := 37) (tgt := 41) d_Md_areFit_34 (by decide) rfl (fun c34 => ?_) (fun c34 => ?_)
          · refine V_iconst (pc' := 42) (v := 0) d_Md_areFit_41 (by decide) rfl ?_
            refine tail false ?_
            rw [af, hp0, ob_0.mp c34]; simp
          · refine V_iconst (pc' := 38) (v := 1) d_Md_areFit_37 (by decide) rfl ?_
            refine V_goto (tgt := 42) d_Md_areFit_38 (by decide) ?_
            refine tail true ?_
            have : isb S (spk S p) (spk S (p - 1)) = true := by
              cases e : isb S (spk S p) (spk S (p - 1))
              · exact absurd (ob_0.mpr e) c34
              · rfl
            rw [af, ← hb (by omega), hbt, this]; simp
  refine V_iconst (pc' := 1) (v := 1) d_Md_areFit_0 (by decide) rfl ?_
  refine V_istore_n (pc' := 2) d_Md_areFit_1 (by decide) rfl ?_
  refine V_iconst (pc' := 3) (v := 1) d_Md_areFit_2 (by decide) rfl ?_
  refine V_istore_n (pc' := 4) d_Md_areFit_3 (by decide) rfl ?_
  refine loop (spc S) 1 (by omega) (by omega) (fun _ _ _ => trivial) true (fun q => ?_) (fun q => ?_)
  · simp [af]
  · have e : spc S = 0 := by omega
    rw [e]; rfl
end M3
