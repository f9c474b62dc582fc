-- the reference: get
section M8
variable {x : CX} {h : AH} {m : Nat} {A : Nat → Nat} {S : PS}
theorem c_Md_get (hI : IM h m A S) (hw : RW S) (hv : VW S) (hso : ∀ i, i < ssz S → 1 ≤ sso S i ∧ sso S i ≤ skc S) (hp : PV S (spc S)) (hd : ∀ k, k < 21 → 0 < k → sab S k < k) (view call : Int32) : Ct x y_Md_get b_Md_get 6 (some .int) 6 0 0 [.ref m, .int view, .int call] h (PM h m A (getS S view call)) := by
  have hF : IF h h m A S := ⟨hI, FrM_rf⟩
  obtain ⟨hm, h0, h1, h2, h3, h5, h6, h7, h8, h11, h12, h13, h15, h16, h17, h18, h20, -⟩ := id hI
  obtain ⟨u1, u2, u3⟩ := id hv
  obtain ⟨w1, w2, w3, w4, w5⟩ := id hw
  have v1 := hp.1
  refine Ct_of (own := "PathCallsModel") (ini := false) rfl rfl (Nat.le_of_ble_eq_true rfl) (fun q => by cases q) ?_
  have none1 : ki (svc S) view = none → V x "PathCallsModel" b_Md_get 6 (Option.some .int) false (rmd 6 0 0) 0 0 (PM h m A (getS S view call)) 13 [(0, .ref m), (1, .int view), (2, .int call)] [] h 0 0 := by
    intro he
    refine V_iconst (pc' := 14) (v := (-1)) d_Md_get_13 (by decide) rfl ?_
    refine V_iret d_Md_get_14 rfl (by first | decide | omega) (by first | decide | omega) ?_
    unfold getS
    rw [he]; exact ⟨rfl, hF⟩
  refine V_iload_n (pc' := 1) d_Md_get_0 rfl rfl ?_
  refine V_iconst (pc' := 2) (v := 1) d_Md_get_1 (by decide) rfl ?_
  refine V_icmp_lt (pc' := 5) (tgt := 13) d_Md_get_2 (by decide) rfl (fun c2 => ?_) (fun c2 => ?_)
  · exact none1 (ki_none.mpr (fun q => lt_one.mp c2 q.1))
  · refine V_iload_n (pc' := 6) d_Md_get_5 rfl rfl ?_
    refine V_aload_n (pc' := 7) d_Md_get_6 rfl (by first | rfl | exact isR_rf _) rfl ?_
    refine V_getf (pc' := 10) d_Md_get_7 fl_Md_68 rfl (by first | assumption | exact aset_self _ _ _ | exact apush_self _ _) (by rfl) ?_
    refine V_icmp_le (pc' := 13) (tgt := 15) d_Md_get_10 (by decide) rfl (fun c10 => ?_) (fun c10 => ?_)
    · obtain ⟨v, ev⟩ := ki_of c2 c10
      obtain ⟨e1, e2, e3⟩ := ki_some (by omega) ev
      subst e1
      have cut : ∀ (b : Bool), (b = true → getS S (nI v) call = (6, uhd (upc S 0) v false)) → (b = false → ∃ a, call = nI a ∧ a ≤ 6 ∧ a ≠ 3 ∧ getS S (nI v) call = ((findsS (uhd (upc S 0) v false) v (a % 4) (spc S)).1, uhd (findsS (uhd (upc S 0) v false) v (a % 4) (spc S)).2 v (decide (3 < a ∧ ((findsS (uhd (upc S 0) v false) v (a % 4) (spc S)).1 = 0 ∨ (findsS (uhd (upc S 0) v false) v (a % 4) (spc S)).1 = 3 ∨ (findsS (uhd (upc S 0) v false) v (a % 4) (spc S)).1 = 4))))) → V x "PathCallsModel" b_Md_get 6 (Option.some .int) false (rmd 6 0 0) 0 0 (PM h m A (getS S (nI v) call)) 47 [(0, .ref m), (1, .int (nI v)), (2, .int call), (3, .int (nI (spc S)))] [.int (ob b)] h 0 0 := by
        intro b hb1 hb2
        refine V_istore (pc' := 49) d_Md_get_47 (by decide) rfl ?_
        refine V_L [(0, _), (1, _), (2, _), (3, _), (4, _)] ⟨rfl, rfl, rfl, rfl, rfl, trivial⟩ ?_
        refine V_aload_n (pc' := 50) d_Md_get_49 rfl (by first | rfl | exact isR_rf _) rfl ?_
        refine V_iconst (pc' := 51) (v := 0) d_Md_get_50 (by decide) rfl ?_
        refine V_putf (pc' := 54) d_Md_get_51 fp_Md_71 rfl (by first | assumption | exact aset_self _ _ _ | exact apush_self _ _) (by first | rfl | exact ob_nar _ | exact nar_rf _) (by first | rfl | exact ob_fit _ | exact fits_rf _) (by exact Nat.le_of_ble_eq_true rfl) ?_
        refine V_ex (fun g => IF _ g m A _) (IF_upc hF 0) (fun g1 hF => ?_)
        obtain ⟨hm, h0, h1, h2, h3, h5, h6, h7, h8, h11, h12, h13, h15, h16, h17, h18, h20, -⟩ := id hF.1
        refine V_aload_n (pc' := 55) d_Md_get_54 rfl (by first | rfl | exact isR_rf _) rfl ?_
        refine V_getf (pc' := 58) d_Md_get_55 fl_Md_42 rfl (by first | assumption | exact aset_self _ _ _ | exact apush_self _ _) (by rfl) ?_
        refine V_iload_n (pc' := 59) d_Md_get_58 rfl rfl ?_
        refine V_iconst (pc' := 60) (v := 0) d_Md_get_59 (by decide) rfl ?_
        -- at 60 bastore
        refine V_zast (pc' := 61) d_Md_get_60 rfl h13 rfl rfl (by omega) (arv_get (by omega)) rfl ?_
        refine V_ex (fun g => IF _ g m A _) (IF_uhd hF v false) (fun g2 hF => ?_)
        obtain ⟨hm, h0, h1, h2, h3, h5, h6, h7, h8, h11, h12, h13, h15, h16, h17, h18, h20, -⟩ := id hF.1
        refine V_iload (pc' := 63) d_Md_get_61 rfl rfl ?_
        refine V_if_eq (pc' := 66) (tgt := 69) d_Md_get_63 (by decide) rfl (fun c63 => ?_) (fun c63 => ?_)
        · obtain ⟨a, ea, ha6, ha3, hres⟩ := hb2 (ob_0.mp c63)
          subst ea
          refine V_aload_n (pc' := 70) d_Md_get_69 rfl (by first | rfl | exact isR_rf _) rfl ?_
          refine V_iload_n (pc' := 71) d_Md_get_70 rfl rfl ?_
          refine V_iload_n (pc' := 72) d_Md_get_71 rfl rfl ?_
          refine V_iconst (pc' := 73) (v := 4) d_Md_get_72 (by decide) rfl ?_
          refine V_irem (pc' := 74) d_Md_get_73 (by decide) rfl ?_
          rw [show nI a - nI a / 4 * 4 = nI (a % 4) from pk_rem (d := 4) (by omega) (by decide) (by decide)]
          refine V_iload_n (pc' := 75) d_Md_get_74 rfl rfl ?_
          -- at 75 invokevirtual
          refine V_callV (pc' := 78) (As := [_, _, _]) (ci := 6) d_Md_get_75 mv_Md_117 mw_Md_finds rfl rfl rfl (by simp [Value.category]) rfl (by first | assumption | exact aset_self _ _ _ | exact apush_self _ _) (c_Md_finds (v := v) (c := a % 4) (n := spc S) (S := uhd (upc S 0) v false) hF.1 hw hv hso hp e2 e3 (by omega)) (by first | decide | omega) (by first | decide | omega) (by first | decide | omega) (by first | decide | omega) ?_
          rintro _ g3 ⟨rfl, hG⟩
          rw [hres]
          generalize findsS (uhd (upc S 0) v false) v (a % 4) (spc S) = res at hG ⊢
          have hF : IF h g3 m A res.2 := ⟨hG.1, FrM_t hF.2 hG.2⟩
          obtain ⟨hm, h0, h1, h2, h3, h5, h6, h7, h8, h11, h12, h13, h15, h16, h17, h18, h20, -⟩ := id hF.1
          have fin : ∀ b2 : Bool, b2 = decide (3 < a ∧ (res.1 = 0 ∨ res.1 = 3 ∨ res.1 = 4)) → V x "PathCallsModel" b_Md_get 6 (Option.some .int) false (rmd 6 0 0) 0 0 (PM h m A (res.1, uhd res.2 v (decide (3 < a ∧ (res.1 = 0 ∨ res.1 = 3 ∨ res.1 = 4))))) 112 [(0, .ref m), (1, .int (nI v)), (2, .int (nI a)), (3, .int (nI (spc S))), (4, .int (ob b)), (5, .int res.1)] [.int (ob b2), .int (nI v), .ref (A 13)] g3 0 0 := by
            intro b2 hb2
            subst hb2
            refine V_zast (pc' := 113) d_Md_get_112 rfl h13 rfl rfl (by omega) (arv_get (by omega)) (ob_nar _) ?_
            refine V_ex (fun g => IF _ g m A _) (IF_uhd hF v (decide (3 < a ∧ (res.1 = 0 ∨ res.1 = 3 ∨ res.1 = 4)))) (fun g4 hF => ?_)
            obtain ⟨hm, h0, h1, h2, h3, h5, h6, h7, h8, h11, h12, h13, h15, h16, h17, h18, h20, -⟩ := id hF.1
            refine V_iload (pc' := 115) d_Md_get_113 rfl rfl ?_
            refine V_iret d_Md_get_115 rfl (by first | decide | omega) (by first | decide | omega) ?_
            exact ⟨rfl, hF⟩
          refine V_istore (pc' := 80) d_Md_get_78 (by decide) rfl ?_
          refine V_L [(0, _), (1, _), (2, _), (3, _), (4, _), (5, _)] ⟨rfl, rfl, rfl, rfl, rfl, rfl, trivial⟩ ?_
          refine V_aload_n (pc' := 81) d_Md_get_80 rfl (by first | rfl | exact isR_rf _) rfl ?_
          refine V_getf (pc' := 84) d_Md_get_81 fl_Md_42 rfl (by first | assumption | exact aset_self _ _ _ | exact apush_self _ _) (by rfl) ?_
          refine V_iload_n (pc' := 85) d_Md_get_84 rfl rfl ?_
          refine V_iload_n (pc' := 86) d_Md_get_85 rfl rfl ?_
          refine V_iconst (pc' := 87) (v := 3) d_Md_get_86 (by decide) rfl ?_
          refine V_icmp_le (pc' := 90) (tgt := 111) d_Md_get_87 (by decide) rfl (fun c87 => ?_) (fun c87 => ?_)
          · refine V_iconst (pc' := 112) (v := 0) d_Md_get_111 (by decide) rfl ?_
            refine fin false ?_
            have q : ¬ 3 < a := by
              have := (nI_leI (b := 3) (by omega) (by omega)).mp c87
              omega
            exact (decide_eq_false (fun z => q z.1)).symm
          · have q : 3 < a := by
              rcases Nat.lt_or_ge 3 a with q | q
              · exact q
              · exact absurd (nI_le (b := 3) q (by omega)) c87
            refine V_iload (pc' := 92) d_Md_get_90 rfl rfl ?_
            refine V_if_eq (pc' := 95) (tgt := 107) d_Md_get_92 (by decide) rfl (fun c92 => ?_) (fun c92 => ?_)
            · refine V_iconst (pc' := 108) (v := 1) d_Md_get_107 (by decide) rfl ?_
              refine V_goto (tgt := 112) d_Md_get_108 (by decide) ?_
              exact fin true (decide_eq_true ⟨q, Or.inl c92⟩).symm
            · refine V_iload (pc' := 97) d_Md_get_95 rfl rfl ?_
              refine V_iconst (pc' := 98) (v := 3) d_Md_get_97 (by decide) rfl ?_
              refine V_icmp_eq (pc' := 101) (tgt := 107) d_Md_get_98 (by decide) rfl (fun c98 => ?_) (fun c98 => ?_)
              · refine V_iconst (pc' := 108) (v := 1) d_Md_get_107 (by decide) rfl ?_
                refine V_goto (tgt := 112) d_Md_get_108 (by decide) ?_
                exact fin true (decide_eq_true ⟨q, Or.inr (Or.inl c98)⟩).symm
              · refine V_iload (pc' := 103) d_Md_get_101 rfl rfl ?_
                refine V_iconst (pc' := 104) (v := 4) d_Md_get_103 (by decide) rfl ?_
                refine V_icmp_ne (pc' := 107) (tgt := 111) d_Md_get_104 (by decide) rfl (fun c104 => ?_) (fun c104 => ?_)
                · refine V_iconst (pc' := 112) (v := 0) d_Md_get_111 (by decide) rfl ?_
                  exact fin false (decide_eq_false (fun z => z.2.elim c92 (fun z => z.elim c98 c104))).symm
                · refine V_iconst (pc' := 108) (v := 1) d_Md_get_107 (by decide) rfl ?_
                  refine V_goto (tgt := 112) d_Md_get_108 (by decide) ?_
                  exact fin true (decide_eq_true ⟨q, Or.inr (Or.inr c104)⟩).symm
        · refine V_bipush (pc' := 68) (v := 6) d_Md_get_66 (by decide) rfl ?_
          refine V_iret d_Md_get_68 rfl (by first | decide | omega) (by first | decide | omega) ?_
          rw [hb1 (ob_nt c63)]
          exact ⟨rfl, hF⟩
      have six : getS S (nI v) call = (6, uhd (upc S 0) v false) → V x "PathCallsModel" b_Md_get 6 (Option.some .int) false (rmd 6 0 0) 0 0 (PM h m A (getS S (nI v) call)) 42 [(0, .ref m), (1, .int (nI v)), (2, .int call), (3, .int (nI (spc S)))] [] h 0 0 := by
        intro hg
        refine V_iconst (pc' := 43) (v := 1) d_Md_get_42 (by decide) rfl ?_
        refine V_goto (tgt := 47) d_Md_get_43 (by decide) ?_
        exact cut true (fun _ => hg) (fun q => by cases q)
      have hz6 : kz 6 call = none → getS S (nI v) call = (6, uhd (upc S 0) v false) := by
        intro q
        unfold getS
        rw [ev]
        dsimp only
        rw [q]
      refine V_aload_n (pc' := 16) d_Md_get_15 rfl (by first | rfl | exact isR_rf _) rfl ?_
      refine V_getf (pc' := 19) d_Md_get_16 fl_Md_71 rfl (by first | assumption | exact aset_self _ _ _ | exact apush_self _ _) (by rfl) ?_
      refine V_istore_n (pc' := 20) d_Md_get_19 (by decide) rfl ?_
      refine V_L [(0, _), (1, _), (2, _), (3, _)] ⟨rfl, rfl, rfl, rfl, trivial⟩ ?_
      refine V_aload_n (pc' := 21) d_Md_get_20 rfl (by first | rfl | exact isR_rf _) rfl ?_
      -- at 21 invokevirtual
      refine V_callV (pc' := 24) (As := []) (ci := 6) d_Md_get_21 mv_Md_113 mw_Md_areFit rfl rfl rfl (by simp [Value.category]) rfl (by first | assumption | exact aset_self _ _ _ | exact apush_self _ _) (c_Md_areFit hI hp w5 hd) (by first | decide | omega) (by first | decide | omega) (by first | decide | omega) (by first | decide | omega) ?_
      rintro _ _ ⟨rfl, rfl⟩
      refine V_if_eq (pc' := 27) (tgt := 42) d_Md_get_24 (by decide) rfl (fun c24 => ?_) (fun c24 => ?_)
      · refine six ?_
        cases ec : kz 6 call with
        | none => exact hz6 ec
        | some a => unfold getS; rw [ev]; dsimp only; rw [ec]; dsimp only; rw [if_pos (Or.inr (ob_0.mp c24))]
      · have haf := ob_nt c24
        refine V_iload_n (pc' := 28) d_Md_get_27 rfl rfl ?_
        refine V_if_lt (pc' := 31) (tgt := 42) d_Md_get_28 (by decide) rfl (fun c28 => ?_) (fun c28 => ?_)
        · exact six (hz6 (kz_none.mpr (Or.inl c28)))
        · refine V_iload_n (pc' := 32) d_Md_get_31 rfl rfl ?_
          refine V_bipush (pc' := 34) (v := 6) d_Md_get_32 (by decide) rfl ?_
          refine V_icmp_gt (pc' := 37) (tgt := 42) d_Md_get_34 (by decide) rfl (fun c34 => ?_) (fun c34 => ?_)
          · exact six (hz6 (kz_none.mpr (Or.inr c34)))
          · cases ec : kz 6 call with
            | none =>
              rcases kz_none.mp ec with q | q
              · exact absurd q c28
              · exact absurd q c34
            | some a =>
              obtain ⟨f1, f2⟩ := kz_some (by omega) ec
              subst f1
              refine V_iload_n (pc' := 38) d_Md_get_37 rfl rfl ?_
              refine V_iconst (pc' := 39) (v := 3) d_Md_get_38 (by decide) rfl ?_
              refine V_icmp_ne (pc' := 42) (tgt := 46) d_Md_get_39 (by decide) rfl (fun c39 => ?_) (fun c39 => ?_)
              · refine V_iconst (pc' := 47) (v := 0) d_Md_get_46 (by decide) rfl ?_
                have q : a ≠ 3 := fun q => c39 (by rw [q]; rfl)
                refine cut false (fun z => by cases z) (fun _ => ⟨a, rfl, f2, q, ?_⟩)
                unfold getS
                rw [ev]
                dsimp only
                rw [ec]
                dsimp only
                rw [if_neg (fun z => z.elim q (fun z => by rw [haf] at z; cases z))]
              · refine six ?_
                have q : a = 3 := (nI_sm (by omega) (by omega) rfl).mp c39
                unfold getS; rw [ev]; dsimp only; rw [ec]; dsimp only; rw [if_pos (Or.inl q)]
    · exact none1 (ki_none.mpr (fun q => absurd q.2 c10))
end M8
