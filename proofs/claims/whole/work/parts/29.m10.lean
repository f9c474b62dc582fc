-- the reference: insert, delete
section M10
variable {x : CX} {h : AH} {m : Nat} {A : Nat → Nat} {S : PS}
theorem c_Md_insert (hI : IM h m A S) (hw : RW S) (hz : ssz S ≤ 900) (hnd : snd S ≤ 900) (hv : VW S) (hso : ∀ i, i < ssz S → 1 ≤ sso S i ∧ sso S i ≤ skc S) (hru : ∀ k, k ≤ skc S → sru S k ≤ 2) (hab : ∀ k, 1 ≤ k → k ≤ skc S → sab S k ≤ skc S) (hp : PV S (spc S)) (hd : ∀ k, k < 21 → 0 < k → sab S k < k) (view : Int32) (key val : Int64) : Ct x y_Md_insert b_Md_insert 8 (some .int) 6 0 0 [.ref m, .int view, .long key, .long val] h (PM h m A (insS S view key val)) := by
  have hF : IF h h m A S := ⟨hI, FrM_rf⟩
  obtain ⟨hm, h0, h1, h2, h3, h5, h6, h7, h8, h11, h12, h13, h15, h16, h17, h18, h20, -⟩ := id hI
  obtain ⟨u1, u2, u3⟩ := id hv
  obtain ⟨w1, w2, w3, w4, w5⟩ := id hw
  obtain ⟨v1, v2⟩ := id hp
  refine Ct_of (own := "PathCallsModel") (ini := false) rfl rfl (Nat.le_of_ble_eq_true rfl) (fun q => by cases q) ?_
  have none1 : ki (svc S) view = none → V x "PathCallsModel" b_Md_insert 8 (Option.some .int) false (rmd 6 0 0) 0 0 (PM h m A (insS S view key val)) 13 [(0, .ref m), (1, .int view), (2, .long key), (4, .long val)] [] h 0 0 := by
    intro he
    refine V_iconst (pc' := 14) (v := (-1)) d_Md_insert_13 (by decide) rfl ?_
    refine V_iret d_Md_insert_14 rfl (by first | decide | omega) (by first | decide | omega) ?_
    unfold insS
    rw [he]; exact ⟨rfl, hF⟩
  refine V_iload_n (pc' := 1) d_Md_insert_0 rfl rfl ?_
  refine V_iconst (pc' := 2) (v := 1) d_Md_insert_1 (by decide) rfl ?_
  refine V_icmp_lt (pc' := 5) (tgt := 13) d_Md_insert_2 (by decide) rfl (fun c2 => ?_) (fun c2 => ?_)
  · exact none1 (ki_none.mpr (fun q => lt_one.mp c2 q.1))
  · refine V_iload_n (pc' := 6) d_Md_insert_5 rfl rfl ?_
    refine V_aload_n (pc' := 7) d_Md_insert_6 rfl (by first | rfl | exact isR_rf _) rfl ?_
    refine V_getf (pc' := 10) d_Md_insert_7 fl_Md_68 rfl (by first | assumption | exact aset_self _ _ _ | exact apush_self _ _) (by rfl) ?_
    refine V_icmp_le (pc' := 13) (tgt := 15) d_Md_insert_10 (by decide) rfl (fun c10 => ?_) (fun c10 => ?_)
    · obtain ⟨v, ev⟩ := ki_of c2 c10
      obtain ⟨e1, e2, e3⟩ := ki_some (by omega) ev
      subst e1
      have fin : ∀ (b : Bool), b = badI S → V x "PathCallsModel" b_Md_insert 8 (Option.some .int) false (rmd 6 0 0) 0 0 (PM h m A (insS S (nI v) key val)) 84 [(0, .ref m), (1, .int (nI v)), (2, .long key), (4, .long val), (6, .int (nI (spc S))), (7, .int (ob b))] [] h 0 0 := by
        intro b hb
        refine V_aload_n (pc' := 85) d_Md_insert_84 rfl (by first | rfl | exact isR_rf _) rfl ?_
        refine V_iconst (pc' := 86) (v := 0) d_Md_insert_85 (by decide) rfl ?_
        refine V_putf (pc' := 89) d_Md_insert_86 fp_Md_71 rfl (by first | assumption | exact aset_self _ _ _ | exact apush_self _ _) (by first | rfl | exact ob_nar _ | exact nar_rf _) (by first | rfl | exact ob_fit _ | exact fits_rf _) (by exact Nat.le_of_ble_eq_true rfl) ?_
        refine V_ex (fun g => IF _ g m A _) (IF_upc hF 0) (fun g1 hF => ?_)
        obtain ⟨hm, h0, h1, h2, h3, h5, h6, h7, h8, h11, h12, h13, h15, h16, h17, h18, h20, -⟩ := id hF.1
        refine V_aload_n (pc' := 90) d_Md_insert_89 rfl (by first | rfl | exact isR_rf _) rfl ?_
        refine V_getf (pc' := 93) d_Md_insert_90 fl_Md_42 rfl (by first | assumption | exact aset_self _ _ _ | exact apush_self _ _) (by rfl) ?_
        refine V_iload_n (pc' := 94) d_Md_insert_93 rfl rfl ?_
        refine V_iconst (pc' := 95) (v := 0) d_Md_insert_94 (by decide) rfl ?_
        -- at 95 bastore
        refine V_zast (pc' := 96) d_Md_insert_95 rfl h13 rfl rfl (by omega) (arv_get (by omega)) rfl ?_
        refine V_ex (fun g => IF _ g m A _) (IF_uhd hF v false) (fun g2 hF => ?_)
        obtain ⟨hm, h0, h1, h2, h3, h5, h6, h7, h8, h11, h12, h13, h15, h16, h17, h18, h20, -⟩ := id hF.1
        refine V_iload (pc' := 98) d_Md_insert_96 rfl rfl ?_
        refine V_if_eq (pc' := 101) (tgt := 106) d_Md_insert_98 (by decide) rfl (fun c98 => ?_) (fun c98 => ?_)
        · have hbf : ¬ badI S = true := by rw [← hb, ob_0.mp c98]; decide
          have hn1 : 1 ≤ spc S := by
            rcases Nat.eq_zero_or_pos (spc S) with q | q
            · refine absurd ?_ hbf
              unfold badI
              rw [q]; rfl
            · exact q
          have hres : insS S (nI v) key val = insnS (uhd (upc S 0) v false) v (spc S) key val := by
            unfold insS
            rw [ev]
            dsimp only
            rw [if_neg hbf]
          refine V_aload_n (pc' := 107) d_Md_insert_106 rfl (by first | rfl | exact isR_rf _) rfl ?_
          refine V_iload_n (pc' := 108) d_Md_insert_107 rfl rfl ?_
          refine V_iload (pc' := 110) d_Md_insert_108 rfl rfl ?_
          refine V_lload_n (pc' := 111) d_Md_insert_110 rfl rfl ?_
          refine V_lload (pc' := 113) d_Md_insert_111 rfl rfl ?_
          -- at 113 invokevirtual
          refine V_callV (pc' := 116) (As := [_, _, _, _]) (ci := 6) d_Md_insert_113 mv_Md_124 mw_Md_insertion rfl rfl rfl (by simp [Value.category]) rfl (by first | assumption | exact aset_self _ _ _ | exact apush_self _ _) (c_Md_insertion (S := uhd (upc S 0) v false) (v := v) (n := spc S) hF.1 hw hz hnd hv hso hru hab hp hn1 e2 e3 key val) (by first | decide | omega) (by first | decide | omega) (by first | decide | omega) (by first | decide | omega) ?_
          rintro _ g3 ⟨rfl, hG⟩
          refine V_iret d_Md_insert_116 rfl (by first | decide | omega) (by first | decide | omega) ?_
          rw [hres]
          exact ⟨rfl, hG.1, FrM_t hF.2 hG.2⟩
        · refine V_bipush (pc' := 103) (v := 6) d_Md_insert_101 (by decide) rfl ?_
          refine V_goto (tgt := 116) d_Md_insert_103 (by decide) ?_
          refine V_iret d_Md_insert_116 rfl (by first | decide | omega) (by first | decide | omega) ?_
          unfold insS
          rw [ev]
          dsimp only
          rw [if_pos (by rw [← hb, ob_nt c98])]
          exact ⟨rfl, hF⟩
      have cut38 : ∀ (b : Bool), b = (spc S == 0 || !(af S (spc S))) → V x "PathCallsModel" b_Md_insert 8 (Option.some .int) false (rmd 6 0 0) 0 0 (PM h m A (insS S (nI v) key val)) 38 [(0, .ref m), (1, .int (nI v)), (2, .long key), (4, .long val), (6, .int (nI (spc S)))] [.int (ob b)] h 0 0 := by
        intro b hb
        refine V_istore (pc' := 40) d_Md_insert_38 (by decide) rfl ?_
        refine V_L [(0, _), (1, _), (2, _), (4, _), (6, _), (7, _)] ⟨rfl, rfl, rfl, rfl, rfl, rfl, trivial⟩ ?_
        refine V_iload (pc' := 42) d_Md_insert_40 rfl rfl ?_
        refine V_if_ne (pc' := 45) (tgt := 84) d_Md_insert_42 (by decide) rfl (fun c42 => ?_) (fun c42 => ?_)
        · refine fin b ?_
          unfold badI
          rw [← hb, ob_nt c42]; rfl
        · have hbf := ob_0.mp c42
          have hor : (spc S == 0 || !(af S (spc S))) = false := by rw [← hb, hbf]
          have hn1 : 1 ≤ spc S := by
            rcases Nat.eq_zero_or_pos (spc S) with q | q
            · rw [q] at hor; cases hor
            · exact q
          have badv : badI S = (decide (1 < spc S) && !(sab S (spk S (spc S - 1)) == spk S (spc S - 2))) := by
            unfold badI
            rw [hor]; rfl
          refine V_iload (pc' := 47) d_Md_insert_45 rfl rfl ?_
          refine V_iconst (pc' := 48) (v := 1) d_Md_insert_47 (by decide) rfl ?_
          refine V_icmp_le (pc' := 51) (tgt := 81) d_Md_insert_48 (by decide) rfl (fun c48 => ?_) (fun c48 => ?_)
          · have hle : ¬ 1 < spc S := by
              have := (nI_leI (b := 1) (by omega) (by omega)).mp c48
              omega
            refine V_iconst (pc' := 82) (v := 0) d_Md_insert_81 (by decide) rfl ?_
            refine V_istore (pc' := 84) d_Md_insert_82 (by decide) rfl ?_
            refine V_L [(0, _), (1, _), (2, _), (4, _), (6, _), (7, _)] ⟨rfl, rfl, rfl, rfl, rfl, rfl, trivial⟩ ?_
            exact fin false (by rw [badv, decide_eq_false hle]; rfl)
          · have hlt : 1 < spc S := by
              rcases Nat.lt_or_ge 1 (spc S) with z | z
              · exact z
              · exact absurd (nI_le (b := 1) z (by omega)) c48
            obtain ⟨p1, p2, p3, p4⟩ := v2 (spc S - 1) (by omega)
            obtain ⟨q1, q2, q3, q4⟩ := v2 (spc S - 2) (by omega)
            have a1 := hab _ p1 p2
            refine V_aload_n (pc' := 52) d_Md_insert_51 rfl (by first | rfl | exact isR_rf _) rfl ?_
            refine V_getf (pc' := 55) d_Md_insert_52 fl_Md_7 rfl (by first | assumption | exact aset_self _ _ _ | exact apush_self _ _) (by rfl) ?_
            refine V_aload_n (pc' := 56) d_Md_insert_55 rfl (by first | rfl | exact isR_rf _) rfl ?_
            refine V_getf (pc' := 59) d_Md_insert_56 fl_Md_45 rfl (by first | assumption | exact aset_self _ _ _ | exact apush_self _ _) (by rfl) ?_
            refine V_iload (pc' := 61) d_Md_insert_59 rfl rfl ?_
            refine V_iconst (pc' := 62) (v := 1) d_Md_insert_61 (by decide) rfl ?_
            refine V_isub (pc' := 63) d_Md_insert_62 rfl ?_
            -- at 63 iaload
            refine V_iald (pc' := 64) d_Md_insert_63 rfl h15 rfl (pk_sub (a := spc S) (b := 1) hn1) (by omega) (arv_get (by omega)) ?_
            refine V_iald (pc' := 65) d_Md_insert_64 rfl h0 rfl (rfl : _ = nI (spk S (spc S - 1))) (by omega) (arv_get (by omega)) ?_
            refine V_aload_n (pc' := 66) d_Md_insert_65 rfl (by first | rfl | exact isR_rf _) rfl ?_
            refine V_getf (pc' := 69) d_Md_insert_66 fl_Md_45 rfl (by first | assumption | exact aset_self _ _ _ | exact apush_self _ _) (by rfl) ?_
            refine V_iload (pc' := 71) d_Md_insert_69 rfl rfl ?_
            refine V_iconst (pc' := 72) (v := 2) d_Md_insert_71 (by decide) rfl ?_
            refine V_isub (pc' := 73) d_Md_insert_72 rfl ?_
            -- at 73 iaload
            refine V_iald (pc' := 74) d_Md_insert_73 rfl h15 rfl (pk_sub (a := spc S) (b := 2) hlt) (by omega) (arv_get (by omega)) ?_
            refine V_icmp_eq (pc' := 77) (tgt := 81) d_Md_insert_74 (by decide) rfl (fun c74 => ?_) (fun c74 => ?_)
            · refine V_iconst (pc' := 82) (v := 0) d_Md_insert_81 (by decide) rfl ?_
              refine V_istore (pc' := 84) d_Md_insert_82 (by decide) rfl ?_
              refine V_L [(0, _), (1, _), (2, _), (4, _), (6, _), (7, _)] ⟨rfl, rfl, rfl, rfl, rfl, rfl, trivial⟩ ?_
              have z : sab S (spk S (spc S - 1)) = spk S (spc S - 2) := (nI_eq (by omega) (by omega)).mp c74
              exact fin false (by rw [badv, decide_eq_true hlt, z]; simp)
            · refine V_iconst (pc' := 78) (v := 1) d_Md_insert_77 (by decide) rfl ?_
              refine V_goto (tgt := 82) d_Md_insert_78 (by decide) ?_
              refine V_istore (pc' := 84) d_Md_insert_82 (by decide) rfl ?_
              refine V_L [(0, _), (1, _), (2, _), (4, _), (6, _), (7, _)] ⟨rfl, rfl, rfl, rfl, rfl, rfl, trivial⟩ ?_
              have z : ¬ sab S (spk S (spc S - 1)) = spk S (spc S - 2) := fun z => c74 (by rw [z])
              exact fin true (by rw [badv, decide_eq_true hlt]; simp [z])
      refine V_aload_n (pc' := 16) d_Md_insert_15 rfl (by first | rfl | exact isR_rf _) rfl ?_
      refine V_getf (pc' := 19) d_Md_insert_16 fl_Md_71 rfl (by first | assumption | exact aset_self _ _ _ | exact apush_self _ _) (by rfl) ?_
      refine V_istore (pc' := 21) d_Md_insert_19 (by decide) rfl ?_
      refine V_L [(0, _), (1, _), (2, _), (4, _), (6, _)] ⟨rfl, rfl, rfl, rfl, rfl, trivial⟩ ?_
      refine V_iload (pc' := 23) d_Md_insert_21 rfl rfl ?_
      refine V_if_eq (pc' := 26) (tgt := 33) d_Md_insert_23 (by decide) rfl (fun c23 => ?_) (fun c23 => ?_)
      · refine V_iconst (pc' := 34) (v := 1) d_Md_insert_33 (by decide) rfl ?_
        refine V_goto (tgt := 38) d_Md_insert_34 (by decide) ?_
        have z : spc S = 0 := (nI_sm (by omega) (by omega) rfl).mp c23
        exact cut38 true (by rw [z]; rfl)
      · have z : (spc S == 0) = false := by
          have : ¬ spc S = 0 := fun z => c23 (by rw [z]; rfl)
          simp [this]
        refine V_aload_n (pc' := 27) d_Md_insert_26 rfl (by first | rfl | exact isR_rf _) rfl ?_
        -- at 27 invokevirtual
        refine V_callV (pc' := 30) (As := []) (ci := 6) d_Md_insert_27 mv_Md_113 mw_Md_areFit rfl rfl rfl (by simp [Value.category]) rfl (by first | assumption | exact aset_self _ _ _ | exact apush_self _ _) (c_Md_areFit hI hp w5 hd) (by first | decide | omega) (by first | decide | omega) (by first | decide | omega) (by first | decide | omega) ?_
        rintro _ _ ⟨rfl, rfl⟩
        refine V_if_ne (pc' := 33) (tgt := 37) d_Md_insert_30 (by decide) rfl (fun c30 => ?_) (fun c30 => ?_)
        · refine V_iconst (pc' := 38) (v := 0) d_Md_insert_37 (by decide) rfl ?_
          exact cut38 false (by rw [z, ob_nt c30]; rfl)
        · refine V_iconst (pc' := 34) (v := 1) d_Md_insert_33 (by decide) rfl ?_
          refine V_goto (tgt := 38) d_Md_insert_34 (by decide) ?_
          exact cut38 true (by rw [z, ob_0.mp c30]; rfl)
    · exact none1 (ki_none.mpr (fun q => absurd q.2 c10))
set_option maxHeartbeats 4000000 in
theorem c_Md_delete (hI : IM h m A S) (hw : RW S) (hv : VW S) (hh : ∀ j, 1 ≤ j → j ≤ svc S → shd S j = true → ∃ k, plc S (spo S j) = some k) (view : Int32) : Ct x y_Md_delete b_Md_delete 8 (some .int) 2 0 0 [.ref m, .int view] h (PM h m A (delS S view)) := by
  have hF : IF h h m A S := ⟨hI, FrM_rf⟩
  obtain ⟨hm, h0, h1, h2, h3, h5, h6, h7, h8, h11, h12, h13, h15, h16, h17, h18, h20, -⟩ := id hI
  obtain ⟨u1, u2, u3⟩ := id hv
  obtain ⟨w1, w2, w3, w4, w5⟩ := id hw
  have wl := hw.lo
  refine Ct_of (own := "PathCallsModel") (ini := false) rfl rfl (Nat.le_of_ble_eq_true rfl) (fun q => by cases q) ?_
  have none1 : ki (svc S) view = none → V x "PathCallsModel" b_Md_delete 8 (Option.some .int) false (rmd 2 0 0) 0 0 (PM h m A (delS S view)) 13 [(0, .ref m), (1, .int view)] [] h 0 0 := by
    intro he
    refine V_iconst (pc' := 14) (v := (-1)) d_Md_delete_13 (by decide) rfl ?_
    refine V_iret d_Md_delete_14 rfl (by first | decide | omega) (by first | decide | omega) ?_
    unfold delS
    rw [he]; exact ⟨rfl, hF⟩
  refine V_iload_n (pc' := 1) d_Md_delete_0 rfl rfl ?_
  refine V_iconst (pc' := 2) (v := 1) d_Md_delete_1 (by decide) rfl ?_
  refine V_icmp_lt (pc' := 5) (tgt := 13) d_Md_delete_2 (by decide) rfl (fun c2 => ?_) (fun c2 => ?_)
  · exact none1 (ki_none.mpr (fun q => lt_one.mp c2 q.1))
  · refine V_iload_n (pc' := 6) d_Md_delete_5 rfl rfl ?_
    refine V_aload_n (pc' := 7) d_Md_delete_6 rfl (by first | rfl | exact isR_rf _) rfl ?_
    refine V_getf (pc' := 10) d_Md_delete_7 fl_Md_68 rfl (by first | assumption | exact aset_self _ _ _ | exact apush_self _ _) (by rfl) ?_
    refine V_icmp_le (pc' := 13) (tgt := 15) d_Md_delete_10 (by decide) rfl (fun c10 => ?_) (fun c10 => ?_)
    · obtain ⟨v, ev⟩ := ki_of c2 c10
      obtain ⟨e1, e2, e3⟩ := ki_some (by omega) ev
      subst e1
      refine V_aload_n (pc' := 16) d_Md_delete_15 rfl (by first | rfl | exact isR_rf _) rfl ?_
      refine V_getf (pc' := 19) d_Md_delete_16 fl_Md_42 rfl (by first | assumption | exact aset_self _ _ _ | exact apush_self _ _) (by rfl) ?_
      refine V_iload_n (pc' := 20) d_Md_delete_19 rfl rfl ?_
      -- at 20 baload
      refine V_zald (pc' := 21) d_Md_delete_20 rfl h13 rfl rfl (by omega) (arv_get (by omega)) ?_
      refine V_if_ne (pc' := 24) (tgt := 27) d_Md_delete_21 (by decide) rfl (fun c21 => ?_) (fun c21 => ?_)
      · have hs := ob_nt c21
        obtain ⟨f, ef⟩ := hh v e2 e3 hs
        have hfz := (plc_lt ef).1
        obtain ⟨g1, g2⟩ := u3 v (by omega)
        have b1 := bhd_lt S f
        have b2 := bhd_ub S hfz
        have hres : delS S (nI v) = (0, deldS S f) := by
          unfold delS
          rw [ev]
          dsimp only
          rw [if_pos hs, ef]
        have hah : aheadS S f ≤ 1000 := by
          unfold aheadS
          split
          · omega
          · exact u2 _ (by omega)
        generalize eah : aheadS S f = ah at hah
        generalize egn : bhd S f - f = gone
        -- the rows move
        have rows : ∀ (d i : Nat), i + d = ssz S → bhd S f ≤ i → ∀ g, IF h g m A (mkR (mkV S (dpo S f ah (svc S + 1)) (dpr S f (svc S + 1)) (dhd S f (svc S + 1))) (ssz S) (snd S) (dsh (snm S) f gone i) (dsh (sso S) f gone i) (dsh (sky S) f gone i) (dsh (svl S) f gone i)) → V x "PathCallsModel" b_Md_delete 8 (Option.some .int) false (rmd 2 0 0) 0 0 (PM h m A (delS S (nI v))) 163 [(0, .ref m), (5, .int (nI gone)), (6, .int (nI i))] [] g 0 0 := by
          intro d
          induction d with
          | zero =>
            intro i hi hbi g hF
            obtain ⟨hm, -⟩ := id hF.1
            have e0 : i = ssz S := by omega
            subst e0
            refine V_iload (pc' := 165) d_Md_delete_163 rfl rfl ?_
            refine V_aload_n (pc' := 166) d_Md_delete_165 rfl (by first | rfl | exact isR_rf _) rfl ?_
            refine V_getf (pc' := 169) d_Md_delete_166 fl_Md_74 rfl (by first | assumption | exact aset_self _ _ _ | exact apush_self _ _) (by rfl) ?_
            refine V_icmp_ge (pc' := 172) (tgt := 246) d_Md_delete_169 (by decide) rfl (fun c169 => ?_) (fun c169 => ?_)
            · refine V_aload_n (pc' := 247) d_Md_delete_246 rfl (by first | rfl | exact isR_rf _) rfl ?_
              refine V_dup (pc' := 248) d_Md_delete_247 rfl rfl ?_
              refine V_getf (pc' := 251) d_Md_delete_248 fl_Md_74 rfl (by first | assumption | exact aset_self _ _ _ | exact apush_self _ _) (by rfl) ?_
              refine V_iload (pc' := 253) d_Md_delete_251 rfl rfl ?_
              refine V_isub (pc' := 254) d_Md_delete_253 rfl ?_
              rw [show nI (ssz (mkR (mkV S (dpo S f ah (svc S + 1)) (dpr S f (svc S + 1)) (dhd S f (svc S + 1))) (ssz S) (snd S) (dsh (snm S) f gone (ssz S)) (dsh (sso S) f gone (ssz S)) (dsh (sky S) f gone (ssz S)) (dsh (svl S) f gone (ssz S)))) - nI gone = nI (ssz S - gone) from pk_sub (a := ssz S) (b := gone) (by omega)]
              refine V_putf (pc' := 257) d_Md_delete_254 fp_Md_74 rfl (by first | assumption | exact aset_self _ _ _ | exact apush_self _ _) (by first | rfl | exact ob_nar _ | exact nar_rf _) (by first | rfl | exact ob_fit _ | exact fits_rf _) (by exact Nat.le_of_ble_eq_true rfl) ?_
              refine V_ex (fun g => IF _ g m A _) (IF_usz hF (ssz S - gone)) (fun g1 hF => ?_)
              obtain ⟨hm, h0, h1, h2, h3, h5, h6, h7, h8, h11, h12, h13, h15, h16, h17, h18, h20, -⟩ := id hF.1
              refine V_iconst (pc' := 258) (v := 0) d_Md_delete_257 (by decide) rfl ?_
              refine V_iret d_Md_delete_258 rfl (by first | decide | omega) (by first | decide | omega) ?_
              rw [hres]
              refine ⟨rfl, ?_⟩
              unfold deldS
              rw [egn, eah]
              exact hF
            · exact absurd (Int32.le_refl _) c169
          | succ d ih =>
            intro i hi hbi g hF
            obtain ⟨hm, h0, h1, h2, h3, h5, h6, h7, h8, h11, h12, h13, h15, h16, h17, h18, h20, -⟩ := id hF.1
            have si : ∀ {α : Type} (y : Nat → α), (fun j => if j = i - gone then dsh y f gone i i else dsh y f gone i j) = dsh y f gone (i + 1) := by
              intro α y
              funext j
              unfold dsh
              by_cases q1 : j = i - gone
              · subst q1
                rw [if_pos rfl, if_neg (by omega), if_pos ⟨by omega, by omega⟩]
                congr 1
                omega
              · rw [if_neg q1]
                by_cases q2 : f ≤ j ∧ j + gone < i
                · rw [if_pos q2, if_pos ⟨q2.1, by omega⟩]
                · rw [if_neg q2, if_neg (by omega)]
            refine V_iload (pc' := 165) d_Md_delete_163 rfl rfl ?_
            refine V_aload_n (pc' := 166) d_Md_delete_165 rfl (by first | rfl | exact isR_rf _) rfl ?_
            refine V_getf (pc' := 169) d_Md_delete_166 fl_Md_74 rfl (by first | assumption | exact aset_self _ _ _ | exact apush_self _ _) (by rfl) ?_
            refine V_icmp_ge (pc' := 172) (tgt := 246) d_Md_delete_169 (by decide) rfl (fun c169 => ?_) (fun c169 => ?_)
            · exact absurd (show nI (ssz S) ≤ nI i from c169) (nI_ge (by omega) (by omega))
            · refine V_aload_n (pc' := 173) d_Md_delete_172 rfl (by first | rfl | exact isR_rf _) rfl ?_
              refine V_getf (pc' := 176) d_Md_delete_173 fl_Md_23 rfl (by first | assumption | exact aset_self _ _ _ | exact apush_self _ _) (by rfl) ?_
              refine V_iload (pc' := 178) d_Md_delete_176 rfl rfl ?_
              refine V_iload (pc' := 180) d_Md_delete_178 rfl rfl ?_
              refine V_isub (pc' := 181) d_Md_delete_180 rfl ?_
              rw [show nI i - nI gone = nI (i - gone) from pk_sub (a := i) (b := gone) (by omega)]
              refine V_aload_n (pc' := 182) d_Md_delete_181 rfl (by first | rfl | exact isR_rf _) rfl ?_
              refine V_getf (pc' := 185) d_Md_delete_182 fl_Md_23 rfl (by first | assumption | exact aset_self _ _ _ | exact apush_self _ _) (by rfl) ?_
              refine V_iload (pc' := 187) d_Md_delete_185 rfl rfl ?_
              -- at 187 iaload
              refine V_iald (pc' := 188) d_Md_delete_187 rfl h5 rfl rfl (by omega) (arv_get (by omega)) ?_
              refine V_iast (pc' := 189) d_Md_delete_188 rfl h5 rfl rfl (by omega) (arv_get (by omega)) ?_
              refine V_ex (fun g => IF _ g m A _) (IF_unm hF (i - gone) (dsh (snm S) f gone i i)) (fun g1 hF => ?_)
              obtain ⟨hm, h0, h1, h2, h3, h5, h6, h7, h8, h11, h12, h13, h15, h16, h17, h18, h20, -⟩ := id hF.1
              refine V_aload_n (pc' := 190) d_Md_delete_189 rfl (by first | rfl | exact isR_rf _) rfl ?_
              refine V_getf (pc' := 193) d_Md_delete_190 fl_Md_26 rfl (by first | assumption | exact aset_self _ _ _ | exact apush_self _ _) (by rfl) ?_
              refine V_iload (pc' := 195) d_Md_delete_193 rfl rfl ?_
              refine V_iload (pc' := 197) d_Md_delete_195 rfl rfl ?_
              refine V_isub (pc' := 198) d_Md_delete_197 rfl ?_
              rw [show nI i - nI gone = nI (i - gone) from pk_sub (a := i) (b := gone) (by omega)]
              refine V_aload_n (pc' := 199) d_Md_delete_198 rfl (by first | rfl | exact isR_rf _) rfl ?_
              refine V_getf (pc' := 202) d_Md_delete_199 fl_Md_26 rfl (by first | assumption | exact aset_self _ _ _ | exact apush_self _ _) (by rfl) ?_
              refine V_iload (pc' := 204) d_Md_delete_202 rfl rfl ?_
              -- at 204 iaload
              refine V_iald (pc' := 205) d_Md_delete_204 rfl h6 rfl rfl (by omega) (arv_get (by omega)) ?_
              refine V_iast (pc' := 206) d_Md_delete_205 rfl h6 rfl rfl (by omega) (arv_get (by omega)) ?_
              refine V_ex (fun g => IF _ g m A _) (IF_uso hF (i - gone) (dsh (sso S) f gone i i)) (fun g2 hF => ?_)
              obtain ⟨hm, h0, h1, h2, h3, h5, h6, h7, h8, h11, h12, h13, h15, h16, h17, h18, h20, -⟩ := id hF.1
              refine V_aload_n (pc' := 207) d_Md_delete_206 rfl (by first | rfl | exact isR_rf _) rfl ?_
              refine V_getf (pc' := 210) d_Md_delete_207 fl_Md_29 rfl (by first | assumption | exact aset_self _ _ _ | exact apush_self _ _) (by rfl) ?_
              refine V_iload (pc' := 212) d_Md_delete_210 rfl rfl ?_
              refine V_iload (pc' := 214) d_Md_delete_212 rfl rfl ?_
              refine V_isub (pc' := 215) d_Md_delete_214 rfl ?_
              rw [show nI i - nI gone = nI (i - gone) from pk_sub (a := i) (b := gone) (by omega)]
              refine V_aload_n (pc' := 216) d_Md_delete_215 rfl (by first | rfl | exact isR_rf _) rfl ?_
              refine V_getf (pc' := 219) d_Md_delete_216 fl_Md_29 rfl (by first | assumption | exact aset_self _ _ _ | exact apush_self _ _) (by rfl) ?_
              refine V_iload (pc' := 221) d_Md_delete_219 rfl rfl ?_
              -- at 221 laload
              refine V_lald (pc' := 222) d_Md_delete_221 rfl h7 rfl rfl (by omega) (arv_get (by omega)) ?_
              refine V_last (pc' := 223) d_Md_delete_222 rfl h7 rfl rfl (by omega) (arv_get (by omega)) ?_
              refine V_ex (fun g => IF _ g m A _) (IF_uky hF (i - gone) (dsh (sky S) f gone i i)) (fun g3 hF => ?_)
              obtain ⟨hm, h0, h1, h2, h3, h5, h6, h7, h8, h11, h12, h13, h15, h16, h17, h18, h20, -⟩ := id hF.1
              refine V_aload_n (pc' := 224) d_Md_delete_223 rfl (by first | rfl | exact isR_rf _) rfl ?_
              refine V_getf (pc' := 227) d_Md_delete_224 fl_Md_33 rfl (by first | assumption | exact aset_self _ _ _ | exact apush_self _ _) (by rfl) ?_
              refine V_iload (pc' := 229) d_Md_delete_227 rfl rfl ?_
              refine V_iload (pc' := 231) d_Md_delete_229 rfl rfl ?_
              refine V_isub (pc' := 232) d_Md_delete_231 rfl ?_
              rw [show nI i - nI gone = nI (i - gone) from pk_sub (a := i) (b := gone) (by omega)]
              refine V_aload_n (pc' := 233) d_Md_delete_232 rfl (by first | rfl | exact isR_rf _) rfl ?_
              refine V_getf (pc' := 236) d_Md_delete_233 fl_Md_33 rfl (by first | assumption | exact aset_self _ _ _ | exact apush_self _ _) (by rfl) ?_
              refine V_iload (pc' := 238) d_Md_delete_236 rfl rfl ?_
              -- at 238 laload
              refine V_lald (pc' := 239) d_Md_delete_238 rfl h8 rfl rfl (by omega) (arv_get (by omega)) ?_
              refine V_last (pc' := 240) d_Md_delete_239 rfl h8 rfl rfl (by omega) (arv_get (by omega)) ?_
              refine V_ex (fun g => IF _ g m A _) (IF_uvl hF (i - gone) (dsh (svl S) f gone i i)) (fun g4 hF => ?_)
              obtain ⟨hm, h0, h1, h2, h3, h5, h6, h7, h8, h11, h12, h13, h15, h16, h17, h18, h20, -⟩ := id hF.1
              first | refine V_iincN (pc' := 243) d_Md_delete_240 rfl (by decide) rfl ?_ | refine V_iinc (pc' := 243) d_Md_delete_240 rfl rfl (by decide) rfl ?_
              refine V_L [(0, _), (5, _), (6, _)] ⟨rfl, rfl, rfl, trivial⟩ ?_
              refine V_goto (tgt := 163) d_Md_delete_243 (by decide) ?_
              refine ih (i + 1) (by omega) (by omega) g4 ?_
              rw [← si, ← si, ← si, ← si]
              exact hF
        -- the views leave
        have vws : ∀ (d w : Nat), w + d = svc S + 1 → 1 ≤ w → ∀ g, IF h g m A (mkV S (dpo S f ah w) (dpr S f w) (dhd S f w)) → V x "PathCallsModel" b_Md_delete 8 (Option.some .int) false (rmd 2 0 0) 0 0 (PM h m A (delS S (nI v))) 65 [(0, .ref m), (2, .int (nI f)), (3, .int (nI (bhd S f))), (4, .int (nI ah)), (5, .int (nI w))] [] g 0 0 := by
          intro d
          induction d with
          | zero =>
            intro w hw0 hw1 g hF
            obtain ⟨hm, -⟩ := id hF.1
            have e0 : w = svc S + 1 := by omega
            subst e0
            refine V_iload (pc' := 67) d_Md_delete_65 rfl rfl ?_
            refine V_aload_n (pc' := 68) d_Md_delete_67 rfl (by first | rfl | exact isR_rf _) rfl ?_
            refine V_getf (pc' := 71) d_Md_delete_68 fl_Md_68 rfl (by first | assumption | exact aset_self _ _ _ | exact apush_self _ _) (by rfl) ?_
            refine V_icmp_gt (pc' := 74) (tgt := 155) d_Md_delete_71 (by decide) rfl (fun c71 => ?_) (fun c71 => ?_)
            · refine V_iload_n (pc' := 156) d_Md_delete_155 rfl rfl ?_
              refine V_iload_n (pc' := 157) d_Md_delete_156 rfl rfl ?_
              refine V_isub (pc' := 158) d_Md_delete_157 rfl ?_
              rw [show nI (bhd S f) - nI f = nI gone from by rw [← egn]; exact pk_sub (by omega)]
              refine V_istore (pc' := 160) d_Md_delete_158 (by decide) rfl ?_
              refine V_L [(0, _), (2, _), (3, _), (4, _), (5, _)] ⟨rfl, rfl, rfl, rfl, rfl, trivial⟩ ?_
              refine V_iload_n (pc' := 161) d_Md_delete_160 rfl rfl ?_
              refine V_istore (pc' := 163) d_Md_delete_161 (by decide) rfl ?_
              refine V_L [(0, _), (2, _), (3, _), (4, _), (5, _), (6, _)] ⟨rfl, rfl, rfl, rfl, rfl, rfl, trivial⟩ ?_
              refine V_L [(0, .ref m), (5, .int (nI gone)), (6, .int (nI (bhd S f)))] ⟨rfl, rfl, rfl, trivial⟩ ?_
              refine rows (ssz S - bhd S f) (bhd S f) (by omega) (Nat.le_refl _) g ?_
              have s0 : ∀ {α : Type} (y : Nat → α), dsh y f gone (bhd S f) = y := by
                intro α y
                funext j
                unfold dsh
                rw [if_neg (by omega)]
              rw [s0, s0, s0, s0]
              exact hF
            · exact absurd (nI_lt (by omega) (by omega)) (show ¬ nI (svc S) < nI (svc S + 1) from c71)
          | succ d ih =>
            intro w hw0 hw1 g hF
            obtain ⟨hm, h0, h1, h2, h3, h5, h6, h7, h8, h11, h12, h13, h15, h16, h17, h18, h20, -⟩ := id hF.1
            obtain ⟨y1, y2⟩ := u3 w (by omega)
            have ep : dpo S f ah w w = spo S w := by unfold dpo; rw [if_neg (by omega)]
            have er : dpr S f w w = spr S w := by unfold dpr; rw [if_neg (by omega)]
            have step : ∀ g2, IF h g2 m A (mkV S (dpo S f ah (w + 1)) (dpr S f w) (dhd S f (w + 1))) → V x "PathCallsModel" b_Md_delete 8 (Option.some .int) false (rmd 2 0 0) 0 0 (PM h m A (delS S (nI v))) 116 [(0, .ref m), (2, .int (nI f)), (3, .int (nI (bhd S f))), (4, .int (nI ah)), (5, .int (nI w))] [] g2 0 0 := by
              intro g2 hF
              obtain ⟨hm, h0, h1, h2, h3, h5, h6, h7, h8, h11, h12, h13, h15, h16, h17, h18, h20, -⟩ := id hF.1
              have last : ∀ g3, IF h g3 m A (mkV S (dpo S f ah (w + 1)) (dpr S f (w + 1)) (dhd S f (w + 1))) → ∀ z : Int32, V x "PathCallsModel" b_Md_delete 8 (Option.some .int) false (rmd 2 0 0) 0 0 (PM h m A (delS S (nI v))) 149 [(0, .ref m), (2, .int (nI f)), (3, .int (nI (bhd S f))), (4, .int (nI ah)), (5, .int (nI w)), (7, .int z)] [] g3 0 0 := by
                intro g3 hF z
                first | refine V_iincN (pc' := 152) d_Md_delete_149 rfl (by decide) rfl ?_ | refine V_iinc (pc' := 152) d_Md_delete_149 rfl rfl (by decide) rfl ?_
                refine V_L [(0, _), (2, _), (3, _), (4, _), (5, _), (7, _)] ⟨rfl, rfl, rfl, rfl, rfl, rfl, trivial⟩ ?_
                refine V_goto (tgt := 65) d_Md_delete_152 (by decide) ?_
                refine V_L [(0, .ref m), (2, .int (nI f)), (3, .int (nI (bhd S f))), (4, .int (nI ah)), (5, .int (nI (w + 1)))] ⟨rfl, rfl, rfl, rfl, rfl, trivial⟩ ?_
                exact ih (w + 1) (by omega) (by omega) g3 hF
              have keep : inR S f (plc S (spr S w)) = false → dpr S f w = dpr S f (w + 1) := by
                intro hn
                funext i
                unfold dpr
                by_cases q1 : i = w
                · subst q1
                  rw [if_neg (by omega), if_neg (fun q => by rw [hn] at q; cases q.2)]
                · by_cases q2 : (1 ≤ i ∧ i < w) ∧ inR S f (plc S (spr S i)) = true
                  · rw [if_pos q2, if_pos ⟨⟨q2.1.1, by omega⟩, q2.2⟩]
                  · rw [if_neg q2, if_neg (fun q => q2 ⟨⟨q.1.1, by omega⟩, q.2⟩)]
              refine V_aload_n (pc' := 117) d_Md_delete_116 rfl (by first | rfl | exact isR_rf _) rfl ?_
              refine V_aload_n (pc' := 118) d_Md_delete_117 rfl (by first | rfl | exact isR_rf _) rfl ?_
              refine V_getf (pc' := 121) d_Md_delete_118 fl_Md_39 rfl (by first | assumption | exact aset_self _ _ _ | exact apush_self _ _) (by rfl) ?_
              refine V_iload (pc' := 123) d_Md_delete_121 rfl rfl ?_
              -- at 123 iaload
              refine V_iald (pc' := 124) d_Md_delete_123 rfl h12 rfl rfl (by omega) (arv_get (by omega)) ?_
              rw [show spr (mkV S (dpo S f ah (w + 1)) (dpr S f w) (dhd S f (w + 1))) w = spr S w from er]
              refine V_callV (pc' := 127) (As := [_]) (ci := 6) d_Md_delete_124 mv_Md_106 mw_Md_placeOf rfl rfl rfl (by simp [Value.category]) rfl (by first | assumption | exact aset_self _ _ _ | exact apush_self _ _) (c_Md_placeOf (nm := spr S w) hF.1 w1 (by omega) (fun i hi => by have := u2 i hi; show snm S i < 2 ^ 31; omega)) (by first | decide | omega) (by first | decide | omega) (by first | decide | omega) (by first | decide | omega) ?_
              rintro _ _ ⟨rfl, rfl⟩
              rw [show plc (mkV S (dpo S f ah (w + 1)) (dpr S f w) (dhd S f (w + 1))) (spr S w) = plc S (spr S w) from rfl]
              cases ek : plc S (spr S w) with
              | none =>
                refine V_istore (pc' := 129) d_Md_delete_127 (by decide) rfl ?_
                refine V_L [(0, _), (2, _), (3, _), (4, _), (5, _), (7, _)] ⟨rfl, rfl, rfl, rfl, rfl, rfl, trivial⟩ ?_
                refine V_iload (pc' := 131) d_Md_delete_129 rfl rfl ?_
                refine V_iload_n (pc' := 132) d_Md_delete_131 rfl rfl ?_
                refine V_icmp_lt (pc' := 135) (tgt := 149) d_Md_delete_132 (by decide) rfl (fun c132 => ?_) (fun c132 => ?_)
                · refine last g2 ?_ _
                  rw [← keep (by rw [ek]; rfl)]; exact hF
                · exact absurd (show (-1 : Int32) < nI f by rw [Int32.lt_iff_toInt_lt, nI_toInt (by omega)]; show (-1 : Int) < _; omega) c132
              | some k =>
                have hkz := (plc_lt ek).1
                refine V_istore (pc' := 129) d_Md_delete_127 (by decide) rfl ?_
                refine V_L [(0, _), (2, _), (3, _), (4, _), (5, _), (7, _)] ⟨rfl, rfl, rfl, rfl, rfl, rfl, trivial⟩ ?_
                refine V_iload (pc' := 131) d_Md_delete_129 rfl rfl ?_
                refine V_iload_n (pc' := 132) d_Md_delete_131 rfl rfl ?_
                refine V_icmp_lt (pc' := 135) (tgt := 149) d_Md_delete_132 (by decide) rfl (fun c132 => ?_) (fun c132 => ?_)
                · refine last g2 ?_ _
                  have z : k < f := (nI_ltI (by omega) (by omega)).mp c132
                  rw [← keep (by rw [ek]; exact decide_eq_false (by omega))]; exact hF
                · have z1 : f ≤ k := by
                    rcases Nat.lt_or_ge k f with z | z
                    · exact absurd (nI_lt z (by omega)) c132
                    · exact z
                  refine V_iload (pc' := 137) d_Md_delete_135 rfl rfl ?_
                  refine V_iload_n (pc' := 138) d_Md_delete_137 rfl rfl ?_
                  refine V_icmp_ge (pc' := 141) (tgt := 149) d_Md_delete_138 (by decide) rfl (fun c138 => ?_) (fun c138 => ?_)
                  · refine last g2 ?_ _
                    have z : bhd S f ≤ k := (nI_leI (by omega) (by omega)).mp c138
                    rw [← keep (by rw [ek]; exact decide_eq_false (by omega))]; exact hF
                  · have z2 : k < bhd S f := by
                      rcases Nat.lt_or_ge k (bhd S f) with z | z
                      · exact z
                      · exact absurd (nI_le z (by omega)) c138
                    refine V_aload_n (pc' := 142) d_Md_delete_141 rfl (by first | rfl | exact isR_rf _) rfl ?_
                    refine V_getf (pc' := 145) d_Md_delete_142 fl_Md_39 rfl (by first | assumption | exact aset_self _ _ _ | exact apush_self _ _) (by rfl) ?_
                    refine V_iload (pc' := 147) d_Md_delete_145 rfl rfl ?_
                    refine V_iconst (pc' := 148) (v := 0) d_Md_delete_147 (by decide) rfl ?_
                    -- at 148 iastore
                    refine V_iast (pc' := 149) d_Md_delete_148 rfl h12 rfl rfl (by omega) (arv_get (by omega)) ?_
                    refine V_ex (fun g => IF _ g m A _) (IF_upr hF w 0) (fun g4 hF => ?_)
                    obtain ⟨hm, h0, h1, h2, h3, h5, h6, h7, h8, h11, h12, h13, h15, h16, h17, h18, h20, -⟩ := id hF.1
                    refine last g4 ?_ _
                    have e7 : dpr S f (w + 1) = (fun i => if i = w then 0 else dpr S f w i) := by
                      funext i
                      by_cases q1 : i = w
                      · subst q1
                        rw [if_pos rfl]
                        unfold dpr
                        rw [if_pos ⟨⟨hw1, by omega⟩, by rw [ek]; exact decide_eq_true ⟨z1, z2⟩⟩]
                      · rw [if_neg q1]
                        unfold dpr
                        by_cases q2 : (1 ≤ i ∧ i < w) ∧ inR S f (plc S (spr S i)) = true
                        · rw [if_pos q2, if_pos ⟨⟨q2.1.1, by omega⟩, q2.2⟩]
                        · rw [if_neg q2, if_neg (fun q => q2 ⟨⟨q.1.1, by omega⟩, q.2⟩)]
                    rw [e7]
                    exact hF
            have keep : inR S f (plc S (spo S w)) = false → dpo S f ah w = dpo S f ah (w + 1) ∧ dhd S f w = dhd S f (w + 1) := by
              intro hn
              constructor
              · funext i
                unfold dpo
                by_cases q1 : i = w
                · subst q1
                  rw [if_neg (by omega), if_neg (fun q => by rw [hn] at q; cases q.2)]
                · by_cases q2 : (1 ≤ i ∧ i < w) ∧ inR S f (plc S (spo S i)) = true
                  · rw [if_pos q2, if_pos ⟨⟨q2.1.1, by omega⟩, q2.2⟩]
                  · rw [if_neg q2, if_neg (fun q => q2 ⟨⟨q.1.1, by omega⟩, q.2⟩)]
              · funext i
                unfold dhd
                by_cases q1 : i = w
                · subst q1
                  rw [if_neg (by omega), if_neg (fun q => by rw [hn] at q; cases q.2)]
                · by_cases q2 : (1 ≤ i ∧ i < w) ∧ inR S f (plc S (spo S i)) = true
                  · rw [if_pos q2, if_pos ⟨⟨q2.1.1, by omega⟩, q2.2⟩]
                  · rw [if_neg q2, if_neg (fun q => q2 ⟨⟨q.1.1, by omega⟩, q.2⟩)]
            refine V_iload (pc' := 67) d_Md_delete_65 rfl rfl ?_
            refine V_aload_n (pc' := 68) d_Md_delete_67 rfl (by first | rfl | exact isR_rf _) rfl ?_
            refine V_getf (pc' := 71) d_Md_delete_68 fl_Md_68 rfl (by first | assumption | exact aset_self _ _ _ | exact apush_self _ _) (by rfl) ?_
            refine V_icmp_gt (pc' := 74) (tgt := 155) d_Md_delete_71 (by decide) rfl (fun c71 => ?_) (fun c71 => ?_)
            · exact absurd (show nI (svc S) < nI w from c71) (nI_nlt (by omega) (by omega))
            · refine V_aload_n (pc' := 75) d_Md_delete_74 rfl (by first | rfl | exact isR_rf _) rfl ?_
              refine V_aload_n (pc' := 76) d_Md_delete_75 rfl (by first | rfl | exact isR_rf _) rfl ?_
              refine V_getf (pc' := 79) d_Md_delete_76 fl_Md_36 rfl (by first | assumption | exact aset_self _ _ _ | exact apush_self _ _) (by rfl) ?_
              refine V_iload (pc' := 81) d_Md_delete_79 rfl rfl ?_
              -- at 81 iaload
              refine V_iald (pc' := 82) d_Md_delete_81 rfl h11 rfl rfl (by omega) (arv_get (by omega)) ?_
              rw [show spo (mkV S (dpo S f ah w) (dpr S f w) (dhd S f w)) w = spo S w from ep]
              refine V_callV (pc' := 85) (As := [_]) (ci := 6) d_Md_delete_82 mv_Md_106 mw_Md_placeOf rfl rfl rfl (by simp [Value.category]) rfl (by first | assumption | exact aset_self _ _ _ | exact apush_self _ _) (c_Md_placeOf (nm := spo S w) hF.1 w1 (by omega) (fun i hi => by have := u2 i hi; show snm S i < 2 ^ 31; omega)) (by first | decide | omega) (by first | decide | omega) (by first | decide | omega) (by first | decide | omega) ?_
              rintro _ _ ⟨rfl, rfl⟩
              rw [show plc (mkV S (dpo S f ah w) (dpr S f w) (dhd S f w)) (spo S w) = plc S (spo S w) from rfl]
              have stay : inR S f (plc S (spo S w)) = false → ∀ z : Int32, V x "PathCallsModel" b_Md_delete 8 (Option.some .int) false (rmd 2 0 0) 0 0 (PM h m A (delS S (nI v))) 116 [(0, .ref m), (2, .int (nI f)), (3, .int (nI (bhd S f))), (4, .int (nI ah)), (5, .int (nI w)), (6, .int z)] [] g 0 0 := by
                intro hn z
                refine V_L [(0, .ref m), (2, .int (nI f)), (3, .int (nI (bhd S f))), (4, .int (nI ah)), (5, .int (nI w))] ⟨rfl, rfl, rfl, rfl, rfl, trivial⟩ ?_
                refine step g ?_
                obtain ⟨k1, k2⟩ := keep hn
                rw [← k1, ← k2]; exact hF
              cases ek : plc S (spo S w) with
              | none =>
                refine V_istore (pc' := 87) d_Md_delete_85 (by decide) rfl ?_
                refine V_L [(0, _), (2, _), (3, _), (4, _), (5, _), (6, _)] ⟨rfl, rfl, rfl, rfl, rfl, rfl, trivial⟩ ?_
                refine V_iload (pc' := 89) d_Md_delete_87 rfl rfl ?_
                refine V_iload_n (pc' := 90) d_Md_delete_89 rfl rfl ?_
                refine V_icmp_lt (pc' := 93) (tgt := 116) d_Md_delete_90 (by decide) rfl (fun c90 => ?_) (fun c90 => ?_)
                · exact stay (by rw [ek]; rfl) _
                · exact absurd (show (-1 : Int32) < nI f by rw [Int32.lt_iff_toInt_lt, nI_toInt (by omega)]; show (-1 : Int) < _; omega) c90
              | some k =>
                have hkz := (plc_lt ek).1
                refine V_istore (pc' := 87) d_Md_delete_85 (by decide) rfl ?_
                refine V_L [(0, _), (2, _), (3, _), (4, _), (5, _), (6, _)] ⟨rfl, rfl, rfl, rfl, rfl, rfl, trivial⟩ ?_
                refine V_iload (pc' := 89) d_Md_delete_87 rfl rfl ?_
                refine V_iload_n (pc' := 90) d_Md_delete_89 rfl rfl ?_
                refine V_icmp_lt (pc' := 93) (tgt := 116) d_Md_delete_90 (by decide) rfl (fun c90 => ?_) (fun c90 => ?_)
                · have z : k < f := (nI_ltI (by omega) (by omega)).mp c90
                  exact stay (by rw [ek]; exact decide_eq_false (by omega)) _
                · have z1 : f ≤ k := by
                    rcases Nat.lt_or_ge k f with z | z
                    · exact absurd (nI_lt z (by omega)) c90
                    · exact z
                  refine V_iload (pc' := 95) d_Md_delete_93 rfl rfl ?_
                  refine V_iload_n (pc' := 96) d_Md_delete_95 rfl rfl ?_
                  refine V_icmp_ge (pc' := 99) (tgt := 116) d_Md_delete_96 (by decide) rfl (fun c96 => ?_) (fun c96 => ?_)
                  · have z : bhd S f ≤ k := (nI_leI (by omega) (by omega)).mp c96
                    exact stay (by rw [ek]; exact decide_eq_false (by omega)) _
                  · have z2 : k < bhd S f := by
                      rcases Nat.lt_or_ge k (bhd S f) with z | z
                      · exact z
                      · exact absurd (nI_le z (by omega)) c96
                    have hin : inR S f (plc S (spo S w)) = true := by rw [ek]; exact decide_eq_true ⟨z1, z2⟩
                    refine V_aload_n (pc' := 100) d_Md_delete_99 rfl (by first | rfl | exact isR_rf _) rfl ?_
                    refine V_getf (pc' := 103) d_Md_delete_100 fl_Md_36 rfl (by first | assumption | exact aset_self _ _ _ | exact apush_self _ _) (by rfl) ?_
                    refine V_iload (pc' := 105) d_Md_delete_103 rfl rfl ?_
                    refine V_iload (pc' := 107) d_Md_delete_105 rfl rfl ?_
                    -- at 107 iastore
                    refine V_iast (pc' := 108) d_Md_delete_107 rfl h11 rfl rfl (by omega) (arv_get (by omega)) ?_
                    refine V_ex (fun g => IF _ g m A _) (IF_upo hF w ah) (fun g4 hF => ?_)
                    obtain ⟨hm, h0, h1, h2, h3, h5, h6, h7, h8, h11, h12, h13, h15, h16, h17, h18, h20, -⟩ := id hF.1
                    refine V_aload_n (pc' := 109) d_Md_delete_108 rfl (by first | rfl | exact isR_rf _) rfl ?_
                    refine V_getf (pc' := 112) d_Md_delete_109 fl_Md_42 rfl (by first | assumption | exact aset_self _ _ _ | exact apush_self _ _) (by rfl) ?_
                    refine V_iload (pc' := 114) d_Md_delete_112 rfl rfl ?_
                    refine V_iconst (pc' := 115) (v := 0) d_Md_delete_114 (by decide) rfl ?_
                    -- at 115 bastore
                    refine V_zast (pc' := 116) d_Md_delete_115 rfl h13 rfl rfl (by omega) (arv_get (by omega)) rfl ?_
                    refine V_ex (fun g => IF _ g m A _) (IF_uhd hF w false) (fun g5 hF => ?_)
                    obtain ⟨hm, h0, h1, h2, h3, h5, h6, h7, h8, h11, h12, h13, h15, h16, h17, h18, h20, -⟩ := id hF.1
                    refine V_L [(0, .ref m), (2, .int (nI f)), (3, .int (nI (bhd S f))), (4, .int (nI ah)), (5, .int (nI w))] ⟨rfl, rfl, rfl, rfl, rfl, trivial⟩ ?_
                    refine step g5 ?_
                    have e7 : dpo S f ah (w + 1) = (fun i => if i = w then ah else dpo S f ah w i) := by
                      funext i
                      by_cases q1 : i = w
                      · subst q1
                        rw [if_pos rfl]
                        unfold dpo
                        rw [if_pos ⟨⟨hw1, by omega⟩, hin⟩]
                      · rw [if_neg q1]
                        unfold dpo
                        by_cases q2 : (1 ≤ i ∧ i < w) ∧ inR S f (plc S (spo S i)) = true
                        · rw [if_pos q2, if_pos ⟨⟨q2.1.1, by omega⟩, q2.2⟩]
                        · rw [if_neg q2, if_neg (fun q => q2 ⟨⟨q.1.1, by omega⟩, q.2⟩)]
                    have e8 : dhd S f (w + 1) = (fun i => if i = w then false else dhd S f w i) := by
                      funext i
                      by_cases q1 : i = w
                      · subst q1
                        rw [if_pos rfl]
                        unfold dhd
                        rw [if_pos ⟨⟨hw1, by omega⟩, hin⟩]
                      · rw [if_neg q1]
                        unfold dhd
                        by_cases q2 : (1 ≤ i ∧ i < w) ∧ inR S f (plc S (spo S i)) = true
                        · rw [if_pos q2, if_pos ⟨⟨q2.1.1, by omega⟩, q2.2⟩]
                        · rw [if_neg q2, if_neg (fun q => q2 ⟨⟨q.1.1, by omega⟩, q.2⟩)]
                    rw [e7, e8]
                    exact hF
        have start : V x "PathCallsModel" b_Md_delete 8 (Option.some .int) false (rmd 2 0 0) 0 0 (PM h m A (delS S (nI v))) 60 [(0, .ref m), (1, .int (nI v)), (2, .int (nI f)), (3, .int (nI (bhd S f)))] [.int (nI ah)] h 0 0 := by
          refine V_istore (pc' := 62) d_Md_delete_60 (by decide) rfl ?_
          refine V_L [(0, _), (1, _), (2, _), (3, _), (4, _)] ⟨rfl, rfl, rfl, rfl, rfl, trivial⟩ ?_
          refine V_iconst (pc' := 63) (v := 1) d_Md_delete_62 (by decide) rfl ?_
          refine V_istore (pc' := 65) d_Md_delete_63 (by decide) rfl ?_
          refine V_L [(0, _), (1, _), (2, _), (3, _), (4, _), (5, _)] ⟨rfl, rfl, rfl, rfl, rfl, rfl, trivial⟩ ?_
          refine V_L [(0, .ref m), (2, .int (nI f)), (3, .int (nI (bhd S f))), (4, .int (nI ah)), (5, .int (nI 1))] ⟨rfl, rfl, rfl, rfl, rfl, trivial⟩ ?_
          refine vws (svc S) 1 (by omega) (by omega) h ?_
          have s1 : dpo S f ah 1 = spo S := by funext i; unfold dpo; rw [if_neg (by omega)]
          have s2 : dpr S f 1 = spr S := by funext i; unfold dpr; rw [if_neg (by omega)]
          have s3 : dhd S f 1 = shd S := by funext i; unfold dhd; rw [if_neg (by omega)]
          rw [s1, s2, s3]
          exact hF
        refine V_aload_n (pc' := 28) d_Md_delete_27 rfl (by first | rfl | exact isR_rf _) rfl ?_
        refine V_aload_n (pc' := 29) d_Md_delete_28 rfl (by first | rfl | exact isR_rf _) rfl ?_
        refine V_getf (pc' := 32) d_Md_delete_29 fl_Md_36 rfl (by first | assumption | exact aset_self _ _ _ | exact apush_self _ _) (by rfl) ?_
        refine V_iload_n (pc' := 33) d_Md_delete_32 rfl rfl ?_
        -- at 33 iaload
        refine V_iald (pc' := 34) d_Md_delete_33 rfl h11 rfl rfl (by omega) (arv_get (by omega)) ?_
        refine V_callV (pc' := 37) (As := [_]) (ci := 6) d_Md_delete_34 mv_Md_106 mw_Md_placeOf rfl rfl rfl (by simp [Value.category]) rfl (by first | assumption | exact aset_self _ _ _ | exact apush_self _ _) (c_Md_placeOf (nm := spo S v) hI w1 (by omega) (fun i hi => by have := u2 i hi; omega)) (by first | decide | omega) (by first | decide | omega) (by first | decide | omega) (by first | decide | omega) ?_
        rintro _ _ ⟨rfl, rfl⟩
        rw [ef]
        refine V_istore_n (pc' := 38) d_Md_delete_37 (by decide) rfl ?_
        refine V_L [(0, _), (1, _), (2, _)] ⟨rfl, rfl, rfl, trivial⟩ ?_
        refine V_aload_n (pc' := 39) d_Md_delete_38 rfl (by first | rfl | exact isR_rf _) rfl ?_
        refine V_iload_n (pc' := 40) d_Md_delete_39 rfl rfl ?_
        -- at 40 invokevirtual
        refine V_callV (pc' := 43) (As := [_]) (ci := 6) d_Md_delete_40 mv_Md_85 mw_Md_behind rfl rfl rfl (by simp [Value.category]) rfl (by first | assumption | exact aset_self _ _ _ | exact apush_self _ _) (c_Md_behind (i := f) hI w1 w2 wl hfz) (by first | decide | omega) (by first | decide | omega) (by first | decide | omega) (by first | decide | omega) ?_
        rintro _ _ ⟨rfl, rfl⟩
        refine V_istore_n (pc' := 44) d_Md_delete_43 (by decide) rfl ?_
        refine V_L [(0, _), (1, _), (2, _), (3, _)] ⟨rfl, rfl, rfl, rfl, trivial⟩ ?_
        refine V_iload_n (pc' := 45) d_Md_delete_44 rfl rfl ?_
        refine V_if_ne (pc' := 48) (tgt := 52) d_Md_delete_45 (by decide) rfl (fun c45 => ?_) (fun c45 => ?_)
        · have z : ¬ f = 0 := fun z => c45 (by rw [z]; rfl)
          refine V_aload_n (pc' := 53) d_Md_delete_52 rfl (by first | rfl | exact isR_rf _) rfl ?_
          refine V_getf (pc' := 56) d_Md_delete_53 fl_Md_23 rfl (by first | assumption | exact aset_self _ _ _ | exact apush_self _ _) (by rfl) ?_
          refine V_iload_n (pc' := 57) d_Md_delete_56 rfl rfl ?_
          refine V_iconst (pc' := 58) (v := 1) d_Md_delete_57 (by decide) rfl ?_
          refine V_isub (pc' := 59) d_Md_delete_58 rfl ?_
          -- at 59 iaload
          refine V_iald (pc' := 60) d_Md_delete_59 rfl h5 rfl (pk_sub (a := f) (b := 1) (by omega)) (by omega) (arv_get (by omega)) ?_
          have : ah = snm S (f - 1) := by rw [← eah]; unfold aheadS; rw [if_neg z]
          rw [← this]
          exact start
        · have z : f = 0 := (nI_sm (by omega) (by omega) rfl).mp c45
          refine V_iconst (pc' := 49) (v := 0) d_Md_delete_48 (by decide) rfl ?_
          refine V_goto (tgt := 60) d_Md_delete_49 (by decide) ?_
          have : ah = 0 := by rw [← eah]; unfold aheadS; rw [if_pos z]
          rw [this] at start
          exact start
      · refine V_bipush (pc' := 26) (v := 8) d_Md_delete_24 (by decide) rfl ?_
        refine V_iret d_Md_delete_26 rfl (by first | decide | omega) (by first | decide | omega) ?_
        have hs : ¬ shd S v = true := by rw [ob_0.mp c21]; decide
        unfold delS
        rw [ev]
        dsimp only
        rw [if_neg hs]
        exact ⟨rfl, hF⟩
    · exact none1 (ki_none.mpr (fun q => absurd q.2 c10))
end M10
