-- the class: delete
def lvS (T : PS) (v f ah : Nat) : PS := mkV T (fun i => if i = v ∧ inR T f (plc T (spo T v)) = true then ah else spo T i) (fun i => if i = v ∧ inR T f (plc T (spr T v)) = true then 0 else spr T i) (fun i => if i = v ∧ inR T f (plc T (spo T v)) = true then false else shd T i)
section X10
variable {x : CX} {h h0 : AH} {o : Nat} {B B0 : XB} {S : PS}
theorem c_Vw_leave (hJ : JX h0 h o B0 B S) (hN : Nm S) (hT : Tr S) {v f ah : Nat} (hv1 : 1 ≤ v) (hv2 : v ≤ svc S) (hl : Lv S (spo S v) ∧ Lv S (spr S v)) (hf : f < ssz S) : Ct x y_Vw_leave b_Vw_leave 3 none 1 0 0 [.ref (xv B v), .ref (xs B (snm S f)), va_rf (sr B ah)] h (fun r h' => r = none ∧ JX h0 h' o B0 B (lvS S v f ah)) := by
  have hcv := hJ.1.2.2.2.2.2.2.2.2.1 v hv1 hv2
  have hpos : ∀ i, plc S (spo S v) = some i → i < ssz S := fun i hi => (plc_lt hi).1
  have hpar : ∀ i, plc S (spr S v) = some i → i < ssz S := fun i hi => (plc_lt hi).1
  refine Ct_of (own := "PathCalls$View") (ini := false) rfl rfl (by simp [lg_sl, va_rf_cat, cat_ref, cat_int, cat_long, cat_null]) (fun q => by cases q) ?_
  refine V_eq (L' := [(0, .ref (xv B v)), (1, .ref (xs B (snm S f))), (2, va_rf (sr B ah))]) (by simp [lv_args, va_rf_cat, cat_ref, cat_int, cat_long, cat_null]) rfl rfl ?_
  have cut21 : ∀ (g : AH) (po : Nat → Nat) (hd : Nat → Bool), po = (fun i => if i = v ∧ inR S f (plc S (spo S v)) = true then ah else spo S i) → hd = (fun i => if i = v ∧ inR S f (plc S (spo S v)) = true then false else shd S i) → JX h0 g o B0 B (mkV S po (spr S) hd) → V x "PathCalls$View" b_Vw_leave 3 (Option.none : Option Jvm.ClassFile.FieldType) false (rmd 1 0 0) 0 0 (fun r h' => r = none ∧ JX h0 h' o B0 B (lvS S v f ah)) 21 [(0, .ref (xv B v)), (1, .ref (xs B (snm S f))), (2, va_rf (sr B ah))] [] g 0 0 := by
    intro g po hd epo ehd hJ2
    have hcv2 := hJ2.1.2.2.2.2.2.2.2.2.1 v hv1 hv2
    refine V_aload_n (pc' := 22) d_Vw_leave_21 rfl (by first | rfl | exact isR_rf _) rfl ?_
    refine V_getf (pc' := 25) d_Vw_leave_22 fl_Vw_23 rfl (by first | assumption | exact aset_self _ _ _ | exact apush_self _ _) (by rfl) ?_
    refine V_aload_n (pc' := 26) d_Vw_leave_25 rfl (by first | rfl | exact isR_rf _) rfl ?_
    rw [show va_rf (sr B (spr (mkV S po (spr S) hd) v)) = va_rf (rr B (mkV S po (spr S) hd) (plc S (spr S v))) from by rw [show spr (mkV S po (spr S) hd) v = spr S v from rfl, sr_rr hN hl.2]; rfl]
    refine V_callS (pc' := 29) (As := [_, _]) d_Vw_leave_26 ms_Vw_17 mw_Sg_isOrLiesIn rfl rfl rfl (by simp [Value.category]) (c_Sg_isOrLiesIn (S := mkV S po (spr S) hd) (t := f) hJ2.1 hN hT hpar hf) (by first | decide | omega) (by first | decide | omega) (by first | decide | omega) (by first | decide | omega) ?_
    rintro _ _ ⟨rfl, rfl⟩
    rw [show inR (mkV S po (spr S) hd) f (plc S (spr S v)) = inR S f (plc S (spr S v)) from rfl]
    refine V_if_eq (pc' := 32) (tgt := 37) d_Vw_leave_29 (by decide) rfl (fun c29 => ?_) (fun c29 => ?_)
    · have e := ob_0.mp c29
      refine V_vret d_Vw_leave_37 rfl (by first | decide | omega) (by first | decide | omega) ?_
      refine ⟨rfl, ?_⟩
      unfold lvS
      have e2 : (fun i => if i = v ∧ inR S f (plc S (spr S v)) = true then 0 else spr S i) = spr S := by
        funext i
        rw [if_neg (fun q => by rw [e] at q; cases q.2)]
      rw [e2, ← epo, ← ehd]
      exact hJ2
    · have e := ob_nt c29
      refine V_aload_n (pc' := 33) d_Vw_leave_32 rfl (by first | rfl | exact isR_rf _) rfl ?_
      refine V_null (pc' := 34) d_Vw_leave_33 rfl ?_
      refine V_putf (pc' := 37) d_Vw_leave_34 fp_Vw_23 rfl (by first | assumption | exact aset_self _ _ _ | exact apush_self _ _) (by first | rfl | exact ob_nar _ | exact nar_rf _) (by first | rfl | exact ob_fit _ | exact fits_rf _) (by exact Nat.le_of_ble_eq_true rfl) ?_
      refine V_ex (fun g => JX h0 g o B0 B _) (JX_pr hJ2 hv1 hv2 0) (fun g2 hJ3 => ?_)
      refine V_vret d_Vw_leave_37 rfl (by first | decide | omega) (by first | decide | omega) ?_
      refine ⟨rfl, ?_⟩
      unfold lvS
      have e2 : (fun i => if i = v ∧ inR S f (plc S (spr S v)) = true then 0 else spr S i) = (fun i => if i = v then 0 else spr S i) := by
        funext i
        by_cases q : i = v
        · rw [if_pos ⟨q, e⟩, if_pos q]
        · rw [if_neg (fun z => q z.1), if_neg q]
      rw [e2, ← epo, ← ehd]
      exact hJ3
  refine V_aload_n (pc' := 1) d_Vw_leave_0 rfl (by first | rfl | exact isR_rf _) rfl ?_
  refine V_getf (pc' := 4) d_Vw_leave_1 fl_Vw_13 rfl (by first | assumption | exact aset_self _ _ _ | exact apush_self _ _) (by rfl) ?_
  refine V_aload_n (pc' := 5) d_Vw_leave_4 rfl (by first | rfl | exact isR_rf _) rfl ?_
  rw [sr_rr hN hl.1]
  refine V_callS (pc' := 8) (As := [_, _]) d_Vw_leave_5 ms_Vw_17 mw_Sg_isOrLiesIn rfl rfl rfl (by simp [Value.category]) (c_Sg_isOrLiesIn (t := f) hJ.1 hN hT hpos hf) (by first | decide | omega) (by first | decide | omega) (by first | decide | omega) (by first | decide | omega) ?_
  rintro _ _ ⟨rfl, rfl⟩
  refine V_if_eq (pc' := 11) (tgt := 21) d_Vw_leave_8 (by decide) rfl (fun c8 => ?_) (fun c8 => ?_)
  · have e := ob_0.mp c8
    refine cut21 h (spo S) (shd S) ?_ ?_ hJ
    · funext i
      rw [if_neg (fun q => by rw [e] at q; cases q.2)]
    · funext i
      rw [if_neg (fun q => by rw [e] at q; cases q.2)]
  · have e := ob_nt c8
    refine V_aload_n (pc' := 12) d_Vw_leave_11 rfl (by first | rfl | exact isR_rf _) rfl ?_
    refine V_aload_n (pc' := 13) d_Vw_leave_12 rfl (by first | rfl | exact isR_rf _) rfl ?_
    refine V_putf (pc' := 16) d_Vw_leave_13 fp_Vw_13 rfl (by first | assumption | exact aset_self _ _ _ | exact apush_self _ _) (by first | rfl | exact ob_nar _ | exact nar_rf _) (by first | rfl | exact ob_fit _ | exact fits_rf _) (by exact Nat.le_of_ble_eq_true rfl) ?_
    refine V_ex (fun g => JX h0 g o B0 B _) (JX_po hJ hv1 hv2 ah) (fun g2 hJ2 => ?_)
    have hcv2 := hJ2.1.2.2.2.2.2.2.2.2.1 v hv1 hv2
    refine V_aload_n (pc' := 17) d_Vw_leave_16 rfl (by first | rfl | exact isR_rf _) rfl ?_
    refine V_iconst (pc' := 18) (v := 0) d_Vw_leave_17 (by decide) rfl ?_
    refine V_putf (pc' := 21) d_Vw_leave_18 fp_Vw_7 rfl (by first | assumption | exact aset_self _ _ _ | exact apush_self _ _) (by first | rfl | exact ob_nar _ | exact nar_rf _) (by first | rfl | exact ob_fit _ | exact fits_rf _) (by exact Nat.le_of_ble_eq_true rfl) ?_
    refine V_ex (fun g => JX h0 g o B0 B _) (JX_hd hJ2 hv1 hv2 false) (fun g3 hJ3 => ?_)
    refine cut21 g3 _ _ ?_ ?_ hJ3
    · funext i
      by_cases q : i = v
      · exact (if_pos q).trans (if_pos ⟨q, e⟩).symm
      · exact (if_neg q).trans (if_neg (fun z => q z.1)).symm
    · funext i
      by_cases q : i = v
      · exact (if_pos q).trans (if_pos ⟨q, e⟩).symm
      · exact (if_neg q).trans (if_neg (fun z => q z.1)).symm
/-- the rows' array and the count, written anew -/
theorem JX_rows (hJ : JX h0 h o B0 B S) {B2 : XB} (hB : xC B2 = xC B ∧ xk B2 = xk B ∧ xv B2 = xv B ∧ xp B2 = xp B) {sz nd : Nat} {nm so : Nat → Nat} {ky vl : Nat → Int64} (hc : ∀ i, i < sz → h.2 (xs B2 (nm i)) = some (2, sce B2 (mkR S sz nd nm so ky vl) i)) (hi : ∀ i j, i < sz → j < sz → xs B2 (nm i) = xs B2 (nm j) → i = j) (hv : ∀ w, 1 ≤ w → w ≤ svc S → sr B2 (spo S w) = sr B (spo S w) ∧ sr B2 (spr S w) = sr B (spr S w)) : JX h0 (aset (aset h (xC B 4) (50 + 3, arv 256 (fun i => if i < sz then .ref (xs B2 (nm i)) else .null))) (xC B 3) (5, [.ref (xC B 4), .int (nI sz)])) o B0 B2 (mkR S sz nd nm so ky vl) := by
  obtain ⟨⟨ho, hka, hva, hpa, hba, hra, hpv, h8, h9, h10, h11, iv, ip, is⟩, hF⟩ := hJ
  obtain ⟨C2, K2, V2, P2, S2⟩ := B2
  obtain ⟨b1, b2, b3, b4⟩ := hB
  change C2 = _ at b1; change K2 = _ at b2; change V2 = _ at b3; change P2 = _ at b4
  subst b1; subst b2; subst b3; subst b4
  have n1 : ∀ {q t : Nat} {l : List Value}, h.2 q = some (t, l) → t ≠ 53 → t ≠ 5 → ∀ c1 c2, (aset (aset h (xC B 4) c1) (xC B 3) c2).2 q = some (t, l) := by
    intro q t l hq h1 h2 c1 c2
    rw [aset_ne (tag_ne hq hba h2), aset_ne (tag_ne hq hra h1), hq]
  have n34 : xC B 4 ≠ xC B 3 := tag_ne hra hba (by decide)
  refine ⟨⟨n1 ho (by decide) (by decide) _ _, n1 hka (by decide) (by decide) _ _, n1 hva (by decide) (by decide) _ _, n1 hpa (by decide) (by decide) _ _, aset_self _ _ _, (aset_ne n34).trans (aset_self _ _ _), n1 hpv (by decide) (by decide) _ _, fun k h1 h2 => n1 (h8 k h1 h2) (by decide) (by decide) _ _, fun w h1 h2 => ?_, fun p h1 => n1 (h10 p h1) (by decide) (by decide) _ _, fun i h1 => n1 (hc i h1) (by decide) (by decide) _ _, iv, ip, hi⟩, ?_⟩
  · obtain ⟨z1, z2⟩ := hv w h1 h2
    refine (n1 (h9 w h1 h2) (by decide) (by decide) _ _).trans ?_
    show some (3, [va_rf (sr B (spo S w)), va_rf (sr B (spr S w)), .int (ob (shd S w))]) = some (3, [va_rf (sr (xC B, xk B, xv B, xp B, S2) (spo S w)), va_rf (sr (xC B, xk B, xv B, xp B, S2) (spr S w)), .int (ob (shd S w))])
    rw [z1, z2]
  · refine XF_B (B2 := B) ?_ rfl
    refine XF_set (XF_set hF hra (nMt (by decide) (by decide) (by decide) (by decide))) ((aset_ne (Ne.symm n34)).trans hba) (nMt (by decide) (by decide) (by decide) (by decide))
set_option maxHeartbeats 4000000 in
theorem c_Bs_removeTree (hJ : JX h0 h o B0 B S) (hw : WX S) {f : Nat} (hf : f < ssz S) : Ct x y_Bs_removeTree b_Bs_removeTree 5 none 2 0 0 [.ref (xC B 3), .int (nI f)] h (fun r h' => r = none ∧ JX h0 h' o B0 B (delR S f)) := by
  obtain ⟨ho, hka, hva, hpa, hba, hra, hpv, h8, h9, h10, h11, iv, ip, is⟩ := id hJ.1
  obtain ⟨w1, w2, w3, w4, w5, w6, w7, w8, w9⟩ := id hw
  have b1 := bhd_lt S f
  have b2 := bhd_ub S hf
  have n34 : xC B 4 ≠ xC B 3 := tag_ne hra hba (by decide)
  have hbg : ∀ c, (aset h (xC B 4) c).2 (xC B 3) = some (5, [.ref (xC B 4), .int (nI (ssz S))]) := fun c => (aset_ne (Ne.symm n34)).trans hba
  generalize eg : bhd S f - f = gn
  have ee : bhd S f = f + gn := by omega
  have hg1 : 1 ≤ gn := by omega
  have lp2 : ∀ (d i : Nat), i + d = ssz S → ssz S - gn ≤ i → ∀ (F : Nat → Value), (∀ j, j < 256 → F j = if j < ssz S - gn then .ref (xs B (dsh (snm S) f gn (ssz S) j)) else if j < i then .null else if j < ssz S then .ref (xs B (snm S j)) else .null) → V x "PathCalls$Base" b_Bs_removeTree 5 (Option.none : Option Jvm.ClassFile.FieldType) false (rmd 2 0 0) 0 0 (fun r h' => r = none ∧ JX h0 h' o B0 B (delR S f)) 61 [(0, .ref (xC B 3)), (1, .int (nI f)), (2, .int (nI (f + gn))), (3, .int (nI gn)), (4, .int (nI i))] [] (aset h (xC B 4) (50 + 3, arv 256 F)) 0 0 := by
    intro d
    induction d with
    | zero =>
      intro i hi h1 F hFj
      have e : i = ssz S := by omega
      subst e
      have hb2 := hbg (50 + 3, arv 256 F)
      refine V_iload (pc' := 63) d_Bs_removeTree_61 rfl rfl ?_
      refine V_aload_n (pc' := 64) d_Bs_removeTree_63 rfl (by first | rfl | exact isR_rf _) rfl ?_
      refine V_getf (pc' := 67) d_Bs_removeTree_64 fl_Bs_17 rfl (by first | assumption | exact aset_self _ _ _ | exact apush_self _ _) (by rfl) ?_
      refine V_icmp_ge (pc' := 70) (tgt := 84) d_Bs_removeTree_67 (by decide) rfl (fun c67 => ?_) (fun c67 => ?_)
      · refine V_aload_n (pc' := 85) d_Bs_removeTree_84 rfl (by first | rfl | exact isR_rf _) rfl ?_
        refine V_dup (pc' := 86) d_Bs_removeTree_85 rfl rfl ?_
        refine V_getf (pc' := 89) d_Bs_removeTree_86 fl_Bs_17 rfl (by first | assumption | exact aset_self _ _ _ | exact apush_self _ _) (by rfl) ?_
        refine V_iload_n (pc' := 90) d_Bs_removeTree_89 rfl rfl ?_
        refine V_isub (pc' := 91) d_Bs_removeTree_90 rfl ?_
        rw [pk_sub (show gn ≤ ssz S by omega)]
        refine V_putf (pc' := 94) d_Bs_removeTree_91 fp_Bs_17 rfl (by first | assumption | exact aset_self _ _ _ | exact apush_self _ _) (by first | rfl | exact ob_nar _ | exact nar_rf _) (by first | rfl | exact ob_fit _ | exact fits_rf _) (by exact Nat.le_of_ble_eq_true rfl) ?_
        refine V_vret d_Bs_removeTree_94 rfl (by first | decide | omega) (by first | decide | omega) ?_
        refine ⟨rfl, ?_⟩
        have eF : arv 256 F = arv 256 (fun i => if i < ssz S - gn then .ref (xs B (dsh (snm S) f gn (ssz S) i)) else .null) := by
          refine arv_congr (fun j hj => ?_)
          rw [hFj j hj]
          by_cases q : j < ssz S - gn
          · rw [if_pos q, if_pos q]
          · rw [if_neg q, if_neg q]
            by_cases q2 : j < ssz S
            · rw [if_pos q2]
            · rw [if_neg q2, if_neg q2]
        rw [eF]
        unfold delR
        rw [eg]
        refine JX_rows hJ (B2 := B) ⟨rfl, rfl, rfl, rfl⟩ (fun i hi => ?_) (fun i j hi hj he => ?_) (fun w h1 h2 => ⟨rfl, rfl⟩)
        · rw [dsh_sg (by omega)]
          have hs := sg_lt (f := f) (show i + gn < ssz S by omega)
          refine (h11 _ hs).trans ?_
          have ep := del_pnm w3 hf (i := i) (by rw [eg]; omega)
          unfold delR at ep
          rw [eg] at ep
          show some (2, [.ref (xk B (sso S (sg f gn i))), va_rf (sr B (pnm S (sg f gn i))), .long (sky S (sg f gn i)), .long (svl S (sg f gn i))]) = some (2, [.ref (xk B (dsh (sso S) f gn (ssz S) i)), va_rf (sr B (pnm (mkR S (ssz S - gn) (snd S) (dsh (snm S) f gn (ssz S)) (dsh (sso S) f gn (ssz S)) (dsh (sky S) f gn (ssz S)) (dsh (svl S) f gn (ssz S))) i)), .long (dsh (sky S) f gn (ssz S) i), .long (dsh (svl S) f gn (ssz S) i)])
          rw [ep, dsh_sg (by omega), dsh_sg (by omega), dsh_sg (by omega)]
        · rw [dsh_sg (by omega), dsh_sg (by omega)] at he
          exact sg_inj (is _ _ (sg_lt (by omega)) (sg_lt (by omega)) he)
      · exact absurd (Int32.le_refl _) c67
    | succ d ih =>
      intro i hi h1 F hFj
      have hb2 := hbg (50 + 3, arv 256 F)
      refine V_iload (pc' := 63) d_Bs_removeTree_61 rfl rfl ?_
      refine V_aload_n (pc' := 64) d_Bs_removeTree_63 rfl (by first | rfl | exact isR_rf _) rfl ?_
      refine V_getf (pc' := 67) d_Bs_removeTree_64 fl_Bs_17 rfl (by first | assumption | exact aset_self _ _ _ | exact apush_self _ _) (by rfl) ?_
      refine V_icmp_ge (pc' := 70) (tgt := 84) d_Bs_removeTree_67 (by decide) rfl (fun c67 => ?_) (fun c67 => ?_)
      · exact absurd c67 (nI_ge (by omega) (by omega))
      · refine V_aload_n (pc' := 71) d_Bs_removeTree_70 rfl (by first | rfl | exact isR_rf _) rfl ?_
        refine V_getf (pc' := 74) d_Bs_removeTree_71 fl_Bs_11 rfl (by first | assumption | exact aset_self _ _ _ | exact apush_self _ _) (by rfl) ?_
        refine V_iload (pc' := 76) d_Bs_removeTree_74 rfl rfl ?_
        refine V_null (pc' := 77) d_Bs_removeTree_76 rfl ?_
        -- at 77 aastore
        refine V_aastN (pc' := 78) d_Bs_removeTree_77 rfl (aset_self _ _ _) rfl rfl (by omega) (arv_get (by omega)) ?_
        rw [aset_aset, arv_set]
        first | refine V_iincN (pc' := 81) d_Bs_removeTree_78 rfl (by decide) rfl ?_ | refine V_iinc (pc' := 81) d_Bs_removeTree_78 rfl rfl (by decide) rfl ?_
        first | refine V_L [(0, _), (1, _), (2, _), (3, _), (4, _)] ⟨rfl, rfl, rfl, rfl, rfl, trivial⟩ ?_ | (refine V_keep (by intro q hq e; simp only [List.mem_cons, List.not_mem_nil, or_false] at hq; rcases hq with rfl | rfl | rfl | rfl | rfl <;> first | rfl | exact va_rf_cat _ | exact absurd e (by decide)) ?_; refine V_L [(0, _), (1, _), (2, _), (3, _), (4, _)] ⟨rfl, rfl, rfl, rfl, rfl, trivial⟩ ?_)
        refine V_goto (tgt := 61) d_Bs_removeTree_81 (by decide) ?_
        refine ih (i + 1) (by omega) (by omega) _ (fun j hj => ?_)
        try dsimp only
        by_cases q : j = i
        · rw [if_pos q, if_neg (by omega), if_pos (by omega)]
        · rw [if_neg q, hFj j hj]
          by_cases q2 : j < ssz S - gn
          · rw [if_pos q2, if_pos q2]
          · rw [if_neg q2, if_neg q2]
            by_cases q3 : j < i
            · rw [if_pos q3, if_pos (by omega)]
            · rw [if_neg q3, if_neg (show ¬ j < i + 1 by omega)]
  have lp1 : ∀ (d i : Nat), i + d = ssz S → f + gn ≤ i → ∀ (F : Nat → Value), (∀ j, j < 256 → F j = if f ≤ j ∧ j + gn < i then .ref (xs B (snm S (j + gn))) else if j < ssz S then .ref (xs B (snm S j)) else .null) → V x "PathCalls$Base" b_Bs_removeTree 5 (Option.none : Option Jvm.ClassFile.FieldType) false (rmd 2 0 0) 0 0 (fun r h' => r = none ∧ JX h0 h' o B0 B (delR S f)) 22 [(0, .ref (xC B 3)), (1, .int (nI f)), (2, .int (nI (f + gn))), (3, .int (nI gn)), (4, .int (nI i))] [] (aset h (xC B 4) (50 + 3, arv 256 F)) 0 0 := by
    intro d
    induction d with
    | zero =>
      intro i hi h1 F hFj
      have e : i = ssz S := by omega
      subst e
      have hb2 := hbg (50 + 3, arv 256 F)
      refine V_iload (pc' := 24) d_Bs_removeTree_22 rfl rfl ?_
      refine V_aload_n (pc' := 25) d_Bs_removeTree_24 rfl (by first | rfl | exact isR_rf _) rfl ?_
      refine V_getf (pc' := 28) d_Bs_removeTree_25 fl_Bs_17 rfl (by first | assumption | exact aset_self _ _ _ | exact apush_self _ _) (by rfl) ?_
      refine V_icmp_ge (pc' := 31) (tgt := 53) d_Bs_removeTree_28 (by decide) rfl (fun c28 => ?_) (fun c28 => ?_)
      · refine V_aload_n (pc' := 54) d_Bs_removeTree_53 rfl (by first | rfl | exact isR_rf _) rfl ?_
        refine V_getf (pc' := 57) d_Bs_removeTree_54 fl_Bs_17 rfl (by first | assumption | exact aset_self _ _ _ | exact apush_self _ _) (by rfl) ?_
        refine V_iload_n (pc' := 58) d_Bs_removeTree_57 rfl rfl ?_
        refine V_isub (pc' := 59) d_Bs_removeTree_58 rfl ?_
        rw [pk_sub (show gn ≤ ssz S by omega)]
        refine V_istore (pc' := 61) d_Bs_removeTree_59 (by decide) rfl ?_
        first | refine V_L [(0, _), (1, _), (2, _), (3, _), (4, _)] ⟨rfl, rfl, rfl, rfl, rfl, trivial⟩ ?_ | (refine V_keep (by intro q hq e; simp only [List.mem_cons, List.not_mem_nil, or_false] at hq; rcases hq with rfl | rfl | rfl | rfl | rfl <;> first | rfl | exact va_rf_cat _ | exact absurd e (by decide)) ?_; refine V_L [(0, _), (1, _), (2, _), (3, _), (4, _)] ⟨rfl, rfl, rfl, rfl, rfl, trivial⟩ ?_)
        refine lp2 gn (ssz S - gn) (by omega) (Nat.le_refl _) F (fun j hj => ?_)
        rw [hFj j hj]
        by_cases q : j < ssz S - gn
        · rw [if_pos q, dsh_sg (by omega)]
          unfold sg
          by_cases q2 : f ≤ j
          · rw [if_pos ⟨q2, by omega⟩, if_neg (show ¬ j < f by omega)]
          · rw [if_neg (fun z => q2 z.1), if_pos (show j < ssz S by omega), if_pos (show j < f by omega)]
        · rw [if_neg q, if_neg q, if_neg (by omega)]
      · exact absurd (Int32.le_refl _) c28
    | succ d ih =>
      intro i hi h1 F hFj
      have hb2 := hbg (50 + 3, arv 256 F)
      have hFi : F i = .ref (xs B (snm S i)) := by
        rw [hFj i (by omega), if_neg (by omega), if_pos (by omega)]
      have hci := (aset_ne (h := h) (c := (50 + 3, arv 256 F)) (tag_ne (h11 i (by omega)) hra (by decide))).trans (h11 i (by omega))
      refine V_iload (pc' := 24) d_Bs_removeTree_22 rfl rfl ?_
      refine V_aload_n (pc' := 25) d_Bs_removeTree_24 rfl (by first | rfl | exact isR_rf _) rfl ?_
      refine V_getf (pc' := 28) d_Bs_removeTree_25 fl_Bs_17 rfl (by first | assumption | exact aset_self _ _ _ | exact apush_self _ _) (by rfl) ?_
      refine V_icmp_ge (pc' := 31) (tgt := 53) d_Bs_removeTree_28 (by decide) rfl (fun c28 => ?_) (fun c28 => ?_)
      · exact absurd c28 (nI_ge (by omega) (by omega))
      · refine V_aload_n (pc' := 32) d_Bs_removeTree_31 rfl (by first | rfl | exact isR_rf _) rfl ?_
        refine V_getf (pc' := 35) d_Bs_removeTree_32 fl_Bs_11 rfl (by first | assumption | exact aset_self _ _ _ | exact apush_self _ _) (by rfl) ?_
        refine V_iload (pc' := 37) d_Bs_removeTree_35 rfl rfl ?_
        refine V_iload_n (pc' := 38) d_Bs_removeTree_37 rfl rfl ?_
        refine V_isub (pc' := 39) d_Bs_removeTree_38 rfl ?_
        rw [pk_sub (show gn ≤ i by omega)]
        refine V_aload_n (pc' := 40) d_Bs_removeTree_39 rfl (by first | rfl | exact isR_rf _) rfl ?_
        refine V_getf (pc' := 43) d_Bs_removeTree_40 fl_Bs_11 rfl (by first | assumption | exact aset_self _ _ _ | exact apush_self _ _) (by rfl) ?_
        refine V_iload (pc' := 45) d_Bs_removeTree_43 rfl rfl ?_
        refine V_aald (pc' := 46) d_Bs_removeTree_45 rfl (aset_self _ _ _) rfl rfl (by omega) ((arv_get (by omega)).trans (congrArg some hFi)) ?_
        refine V_aast (pc' := 47) d_Bs_removeTree_46 rfl (aset_self _ _ _) rfl hci rfl rfl (by omega) (arv_get (by omega)) ?_
        rw [aset_aset, arv_set]
        first | refine V_iincN (pc' := 50) d_Bs_removeTree_47 rfl (by decide) rfl ?_ | refine V_iinc (pc' := 50) d_Bs_removeTree_47 rfl rfl (by decide) rfl ?_
        first | refine V_L [(0, _), (1, _), (2, _), (3, _), (4, _)] ⟨rfl, rfl, rfl, rfl, rfl, trivial⟩ ?_ | (refine V_keep (by intro q hq e; simp only [List.mem_cons, List.not_mem_nil, or_false] at hq; rcases hq with rfl | rfl | rfl | rfl | rfl <;> first | rfl | exact va_rf_cat _ | exact absurd e (by decide)) ?_; refine V_L [(0, _), (1, _), (2, _), (3, _), (4, _)] ⟨rfl, rfl, rfl, rfl, rfl, trivial⟩ ?_)
        refine V_goto (tgt := 22) d_Bs_removeTree_50 (by decide) ?_
        refine ih (i + 1) (by omega) (by omega) _ (fun j hj => ?_)
        try dsimp only
        by_cases q : j = i - gn
        · rw [if_pos q, if_pos ⟨by omega, by omega⟩, show j + gn = i by omega]
        · rw [if_neg q, hFj j hj]
          by_cases q2 : f ≤ j ∧ j + gn < i
          · rw [if_pos q2, if_pos ⟨q2.1, by omega⟩]
          · rw [if_neg q2, if_neg (show ¬ (f ≤ j ∧ j + gn < i + 1) by omega)]
  have heta : aset h (xC B 4) (50 + 3, arv 256 (fun i => if i < ssz S then .ref (xs B (snm S i)) else .null)) = h := by
    unfold aset
    refine Prod.ext rfl ?_
    funext j
    show (if j = xC B 4 then _ else h.2 j) = h.2 j
    by_cases q : j = xC B 4
    · rw [if_pos q, q, hra]
    · rw [if_neg q]
  refine Ct_of (own := "PathCalls$Base") (ini := false) rfl rfl (Nat.le_of_ble_eq_true rfl) (fun q => by cases q) ?_
  refine V_aload_n (pc' := 1) d_Bs_removeTree_0 rfl (by first | rfl | exact isR_rf _) rfl ?_
  refine V_iload_n (pc' := 2) d_Bs_removeTree_1 rfl rfl ?_
  -- at 2 invokevirtual
  refine V_callV (pc' := 5) (As := [_]) (ci := 5) d_Bs_removeTree_2 mv_Bs_21 mw_Bs_at rfl rfl rfl (by simp [Value.category]) rfl (by first | assumption | exact aset_self _ _ _ | exact apush_self _ _) (c_Bs_at hJ.1 w7 (nI f)) (by first | decide | omega) (by first | decide | omega) (by first | decide | omega) (by first | decide | omega) ?_
  rintro _ _ ⟨rfl, rfl⟩
  rw [ax_n hf w7]
  refine V_ifnonnull (pc' := 8) (tgt := 9) (r := (rr B S (some f))) d_Bs_removeTree_5 (by decide) rfl (fun a5 c5 => ?_) (fun c5 => ?_)
  · clear c5 a5
    refine V_aload_n (pc' := 10) d_Bs_removeTree_9 rfl (by first | rfl | exact isR_rf _) rfl ?_
    refine V_iload_n (pc' := 11) d_Bs_removeTree_10 rfl rfl ?_
    -- at 11 invokevirtual
    refine V_callV (pc' := 14) (As := [_]) (ci := 5) d_Bs_removeTree_11 mv_Bs_59 mw_Bs_endOfTree rfl rfl rfl (by simp [Value.category]) rfl (by first | assumption | exact aset_self _ _ _ | exact apush_self _ _) (c_Bs_endOfTree (q := some f) hJ.1 hw (fun z hz => by cases hz; exact hf)) (by first | decide | omega) (by first | decide | omega) (by first | decide | omega) (by first | decide | omega) ?_
    rintro _ _ ⟨rfl, rfl⟩
    rw [show endS S (some f) = f + gn from ee]
    refine V_istore_n (pc' := 15) d_Bs_removeTree_14 (by decide) rfl ?_
    first | refine V_L [(0, _), (1, _), (2, _)] ⟨rfl, rfl, rfl, trivial⟩ ?_ | (refine V_keep (by intro q hq e; simp only [List.mem_cons, List.not_mem_nil, or_false] at hq; rcases hq with rfl | rfl <;> first | rfl | exact va_rf_cat _ | exact absurd e (by decide)) ?_; refine V_L [(0, _), (1, _), (2, _)] ⟨rfl, rfl, rfl, trivial⟩ ?_)
    refine V_iload_n (pc' := 16) d_Bs_removeTree_15 rfl rfl ?_
    refine V_iload_n (pc' := 17) d_Bs_removeTree_16 rfl rfl ?_
    refine V_isub (pc' := 18) d_Bs_removeTree_17 rfl ?_
    rw [pk_sub (show f ≤ f + gn by omega), show f + gn - f = gn by omega]
    refine V_istore_n (pc' := 19) d_Bs_removeTree_18 (by decide) rfl ?_
    first | refine V_L [(0, _), (1, _), (2, _), (3, _)] ⟨rfl, rfl, rfl, rfl, trivial⟩ ?_ | (refine V_keep (by intro q hq e; simp only [List.mem_cons, List.not_mem_nil, or_false] at hq; rcases hq with rfl | rfl | rfl <;> first | rfl | exact va_rf_cat _ | exact absurd e (by decide)) ?_; refine V_L [(0, _), (1, _), (2, _), (3, _)] ⟨rfl, rfl, rfl, rfl, trivial⟩ ?_)
    refine V_iload_n (pc' := 20) d_Bs_removeTree_19 rfl rfl ?_
    refine V_istore (pc' := 22) d_Bs_removeTree_20 (by decide) rfl ?_
    first | refine V_L [(0, _), (1, _), (2, _), (3, _), (4, _)] ⟨rfl, rfl, rfl, rfl, rfl, trivial⟩ ?_ | (refine V_keep (by intro q hq e; simp only [List.mem_cons, List.not_mem_nil, or_false] at hq; rcases hq with rfl | rfl | rfl | rfl <;> first | rfl | exact va_rf_cat _ | exact absurd e (by decide)) ?_; refine V_L [(0, _), (1, _), (2, _), (3, _), (4, _)] ⟨rfl, rfl, rfl, rfl, rfl, trivial⟩ ?_)
    have h1 := lp1 (ssz S - (f + gn)) (f + gn) (by omega) (Nat.le_refl _) (fun i => if i < ssz S then .ref (xs B (snm S i)) else .null) (fun j hj => by
      rw [if_neg (show ¬ (f ≤ j ∧ j + gn < f + gn) by omega)])
    rw [heta] at h1
    exact h1
  · cases c5
set_option maxHeartbeats 4000000 in
theorem c_PC_delete (hX : IX h o B S) (hh : Hok h) (hw : WX S) (hhd : ∀ j, 1 ≤ j → j ≤ svc S → shd S j = true → ∃ k, plc S (spo S j) = some k) (view : Int32) : Ct x y_PC_delete b_PC_delete 7 (some .int) 3 0 0 [.ref o, .int view] h (PX h o B (delS S view)) := by
  have hJ : JX h h o B B S := ⟨hX, XF_rf hh⟩
  obtain ⟨ho, hka, hva, hpa, hba, hra, hpv, h8, h9, h10, h11, iv, ip, is⟩ := id hX
  obtain ⟨w1, w2, w3, w4, w5, w6, w7, w8, w9⟩ := id hw
  refine Ct_of (own := "PathCalls") (ini := false) rfl rfl (Nat.le_of_ble_eq_true rfl) (fun q => by cases q) ?_
  refine V_aload_n (pc' := 1) d_PC_delete_0 rfl (by first | rfl | exact isR_rf _) rfl ?_
  refine V_iload_n (pc' := 2) d_PC_delete_1 rfl rfl ?_
  -- at 2 invokevirtual
  refine V_callV (pc' := 5) (As := [_]) (ci := 0) d_PC_delete_2 mv_PC_67 mw_PC_viewNumbered rfl rfl rfl (by simp [Value.category]) rfl (by first | assumption | exact aset_self _ _ _ | exact apush_self _ _) (c_PC_viewNumbered hX w9 view) (by first | decide | omega) (by first | decide | omega) (by first | decide | omega) (by first | decide | omega) ?_
  rintro _ _ ⟨rfl, rfl⟩
  cases ek : ki (svc S) view with
  | none =>
    rw [show va_rf (vnr B (svc S) view) = .null from by unfold vnr; rw [ek]; rfl]
    refine V_astore_n (pc' := 6) d_PC_delete_5 (by first | rfl | exact isR_rf _) (by decide) rfl ?_
    first | refine V_L [(0, _), (1, _), (2, _)] ⟨rfl, rfl, rfl, trivial⟩ ?_ | (refine V_keep (by intro q hq e; simp only [List.mem_cons, List.not_mem_nil, or_false] at hq; rcases hq with rfl | rfl <;> first | rfl | exact va_rf_cat _ | exact absurd e (by decide)) ?_; refine V_L [(0, _), (1, _), (2, _)] ⟨rfl, rfl, rfl, trivial⟩ ?_)
    refine V_aload_n (pc' := 7) d_PC_delete_6 rfl (by first | rfl | exact isR_rf _) rfl ?_
    refine V_ifnonnull (pc' := 10) (tgt := 12) (r := none) d_PC_delete_7 (by decide) rfl (fun a7 c7 => ?_) (fun c7 => ?_)
    · cases c7
    · refine V_iconst (pc' := 11) (v := (-1)) d_PC_delete_10 (by decide) rfl ?_
      refine V_iret d_PC_delete_11 rfl (by first | decide | omega) (by first | decide | omega) ?_
      unfold delS
      rw [ek]; exact ⟨rfl, B, hJ⟩
  | some v =>
    obtain ⟨e1, e2, e3⟩ := ki_some (by omega) ek
    subst e1
    have hcv := h9 v e2 e3
    rw [show va_rf (vnr B (svc S) (nI v)) = .ref (xv B v) from by unfold vnr; rw [ek]; rfl]
    refine V_astore_n (pc' := 6) d_PC_delete_5 (by first | rfl | exact isR_rf _) (by decide) rfl ?_
    first | refine V_L [(0, _), (1, _), (2, _)] ⟨rfl, rfl, rfl, trivial⟩ ?_ | (refine V_keep (by intro q hq e; simp only [List.mem_cons, List.not_mem_nil, or_false] at hq; rcases hq with rfl | rfl <;> first | rfl | exact va_rf_cat _ | exact absurd e (by decide)) ?_; refine V_L [(0, _), (1, _), (2, _)] ⟨rfl, rfl, rfl, trivial⟩ ?_)
    refine V_aload_n (pc' := 7) d_PC_delete_6 rfl (by first | rfl | exact isR_rf _) rfl ?_
    refine V_ifnonnull (pc' := 10) (tgt := 12) (r := (some (xv B v))) d_PC_delete_7 (by decide) rfl (fun a7 c7 => ?_) (fun c7 => ?_)
    · clear c7 a7
      refine V_aload_n (pc' := 13) d_PC_delete_12 rfl (by first | rfl | exact isR_rf _) rfl ?_
      -- at 13 invokevirtual
      refine V_callV (pc' := 16) (As := []) (ci := 3) d_PC_delete_13 mv_PC_147 mw_Vw_takeHeld rfl rfl rfl (by simp [Value.category]) rfl (by first | assumption | exact aset_self _ _ _ | exact apush_self _ _) (c_Vw_takeHeld hJ e2 e3) (by first | decide | omega) (by first | decide | omega) (by first | decide | omega) (by first | decide | omega) ?_
      rintro _ g ⟨rfl, hJ2⟩
      by_cases hs : shd S v = true
      · rw [if_pos hs, sr_rr w2 (w8 v e2 e3).1]
        obtain ⟨f, ep⟩ := hhd v e2 e3 hs
        have hf := (plc_lt ep).1
        rw [ep]
        refine V_astore_n (pc' := 17) d_PC_delete_16 (by first | rfl | exact isR_rf _) (by decide) rfl ?_
        first | refine V_L [(0, _), (1, _), (2, _), (3, _)] ⟨rfl, rfl, rfl, rfl, trivial⟩ ?_ | (refine V_keep (by intro q hq e; simp only [List.mem_cons, List.not_mem_nil, or_false] at hq; rcases hq with rfl | rfl | rfl <;> first | rfl | exact va_rf_cat _ | exact absurd e (by decide)) ?_; refine V_L [(0, _), (1, _), (2, _), (3, _)] ⟨rfl, rfl, rfl, rfl, trivial⟩ ?_)
        refine V_aload_n (pc' := 18) d_PC_delete_17 rfl (by first | rfl | exact isR_rf _) rfl ?_
        refine V_ifnonnull (pc' := 21) (tgt := 24) (r := (rr B S (some f))) d_PC_delete_18 (by decide) rfl (fun a18 c18 => ?_) (fun c18 => ?_)
        · clear c18 a18
          rw [show va_rf (rr B S (some f)) = .ref (xs B (snm S f)) from rfl]
          have ho2 := hJ2.1.1
          have hba2 := hJ2.1.2.2.2.2.1
          have hva2 := hJ2.1.2.2.1
          have hw2 : WX (uhd S v false) := hw
          refine V_aload_n (pc' := 25) d_PC_delete_24 rfl (by first | rfl | exact isR_rf _) rfl ?_
          refine V_getf (pc' := 28) d_PC_delete_25 fl_PC_30 rfl (by first | assumption | exact aset_self _ _ _ | exact apush_self _ _) (by rfl) ?_
          refine V_aload_n (pc' := 29) d_PC_delete_28 rfl (by first | rfl | exact isR_rf _) rfl ?_
          -- at 29 invokevirtual
          refine V_callV (pc' := 32) (As := [_]) (ci := 5) d_PC_delete_29 mv_PC_155 mw_Bs_indexOf rfl rfl rfl (by simp [Value.category]) rfl (by first | assumption | exact aset_self _ _ _ | exact apush_self _ _) (c_Bs_indexOf (S := uhd S v false) (q := some f) hJ2.1 w7 (fun z hz => by cases hz; exact hf)) (by first | decide | omega) (by first | decide | omega) (by first | decide | omega) (by first | decide | omega) ?_
          rintro _ _ ⟨rfl, rfl⟩
          rw [oI_s]
          refine V_istore (pc' := 34) d_PC_delete_32 (by decide) rfl ?_
          first | refine V_L [(0, _), (1, _), (2, _), (3, _), (4, _)] ⟨rfl, rfl, rfl, rfl, rfl, trivial⟩ ?_ | (refine V_keep (by intro q hq e; simp only [List.mem_cons, List.not_mem_nil, or_false] at hq; rcases hq with rfl | rfl | rfl | rfl <;> first | rfl | exact va_rf_cat _ | exact absurd e (by decide)) ?_; refine V_L [(0, _), (1, _), (2, _), (3, _), (4, _)] ⟨rfl, rfl, rfl, rfl, rfl, trivial⟩ ?_)
          refine V_aload_n (pc' := 35) d_PC_delete_34 rfl (by first | rfl | exact isR_rf _) rfl ?_
          refine V_getf (pc' := 38) d_PC_delete_35 fl_PC_30 rfl (by first | assumption | exact aset_self _ _ _ | exact apush_self _ _) (by rfl) ?_
          refine V_iload (pc' := 40) d_PC_delete_38 rfl rfl ?_
          refine V_iconst (pc' := 41) (v := 1) d_PC_delete_40 (by decide) rfl ?_
          refine V_isub (pc' := 42) d_PC_delete_41 rfl ?_
          refine V_callV (pc' := 45) (As := [_]) (ci := 5) d_PC_delete_42 mv_PC_159 mw_Bs_at rfl rfl rfl (by simp [Value.category]) rfl (by first | assumption | exact aset_self _ _ _ | exact apush_self _ _) (c_Bs_at hJ2.1 w7 (nI f - 1)) (by first | decide | omega) (by first | decide | omega) (by first | decide | omega) (by first | decide | omega) ?_
          rintro _ _ ⟨rfl, rfl⟩
          have hah : rr B (uhd S v false) (ax (uhd S v false) (nI f - 1)) = sr B (aheadS S f) := by
            unfold aheadS
            by_cases z : f = 0
            · rw [if_pos z, z]
              have : ax (uhd S v false) (nI 0 - 1) = none := by
                unfold ax
                rw [if_pos (Or.inl (by decide))]
              rw [this]; rfl
            · have e9 : nI f - 1 = nI (f - 1) := pk_sub (a := f) (b := 1) (by omega)
              have e10 : ax (uhd S v false) (nI (f - 1)) = some (f - 1) := ax_n (S := uhd S v false) (show f - 1 < ssz S by omega) w7
              rw [if_neg z, e9, e10]
              unfold sr
              rw [if_neg (by have := w2.1 (f - 1) (by omega); omega)]
              rfl
          rw [hah]
          have lp : ∀ (d i : Nat), i + d = svc S → ∀ (g : AH) (hd : Nat → Bool), (∀ j, i < j → hd j = shd (uhd S v false) j) → (∀ j, j ≤ i → hd j = dhd (uhd S v false) f (i + 1) j) → JX h g o B B (mkV S (dpo S f (aheadS S f) (i + 1)) (dpr S f (i + 1)) hd) → V x "PathCalls" b_PC_delete 7 (Option.some .int) false (rmd 3 0 0) 0 0 (PX h o B (delS S (nI v))) 50 [(0, .ref o), (1, .int (nI v)), (2, .ref (xv B v)), (3, .ref (xs B (snm S f))), (4, .int (nI f)), (5, va_rf (sr B (aheadS S f))), (6, .int (nI i))] [] g 0 0 := by
            intro d
            induction d with
            | zero =>
              intro i hi g hd hd1 hd2 hJ3
              have e : i = svc S := by omega
              subst e
              have ho3 := hJ3.1.1
              have hba3 := hJ3.1.2.2.2.2.1
              refine V_iload (pc' := 52) d_PC_delete_50 rfl rfl ?_
              refine V_aload_n (pc' := 53) d_PC_delete_52 rfl (by first | rfl | exact isR_rf _) rfl ?_
              refine V_getf (pc' := 56) d_PC_delete_53 fl_PC_53 rfl (by first | assumption | exact aset_self _ _ _ | exact apush_self _ _) (by rfl) ?_
              refine V_icmp_ge (pc' := 59) (tgt := 78) d_PC_delete_56 (by decide) rfl (fun c56 => ?_) (fun c56 => ?_)
              · refine V_aload_n (pc' := 79) d_PC_delete_78 rfl (by first | rfl | exact isR_rf _) rfl ?_
                refine V_getf (pc' := 82) d_PC_delete_79 fl_PC_30 rfl (by first | assumption | exact aset_self _ _ _ | exact apush_self _ _) (by rfl) ?_
                refine V_iload (pc' := 84) d_PC_delete_82 rfl rfl ?_
                -- at 84 invokevirtual
                refine V_callV (pc' := 87) (As := [_]) (ci := 5) d_PC_delete_84 mv_PC_167 mw_Bs_removeTree rfl rfl rfl (by simp [Value.category]) rfl (by first | assumption | exact aset_self _ _ _ | exact apush_self _ _) (c_Bs_removeTree (S := mkV S (dpo S f (aheadS S f) (svc S + 1)) (dpr S f (svc S + 1)) hd) hJ3 ?hyp hf) (by first | decide | omega) (by first | decide | omega) (by first | decide | omega) (by first | decide | omega) ?_
                case hyp =>
                  refine ⟨w1, w2, w3, w4, w5, w6, w7, fun j h1 h2 => ⟨?_, ?_⟩, w9⟩
                  · show Lv S (dpo S f (aheadS S f) (svc S + 1) j)
                    unfold dpo
                    split
                    · unfold aheadS
                      split
                      · exact Or.inl rfl
                      · exact Or.inr ⟨f - 1, by omega, rfl⟩
                    · exact (w8 j h1 h2).1
                  · show Lv S (dpr S f (svc S + 1) j)
                    unfold dpr
                    split
                    · exact Or.inl rfl
                    · exact (w8 j h1 h2).2
                rintro _ g2 ⟨rfl, hJ4⟩
                refine V_iconst (pc' := 88) (v := 0) d_PC_delete_87 (by decide) rfl ?_
                refine V_iret d_PC_delete_88 rfl (by first | decide | omega) (by first | decide | omega) ?_
                have hres : delS S (nI v) = (0, deldS S f) := by
                  unfold delS
                  rw [ek]
                  dsimp only
                  rw [if_pos hs, ep]
                rw [hres]
                refine ⟨rfl, B, ?_⟩
                have hde : dhd S f (svc S + 1) = hd := by
                  funext j
                  rcases Nat.lt_or_ge (svc S) j with z | z
                  · rw [hd1 j z]
                    show (if (1 ≤ j ∧ j < svc S + 1) ∧ inR S f (plc S (spo S j)) = true then false else shd S j) = (if j = v then false else shd S j)
                    rw [if_neg (by omega), if_neg (by omega)]
                  · rw [hd2 j z]
                    show (if (1 ≤ j ∧ j < svc S + 1) ∧ inR S f (plc S (spo S j)) = true then false else shd S j) = (if (1 ≤ j ∧ j < svc S + 1) ∧ inR S f (plc S (spo S j)) = true then false else if j = v then false else shd S j)
                    by_cases y : (1 ≤ j ∧ j < svc S + 1) ∧ inR S f (plc S (spo S j)) = true
                    · rw [if_pos y, if_pos y]
                    · rw [if_neg y, if_neg y]
                      by_cases y2 : j = v
                      · refine absurd ⟨⟨by omega, by omega⟩, ?_⟩ y
                        rw [y2, ep]
                        exact inR_self
                      · rw [if_neg y2]
                unfold deldS
                rw [hde]
                exact hJ4
              · exact absurd (Int32.le_refl _) c56
            | succ d ih =>
              intro i hi g hd hd1 hd2 hJ3
              obtain ⟨ho3, hka3, hva3, hpa3, hba3, hra3, hpv3, h83, h93, h103, h113, iv3, ip3, is3⟩ := id hJ3.1
              have hcv3 := h93 (i + 1) (by omega) (show i + 1 ≤ svc S by omega)
              refine V_iload (pc' := 52) d_PC_delete_50 rfl rfl ?_
              refine V_aload_n (pc' := 53) d_PC_delete_52 rfl (by first | rfl | exact isR_rf _) rfl ?_
              refine V_getf (pc' := 56) d_PC_delete_53 fl_PC_53 rfl (by first | assumption | exact aset_self _ _ _ | exact apush_self _ _) (by rfl) ?_
              refine V_icmp_ge (pc' := 59) (tgt := 78) d_PC_delete_56 (by decide) rfl (fun c56 => ?_) (fun c56 => ?_)
              · exact absurd c56 (show ¬ nI (svc S) ≤ nI i from nI_ge (by omega) (by omega))
              · refine V_aload_n (pc' := 60) d_PC_delete_59 rfl (by first | rfl | exact isR_rf _) rfl ?_
                refine V_getf (pc' := 63) d_PC_delete_60 fl_PC_17 rfl (by first | assumption | exact aset_self _ _ _ | exact apush_self _ _) (by rfl) ?_
                refine V_iload (pc' := 65) d_PC_delete_63 rfl rfl ?_
                -- at 65 aaload
                refine V_aald (pc' := 66) d_PC_delete_65 rfl hva3 rfl rfl (by omega) ((arv_get (by omega)).trans (congrArg some (if_pos (show i < svc S by omega)))) ?_
                refine V_aload_n (pc' := 67) d_PC_delete_66 rfl (by first | rfl | exact isR_rf _) rfl ?_
                refine V_aload (pc' := 69) d_PC_delete_67 rfl (by first | rfl | exact isR_rf _) rfl ?_
                -- at 69 invokevirtual
                have epo : spo (mkV S (dpo S f (aheadS S f) (i + 1)) (dpr S f (i + 1)) hd) (i + 1) = spo S (i + 1) := by
                  show dpo S f (aheadS S f) (i + 1) (i + 1) = _
                  unfold dpo
                  rw [if_neg (by omega)]
                have epr : spr (mkV S (dpo S f (aheadS S f) (i + 1)) (dpr S f (i + 1)) hd) (i + 1) = spr S (i + 1) := by
                  show dpr S f (i + 1) (i + 1) = _
                  unfold dpr
                  rw [if_neg (by omega)]
                refine V_callV (pc' := 72) (As := [_, _]) (ci := 3) d_PC_delete_69 mv_PC_163 mw_Vw_leave rfl rfl rfl (by simp [Value.category]) rfl (by first | assumption | exact aset_self _ _ _ | exact apush_self _ _) (c_Vw_leave (S := mkV S (dpo S f (aheadS S f) (i + 1)) (dpr S f (i + 1)) hd) (v := i + 1) (f := f) (ah := aheadS S f) hJ3 w2 w3 (by omega) (show i + 1 ≤ svc S by omega) (by rw [epo, epr]; exact w8 (i + 1) (by omega) (by omega)) hf) (by first | decide | omega) (by first | decide | omega) (by first | decide | omega) (by first | decide | omega) ?_
                rintro _ g2 ⟨rfl, hJ4⟩
                first | refine V_iincN (pc' := 75) d_PC_delete_72 rfl (by decide) rfl ?_ | refine V_iinc (pc' := 75) d_PC_delete_72 rfl rfl (by decide) rfl ?_
                first | refine V_L [(0, _), (1, _), (2, _), (3, _), (4, _), (5, _), (6, _)] ⟨rfl, rfl, rfl, rfl, rfl, rfl, rfl, trivial⟩ ?_ | (refine V_keep (by intro q hq e; simp only [List.mem_cons, List.not_mem_nil, or_false] at hq; rcases hq with rfl | rfl | rfl | rfl | rfl | rfl | rfl <;> first | rfl | exact va_rf_cat _ | exact absurd e (by decide)) ?_; refine V_L [(0, _), (1, _), (2, _), (3, _), (4, _), (5, _), (6, _)] ⟨rfl, rfl, rfl, rfl, rfl, rfl, rfl, trivial⟩ ?_)
                refine V_goto (tgt := 50) d_PC_delete_75 (by decide) ?_
                unfold lvS at hJ4
                rw [epo, epr] at hJ4
                refine ih (i + 1) (by omega) g2 (fun j => if j = i + 1 ∧ inR S f (plc S (spo S (i + 1))) = true then false else hd j) (fun j hj => ?_) (fun j hj => ?_) ?_
                · rw [if_neg (by omega), hd1 j (by omega)]
                · by_cases z : j = i + 1
                  · rw [z]
                    show _ = (if (1 ≤ i + 1 ∧ i + 1 < i + 1 + 1) ∧ inR S f (plc S (spo S (i + 1))) = true then false else shd (uhd S v false) (i + 1))
                    by_cases y : inR S f (plc S (spo S (i + 1))) = true
                    · rw [if_pos ⟨rfl, y⟩, if_pos ⟨⟨by omega, by omega⟩, y⟩]
                    · rw [if_neg (fun q => y q.2), if_neg (fun q => y q.2), hd1 (i + 1) (by omega)]
                  · rw [if_neg (fun q => z q.1), hd2 j (by omega)]
                    unfold dhd
                    by_cases y : (1 ≤ j ∧ j < i + 1) ∧ inR (uhd S v false) f (plc (uhd S v false) (spo (uhd S v false) j)) = true
                    · rw [if_pos y, if_pos ⟨⟨y.1.1, by omega⟩, y.2⟩]
                    · rw [if_neg y, if_neg (fun q => y ⟨⟨q.1.1, by omega⟩, q.2⟩)]
                · have e1 : dpo S f (aheadS S f) (i + 1 + 1) = (fun j => if j = i + 1 ∧ inR S f (plc S (spo S (i + 1))) = true then aheadS S f else dpo S f (aheadS S f) (i + 1) j) := by
                    funext j
                    unfold dpo
                    by_cases z : j = i + 1
                    · rw [z]
                      by_cases y : inR S f (plc S (spo S (i + 1))) = true
                      · rw [if_pos ⟨⟨by omega, by omega⟩, y⟩, if_pos ⟨rfl, y⟩]
                      · rw [if_neg (fun q => y q.2), if_neg (fun q => y q.2), if_neg (fun q => y q.2)]
                    · rw [if_neg (show ¬ (j = i + 1 ∧ inR S f (plc S (spo S (i + 1))) = true) from fun q => z q.1)]
                      by_cases y : (1 ≤ j ∧ j < i + 1) ∧ inR S f (plc S (spo S j)) = true
                      · rw [if_pos y, if_pos ⟨⟨y.1.1, by omega⟩, y.2⟩]
                      · rw [if_neg y, if_neg (fun q => y ⟨⟨q.1.1, by omega⟩, q.2⟩)]
                  have e2 : dpr S f (i + 1 + 1) = (fun j => if j = i + 1 ∧ inR S f (plc S (spr S (i + 1))) = true then 0 else dpr S f (i + 1) j) := by
                    funext j
                    unfold dpr
                    by_cases z : j = i + 1
                    · rw [z]
                      by_cases y : inR S f (plc S (spr S (i + 1))) = true
                      · rw [if_pos ⟨⟨by omega, by omega⟩, y⟩, if_pos ⟨rfl, y⟩]
                      · rw [if_neg (fun q => y q.2), if_neg (fun q => y q.2), if_neg (fun q => y q.2)]
                    · rw [if_neg (show ¬ (j = i + 1 ∧ inR S f (plc S (spr S (i + 1))) = true) from fun q => z q.1)]
                      by_cases y : (1 ≤ j ∧ j < i + 1) ∧ inR S f (plc S (spr S j)) = true
                      · rw [if_pos y, if_pos ⟨⟨y.1.1, by omega⟩, y.2⟩]
                      · rw [if_neg y, if_neg (fun q => y ⟨⟨q.1.1, by omega⟩, q.2⟩)]
                  rw [e1, e2]
                  exact hJ4
          refine V_astore (pc' := 47) d_PC_delete_45 (by first | rfl | exact isR_rf _) (by decide) rfl ?_
          first | refine V_L [(0, _), (1, _), (2, _), (3, _), (4, _), (5, _)] ⟨rfl, rfl, rfl, rfl, rfl, rfl, trivial⟩ ?_ | (refine V_keep (by intro q hq e; simp only [List.mem_cons, List.not_mem_nil, or_false] at hq; rcases hq with rfl | rfl | rfl | rfl | rfl <;> first | rfl | exact va_rf_cat _ | exact absurd e (by decide)) ?_; refine V_L [(0, _), (1, _), (2, _), (3, _), (4, _), (5, _)] ⟨rfl, rfl, rfl, rfl, rfl, rfl, trivial⟩ ?_)
          refine V_iconst (pc' := 48) (v := 0) d_PC_delete_47 (by decide) rfl ?_
          refine V_istore (pc' := 50) d_PC_delete_48 (by decide) rfl ?_
          first | refine V_L [(0, _), (1, _), (2, _), (3, _), (4, _), (5, _), (6, _)] ⟨rfl, rfl, rfl, rfl, rfl, rfl, rfl, trivial⟩ ?_ | (refine V_keep (by intro q hq e; simp only [List.mem_cons, List.not_mem_nil, or_false] at hq; rcases hq with rfl | rfl | rfl | rfl | rfl | rfl <;> first | rfl | exact va_rf_cat _ | exact absurd e (by decide)) ?_; refine V_L [(0, _), (1, _), (2, _), (3, _), (4, _), (5, _), (6, _)] ⟨rfl, rfl, rfl, rfl, rfl, rfl, rfl, trivial⟩ ?_)
          refine lp (svc S) 0 (by omega) g (shd (uhd S v false)) (fun j _ => rfl) (fun j hj => ?_) ?_
          · unfold dhd
            rw [if_neg (by omega)]
          · have e1 : dpo S f (aheadS S f) (0 + 1) = spo S := by
              funext j
              unfold dpo
              rw [if_neg (by omega)]
            have e2 : dpr S f (0 + 1) = spr S := by
              funext j
              unfold dpr
              rw [if_neg (by omega)]
            rw [e1, e2]
            exact hJ2
        · cases c18
      · have hs2 : shd S v = false := by
          cases e : shd S v with
          | true => exact absurd e hs
          | false => rfl
        rw [if_neg hs]
        refine V_astore_n (pc' := 17) d_PC_delete_16 (by first | rfl | exact isR_rf _) (by decide) rfl ?_
        first | refine V_L [(0, _), (1, _), (2, _), (3, _)] ⟨rfl, rfl, rfl, rfl, trivial⟩ ?_ | (refine V_keep (by intro q hq e; simp only [List.mem_cons, List.not_mem_nil, or_false] at hq; rcases hq with rfl | rfl | rfl <;> first | rfl | exact va_rf_cat _ | exact absurd e (by decide)) ?_; refine V_L [(0, _), (1, _), (2, _), (3, _)] ⟨rfl, rfl, rfl, rfl, trivial⟩ ?_)
        refine V_aload_n (pc' := 18) d_PC_delete_17 rfl (by first | rfl | exact isR_rf _) rfl ?_
        refine V_ifnonnull (pc' := 21) (tgt := 24) (r := none) d_PC_delete_18 (by decide) rfl (fun a18 c18 => ?_) (fun c18 => ?_)
        · cases c18
        · refine V_bipush (pc' := 23) (v := 8) d_PC_delete_21 (by decide) rfl ?_
          refine V_iret d_PC_delete_23 rfl (by first | decide | omega) (by first | decide | omega) ?_
          unfold delS
          rw [ek]
          dsimp only
          rw [if_neg hs]
          rw [uhd_same hs2] at hJ2
          exact ⟨rfl, B, hJ2⟩
    · cases c7
end X10
