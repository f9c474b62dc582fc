-- the class: calls that write one cell, calls that read
section X5
variable {x : CX} {h h0 : AH} {o : Nat} {B B0 : XB} {S : PS}
theorem c_PC_takeParts (hJ : JX h0 h o B0 B S) : Ct x y_PC_takeParts b_PC_takeParts 2 (some .int) 0 0 0 [.ref o] h (fun r h' => r = some (.int (nI (spc S))) ∧ JX h0 h' o B0 B (upc S 0)) := by
  obtain ⟨ho, -⟩ := hJ.1
  refine Ct_of (own := "PathCalls") (ini := false) rfl rfl (Nat.le_of_ble_eq_true rfl) (fun q => by cases q) ?_
  refine V_aload_n (pc' := 1) d_PC_takeParts_0 rfl (by first | rfl | exact isR_rf _) rfl ?_
  refine V_getf (pc' := 4) d_PC_takeParts_1 fl_PC_57 rfl (by first | assumption | exact aset_self _ _ _ | exact apush_self _ _) (by rfl) ?_
  refine V_istore_n (pc' := 5) d_PC_takeParts_4 (by decide) rfl ?_
  first | refine V_L [(0, _), (1, _)] ⟨rfl, rfl, trivial⟩ ?_ | (refine V_keep (by intro q hq e; simp only [List.mem_cons, List.not_mem_nil, or_false] at hq; rcases hq with rfl <;> first | rfl | exact va_rf_cat _ | exact absurd e (by decide)) ?_; refine V_L [(0, _), (1, _)] ⟨rfl, rfl, trivial⟩ ?_)
  refine V_aload_n (pc' := 6) d_PC_takeParts_5 rfl (by first | rfl | exact isR_rf _) rfl ?_
  refine V_iconst (pc' := 7) (v := 0) d_PC_takeParts_6 (by decide) rfl ?_
  refine V_putf (pc' := 10) d_PC_takeParts_7 fp_PC_57 rfl (by first | assumption | exact aset_self _ _ _ | exact apush_self _ _) (by first | rfl | exact ob_nar _ | exact nar_rf _) (by first | rfl | exact ob_fit _ | exact fits_rf _) (by exact Nat.le_of_ble_eq_true rfl) ?_
  refine V_iload_n (pc' := 11) d_PC_takeParts_10 rfl rfl ?_
  refine V_iret d_PC_takeParts_11 rfl (by first | decide | omega) (by first | decide | omega) ?_
  exact ⟨rfl, JX_pc hJ 0⟩
theorem c_Pt_fill {a k : Nat} {v1 y1 y2 y3 y4 : Value} {v2 : Int32} {v3 : Int64} (hv : v1 = .ref k) (ha : h.2 a = some (4, [y1, y2, y3, y4])) : Ct x y_Pt_fill b_Pt_fill 5 none 0 0 0 [.ref a, v1, .int v2, .long v3] h (fun r h' => r = none ∧ h' = aset (aset (aset (aset h a (4, [v1, y2, y3, y4])) a (4, [v1, .int v2, y3, y4])) a (4, [v1, .int v2, .long v3, y4])) a (4, [v1, .int v2, .long v3, .int 0])) := by
  subst hv
  refine Ct_of (own := "PathCalls$Part") (ini := false) rfl rfl (Nat.le_of_ble_eq_true rfl) (fun q => by cases q) ?_
  refine V_aload_n (pc' := 1) d_Pt_fill_0 rfl (by first | rfl | exact isR_rf _) rfl ?_
  refine V_aload_n (pc' := 2) d_Pt_fill_1 rfl (by first | rfl | exact isR_rf _) rfl ?_
  refine V_putf (pc' := 5) d_Pt_fill_2 fp_Pt_7 rfl (by first | assumption | exact aset_self _ _ _ | exact apush_self _ _) (by first | rfl | exact ob_nar _ | exact nar_rf _) (by first | rfl | exact ob_fit _ | exact fits_rf _) (by exact Nat.le_of_ble_eq_true rfl) ?_
  refine V_aload_n (pc' := 6) d_Pt_fill_5 rfl (by first | rfl | exact isR_rf _) rfl ?_
  refine V_iload_n (pc' := 7) d_Pt_fill_6 rfl rfl ?_
  refine V_putf (pc' := 10) d_Pt_fill_7 fp_Pt_13 rfl (by first | assumption | exact aset_self _ _ _ | exact apush_self _ _) (by first | rfl | exact ob_nar _ | exact nar_rf _) (by first | rfl | exact ob_fit _ | exact fits_rf _) (by exact Nat.le_of_ble_eq_true rfl) ?_
  refine V_aload_n (pc' := 11) d_Pt_fill_10 rfl (by first | rfl | exact isR_rf _) rfl ?_
  refine V_lload_n (pc' := 12) d_Pt_fill_11 rfl rfl ?_
  refine V_putf (pc' := 15) d_Pt_fill_12 fp_Pt_17 rfl (by first | assumption | exact aset_self _ _ _ | exact apush_self _ _) (by first | rfl | exact ob_nar _ | exact nar_rf _) (by first | rfl | exact ob_fit _ | exact fits_rf _) (by exact Nat.le_of_ble_eq_true rfl) ?_
  refine V_aload_n (pc' := 16) d_Pt_fill_15 rfl (by first | rfl | exact isR_rf _) rfl ?_
  refine V_iconst (pc' := 17) (v := 0) d_Pt_fill_16 (by decide) rfl ?_
  refine V_putf (pc' := 20) d_Pt_fill_17 fp_Pt_21 rfl (by first | assumption | exact aset_self _ _ _ | exact apush_self _ _) (by first | rfl | exact ob_nar _ | exact nar_rf _) (by first | rfl | exact ob_fit _ | exact fits_rf _) (by exact Nat.le_of_ble_eq_true rfl) ?_
  refine V_vret d_Pt_fill_20 rfl (by first | decide | omega) (by first | decide | omega) ?_
  exact ⟨rfl, rfl⟩
theorem aset_aset {h : AH} {a : Nat} {c d : AC} : aset (aset h a c) a d = aset h a d := by
  unfold aset
  congr 1
  funext j
  by_cases e : j = a <;> simp [e]
theorem c_PC_part (hX : IX h o B S) (hh : Hok h) (hk : skc S ≤ 20) (hp : spc S ≤ 8) (k op : Int32) (key : Int64) : Ct x y_PC_part b_PC_part 6 (some .int) 1 0 0 [.ref o, .int k, .int op, .long key] h (PX h o B (partS S k op key)) := by
  have hJ : JX h h o B B S := ⟨hX, XF_rf hh⟩
  obtain ⟨ho, hka, hva, hpa, hba, hra, hpv, h8, h9, h10, h11, iv, ip, is⟩ := id hX
  refine Ct_of (own := "PathCalls") (ini := false) rfl rfl (Nat.le_of_ble_eq_true rfl) (fun q => by cases q) ?_
  have bad : partS S k op key = (-1, S) → ∀ z : Value, isR z = true → V x "PathCalls" b_PC_part 6 (Option.some .int) false (rmd 1 0 0) 0 0 (PX h o B (partS S k op key)) 31 [(0, .ref o), (1, .int k), (2, .int op), (3, .long key), (5, z)] [] h 0 0 := by
    intro he z hz
    refine V_iconst (pc' := 32) (v := (-1)) d_PC_part_31 (by decide) rfl ?_
    refine V_iret d_PC_part_32 rfl (by first | decide | omega) (by first | decide | omega) ?_
    rw [he]; exact ⟨rfl, B, hJ⟩
  refine V_aload_n (pc' := 1) d_PC_part_0 rfl (by first | rfl | exact isR_rf _) rfl ?_
  refine V_iload_n (pc' := 2) d_PC_part_1 rfl rfl ?_
  -- at 2 invokevirtual
  refine V_callV (pc' := 5) (As := [_]) (ci := 0) d_PC_part_2 mv_PC_39 mw_PC_kindNumbered rfl rfl rfl (by simp [Value.category]) rfl (by first | assumption | exact aset_self _ _ _ | exact apush_self _ _) (c_PC_kindNumbered hX hk k) (by first | decide | omega) (by first | decide | omega) (by first | decide | omega) (by first | decide | omega) ?_
  rintro _ _ ⟨rfl, rfl⟩
  cases ek : ki (skc S) k with
  | none =>
    rw [show va_rf (knr B (skc S) k) = .null from by unfold knr; rw [ek]; rfl]
    refine V_astore (pc' := 7) d_PC_part_5 (by first | rfl | exact isR_rf _) (by decide) rfl ?_
    first | refine V_L [(0, _), (1, _), (2, _), (3, _), (5, _)] ⟨rfl, rfl, rfl, rfl, rfl, trivial⟩ ?_ | (refine V_keep (by intro q hq e; simp only [List.mem_cons, List.not_mem_nil, or_false] at hq; rcases hq with rfl | rfl | rfl | rfl <;> first | rfl | exact va_rf_cat _ | exact absurd e (by decide)) ?_; refine V_L [(0, _), (1, _), (2, _), (3, _), (5, _)] ⟨rfl, rfl, rfl, rfl, rfl, trivial⟩ ?_)
    refine V_aload (pc' := 9) d_PC_part_7 rfl (by first | rfl | exact isR_rf _) rfl ?_
    refine V_ifnull (pc' := 12) (tgt := 31) (r := none) d_PC_part_9 (by decide) rfl (fun c9 => ?_) (fun a9 c9 => ?_)
    · exact bad (by unfold partS; rw [ek]) _ rfl
    · cases c9
  | some j =>
    obtain ⟨e1, e2, e3⟩ := ki_some (by omega) ek
    subst e1
    rw [show va_rf (knr B (skc S) (nI j)) = .ref (xk B j) from by unfold knr; rw [ek]; rfl]
    refine V_astore (pc' := 7) d_PC_part_5 (by first | rfl | exact isR_rf _) (by decide) rfl ?_
    first | refine V_L [(0, _), (1, _), (2, _), (3, _), (5, _)] ⟨rfl, rfl, rfl, rfl, rfl, trivial⟩ ?_ | (refine V_keep (by intro q hq e; simp only [List.mem_cons, List.not_mem_nil, or_false] at hq; rcases hq with rfl | rfl | rfl | rfl <;> first | rfl | exact va_rf_cat _ | exact absurd e (by decide)) ?_; refine V_L [(0, _), (1, _), (2, _), (3, _), (5, _)] ⟨rfl, rfl, rfl, rfl, rfl, trivial⟩ ?_)
    refine V_aload (pc' := 9) d_PC_part_7 rfl (by first | rfl | exact isR_rf _) rfl ?_
    refine V_ifnull (pc' := 12) (tgt := 31) (r := (some (xk B j))) d_PC_part_9 (by decide) rfl (fun c9 => ?_) (fun a9 c9 => ?_)
    · cases c9
    · clear c9 a9
      refine V_iload_n (pc' := 13) d_PC_part_12 rfl rfl ?_
      refine V_if_lt (pc' := 16) (tgt := 31) d_PC_part_13 (by decide) rfl (fun c13 => ?_) (fun c13 => ?_)
      · exact bad (by unfold partS; rw [ek, kz_none.mpr (Or.inl c13)]) _ rfl
      · refine V_iload_n (pc' := 17) d_PC_part_16 rfl rfl ?_
        refine V_bipush (pc' := 19) (v := 6) d_PC_part_17 (by decide) rfl ?_
        refine V_icmp_gt (pc' := 22) (tgt := 31) d_PC_part_19 (by decide) rfl (fun c19 => ?_) (fun c19 => ?_)
        · exact bad (by unfold partS; rw [ek, kz_none.mpr (Or.inr c19)]) _ rfl
        · cases eo : kz 6 op with
          | none =>
            rcases kz_none.mp eo with q | q
            · exact absurd q c13
            · exact absurd q c19
          | some oo =>
            obtain ⟨f1, f2⟩ := kz_some (by omega) eo
            subst f1
            refine V_aload_n (pc' := 23) d_PC_part_22 rfl (by first | rfl | exact isR_rf _) rfl ?_
            refine V_getf (pc' := 26) d_PC_part_23 fl_PC_57 rfl (by first | assumption | exact aset_self _ _ _ | exact apush_self _ _) (by rfl) ?_
            refine V_bipush (pc' := 28) (v := 8) d_PC_part_26 (by decide) rfl ?_
            refine V_icmp_lt (pc' := 31) (tgt := 33) d_PC_part_28 (by decide) rfl (fun c28 => ?_) (fun c28 => ?_)
            · have e5 : spc S < 8 := (nI_ltI (b := 8) (by omega) (by omega)).mp c28
              have hcp := h10 (spc S) e5
              refine V_aload_n (pc' := 34) d_PC_part_33 rfl (by first | rfl | exact isR_rf _) rfl ?_
              refine V_getf (pc' := 37) d_PC_part_34 fl_PC_23 rfl (by first | assumption | exact aset_self _ _ _ | exact apush_self _ _) (by rfl) ?_
              refine V_aload_n (pc' := 38) d_PC_part_37 rfl (by first | rfl | exact isR_rf _) rfl ?_
              refine V_getf (pc' := 41) d_PC_part_38 fl_PC_57 rfl (by first | assumption | exact aset_self _ _ _ | exact apush_self _ _) (by rfl) ?_
              -- at 41 aaload
              refine V_aald (pc' := 42) d_PC_part_41 rfl hpa rfl (rfl : _ = nI (spc S)) (by omega) (arv_get (by omega)) ?_
              refine V_aload (pc' := 44) d_PC_part_42 rfl (by first | rfl | exact isR_rf _) rfl ?_
              refine V_iload_n (pc' := 45) d_PC_part_44 rfl rfl ?_
              refine V_lload_n (pc' := 46) d_PC_part_45 rfl rfl ?_
              -- at 46 invokevirtual
              refine V_callV (pc' := 49) (As := [_, _, _]) (ci := 4) d_PC_part_46 mv_PC_60 mw_Pt_fill rfl rfl rfl (by simp [Value.category]) rfl (by first | assumption | exact aset_self _ _ _ | exact apush_self _ _) (c_Pt_fill (a := xp B (spc S)) (v1 := .ref (xk B j)) (v2 := nI oo) (v3 := key) rfl hcp) (by first | decide | omega) (by first | decide | omega) (by first | decide | omega) (by first | decide | omega) ?_
              rintro _ g ⟨rfl, rfl⟩
              rw [aset_aset, aset_aset, aset_aset]
              have hJ2 := JX_part hJ (p := spc S) e5 (spc S, fun i => if i = spc S then j else spk S i, fun i => if i = spc S then oo else sop S i, fun i => if i = spc S then 0 else scd S i, fun i => if i = spc S then key else spy S i) (fun q hq => ⟨if_neg hq, if_neg hq, if_neg hq, if_neg hq⟩) rfl
              refine V_ex (fun g => JX h g o B B (ucd (upy (uop (upk S (spc S) j) (spc S) oo) (spc S) key) (spc S) 0)) ?_ (fun g1 hJ3 => ?_)
              · dsimp only at hJ2
                rw [if_pos rfl, if_pos rfl, if_pos rfl, if_pos rfl, kr_pos e2] at hJ2
                exact hJ2
              · have ho2 := hJ3.1.1
                refine V_aload_n (pc' := 50) d_PC_part_49 rfl (by first | rfl | exact isR_rf _) rfl ?_
                refine V_dup (pc' := 51) d_PC_part_50 rfl rfl ?_
                refine V_getf (pc' := 54) d_PC_part_51 fl_PC_57 rfl (by first | assumption | exact aset_self _ _ _ | exact apush_self _ _) (by rfl) ?_
                refine V_iconst (pc' := 55) (v := 1) d_PC_part_54 (by decide) rfl ?_
                refine V_iadd (pc' := 56) d_PC_part_55 rfl ?_
                rw [nI_1]
                refine V_putf (pc' := 59) d_PC_part_56 fp_PC_57 rfl (by first | assumption | exact aset_self _ _ _ | exact apush_self _ _) (by first | rfl | exact ob_nar _ | exact nar_rf _) (by first | rfl | exact ob_fit _ | exact fits_rf _) (by exact Nat.le_of_ble_eq_true rfl) ?_
                refine V_ex (fun g => JX h g o B B _) (JX_pc hJ3 (spc S + 1)) (fun g2 hJ4 => ?_)
                have ho3 := hJ4.1.1
                refine V_aload_n (pc' := 60) d_PC_part_59 rfl (by first | rfl | exact isR_rf _) rfl ?_
                refine V_getf (pc' := 63) d_PC_part_60 fl_PC_57 rfl (by first | assumption | exact aset_self _ _ _ | exact apush_self _ _) (by rfl) ?_
                refine V_iret d_PC_part_63 rfl (by first | decide | omega) (by first | decide | omega) ?_
                unfold partS
                rw [ek, eo]
                dsimp only
                rw [if_neg (by omega)]
                exact ⟨rfl, B, hJ4⟩
            · have e5 : spc S = 8 := by
                rcases Nat.lt_or_ge (spc S) 8 with z | z
                · exact absurd (nI_lt (b := 8) z (by omega)) c28
                · omega
              exact bad (by unfold partS; rw [ek, eo]; dsimp only; rw [if_pos e5]) _ rfl
end X5
