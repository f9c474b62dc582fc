-- the class: get, whole
theorem kz_nI {n j : Nat} (hn : n < 2 ^ 31) (h : j ≤ n) : kz n (nI j) = some j := by
  unfold kz
  rw [if_neg, nI_clamp (by omega)]
  rintro (q | q)
  · exact nI_pos (by omega) q
  · exact nI_nlt h hn q
theorem uhd_uhd {S : PS} {v : Nat} {a b : Bool} : uhd (uhd S v a) v b = uhd S v b := by
  have e : (fun i => if i = v then b else if i = v then a else shd S i) = (fun i => if i = v then b else shd S i) := by
    funext i
    by_cases q : i = v
    · rw [if_pos q, if_pos q]
    · rw [if_neg q, if_neg q, if_neg q]
  exact congrArg (fun f => ((S.1, S.2.1, (S.2.2.1.1, S.2.2.1.2.1, S.2.2.1.2.2.1, f), S.2.2.2.1, S.2.2.2.2) : PS)) e
theorem uhd_same {S : PS} {v : Nat} {b : Bool} (h : shd S v = b) : uhd S v b = S := by
  have e : (fun i => if i = v then b else shd S i) = shd S := by
    funext i
    by_cases q : i = v
    · rw [if_pos q, q, h]
    · rw [if_neg q]
  exact congrArg (fun f => ((S.1, S.2.1, (S.2.2.1.1, S.2.2.1.2.1, S.2.2.1.2.2.1, f), S.2.2.2.1, S.2.2.2.2) : PS)) e
theorem flp_mkT {S : PS} {v f : Nat} {po pr : Nat → Nat} {sh : Nat → Int64} {g : Nat → Nat} : ∀ n, flp (mkT S po pr sh) v f n g = flp S v f n g
  | 0 => rfl
  | n + 1 => by
    rw [flp, flp, flp_mkT n]; rfl
theorem statS_of {S : PS} {c n f : Nat} {pos : Option Nat} : statS S c n pos f = 0 ∨ statS S c n pos f = 3 ∨ statS S c n pos f = 4 := by
  unfold statS
  split
  · split
    · exact Or.inl rfl
    · split
      · exact Or.inl rfl
      · split
        · exact Or.inr (Or.inl rfl)
        · split
          · exact Or.inr (Or.inr rfl)
          · exact Or.inl rfl
  · exact Or.inl rfl
theorem statS_1 {S : PS} {n f : Nat} {pos : Option Nat} (hn : n = 0) : statS S 1 n pos f = stv S f pos := by
  subst hn
  unfold statS stv
  rw [if_pos ⟨rfl, rfl⟩]
  cases pos <;> rfl
theorem hold_no {r : Int32} {a : Nat} (h : r = 1 ∨ r = 2 ∨ r = 5) : decide (3 < a ∧ (r = 0 ∨ r = 3 ∨ r = 4)) = false := by
  refine decide_eq_false ?_
  rintro ⟨-, z⟩
  revert z
  rcases h with rfl | rfl | rfl <;> decide
section X8
variable {x : CX} {h h0 : AH} {o : Nat} {B B0 : XB} {S : PS}
set_option maxHeartbeats 4000000 in
theorem c_PC_get (hX : IX h o B S) (hh : Hok h) (hw : WX S) (hSo : So S) (hp : PV S (spc S)) (view call : Int32) : Ct x y_PC_get b_PC_get 9 (some .int) 6 0 0 [.ref o, .int view, .int call] h (PX h o B (getS S view call)) := by
  have hJ : JX h h o B B S := ⟨hX, XF_rf hh⟩
  obtain ⟨ho, hka, hva, hpa, hba, hra, hpv, h8, h9, h10, h11, iv, ip, is⟩ := id hX
  obtain ⟨w1, w2, w3, w4, w5, w6, w7, w8, w9⟩ := id hw
  obtain ⟨v1, v2⟩ := id hp
  refine Ct_of (own := "PathCalls") (ini := false) rfl rfl (Nat.le_of_ble_eq_true rfl) (fun q => by cases q) ?_
  refine V_aload_n (pc' := 1) d_PC_get_0 rfl (by first | rfl | exact isR_rf _) rfl ?_
  refine V_iload_n (pc' := 2) d_PC_get_1 rfl rfl ?_
  -- at 2 invokevirtual
  refine V_callV (pc' := 5) (As := [_]) (ci := 0) d_PC_get_2 mv_PC_67 mw_PC_viewNumbered rfl rfl rfl (by simp [Value.category]) rfl (by first | assumption | exact aset_self _ _ _ | exact apush_self _ _) (c_PC_viewNumbered hX w9 view) (by first | decide | omega) (by first | decide | omega) (by first | decide | omega) (by first | decide | omega) ?_
  rintro _ _ ⟨rfl, rfl⟩
  cases ek : ki (svc S) view with
  | none =>
    rw [show va_rf (vnr B (svc S) view) = .null from by unfold vnr; rw [ek]; rfl]
    refine V_astore_n (pc' := 6) d_PC_get_5 (by first | rfl | exact isR_rf _) (by decide) rfl ?_
    first | refine V_L [(0, _), (1, _), (2, _), (3, _)] ⟨rfl, rfl, rfl, rfl, trivial⟩ ?_ | (refine V_keep (by intro q hq e; simp only [List.mem_cons, List.not_mem_nil, or_false] at hq; rcases hq with rfl | rfl | rfl <;> first | rfl | exact va_rf_cat _ | exact absurd e (by decide)) ?_; refine V_L [(0, _), (1, _), (2, _), (3, _)] ⟨rfl, rfl, rfl, rfl, trivial⟩ ?_)
    refine V_aload_n (pc' := 7) d_PC_get_6 rfl (by first | rfl | exact isR_rf _) rfl ?_
    refine V_ifnonnull (pc' := 10) (tgt := 12) (r := none) d_PC_get_7 (by decide) rfl (fun a7 c7 => ?_) (fun c7 => ?_)
    · cases c7
    · refine V_iconst (pc' := 11) (v := (-1)) d_PC_get_10 (by decide) rfl ?_
      refine V_iret d_PC_get_11 rfl (by first | decide | omega) (by first | decide | omega) ?_
      unfold getS
      rw [ek]; exact ⟨rfl, B, hJ⟩
  | some v =>
    obtain ⟨e1, e2, e3⟩ := ki_some (by omega) ek
    subst e1
    rw [show va_rf (vnr B (svc S) (nI v)) = .ref (xv B v) from by unfold vnr; rw [ek]; rfl]
    refine V_astore_n (pc' := 6) d_PC_get_5 (by first | rfl | exact isR_rf _) (by decide) rfl ?_
    first | refine V_L [(0, _), (1, _), (2, _), (3, _)] ⟨rfl, rfl, rfl, rfl, trivial⟩ ?_ | (refine V_keep (by intro q hq e; simp only [List.mem_cons, List.not_mem_nil, or_false] at hq; rcases hq with rfl | rfl | rfl <;> first | rfl | exact va_rf_cat _ | exact absurd e (by decide)) ?_; refine V_L [(0, _), (1, _), (2, _), (3, _)] ⟨rfl, rfl, rfl, rfl, trivial⟩ ?_)
    refine V_aload_n (pc' := 7) d_PC_get_6 rfl (by first | rfl | exact isR_rf _) rfl ?_
    refine V_ifnonnull (pc' := 10) (tgt := 12) (r := (some (xv B v))) d_PC_get_7 (by decide) rfl (fun a7 c7 => ?_) (fun c7 => ?_)
    · clear c7 a7
      refine V_aload_n (pc' := 13) d_PC_get_12 rfl (by first | rfl | exact isR_rf _) rfl ?_
      -- at 13 invokevirtual
      refine V_callV (pc' := 16) (As := []) (ci := 0) d_PC_get_13 mv_PC_71 mw_PC_takeParts rfl rfl rfl (by simp [Value.category]) rfl (by first | assumption | exact aset_self _ _ _ | exact apush_self _ _) (c_PC_takeParts hJ) (by first | decide | omega) (by first | decide | omega) (by first | decide | omega) (by first | decide | omega) ?_
      rintro _ g1 ⟨rfl, hJ1⟩
      have hcv1 := hJ1.1.2.2.2.2.2.2.2.2.1 v e2 e3
      refine V_istore (pc' := 18) d_PC_get_16 (by decide) rfl ?_
      first | refine V_L [(0, _), (1, _), (2, _), (3, _), (4, _)] ⟨rfl, rfl, rfl, rfl, rfl, trivial⟩ ?_ | (refine V_keep (by intro q hq e; simp only [List.mem_cons, List.not_mem_nil, or_false] at hq; rcases hq with rfl | rfl | rfl | rfl <;> first | rfl | exact va_rf_cat _ | exact absurd e (by decide)) ?_; refine V_L [(0, _), (1, _), (2, _), (3, _), (4, _)] ⟨rfl, rfl, rfl, rfl, rfl, trivial⟩ ?_)
      refine V_aload_n (pc' := 19) d_PC_get_18 rfl (by first | rfl | exact isR_rf _) rfl ?_
      refine V_iconst (pc' := 20) (v := 0) d_PC_get_19 (by decide) rfl ?_
      refine V_putf (pc' := 23) d_PC_get_20 fp_PC_75 rfl (by first | assumption | exact aset_self _ _ _ | exact apush_self _ _) (by first | rfl | exact ob_nar _ | exact nar_rf _) (by first | rfl | exact ob_fit _ | exact fits_rf _) (by exact Nat.le_of_ble_eq_true rfl) ?_
      refine V_ex (fun g => JX h g o B B (uhd (upc S 0) v false)) (JX_hd hJ1 e2 e3 false) (fun g2 hJ2 => ?_)
      clear hJ1 hcv1 g1
      have hw2 : WX (uhd (upc S 0) v false) := hw
      have hSo2 : So (uhd (upc S 0) v false) := hSo
      have hp2 : PV (uhd (upc S 0) v false) (spc S) := hp
      have hkq : shd (uhd (upc S 0) v false) v = false := if_pos rfl
      have gAll : ∀ a, kz 6 call = some a → ¬ (a = 3 ∨ af S (spc S) = false) → getS S (nI v) call = ((findsS (uhd (upc S 0) v false) v (a % 4) (spc S)).1, uhd (findsS (uhd (upc S 0) v false) v (a % 4) (spc S)).2 v (decide (3 < a ∧ ((findsS (uhd (upc S 0) v false) v (a % 4) (spc S)).1 = 0 ∨ (findsS (uhd (upc S 0) v false) v (a % 4) (spc S)).1 = 3 ∨ (findsS (uhd (upc S 0) v false) v (a % 4) (spc S)).1 = 4)))) := by
        intro a h1 h2
        unfold getS
        rw [ek]
        dsimp only
        rw [h1]
        dsimp only
        rw [if_neg h2]
      have gBad : (kz 6 call = none ∨ kz 6 call = some 3 ∨ af S (spc S) = false) → getS S (nI v) call = (6, uhd (upc S 0) v false) := by
        intro h1
        unfold getS
        rw [ek]
        dsimp only
        cases e : kz 6 call with
        | none => rfl
        | some a =>
          dsimp only
          rw [if_pos]
          rcases h1 with q | q | q
          · rw [e] at q; cases q
          · rw [e] at q; cases q; exact Or.inl rfl
          · exact Or.inr q
      generalize eS2 : uhd (upc S 0) v false = S2 at hJ2 hw2 hSo2 hp2 hkq gAll gBad
      have sv2 : svc S2 = svc S := by rw [← eS2]; rfl
      have saf : af S2 (spc S) = af S (spc S) := by
        rw [← eS2]
        generalize spc S = n
        induction n with
        | zero => rfl
        | succ n ih => rw [af, af, ih]; rfl
      clear eS2
      obtain ⟨ho2, hka2, hva2, hpa2, hba2, hra2, hpv2, h82, h92, h102, h112, iv2, ip2, is2⟩ := id hJ2.1
      obtain ⟨y1, y2, y3, y4, y5, y6, y7, y8, y9⟩ := id hw2
      rw [← sv2] at e3
      have hcv := h92 v e2 e3
      have hpos : ∀ i, plc S2 (spo S2 v) = some i → i < ssz S2 := fun i hi => (plc_lt hi).1
      have hpar : ∀ i, plc S2 (spr S2 v) = some i → i < ssz S2 := fun i hi => (plc_lt hi).1
      generalize spc S = n at *
      have fin6 : ∀ (b : Bool) (w : Int32), getS S (nI v) call = (6, S2) → V x "PathCalls" b_PC_get 9 (Option.some .int) false (rmd 6 0 0) 0 0 (PX h o B (getS S (nI v) call)) 69 [(0, .ref o), (1, .int (nI v)), (2, .int call), (3, .ref (xv B v)), (4, .int (nI n)), (5, .int (ob b)), (6, .int w)] [] g2 0 0 := by
        intro b w he
        refine V_bipush (pc' := 71) (v := 6) d_PC_get_69 (by decide) rfl ?_
        refine V_iret d_PC_get_71 rfl (by first | decide | omega) (by first | decide | omega) ?_
        rw [he]; exact ⟨rfl, B, hJ2⟩
      have m49 : ∀ (b : Bool) (w : Int32), ((w < 0 ∨ 2 < w) → (kz 6 call = none ∨ kz 6 call = some 3)) → (∀ c, c ≤ 2 → w = nI c → kz 6 call = some (if b = true then c + 4 else c)) → V x "PathCalls" b_PC_get 9 (Option.some .int) false (rmd 6 0 0) 0 0 (PX h o B (getS S (nI v) call)) 49 [(0, .ref o), (1, .int (nI v)), (2, .int call), (3, .ref (xv B v)), (4, .int (nI n)), (5, .int (ob b)), (6, .int w)] [] g2 0 0 := by
        intro b w hw1 hw3
        refine V_iload (pc' := 51) d_PC_get_49 rfl rfl ?_
        refine V_if_lt (pc' := 54) (tgt := 69) d_PC_get_51 (by decide) rfl (fun c51 => ?_) (fun c51 => ?_)
        · exact fin6 b w (gBad (by rcases hw1 (Or.inl c51) with q | q; exact Or.inl q; exact Or.inr (Or.inl q)))
        · refine V_iload (pc' := 56) d_PC_get_54 rfl rfl ?_
          refine V_iconst (pc' := 57) (v := 2) d_PC_get_56 (by decide) rfl ?_
          refine V_icmp_gt (pc' := 60) (tgt := 69) d_PC_get_57 (by decide) rfl (fun c57 => ?_) (fun c57 => ?_)
          · exact fin6 b w (gBad (by rcases hw1 (Or.inr c57) with q | q; exact Or.inl q; exact Or.inr (Or.inl q)))
          · obtain ⟨c, hc31, hc⟩ := nI_of (x := w) c51
            subst hc
            have hc2 : c ≤ 2 := by
              rcases Nat.lt_or_ge 2 c with q | q
              · exact absurd (show nI 2 < nI c from nI_lt q hc31) c57
              · exact q
            have hka := hw3 c hc2 rfl
            refine V_aload_n (pc' := 61) d_PC_get_60 rfl (by first | rfl | exact isR_rf _) rfl ?_
            refine V_iload (pc' := 63) d_PC_get_61 rfl rfl ?_
            -- at 63 invokevirtual
            refine V_callV (pc' := 66) (As := [_]) (ci := 0) d_PC_get_63 mv_PC_79 mw_PC_partsFit rfl rfl rfl (by simp [Value.category]) rfl (by first | assumption | exact aset_self _ _ _ | exact apush_self _ _) (c_PC_partsFit hJ2.1 hw2 hp2) (by first | decide | omega) (by first | decide | omega) (by first | decide | omega) (by first | decide | omega) ?_
            rintro _ _ ⟨rfl, rfl⟩
            refine V_if_ne (pc' := 69) (tgt := 72) d_PC_get_66 (by decide) rfl (fun c66 => ?_) (fun c66 => ?_)
            · have haf := ob_nt c66
              have hres := gAll _ hka (by
                rintro (q | q)
                · by_cases z : b = true
                  · rw [if_pos z] at q; omega
                  · rw [if_neg z] at q; omega
                · rw [← saf, haf] at q; cases q)
              have hm4 : (if b = true then c + 4 else c) % 4 = c := by
                by_cases z : b = true
                · rw [if_pos z]; omega
                · rw [if_neg z]; omega
              have h3a : 3 < (if b = true then c + 4 else c) ↔ b = true := by
                by_cases z : b = true
                · rw [if_pos z]; exact ⟨fun _ => z, fun _ => by omega⟩
                · rw [if_neg z]; exact ⟨fun q => by omega, fun q => absurd q z⟩
              rw [hm4] at hres
              have gR : ∀ (r : Int32) (T : PS), findsS S2 v c n = (r, T) → getS S (nI v) call = (r, uhd T v (decide (3 < (if b = true then c + 4 else c) ∧ (r = 0 ∨ r = 3 ∨ r = 4)))) := by
                intro r T e
                rw [hres, e]
              have cut87 : ¬ (c = 2 ∧ plc S2 (spr S2 v) = none) → V x "PathCalls" b_PC_get 9 (Option.some .int) false (rmd 6 0 0) 0 0 (PX h o B (getS S (nI v) call)) 87 [(0, .ref o), (1, .int (nI v)), (2, .int call), (3, .ref (xv B v)), (4, .int (nI n)), (5, .int (ob b)), (6, .int (nI c))] [] g2 0 0 := by
                intro hnp
                have hfi : findsS S2 v c n = resS S2 v c n (plc S2 (spo S2 v)) (frst S2 (fromS S2 c (plc S2 (spo S2 v)) (plc S2 (spr S2 v))) (toS S2 c (plc S2 (spr S2 v))) n (plc S2 (spo S2 v))) := by
                  unfold findsS
                  rw [if_neg hnp]
                refine V_aload_n (pc' := 88) d_PC_get_87 rfl (by first | rfl | exact isR_rf _) rfl ?_
                refine V_aload_n (pc' := 89) d_PC_get_88 rfl (by first | rfl | exact isR_rf _) rfl ?_
                refine V_iload (pc' := 91) d_PC_get_89 rfl rfl ?_
                refine V_iload (pc' := 93) d_PC_get_91 rfl rfl ?_
                -- at 93 invokevirtual
                refine V_callV (pc' := 96) (As := [_, _, _]) (ci := 0) d_PC_get_93 mv_PC_87 mw_PC_search rfl rfl rfl (by simp [Value.category]) rfl (by first | assumption | exact aset_self _ _ _ | exact apush_self _ _) (c_PC_search (c := c) hJ2.1 hw2 hSo2 e2 e3 hp2 (by omega) (fun q => by cases e : plc S2 (spr S2 v) with | none => exact absurd ⟨q, e⟩ hnp | some k => exact ⟨k, rfl⟩)) (by first | decide | omega) (by first | decide | omega) (by first | decide | omega) (by first | decide | omega) ?_
                rintro _ _ ⟨rfl, rfl⟩
                cases ef : frst S2 (fromS S2 c (plc S2 (spo S2 v)) (plc S2 (spr S2 v))) (toS S2 c (plc S2 (spr S2 v))) n (plc S2 (spo S2 v)) with
                | none =>
                  rw [ef] at hfi
                  refine V_astore (pc' := 98) d_PC_get_96 (by first | rfl | exact isR_rf _) (by decide) rfl ?_
                  first | refine V_L [(0, _), (1, _), (2, _), (3, _), (4, _), (5, _), (6, _), (7, _)] ⟨rfl, rfl, rfl, rfl, rfl, rfl, rfl, rfl, trivial⟩ ?_ | (refine V_keep (by intro q hq e; simp only [List.mem_cons, List.not_mem_nil, or_false] at hq; rcases hq with rfl | rfl | rfl | rfl | rfl | rfl | rfl <;> first | rfl | exact va_rf_cat _ | exact absurd e (by decide)) ?_; refine V_L [(0, _), (1, _), (2, _), (3, _), (4, _), (5, _), (6, _), (7, _)] ⟨rfl, rfl, rfl, rfl, rfl, rfl, rfl, rfl, trivial⟩ ?_)
                  refine V_aload (pc' := 100) d_PC_get_98 rfl (by first | rfl | exact isR_rf _) rfl ?_
                  refine V_ifnonnull (pc' := 103) (tgt := 110) (r := (rr B S2 none)) d_PC_get_100 (by decide) rfl (fun a100 c100 => ?_) (fun c100 => ?_)
                  · cases c100
                  · refine V_aload_n (pc' := 104) d_PC_get_103 rfl (by first | rfl | exact isR_rf _) rfl ?_
                    refine V_iload (pc' := 106) d_PC_get_104 rfl rfl ?_
                    -- at 106 invokestatic
                    refine V_callS (pc' := 109) (As := [_, _]) d_PC_get_106 ms_PC_91 mw_PC_tellMissing rfl rfl rfl (by simp [Value.category]) (c_PC_tellMissing hJ2 e2 e3 hc2) (by first | decide | omega) (by first | decide | omega) (by first | decide | omega) (by first | decide | omega) ?_
                    rintro _ g3 ⟨rfl, hJ3⟩
                    refine V_iret d_PC_get_109 rfl (by first | decide | omega) (by first | decide | omega) ?_
                    by_cases q : c = 1
                    · have hfi2 : findsS S2 v c n = (2, upo S2 v 0) := by
                        rw [hfi]
                        exact if_pos q
                      rw [if_pos q] at hJ3 ⊢
                      rw [gR _ _ hfi2, hold_no (Or.inr (Or.inl rfl)), uhd_same (S := upo S2 v 0) hkq]
                      exact ⟨rfl, B, hJ3⟩
                    · have hfi2 : findsS S2 v c n = (1, S2) := by
                        rw [hfi]
                        exact if_neg q
                      rw [if_neg q] at hJ3 ⊢
                      rw [gR _ _ hfi2, hold_no (Or.inl rfl), uhd_same hkq]
                      exact ⟨rfl, B, hJ3⟩
                | some f =>
                  rw [ef] at hfi
                  obtain ⟨ff1, ff2, ff3⟩ := frst_some ef
                  have hto : toS S2 c (plc S2 (spr S2 v)) ≤ ssz S2 := by
                    unfold toS
                    split
                    · split
                      · rename_i k ek2
                        exact bhd_ub S2 (hpar k ek2)
                      · omega
                    · exact Nat.le_refl _
                  have hf : f < ssz S2 := by omega
                  have hok := fun p hp => fit_ok ff3 p hp
                  refine V_astore (pc' := 98) d_PC_get_96 (by first | rfl | exact isR_rf _) (by decide) rfl ?_
                  first | refine V_L [(0, _), (1, _), (2, _), (3, _), (4, _), (5, _), (6, _), (7, _)] ⟨rfl, rfl, rfl, rfl, rfl, rfl, rfl, rfl, trivial⟩ ?_ | (refine V_keep (by intro q hq e; simp only [List.mem_cons, List.not_mem_nil, or_false] at hq; rcases hq with rfl | rfl | rfl | rfl | rfl | rfl | rfl <;> first | rfl | exact va_rf_cat _ | exact absurd e (by decide)) ?_; refine V_L [(0, _), (1, _), (2, _), (3, _), (4, _), (5, _), (6, _), (7, _)] ⟨rfl, rfl, rfl, rfl, rfl, rfl, rfl, rfl, trivial⟩ ?_)
                  refine V_aload (pc' := 100) d_PC_get_98 rfl (by first | rfl | exact isR_rf _) rfl ?_
                  refine V_ifnonnull (pc' := 103) (tgt := 110) (r := (rr B S2 (some f))) d_PC_get_100 (by decide) rfl (fun a100 c100 => ?_) (fun c100 => ?_)
                  · clear c100 a100
                    rw [show va_rf (rr B S2 (some f)) = .ref (xs B (snm S2 f)) from rfl]
                    have cut134 : ∀ st : Int32, st = statS S2 c n (plc S2 (spo S2 v)) f → V x "PathCalls" b_PC_get 9 (Option.some .int) false (rmd 6 0 0) 0 0 (PX h o B (getS S (nI v) call)) 134 [(0, .ref o), (1, .int (nI v)), (2, .int call), (3, .ref (xv B v)), (4, .int (nI n)), (5, .int (ob b)), (6, .int (nI c)), (7, .ref (xs B (snm S2 f)))] [.int st] g2 0 0 := by
                      intro st hst
                      refine V_istore (pc' := 136) d_PC_get_134 (by decide) rfl ?_
                      first | refine V_L [(0, _), (1, _), (2, _), (3, _), (4, _), (5, _), (6, _), (7, _), (8, _)] ⟨rfl, rfl, rfl, rfl, rfl, rfl, rfl, rfl, rfl, trivial⟩ ?_ | (refine V_keep (by intro q hq e; simp only [List.mem_cons, List.not_mem_nil, or_false] at hq; rcases hq with rfl | rfl | rfl | rfl | rfl | rfl | rfl | rfl <;> first | rfl | exact va_rf_cat _ | exact absurd e (by decide)) ?_; refine V_L [(0, _), (1, _), (2, _), (3, _), (4, _), (5, _), (6, _), (7, _), (8, _)] ⟨rfl, rfl, rfl, rfl, rfl, rfl, rfl, rfl, rfl, trivial⟩ ?_)
                      refine V_aload_n (pc' := 137) d_PC_get_136 rfl (by first | rfl | exact isR_rf _) rfl ?_
                      refine V_aload (pc' := 139) d_PC_get_137 rfl (by first | rfl | exact isR_rf _) rfl ?_
                      refine V_iload (pc' := 141) d_PC_get_139 rfl rfl ?_
                      -- at 141 invokevirtual
                      refine V_callV (pc' := 144) (As := [_, _]) (ci := 0) d_PC_get_141 mv_PC_102 mw_PC_keepPath rfl rfl rfl (by simp [Value.category]) rfl (by first | assumption | exact aset_self _ _ _ | exact apush_self _ _) (c_PC_keepPath hJ2 hw2 hf hp2 hok) (by first | decide | omega) (by first | decide | omega) (by first | decide | omega) (by first | decide | omega) ?_
                      rintro _ g3 ⟨rfl, hJ3⟩
                      have ho3 := hJ3.1.1
                      have hcv3 := hJ3.1.2.2.2.2.2.2.2.2.1 v e2 e3
                      refine V_aload_n (pc' := 145) d_PC_get_144 rfl (by first | rfl | exact isR_rf _) rfl ?_
                      refine V_aload_n (pc' := 146) d_PC_get_145 rfl (by first | rfl | exact isR_rf _) rfl ?_
                      refine V_aload_n (pc' := 147) d_PC_get_146 rfl (by first | rfl | exact isR_rf _) rfl ?_
                      refine V_iload (pc' := 149) d_PC_get_147 rfl rfl ?_
                      refine V_aload (pc' := 151) d_PC_get_149 rfl (by first | rfl | exact isR_rf _) rfl ?_
                      refine V_iload (pc' := 153) d_PC_get_151 rfl rfl ?_
                      -- at 153 invokevirtual
                      refine V_callV (pc' := 156) (As := [_, _, _, _]) (ci := 0) d_PC_get_153 mv_PC_106 mw_PC_newParentage rfl rfl rfl (by simp [Value.category]) rfl (by first | assumption | exact aset_self _ _ _ | exact apush_self _ _) (c_PC_newParentage (f := f) (n := n) (c := c) hJ3.1 hw2 e2 e3 hf hp2 hok hc2) (by first | decide | omega) (by first | decide | omega) (by first | decide | omega) (by first | decide | omega) ?_
                      rintro _ _ ⟨rfl, rfl⟩
                      rw [flp_mkT]
                      refine V_putf (pc' := 159) d_PC_get_156 fp_PC_83 rfl (by first | assumption | exact aset_self _ _ _ | exact apush_self _ _) (by first | rfl | exact ob_nar _ | exact nar_rf _) (by first | rfl | exact ob_fit _ | exact fits_rf _) (by exact Nat.le_of_ble_eq_true rfl) ?_
                      refine V_ex (fun g => JX h g o B B _) (JX_pr hJ3 e2 e3 _) (fun g4 hJ4 => ?_)
                      have hcv4 := hJ4.1.2.2.2.2.2.2.2.2.1 v e2 e3
                      refine V_aload_n (pc' := 160) d_PC_get_159 rfl (by first | rfl | exact isR_rf _) rfl ?_
                      refine V_aload (pc' := 162) d_PC_get_160 rfl (by first | rfl | exact isR_rf _) rfl ?_
                      rw [show Value.ref (xs B (snm S2 f)) = va_rf (sr B (snm S2 f)) from by unfold sr; rw [if_neg (by have := y2.1 f hf; omega)]; rfl]
                      refine V_putf (pc' := 165) d_PC_get_162 fp_PC_95 rfl (by first | assumption | exact aset_self _ _ _ | exact apush_self _ _) (by first | rfl | exact ob_nar _ | exact nar_rf _) (by first | rfl | exact ob_fit _ | exact fits_rf _) (by exact Nat.le_of_ble_eq_true rfl) ?_
                      refine V_ex (fun g => JX h g o B B _) (JX_po hJ4 e2 e3 (snm S2 f)) (fun g5 hJ5 => ?_)
                      have hcv5 := hJ5.1.2.2.2.2.2.2.2.2.1 v e2 e3
                      refine V_aload_n (pc' := 166) d_PC_get_165 rfl (by first | rfl | exact isR_rf _) rfl ?_
                      refine V_iload (pc' := 168) d_PC_get_166 rfl rfl ?_
                      refine V_putf (pc' := 171) d_PC_get_168 fp_PC_75 rfl (by first | assumption | exact aset_self _ _ _ | exact apush_self _ _) (by first | rfl | exact ob_nar _ | exact nar_rf _) (by first | rfl | exact ob_fit _ | exact fits_rf _) (by exact Nat.le_of_ble_eq_true rfl) ?_
                      refine V_ex (fun g => JX h g o B B _) (JX_hd hJ5 e2 e3 b) (fun g6 hJ6 => ?_)
                      refine V_iload (pc' := 173) d_PC_get_171 rfl rfl ?_
                      refine V_iret d_PC_get_173 rfl (by first | decide | omega) (by first | decide | omega) ?_
                      have hdd : decide (3 < (if b = true then c + 4 else c) ∧ (statS S2 c n (plc S2 (spo S2 v)) f = 0 ∨ statS S2 c n (plc S2 (spo S2 v)) f = 3 ∨ statS S2 c n (plc S2 (spo S2 v)) f = 4)) = b := by
                        by_cases z : b = true
                        · rw [z]; exact decide_eq_true ⟨by rw [if_pos rfl]; omega, statS_of⟩
                        · have z2 : b = false := by cases b with
                            | true => exact absurd rfl z
                            | false => rfl
                          rw [z2]; exact decide_eq_false (fun q => by have := q.1; rw [if_neg (by decide)] at this; omega)
                      rw [gR _ _ hfi, hdd, hst]
                      refine ⟨rfl, B, ?_⟩
                      have epr : (fun i => if i = v then flp S2 v f n (fun i => if i = v then (if c < 2 then snm S2 f else spr S2 v) else spr S2 i) v else spr S2 i) = flp S2 v f n (fun i => if i = v then (if c < 2 then snm S2 f else spr S2 v) else spr S2 i) := by
                        funext i
                        by_cases q : i = v
                        · rw [if_pos q, q]
                        · rw [if_neg q, flp_ne n i q, if_neg q]
                      unfold foundS
                      rw [← epr]
                      exact hJ6
                    refine V_iload (pc' := 112) d_PC_get_110 rfl rfl ?_
                    refine V_iconst (pc' := 113) (v := 1) d_PC_get_112 (by decide) rfl ?_
                    refine V_icmp_ne (pc' := 116) (tgt := 133) d_PC_get_113 (by decide) rfl (fun c113 => ?_) (fun c113 => ?_)
                    · refine V_iconst (pc' := 134) (v := 0) d_PC_get_133 (by decide) rfl ?_
                      refine cut134 0 ?_
                      unfold statS
                      rw [if_neg (fun q => c113 (by rw [q.1]; rfl))]
                    · have q1 : c = 1 := (nI_sm (by omega) (by omega) rfl).mp c113
                      refine V_iload (pc' := 118) d_PC_get_116 rfl rfl ?_
                      refine V_if_ne (pc' := 121) (tgt := 133) d_PC_get_118 (by decide) rfl (fun c118 => ?_) (fun c118 => ?_)
                      · refine V_iconst (pc' := 134) (v := 0) d_PC_get_133 (by decide) rfl ?_
                        refine cut134 0 ?_
                        unfold statS
                        rw [if_neg (fun q => c118 (by rw [q.2]; rfl))]
                      · have q2 : n = 0 := (nI_sm (by omega) (by omega) rfl).mp c118
                        refine V_aload_n (pc' := 122) d_PC_get_121 rfl (by first | rfl | exact isR_rf _) rfl ?_
                        refine V_getf (pc' := 125) d_PC_get_122 fl_PC_95 rfl (by first | assumption | exact aset_self _ _ _ | exact apush_self _ _) (by rfl) ?_
                        refine V_aload (pc' := 127) d_PC_get_125 rfl (by first | rfl | exact isR_rf _) rfl ?_
                        rw [sr_rr y2 (y8 v e2 e3).1]
                        refine V_callS (pc' := 130) (As := [_, _]) d_PC_get_127 ms_PC_98 mw_PC_stepStatus rfl rfl rfl (by simp [Value.category]) (c_PC_stepStatus hJ2.1 hw2 hpos hf) (by first | decide | omega) (by first | decide | omega) (by first | decide | omega) (by first | decide | omega) ?_
                        rintro _ _ ⟨rfl, rfl⟩
                        refine V_goto (tgt := 134) d_PC_get_130 (by decide) ?_
                        refine cut134 _ ?_
                        rw [q1]
                        exact (statS_1 q2).symm
                  · cases c100
              refine V_iload (pc' := 74) d_PC_get_72 rfl rfl ?_
              refine V_iconst (pc' := 75) (v := 2) d_PC_get_74 (by decide) rfl ?_
              refine V_icmp_ne (pc' := 78) (tgt := 87) d_PC_get_75 (by decide) rfl (fun c75 => ?_) (fun c75 => ?_)
              · exact cut87 (fun q => c75 (by rw [q.1]; rfl))
              · have q1 : c = 2 := (nI_sm (by omega) (by omega) rfl).mp c75
                refine V_aload_n (pc' := 79) d_PC_get_78 rfl (by first | rfl | exact isR_rf _) rfl ?_
                refine V_getf (pc' := 82) d_PC_get_79 fl_PC_83 rfl (by first | assumption | exact aset_self _ _ _ | exact apush_self _ _) (by rfl) ?_
                rw [sr_rr y2 (y8 v e2 e3).2]
                cases ep : plc S2 (spr S2 v) with
                | none =>
                  refine V_ifnonnull (pc' := 85) (tgt := 87) (r := (rr B S2 none)) d_PC_get_82 (by decide) rfl (fun a82 c82 => ?_) (fun c82 => ?_)
                  · cases c82
                  · refine V_iconst (pc' := 86) (v := 5) d_PC_get_85 (by decide) rfl ?_
                    refine V_iret d_PC_get_86 rfl (by first | decide | omega) (by first | decide | omega) ?_
                    have hfi : findsS S2 v c n = (5, S2) := by
                      unfold findsS
                      rw [if_pos ⟨q1, ep⟩]
                    rw [gR _ _ hfi, hold_no (Or.inr (Or.inr rfl)), uhd_same hkq]
                    exact ⟨rfl, B, hJ2⟩
                | some k =>
                  refine V_ifnonnull (pc' := 85) (tgt := 87) (r := (rr B S2 (some k))) d_PC_get_82 (by decide) rfl (fun a82 c82 => ?_) (fun c82 => ?_)
                  · exact cut87 (fun q => by rw [ep] at q; cases q.2)
                  · cases c82
            · exact fin6 b _ (gBad (Or.inr (Or.inr (by rw [← saf]; exact ob_0.mp c66))))
      refine V_iload_n (pc' := 24) d_PC_get_23 rfl rfl ?_
      refine V_iconst (pc' := 25) (v := 4) d_PC_get_24 (by decide) rfl ?_
      refine V_icmp_lt (pc' := 28) (tgt := 32) d_PC_get_25 (by decide) rfl (fun c25 => ?_) (fun c25 => ?_)
      · refine V_iconst (pc' := 33) (v := 0) d_PC_get_32 (by decide) rfl ?_
        refine V_istore (pc' := 35) d_PC_get_33 (by decide) rfl ?_
        first | refine V_L [(0, _), (1, _), (2, _), (3, _), (4, _), (5, _)] ⟨rfl, rfl, rfl, rfl, rfl, rfl, trivial⟩ ?_ | (refine V_keep (by intro q hq e; simp only [List.mem_cons, List.not_mem_nil, or_false] at hq; rcases hq with rfl | rfl | rfl | rfl | rfl <;> first | rfl | exact va_rf_cat _ | exact absurd e (by decide)) ?_; refine V_L [(0, _), (1, _), (2, _), (3, _), (4, _), (5, _)] ⟨rfl, rfl, rfl, rfl, rfl, rfl, trivial⟩ ?_)
        refine V_iload (pc' := 37) d_PC_get_35 rfl rfl ?_
        refine V_if_eq (pc' := 40) (tgt := 46) d_PC_get_37 (by decide) rfl (fun c37 => ?_) (fun c37 => ?_)
        · refine V_iload_n (pc' := 47) d_PC_get_46 rfl rfl ?_
          refine V_istore (pc' := 49) d_PC_get_47 (by decide) rfl ?_
          first | refine V_L [(0, _), (1, _), (2, _), (3, _), (4, _), (5, _), (6, _)] ⟨rfl, rfl, rfl, rfl, rfl, rfl, rfl, trivial⟩ ?_ | (refine V_keep (by intro q hq e; simp only [List.mem_cons, List.not_mem_nil, or_false] at hq; rcases hq with rfl | rfl | rfl | rfl | rfl | rfl <;> first | rfl | exact va_rf_cat _ | exact absurd e (by decide)) ?_; refine V_L [(0, _), (1, _), (2, _), (3, _), (4, _), (5, _), (6, _)] ⟨rfl, rfl, rfl, rfl, rfl, rfl, rfl, trivial⟩ ?_)
          refine m49 false call ?_ ?_
          · rintro (q | q)
            · exact Or.inl (kz_none.mpr (Or.inl q))
            · obtain ⟨i, hi31, hi⟩ := nI_of (x := call) (fun z => absurd (Int32.lt_trans q z) (by decide))
              subst hi
              have a1 : i < 4 := (nI_ltI (b := 4) (by omega) (by omega)).mp c25
              have a2 : 2 < i := (nI_ltI (a := 2) (by omega) (by omega)).mp q
              rw [show i = 3 by omega]
              exact Or.inr rfl
          · intro c hc hq
            rw [hq, kz_nI (by omega) (by omega)]; rfl
        · exact absurd rfl c37
      · refine V_iconst (pc' := 29) (v := 1) d_PC_get_28 (by decide) rfl ?_
        refine V_goto (tgt := 33) d_PC_get_29 (by decide) ?_
        refine V_istore (pc' := 35) d_PC_get_33 (by decide) rfl ?_
        first | refine V_L [(0, _), (1, _), (2, _), (3, _), (4, _), (5, _)] ⟨rfl, rfl, rfl, rfl, rfl, rfl, trivial⟩ ?_ | (refine V_keep (by intro q hq e; simp only [List.mem_cons, List.not_mem_nil, or_false] at hq; rcases hq with rfl | rfl | rfl | rfl | rfl <;> first | rfl | exact va_rf_cat _ | exact absurd e (by decide)) ?_; refine V_L [(0, _), (1, _), (2, _), (3, _), (4, _), (5, _)] ⟨rfl, rfl, rfl, rfl, rfl, rfl, trivial⟩ ?_)
        refine V_iload (pc' := 37) d_PC_get_35 rfl rfl ?_
        refine V_if_eq (pc' := 40) (tgt := 46) d_PC_get_37 (by decide) rfl (fun c37 => ?_) (fun c37 => ?_)
        · exact absurd c37 (by decide)
        · refine V_iload_n (pc' := 41) d_PC_get_40 rfl rfl ?_
          refine V_iconst (pc' := 42) (v := 4) d_PC_get_41 (by decide) rfl ?_
          refine V_isub (pc' := 43) d_PC_get_42 rfl ?_
          refine V_goto (tgt := 47) d_PC_get_43 (by decide) ?_
          refine V_istore (pc' := 49) d_PC_get_47 (by decide) rfl ?_
          first | refine V_L [(0, _), (1, _), (2, _), (3, _), (4, _), (5, _), (6, _)] ⟨rfl, rfl, rfl, rfl, rfl, rfl, rfl, trivial⟩ ?_ | (refine V_keep (by intro q hq e; simp only [List.mem_cons, List.not_mem_nil, or_false] at hq; rcases hq with rfl | rfl | rfl | rfl | rfl | rfl <;> first | rfl | exact va_rf_cat _ | exact absurd e (by decide)) ?_; refine V_L [(0, _), (1, _), (2, _), (3, _), (4, _), (5, _), (6, _)] ⟨rfl, rfl, rfl, rfl, rfl, rfl, rfl, trivial⟩ ?_)
          obtain ⟨i, hi31, hi⟩ := nI_of (x := call) (fun z => c25 (Int32.lt_trans z (by decide)))
          subst hi
          have a1 : 4 ≤ i := by
            rcases Nat.lt_or_ge i 4 with z | z
            · exact absurd (show nI i < nI 4 from nI_lt z (by omega)) c25
            · exact z
          rw [show nI i - 4 = nI (i - 4) from pk_sub (a := i) (b := 4) a1]
          refine m49 true _ ?_ ?_
          · rintro (q | q)
            · exact absurd q (nI_pos (by omega))
            · have a2 : 2 < i - 4 := (nI_ltI (a := 2) (by omega) (by omega)).mp q
              exact Or.inl (kz_none.mpr (Or.inr (show nI 6 < nI i from nI_lt (by omega) hi31)))
          · intro c hc hq
            have a3 : i - 4 = c := (nI_eq (by omega) (by omega)).mp hq
            rw [show i = c + 4 by omega, kz_nI (by omega) (by omega)]; rfl
    · cases c7
end X8
