-- the class: insert
def Bsg (B : XB) (m a : Nat) : XB := (xC B, xk B, xv B, xp B, fun i => if i = m then a else xs B i)
theorem sr_Bsg {B : XB} {m a nm : Nat} (h : nm < m) : sr (Bsg B m a) nm = sr B nm := by
  show (if nm = 0 then none else some (if nm = m then a else xs B nm)) = (if nm = 0 then none else some (xs B nm))
  rw [if_neg (show ¬ nm = m by omega)]
theorem pnm_le {S : PS} (hT : Tr S) (hd : ∀ i, i < ssz S → snm S i ≤ snd S) {i : Nat} (hi : i < ssz S) : pnm S i ≤ snd S := by
  unfold pnm
  split
  · exact hd _ (Nat.lt_of_le_of_lt (ov_le i) hi)
  · exact Nat.zero_le _
section X12
variable {x : CX} {h h0 : AH} {o : Nat} {B B0 : XB} {S : PS}
theorem JX_push (hJ : JX h0 h o B0 B S) (he : h.1 = h0.1) (c : AC) : JX h0 (apush h c) o B0 B S := by
  obtain ⟨⟨ho, hka, hva, hpa, hba, hra, hpv, h8, h9, h10, h11, iv, ip, is⟩, hF⟩ := hJ
  have hh : Hok h := hF.2.2.2.2
  have n : ∀ {q : Nat} {d : AC}, h.2 q = some d → (apush h c).2 q = some d := fun hq => (apush_ne (Nat.ne_of_lt (hh _ _ hq))).trans hq
  exact ⟨⟨n ho, n hka, n hva, n hpa, n hba, n hra, n hpv, fun k h1 h2 => n (h8 k h1 h2), fun w h1 h2 => n (h9 w h1 h2), fun p h1 => n (h10 p h1), fun i h1 => n (h11 i h1), iv, ip, is⟩, XF_push hF he⟩
theorem c_PC_takeParts2 (hJ : JX h0 h o B0 B S) : Ct x y_PC_takeParts b_PC_takeParts 2 (some .int) 0 0 0 [.ref o] h (fun r h' => r = some (.int (nI (spc S))) ∧ JX h0 h' o B0 B (upc S 0) ∧ h'.1 = h.1) := by
  obtain ⟨ho, -⟩ := hJ.1
  refine Ct_of (own := "PathCalls") (ini := false) rfl rfl (Nat.le_of_ble_eq_true rfl) (fun q => by cases q) ?_
  refine V_aload_n (pc' := 1) d_PC_takeParts_0 rfl (by first | rfl | exact isR_rf _) rfl ?_
  refine V_getf (pc' := 4) d_PC_takeParts_1 fl_PC_57 rfl (by first | assumption | exact aset_self _ _ _ | exact apush_self _ _) (by rfl) ?_
  refine V_istore_n (pc' := 5) d_PC_takeParts_4 (by decide) rfl ?_
  first | refine V_L [(0, _), (1, _)] ⟨rfl, rfl, trivial⟩ ?_ | (refine V_keep (by intro q hq e; simp only [List.mem_cons, List.not_mem_nil, or_false] at hq; rcases hq with rfl <;> first | rfl | exact va_rf_cat _ | exact absurd e (by decide)) ?_; refine V_L [(0, _), (1, _)] ⟨rfl, rfl, trivial⟩ ?_)
  refine V_aload_n (pc' := 6) d_PC_takeParts_5 rfl (by first | rfl | exact isR_rf _) rfl ?_
  refine V_iconst (pc' := 7) (v := 0) d_PC_takeParts_6 (by decide) rfl ?_
  refine V_putf (pc' := 10) d_PC_takeParts_7 fp_PC_57 rfl (by first | assumption | exact aset_self _ _ _ | exact apush_self _ _) (by first | rfl | exact ob_nar _ | exact nar_rf _) (by first | rfl | exact ob_fit _ | exact fits_rf _) (by exact Nat.le_of_ble_eq_true rfl) ?_
  refine V_iload_n (pc' := 11) d_PC_takeParts_10 rfl rfl ?_
  refine V_iret d_PC_takeParts_11 rfl (by first | decide | omega) (by first | decide | omega) ?_
  exact ⟨rfl, JX_pc hJ 0, rfl⟩
theorem c_Sg_init {a k : Nat} {q : Option Nat} {key val : Int64} {y0 y1 y2 y3 : Value} (ha : h.2 a = some (2, [y0, y1, y2, y3])) : Ct x y_Sg_init b_Sg_init 7 none 1 0 0 [.ref a, .ref k, va_rf q, .long key, .long val] h (fun r h' => r = none ∧ h' = aset h a (2, [.ref k, va_rf q, .long key, .long val])) := by
  refine Ct_of (own := "PathCalls$Segment") (ini := true) rfl rfl (by simp [lg_sl, va_rf_cat, cat_ref, cat_int, cat_long, cat_null]) (fun _ => rfl) ?_
  refine V_eq (L' := [(0, .ref a), (1, .ref k), (2, va_rf q), (3, .long key), (5, .long val)]) (by simp [lv_args, va_rf_cat, cat_ref, cat_int, cat_long, cat_null]) rfl rfl ?_
  refine V_aload_n (pc' := 1) d_Sg_init_0 rfl (by first | rfl | exact isR_rf _) rfl ?_
  refine V_obj (pc' := 4) d_Sg_init_1 ob_Sg_1 rfl (by decide) (by decide) (by decide) ?_
  refine V_aload_n (pc' := 5) d_Sg_init_4 rfl (by first | rfl | exact isR_rf _) rfl ?_
  refine V_aload_n (pc' := 6) d_Sg_init_5 rfl (by first | rfl | exact isR_rf _) rfl ?_
  refine V_putF (pc' := 9) d_Sg_init_6 ff_Sg_7 rfl rfl (by first | assumption | exact aset_self _ _ _ | exact apush_self _ _) (by first | rfl | exact ob_nar _ | exact nar_rf _) (by first | rfl | exact ob_fit _ | exact fits_rf _) (by exact Nat.le_of_ble_eq_true rfl) ?_
  refine V_aload_n (pc' := 10) d_Sg_init_9 rfl (by first | rfl | exact isR_rf _) rfl ?_
  refine V_aload_n (pc' := 11) d_Sg_init_10 rfl (by first | rfl | exact isR_rf _) rfl ?_
  refine V_putF (pc' := 14) d_Sg_init_11 ff_Sg_13 rfl rfl (by first | assumption | exact aset_self _ _ _ | exact apush_self _ _) (by first | rfl | exact ob_nar _ | exact nar_rf _) (by first | rfl | exact ob_fit _ | exact fits_rf _) (by exact Nat.le_of_ble_eq_true rfl) ?_
  refine V_aload_n (pc' := 15) d_Sg_init_14 rfl (by first | rfl | exact isR_rf _) rfl ?_
  refine V_lload_n (pc' := 16) d_Sg_init_15 rfl rfl ?_
  refine V_putF (pc' := 19) d_Sg_init_16 ff_Sg_17 rfl rfl (by first | assumption | exact aset_self _ _ _ | exact apush_self _ _) (by first | rfl | exact ob_nar _ | exact nar_rf _) (by first | rfl | exact ob_fit _ | exact fits_rf _) (by exact Nat.le_of_ble_eq_true rfl) ?_
  refine V_aload_n (pc' := 20) d_Sg_init_19 rfl (by first | rfl | exact isR_rf _) rfl ?_
  refine V_lload (pc' := 22) d_Sg_init_20 rfl rfl ?_
  refine V_putf (pc' := 25) d_Sg_init_22 fp_Sg_21 rfl (by first | assumption | exact aset_self _ _ _ | exact apush_self _ _) (by first | rfl | exact ob_nar _ | exact nar_rf _) (by first | rfl | exact ob_fit _ | exact fits_rf _) (by exact Nat.le_of_ble_eq_true rfl) ?_
  refine V_vret d_Sg_init_25 rfl (by first | decide | omega) (by first | decide | omega) ?_
  rw [aset_aset, aset_aset, aset_aset]
  exact ⟨rfl, rfl⟩
set_option maxHeartbeats 4000000 in
theorem c_Bs_putAt (hJ : JX h0 h o B0 B S) (hw : WX S) (hnd : ∀ i, i < ssz S → snm S i ≤ snd S) {q : Option Nat} (hq : ∀ p, q = some p → p < ssz S) {a kd p : Nat} {key val : Int64} (hk1 : 1 ≤ kd) (hk2 : kd ≤ skc S) (hlq : slv S kd = lvq S q) (p1 : nx q ≤ p) (p2 : p ≤ endS S q) (p3 : p < ssz S → slo S p ≤ slv S kd) (ha : h.2 a = some (2, [.ref (xk B kd), va_rf (rr B S q), .long key, .long val])) (han : ∀ i, i < ssz S → xs B (snm S i) ≠ a) : Ct x y_Bs_putAt b_Bs_putAt 4 none 1 0 0 [.ref (xC B 3), .int (nI p), .ref a] h (fun r h' => r = none ∧ JX h0 h' o B0 (Bsg B (snd S + 1) a) (insR S p kd key val)) := by
  obtain ⟨ho, hka, hva, hpa, hba, hra, hpv, h8, h9, h10, h11, iv, ip, is⟩ := id hJ.1
  obtain ⟨w1, w2, w3, w4, w5, w6, w7, w8, w9⟩ := id hw
  obtain ⟨u1, u2⟩ := end_ub hq
  have n34 : xC B 4 ≠ xC B 3 := tag_ne hra hba (by decide)
  have hbg : ∀ c, (aset h (xC B 4) c).2 (xC B 3) = some (5, [.ref (xC B 4), .int (nI (ssz S))]) := fun c => (aset_ne (Ne.symm n34)).trans hba
  have heta : aset h (xC B 4) (50 + 3, arv 256 (fun i => if i < ssz S then .ref (xs B (snm S i)) else .null)) = h := by
    unfold aset
    refine Prod.ext rfl ?_
    funext j
    show (if j = xC B 4 then _ else h.2 j) = h.2 j
    by_cases q : j = xC B 4
    · rw [if_pos q, q, hra]
    · rw [if_neg q]
  have lp : ∀ (d i : Nat), i = p + d → i ≤ ssz S → ∀ (F : Nat → Value), (∀ j, j < 256 → F j = if i < j ∧ j ≤ ssz S then .ref (xs B (snm S (j - 1))) else if j < ssz S then .ref (xs B (snm S j)) else .null) → V x "PathCalls$Base" b_Bs_putAt 4 (Option.none : Option Jvm.ClassFile.FieldType) false (rmd 1 0 0) 0 0 (fun r h' => r = none ∧ JX h0 h' o B0 (Bsg B (snd S + 1) a) (insR S p kd key val)) 25 [(0, .ref (xC B 3)), (1, .int (nI p)), (2, .ref a), (3, .int (nI i))] [] (aset h (xC B 4) (50 + 3, arv 256 F)) 0 0 := by
    intro d
    induction d with
    | zero =>
      intro i hi h1 F hFj
      have e : i = p := by omega
      subst e
      have hb2 := fun (c : AC) => hbg c
      have ha2 := fun (c : AC) => (aset_ne (h := h) (c := c) (tag_ne ha hra (by decide))).trans ha
      have hb3 := hbg (50 + 3, arv 256 F)
      refine V_iload_n (pc' := 26) d_Bs_putAt_25 rfl rfl ?_
      refine V_iload_n (pc' := 27) d_Bs_putAt_26 rfl rfl ?_
      refine V_icmp_le (pc' := 30) (tgt := 50) d_Bs_putAt_27 (by decide) rfl (fun c27 => ?_) (fun c27 => ?_)
      · refine V_aload_n (pc' := 51) d_Bs_putAt_50 rfl (by first | rfl | exact isR_rf _) rfl ?_
        refine V_getf (pc' := 54) d_Bs_putAt_51 fl_Bs_11 rfl (by first | assumption | exact aset_self _ _ _ | exact apush_self _ _) (by rfl) ?_
        refine V_iload_n (pc' := 55) d_Bs_putAt_54 rfl rfl ?_
        refine V_aload_n (pc' := 56) d_Bs_putAt_55 rfl (by first | rfl | exact isR_rf _) rfl ?_
        -- at 56 aastore
        refine V_aast (pc' := 57) d_Bs_putAt_56 rfl (aset_self _ _ _) rfl (ha2 _) rfl rfl (by omega) (arv_get (by omega)) ?_
        rw [aset_aset, arv_set]
        have hb4 := hbg (50 + 3, arv 256 (fun j => if j = i then .ref a else F j))
        refine V_aload_n (pc' := 58) d_Bs_putAt_57 rfl (by first | rfl | exact isR_rf _) rfl ?_
        refine V_dup (pc' := 59) d_Bs_putAt_58 rfl rfl ?_
        refine V_getf (pc' := 62) d_Bs_putAt_59 fl_Bs_17 rfl (by first | assumption | exact aset_self _ _ _ | exact apush_self _ _) (by rfl) ?_
        refine V_iconst (pc' := 63) (v := 1) d_Bs_putAt_62 (by decide) rfl ?_
        refine V_iadd (pc' := 64) d_Bs_putAt_63 rfl ?_
        rw [nI_1]
        refine V_putf (pc' := 67) d_Bs_putAt_64 fp_Bs_17 rfl (by first | assumption | exact aset_self _ _ _ | exact apush_self _ _) (by first | rfl | exact ob_nar _ | exact nar_rf _) (by first | rfl | exact ob_fit _ | exact fits_rf _) (by exact Nat.le_of_ble_eq_true rfl) ?_
        refine V_vret d_Bs_putAt_67 rfl (by first | decide | omega) (by first | decide | omega) ?_
        refine ⟨rfl, ?_⟩
        have eF : arv 256 (fun j => if j = i then .ref a else F j) = arv 256 (fun j => if j < ssz S + 1 then .ref (xs (Bsg B (snd S + 1) a) (shf (snm S) i (ssz S) (snd S + 1) j)) else .null) := by
          refine arv_congr (fun j hj => ?_)
          show (if j = i then Value.ref a else F j) = (if j < ssz S + 1 then Value.ref (if shf (snm S) i (ssz S) (snd S + 1) j = snd S + 1 then a else xs B (shf (snm S) i (ssz S) (snd S + 1) j)) else Value.null)
          by_cases z : j = i
          · rw [if_pos z, if_pos (by omega), z, shf_a, if_pos rfl]
          · rw [if_neg z, hFj j hj]
            by_cases y : j < ssz S + 1
            · have e9 := hnd _ (tu_lt (show j ≤ ssz S by omega) h1 z)
              rw [if_pos y, shf_tu (by omega) z, if_neg (show ¬ snm S (tu i j) = snd S + 1 by omega)]
              unfold tu
              by_cases y2 : j < i
              · rw [if_neg (show ¬ (i < j ∧ j ≤ ssz S) by omega), if_pos (show j < ssz S by omega), if_pos y2]
              · rw [if_pos (show i < j ∧ j ≤ ssz S by omega), if_neg y2]
            · rw [if_neg y, if_neg (show ¬ (i < j ∧ j ≤ ssz S) by omega), if_neg (show ¬ j < ssz S by omega)]
        rw [eF]
        unfold insR
        refine JX_rows hJ (B2 := Bsg B (snd S + 1) a) ⟨rfl, rfl, rfl, rfl⟩ (fun j hj => ?_) (fun j k hj hk he => ?_) (fun w y1 y2 => ?_)
        · show h.2 (if shf (snm S) i (ssz S) (snd S + 1) j = snd S + 1 then a else xs B (shf (snm S) i (ssz S) (snd S + 1) j)) = some (2, [.ref (xk B (shf (sso S) i (ssz S) kd j)), va_rf (sr (Bsg B (snd S + 1) a) (pnm (insR S i kd key val) j)), .long (shf (sky S) i (ssz S) key j), .long (shf (svl S) i (ssz S) val j)])
          by_cases z : j = i
          · rw [z, shf_a, shf_a, shf_a, shf_a, if_pos rfl, ha, ins_pnma w3 hq p1 p2 hlq, sr_Bsg, sr_pl0 w2 hq]
            cases q with
            | none => exact Nat.succ_pos _
            | some t => exact Nat.lt_succ_of_le (hnd t (hq t rfl))
          · have y0 := tu_lt (show j ≤ ssz S by omega) h1 z
            have e9 := hnd _ y0
            rw [shf_tu (by omega) z, shf_tu (by omega) z, shf_tu (by omega) z, shf_tu (by omega) z, if_neg (by omega), ins_pnm w3 h1 p3 (by omega) z, sr_Bsg (by have := pnm_le w3 hnd y0; omega)]
            exact h11 _ y0
        · have he2 : (if shf (snm S) i (ssz S) (snd S + 1) j = snd S + 1 then a else xs B (shf (snm S) i (ssz S) (snd S + 1) j)) = (if shf (snm S) i (ssz S) (snd S + 1) k = snd S + 1 then a else xs B (shf (snm S) i (ssz S) (snd S + 1) k)) := he
          by_cases z : j = i
          · by_cases y : k = i
            · rw [z, y]
            · have y0 := tu_lt (show k ≤ ssz S by omega) h1 y
              rw [z, shf_a, if_pos rfl, shf_tu (by omega) y, if_neg (by have := hnd _ y0; omega)] at he2
              exact absurd he2.symm (han _ y0)
          · have z0 := tu_lt (show j ≤ ssz S by omega) h1 z
            by_cases y : k = i
            · rw [y, shf_a, if_pos rfl, shf_tu (by omega) z, if_neg (by have := hnd _ z0; omega)] at he2
              exact absurd he2 (han _ z0)
            · have y0 := tu_lt (show k ≤ ssz S by omega) h1 y
              rw [shf_tu (by omega) y, shf_tu (by omega) z, if_neg (by have := hnd _ z0; omega), if_neg (by have := hnd _ y0; omega)] at he2
              exact tu_inj z y (is _ _ z0 y0 he2)
        · have hle : ∀ nm, Lv S nm → nm < snd S + 1 := by
            rintro nm (z | ⟨j, z1, z2⟩)
            · omega
            · have := hnd j z1; omega
          exact ⟨sr_Bsg (hle _ (w8 w y1 y2).1), sr_Bsg (hle _ (w8 w y1 y2).2)⟩
      · exact absurd (Int32.le_refl _) c27
    | succ d ih =>
      intro i hi h1 F hFj
      have hb2 := hbg (50 + 3, arv 256 F)
      have hFi : F (i - 1) = .ref (xs B (snm S (i - 1))) := by
        rw [hFj (i - 1) (by omega), if_neg (by omega), if_pos (by omega)]
      have hci := (aset_ne (h := h) (c := (50 + 3, arv 256 F)) (tag_ne (h11 (i - 1) (by omega)) hra (by decide))).trans (h11 (i - 1) (by omega))
      have en : nI i + Int32.ofInt (-1) = nI (i - 1) := by
        rw [show nI i + Int32.ofInt (-1) = nI i - nI 1 from by rw [Int32.sub_eq_add_neg]; rfl, pk_sub (by omega)]
      refine V_iload_n (pc' := 26) d_Bs_putAt_25 rfl rfl ?_
      refine V_iload_n (pc' := 27) d_Bs_putAt_26 rfl rfl ?_
      refine V_icmp_le (pc' := 30) (tgt := 50) d_Bs_putAt_27 (by decide) rfl (fun c27 => ?_) (fun c27 => ?_)
      · exact absurd c27 (nI_ge (by omega) (by omega))
      · refine V_aload_n (pc' := 31) d_Bs_putAt_30 rfl (by first | rfl | exact isR_rf _) rfl ?_
        refine V_getf (pc' := 34) d_Bs_putAt_31 fl_Bs_11 rfl (by first | assumption | exact aset_self _ _ _ | exact apush_self _ _) (by rfl) ?_
        refine V_iload_n (pc' := 35) d_Bs_putAt_34 rfl rfl ?_
        refine V_aload_n (pc' := 36) d_Bs_putAt_35 rfl (by first | rfl | exact isR_rf _) rfl ?_
        refine V_getf (pc' := 39) d_Bs_putAt_36 fl_Bs_11 rfl (by first | assumption | exact aset_self _ _ _ | exact apush_self _ _) (by rfl) ?_
        refine V_iload_n (pc' := 40) d_Bs_putAt_39 rfl rfl ?_
        refine V_iconst (pc' := 41) (v := 1) d_Bs_putAt_40 (by decide) rfl ?_
        refine V_isub (pc' := 42) d_Bs_putAt_41 rfl ?_
        refine V_aald (pc' := 43) d_Bs_putAt_42 rfl (aset_self _ _ _) rfl (pk_sub (a := i) (b := 1) (by omega)) (by omega) ((arv_get (by omega)).trans (congrArg some hFi)) ?_
        refine V_aast (pc' := 44) d_Bs_putAt_43 rfl (aset_self _ _ _) rfl hci rfl rfl (by omega) (arv_get (by omega)) ?_
        rw [aset_aset, arv_set]
        refine V_iinc (pc' := 47) d_Bs_putAt_44 rfl rfl (by decide) rfl ?_
        first | refine V_L [(0, _), (1, _), (2, _), (3, _)] ⟨rfl, rfl, rfl, rfl, trivial⟩ ?_ | (refine V_keep (by intro q hq e; simp only [List.mem_cons, List.not_mem_nil, or_false] at hq; rcases hq with rfl | rfl | rfl | rfl <;> first | rfl | exact va_rf_cat _ | exact absurd e (by decide)) ?_; refine V_L [(0, _), (1, _), (2, _), (3, _)] ⟨rfl, rfl, rfl, rfl, trivial⟩ ?_)
        refine V_goto (tgt := 25) d_Bs_putAt_47 (by decide) ?_
        refine V_L [(0, .ref (xC B 3)), (1, .int (nI p)), (2, .ref a), (3, .int (nI (i - 1)))] ⟨rfl, rfl, rfl, (by show some (Value.int (nI i + Int32.ofInt (-1))) = _; rw [en]), trivial⟩ ?_
        refine ih (i - 1) (by omega) (by omega) _ (fun j hj => ?_)
        try dsimp only
        by_cases q : j = i
        · rw [if_pos q, if_pos ⟨by omega, by omega⟩, q]
        · rw [if_neg q, hFj j hj]
          by_cases q2 : i < j ∧ j ≤ ssz S
          · rw [if_pos q2, if_pos ⟨by omega, q2.2⟩]
          · rw [if_neg q2, if_neg (show ¬ (i - 1 < j ∧ j ≤ ssz S) by omega)]
  refine Ct_of (own := "PathCalls$Base") (ini := false) rfl rfl (Nat.le_of_ble_eq_true rfl) (fun q => by cases q) ?_
  refine V_aload_n (pc' := 1) d_Bs_putAt_0 rfl (by first | rfl | exact isR_rf _) rfl ?_
  -- at 1 invokevirtual
  refine V_callV (pc' := 4) (As := []) (ci := 5) d_Bs_putAt_1 mv_Bs_73 mw_Bs_isFull rfl rfl rfl (by simp [Value.category]) rfl (by first | assumption | exact aset_self _ _ _ | exact apush_self _ _) (c_Bs_isFull hJ.1 w7) (by first | decide | omega) (by first | decide | omega) (by first | decide | omega) (by first | decide | omega) ?_
  rintro _ _ ⟨rfl, rfl⟩
  refine V_if_ne (pc' := 7) (tgt := 19) d_Bs_putAt_4 (by decide) rfl (fun c4 => ?_) (fun c4 => ?_)
  · exact absurd rfl c4
  · refine V_iload_n (pc' := 8) d_Bs_putAt_7 rfl rfl ?_
    refine V_if_lt (pc' := 11) (tgt := 19) d_Bs_putAt_8 (by decide) rfl (fun c8 => ?_) (fun c8 => ?_)
    · exact absurd c8 (nI_pos (by omega))
    · refine V_iload_n (pc' := 12) d_Bs_putAt_11 rfl rfl ?_
      refine V_aload_n (pc' := 13) d_Bs_putAt_12 rfl (by first | rfl | exact isR_rf _) rfl ?_
      refine V_getf (pc' := 16) d_Bs_putAt_13 fl_Bs_17 rfl (by first | assumption | exact aset_self _ _ _ | exact apush_self _ _) (by rfl) ?_
      refine V_icmp_le (pc' := 19) (tgt := 20) d_Bs_putAt_16 (by decide) rfl (fun c16 => ?_) (fun c16 => ?_)
      · refine V_aload_n (pc' := 21) d_Bs_putAt_20 rfl (by first | rfl | exact isR_rf _) rfl ?_
        refine V_getf (pc' := 24) d_Bs_putAt_21 fl_Bs_17 rfl (by first | assumption | exact aset_self _ _ _ | exact apush_self _ _) (by rfl) ?_
        refine V_istore_n (pc' := 25) d_Bs_putAt_24 (by decide) rfl ?_
        first | refine V_L [(0, _), (1, _), (2, _), (3, _)] ⟨rfl, rfl, rfl, rfl, trivial⟩ ?_ | (refine V_keep (by intro q hq e; simp only [List.mem_cons, List.not_mem_nil, or_false] at hq; rcases hq with rfl | rfl | rfl <;> first | rfl | exact va_rf_cat _ | exact absurd e (by decide)) ?_; refine V_L [(0, _), (1, _), (2, _), (3, _)] ⟨rfl, rfl, rfl, rfl, trivial⟩ ?_)
        have h1 := lp (ssz S - p) (ssz S) (by omega) (Nat.le_refl _) (fun i => if i < ssz S then .ref (xs B (snm S i)) else .null) (fun j hj => by
          rw [if_neg (show ¬ (ssz S < j ∧ j ≤ ssz S) by omega)])
        rw [heta] at h1
        exact h1
      · exact absurd (nI_le (show p ≤ ssz S by omega) (by omega)) c16
end X12
