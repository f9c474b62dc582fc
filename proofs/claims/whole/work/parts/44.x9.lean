-- the class: view, kind, replace
theorem aset_apush {h : AH} {c d : AC} : aset (apush h c) h.1 d = apush h d := by
  unfold aset apush
  congr 1
  funext j
  by_cases e : j = h.1 <;> simp [e]
theorem up2 {h : AH} {q a b : Nat} {c c1 c2 c3 : AC} (hh : Hok h) (hq : h.2 q = some c) (n1 : q ≠ a) (n2 : q ≠ b) : (aset (aset (apush h c1) a c2) b c3).2 q = some c := by
  rw [aset_ne n2, aset_ne n1, apush_ne (Nat.ne_of_lt (hh q c hq)), hq]
theorem XF_push {h h2 : AH} {B B2 : XB} {c : AC} (hF : XF h h2 B B2) (he : h2.1 = h.1) : XF h (apush h2 c) B B2 := by
  obtain ⟨f1, f2, f3, f4, f5⟩ := hF
  refine ⟨f1, fun j d hj hm => ?_, by rw [apush_n]; omega, by rw [apush_n]; omega, f5.push⟩
  have h1 := f2 j d hj hm
  rw [apush_ne (Nat.ne_of_lt (f5 j d h1)), h1]
theorem XF_B {h h2 : AH} {B B2 B3 : XB} (hF : XF h h2 B B2) (he : xC B3 = xC B2) : XF h h2 B B3 := ⟨he.trans hF.1, hF.2⟩
theorem ov_congr {f g : Nat → Nat} {l : Nat} : ∀ {i : Nat}, (∀ k, k ≤ i → f k = g k) → ov f l i = ov g l i
  | 0, _ => rfl
  | i + 1, h => by
    rw [ov, ov, h (i + 1) (Nat.le_refl _), ov_congr (fun k hk => h k (by omega))]
theorem par_congr {S T : PS} {i : Nat} (h : ∀ k, k ≤ i → slo S k = slo T k) : par S i = par T i := by
  unfold par
  rw [h i (Nat.le_refl _), ov_congr h]
theorem pnm_congr {S T : PS} {i : Nat} (h : ∀ k, k ≤ i → slo S k = slo T k) (hn : ∀ k, k ≤ i → snm S k = snm T k) : pnm S i = pnm T i := by
  unfold pnm
  rw [h i (Nat.le_refl _), par_congr h, hn (par T i) (ov_le i)]
def Bv (B : XB) (v a : Nat) : XB := (xC B, xk B, fun i => if i = v then a else xv B i, xp B, xs B)
def Bk (B : XB) (k a : Nat) : XB := (xC B, fun i => if i = k then a else xk B i, xv B, xp B, xs B)
section X9
variable {x : CX} {h h0 : AH} {o : Nat} {B B0 : XB} {S : PS}
theorem JX_nview (hJ : JX h h o B B S) (hsv : svc S < 9) (hz : spo S (svc S + 1) = 0 ∧ spr S (svc S + 1) = 0 ∧ shd S (svc S + 1) = false) : JX h (aset (aset (apush h (3, [.null, .null, .int 0])) (xC B 1) (50 + 1, (arv 9 (fun i => if i < svc S then .ref (xv B (i + 1)) else .null)).set (svc S) (.ref h.1))) o (0, (xfs B S).set 3 (.int (nI (svc S + 1))))) o B (Bv B (svc S + 1) h.1) (uvc S (svc S + 1)) := by
  obtain ⟨⟨ho, hka, hva, hpa, hba, hra, hpv, h8, h9, h10, h11, iv, ip, is⟩, hF⟩ := hJ
  have hh : Hok h := hF.2.2.2.2
  have nov : o ≠ xC B 1 := tag_ne ho hva (by decide)
  refine ⟨⟨aset_self _ _ _, up2 hh hka (tag_ne hka hva (by decide)) (tag_ne hka ho (by decide)), ?_, up2 hh hpa (tag_ne hpa hva (by decide)) (tag_ne hpa ho (by decide)), up2 hh hba (tag_ne hba hva (by decide)) (tag_ne hba ho (by decide)), up2 hh hra (tag_ne hra hva (by decide)) (tag_ne hra ho (by decide)), up2 hh hpv (tag_ne hpv hva (by decide)) (tag_ne hpv ho (by decide)), fun k h1 h2 => up2 hh (h8 k h1 h2) (tag_ne (h8 k h1 h2) hva (by decide)) (tag_ne (h8 k h1 h2) ho (by decide)), fun w h1 h2 => ?_, fun p h1 => up2 hh (h10 p h1) (tag_ne (h10 p h1) hva (by decide)) (tag_ne (h10 p h1) ho (by decide)), fun i h1 => up2 hh (h11 i h1) (tag_ne (h11 i h1) hva (by decide)) (tag_ne (h11 i h1) ho (by decide)), fun v w h1 h2 h3 h4 he => ?_, ip, is⟩, ?_⟩
  · show (aset (aset (apush h _) (xC B 1) _) o _).2 (xC B 1) = _
    rw [aset_ne (Ne.symm nov), aset_self, arv_set]
    refine congrArg (fun l => some (50 + 1, l)) (arv_congr (fun i hi => ?_))
    show (if i = svc S then Value.ref h.1 else if i < svc S then Value.ref (xv B (i + 1)) else Value.null) = (if i < svc S + 1 then Value.ref (if i + 1 = svc S + 1 then h.1 else xv B (i + 1)) else Value.null)
    by_cases e : i = svc S
    · rw [if_pos e, if_pos (by omega), if_pos (by omega)]
    · rw [if_neg e]
      by_cases e2 : i < svc S
      · rw [if_pos e2, if_pos (by omega), if_neg (by omega)]
      · rw [if_neg e2, if_neg (by omega)]
  · show (aset (aset (apush h _) (xC B 1) _) o _).2 (if w = svc S + 1 then h.1 else xv B w) = some (3, [va_rf (sr B (spo S w)), va_rf (sr B (spr S w)), .int (ob (shd S w))])
    by_cases e : w = svc S + 1
    · rw [if_pos e, e, hz.1, hz.2.1, hz.2.2, aset_ne (Ne.symm (Nat.ne_of_lt (hh _ _ ho))), aset_ne (Ne.symm (Nat.ne_of_lt (hh _ _ hva))), apush_self]
      rfl
    · have h5 : w ≤ svc S + 1 := h2
      have h6 := h9 w h1 (by omega)
      rw [if_neg e]
      exact up2 hh h6 (tag_ne h6 hva (by decide)) (tag_ne h6 ho (by decide))
  · have h5 : v ≤ svc S + 1 := h1
    have h6 : w ≤ svc S + 1 := h2
    have he2 : (if v = svc S + 1 then h.1 else xv B v) = (if w = svc S + 1 then h.1 else xv B w) := he
    by_cases e : v = svc S + 1
    · by_cases e2 : w = svc S + 1
      · rw [e, e2]
      · rw [if_pos e, if_neg e2] at he2
        exact absurd he2.symm (Nat.ne_of_lt (hh _ _ (h9 w h4 (by omega))))
    · by_cases e2 : w = svc S + 1
      · rw [if_neg e, if_pos e2] at he2
        exact absurd he2 (Nat.ne_of_lt (hh _ _ (h9 v h3 (by omega))))
      · rw [if_neg e, if_neg e2] at he2
        exact iv v w (by omega) (by omega) h3 h4 he2
  · refine XF_B (B2 := B) ?_ rfl
    have a1 : (apush h (3, [.null, .null, .int 0])).2 (xC B 1) = some (50 + 1, arv 9 (fun i => if i < svc S then .ref (xv B (i + 1)) else .null)) := (apush_ne (Nat.ne_of_lt (hh _ _ hva))).trans hva
    have a2 := (aset_ne (h := apush h (3, [.null, .null, .int 0])) (c := (50 + 1, (arv 9 (fun i => if i < svc S then .ref (xv B (i + 1)) else .null)).set (svc S) (.ref h.1))) nov).trans ((apush_ne (c := (3, [.null, .null, .int 0])) (Nat.ne_of_lt (hh _ _ ho))).trans ho)
    exact XF_set (XF_set (XF_push hF rfl) a1 (nMt (by decide) (by decide) (by decide) (by decide))) a2 (nMt (by decide) (by decide) (by decide) (by decide))
theorem c_Vw_init {a : Nat} : Ct x y_Vw_init b_Vw_init 1 none 1 0 0 [.ref a] h (fun r h' => r = none ∧ h = h') := by
  refine Ct_of (own := "PathCalls$View") (ini := true) rfl rfl (Nat.le_of_ble_eq_true rfl) (fun _ => rfl) ?_
  refine V_aload_n (pc' := 1) d_Vw_init_0 rfl (by first | rfl | exact isR_rf _) rfl ?_
  refine V_obj (pc' := 4) d_Vw_init_1 ob_Vw_1 rfl (by decide) (by decide) (by decide) ?_
  refine V_vret d_Vw_init_4 rfl (by first | decide | omega) (by first | decide | omega) ?_
  exact ⟨rfl, rfl⟩
theorem c_PC_view (hX : IX h o B S) (hh : Hok h) (hsv : svc S ≤ 9) (hz : svc S < 9 → spo S (svc S + 1) = 0 ∧ spr S (svc S + 1) = 0 ∧ shd S (svc S + 1) = false) : Ct x y_PC_view b_PC_view 1 (some .int) 2 1 3 [.ref o] h (PX h o B (viewS S)) := by
  have hJ : JX h h o B B S := ⟨hX, XF_rf hh⟩
  obtain ⟨ho, hka, hva, hpa, hba, hra, hpv, h8, h9, h10, h11, iv, ip, is⟩ := id hX
  refine Ct_of (own := "PathCalls") (ini := false) rfl rfl (Nat.le_of_ble_eq_true rfl) (fun q => by cases q) ?_
  refine V_aload_n (pc' := 1) d_PC_view_0 rfl (by first | rfl | exact isR_rf _) rfl ?_
  refine V_getf (pc' := 4) d_PC_view_1 fl_PC_53 rfl (by first | assumption | exact aset_self _ _ _ | exact apush_self _ _) (by rfl) ?_
  refine V_bipush (pc' := 6) (v := 9) d_PC_view_4 (by decide) rfl ?_
  refine V_icmp_lt (pc' := 9) (tgt := 11) d_PC_view_6 (by decide) rfl (fun c6 => ?_) (fun c6 => ?_)
  · have e : svc S < 9 := (nI_ltI (b := 9) (by omega) (by omega)).mp c6
    have hl := Nat.ne_of_lt (hh _ _ ho)
    have hlv := Nat.ne_of_lt (hh _ _ hva)
    have nov : o ≠ xC B 1 := tag_ne ho hva (by decide)
    refine V_aload_n (pc' := 12) d_PC_view_11 rfl (by first | rfl | exact isR_rf _) rfl ?_
    refine V_getf (pc' := 15) d_PC_view_12 fl_PC_17 rfl (by first | assumption | exact aset_self _ _ _ | exact apush_self _ _) (by rfl) ?_
    refine V_aload_n (pc' := 16) d_PC_view_15 rfl (by first | rfl | exact isR_rf _) rfl ?_
    refine V_getf (pc' := 19) d_PC_view_16 fl_PC_53 rfl (by first | assumption | exact aset_self _ _ _ | exact apush_self _ _) (by rfl) ?_
    -- at 19 new
    refine V_new (pc' := 22) d_PC_view_19 nw_PC_15 rfl (by first | decide | omega) (by first | decide | omega) ?_
    refine V_dup (pc' := 23) d_PC_view_22 rfl rfl ?_
    -- at 23 invokespecial
    refine V_callI (pc' := 26) (As := []) d_PC_view_23 mi_PC_56 mw_Vw_init rfl rfl rfl (by simp [Value.category]) c_Vw_init (by first | decide | omega) (by first | decide | omega) (by first | decide | omega) (by first | decide | omega) ?_
    rintro _ _ ⟨rfl, rfl⟩
    refine V_aast (pc' := 27) d_PC_view_26 rfl ((apush_ne hlv).trans hva) rfl (apush_self _ _) rfl rfl (by omega) (arv_get (by omega)) ?_
    have ho2 := (aset_ne (h := apush h (3, [.null, .null, .int 0])) (c := (50 + 1, (arv 9 (fun i => if i < svc S then .ref (xv B (i + 1)) else .null)).set (svc S) (.ref h.1))) nov).trans ((apush_ne (c := (3, [.null, .null, .int 0])) hl).trans ho)
    refine V_aload_n (pc' := 28) d_PC_view_27 rfl (by first | rfl | exact isR_rf _) rfl ?_
    refine V_dup (pc' := 29) d_PC_view_28 rfl rfl ?_
    refine V_getf (pc' := 32) d_PC_view_29 fl_PC_53 rfl (by first | assumption | exact aset_self _ _ _ | exact apush_self _ _) (by rfl) ?_
    refine V_iconst (pc' := 33) (v := 1) d_PC_view_32 (by decide) rfl ?_
    refine V_iadd (pc' := 34) d_PC_view_33 rfl ?_
    rw [nI_1]
    refine V_putf (pc' := 37) d_PC_view_34 fp_PC_53 rfl (by first | assumption | exact aset_self _ _ _ | exact apush_self _ _) (by first | rfl | exact ob_nar _ | exact nar_rf _) (by first | rfl | exact ob_fit _ | exact fits_rf _) (by exact Nat.le_of_ble_eq_true rfl) ?_
    refine V_aload_n (pc' := 38) d_PC_view_37 rfl (by first | rfl | exact isR_rf _) rfl ?_
    refine V_getf (pc' := 41) d_PC_view_38 fl_PC_53 rfl (by first | assumption | exact aset_self _ _ _ | exact apush_self _ _) (by rfl) ?_
    refine V_iret d_PC_view_41 rfl (by first | decide | omega) (by first | decide | omega) ?_
    unfold viewS
    rw [if_neg (by omega)]
    exact ⟨rfl, _, JX_nview hJ e (hz e)⟩
  · refine V_iconst (pc' := 10) (v := (-1)) d_PC_view_9 (by decide) rfl ?_
    refine V_iret d_PC_view_10 rfl (by first | decide | omega) (by first | decide | omega) ?_
    have e : svc S = 9 := by
      rcases Nat.lt_or_ge (svc S) 9 with z | z
      · exact absurd (nI_lt (b := 9) z (by omega)) c6
      · omega
    unfold viewS
    rw [if_pos e]
    exact ⟨rfl, B, hJ⟩
theorem JX_nkind (hJ : JX h h o B B S) (hw : WX S) (hkc : skc S < 20) (hpk : ∀ p, p < 8 → spk S p ≤ skc S) {j l : Nat} {u : Bool} (hj : j ≤ skc S) : JX h (aset (aset (apush h (1, [.int (nI (skc S + 1)), .int (nI l), va_rf (kr B j), .int (ob u), .int 1])) (xC B 0) (50 + 0, (arv 20 (fun i => if i < skc S then .ref (xk B (i + 1)) else .null)).set (skc S) (.ref h.1))) o (0, (xfs B S).set 1 (.int (nI (skc S + 1))))) o B (Bk B (skc S + 1) h.1) (addk S j l u) := by
  obtain ⟨⟨ho, hka, hva, hpa, hba, hra, hpv, h8, h9, h10, h11, iv, ip, is⟩, hF⟩ := hJ
  obtain ⟨w1, w2, w3, w4, w5, w6, w7, w8, w9⟩ := id hw
  have hh : Hok h := hF.2.2.2.2
  have nov : o ≠ xC B 0 := tag_ne ho hka (by decide)
  have hkr : ∀ k, k ≤ skc S → kr (Bk B (skc S + 1) h.1) k = kr B k := by
    intro k hk
    show (if k = 0 then none else some (if k = skc S + 1 then h.1 else xk B k)) = (if k = 0 then none else some (xk B k))
    rw [if_neg (show ¬ k = skc S + 1 by omega)]
  have hslo : ∀ i, i < ssz S → slo (addk S j l u) i = slo S i := by
    intro i hi
    show (if sso S i = skc S + 1 then l else slv S (sso S i)) = slv S (sso S i)
    rw [if_neg (by have := (w4 i hi).2; omega)]
  refine ⟨⟨aset_self _ _ _, ?_, up2 hh hva (tag_ne hva hka (by decide)) (tag_ne hva ho (by decide)), up2 hh hpa (tag_ne hpa hka (by decide)) (tag_ne hpa ho (by decide)), up2 hh hba (tag_ne hba hka (by decide)) (tag_ne hba ho (by decide)), up2 hh hra (tag_ne hra hka (by decide)) (tag_ne hra ho (by decide)), up2 hh hpv (tag_ne hpv hka (by decide)) (tag_ne hpv ho (by decide)), fun k h1 h2 => ?_, fun w h1 h2 => up2 hh (h9 w h1 h2) (tag_ne (h9 w h1 h2) hka (by decide)) (tag_ne (h9 w h1 h2) ho (by decide)), fun p h1 => ?_, fun i h1 => ?_, iv, ip, is⟩, ?_⟩
  · show (aset (aset (apush h _) (xC B 0) _) o _).2 (xC B 0) = _
    rw [aset_ne (Ne.symm nov), aset_self, arv_set]
    refine congrArg (fun l => some (50 + 0, l)) (arv_congr (fun i hi => ?_))
    show (if i = skc S then Value.ref h.1 else if i < skc S then Value.ref (xk B (i + 1)) else Value.null) = (if i < skc S + 1 then Value.ref (if i + 1 = skc S + 1 then h.1 else xk B (i + 1)) else Value.null)
    by_cases e : i = skc S
    · rw [if_pos e, if_pos (by omega), if_pos (by omega)]
    · rw [if_neg e]
      by_cases e2 : i < skc S
      · rw [if_pos e2, if_pos (by omega), if_neg (by omega)]
      · rw [if_neg e2, if_neg (by omega)]
  · show (aset (aset (apush h _) (xC B 0) _) o _).2 (if k = skc S + 1 then h.1 else xk B k) = some (1, [.int (nI k), .int (nI (if k = skc S + 1 then l else slv S k)), va_rf (kr (Bk B (skc S + 1) h.1) (if k = skc S + 1 then j else sab S k)), .int (ob (if k = skc S + 1 then u else sun S k)), .int (nI (if k = skc S + 1 then 1 else sru S k))])
    by_cases e : k = skc S + 1
    · rw [if_pos e, if_pos e, if_pos e, if_pos e, if_pos e, aset_ne (Ne.symm (Nat.ne_of_lt (hh _ _ ho))), aset_ne (Ne.symm (Nat.ne_of_lt (hh _ _ hka))), apush_self, hkr j hj, e]
      rfl
    · have h5 : k ≤ skc S + 1 := h2
      have h6 := h8 k h1 (by omega)
      have h7 := w6 k h1 (by omega)
      rw [if_neg e, if_neg e, if_neg e, if_neg e, if_neg e, hkr (sab S k) (by omega)]
      exact up2 hh h6 (tag_ne h6 hka (by decide)) (tag_ne h6 ho (by decide))
  · have h6 := h10 p h1
    show (aset (aset (apush h _) (xC B 0) _) o _).2 (xp B p) = some (4, [va_rf (kr (Bk B (skc S + 1) h.1) (spk S p)), .int (nI (sop S p)), .long (spy S p), .int (nI (scd S p))])
    rw [hkr _ (hpk p h1)]
    exact up2 hh h6 (tag_ne h6 hka (by decide)) (tag_ne h6 ho (by decide))
  · have h6 := h11 i h1
    have h7 := w4 i h1
    show (aset (aset (apush h _) (xC B 0) _) o _).2 (xs B (snm S i)) = some (2, [.ref (if sso S i = skc S + 1 then h.1 else xk B (sso S i)), va_rf (sr B (pnm (addk S j l u) i)), .long (sky S i), .long (svl S i)])
    rw [if_neg (by omega), pnm_congr (S := addk S j l u) (T := S) (fun k hk => hslo k (Nat.lt_of_le_of_lt hk h1)) (fun k hk => rfl)]
    exact up2 hh h6 (tag_ne h6 hka (by decide)) (tag_ne h6 ho (by decide))
  · refine XF_B (B2 := B) ?_ rfl
    have a1 := fun (c : AC) => (apush_ne (c := c) (Nat.ne_of_lt (hh _ _ hka))).trans hka
    have a2 := fun (c : AC) (c2 : AC) => (aset_ne (h := apush h c) (c := c2) nov).trans ((apush_ne (c := c) (Nat.ne_of_lt (hh _ _ ho))).trans ho)
    exact XF_set (XF_set (XF_push hF rfl) (a1 _) (nMt (by decide) (by decide) (by decide) (by decide))) (a2 _ _) (nMt (by decide) (by decide) (by decide) (by decide))
theorem c_Kd_init {a : Nat} {n l : Int32} {q : Option Nat} {u : Bool} {y0 y1 y2 y3 y4 : Value} (ha : h.2 a = some (1, [y0, y1, y2, y3, y4])) (hq : (q = none ∧ l = 1) ∨ ∃ (k : Nat) (z0 : Value) (l0 : Int32) (z2 z3 z4 : Value), q = some k ∧ k ≠ a ∧ h.2 k = some (1, [z0, .int l0, z2, z3, z4]) ∧ l = l0 + 1) : Ct x y_Kd_init b_Kd_init 4 none 1 0 0 [.ref a, .int n, va_rf q, .int (ob u)] h (fun r h' => r = none ∧ h' = aset h a (1, [.int n, .int l, va_rf q, .int (ob u), .int 1])) := by
  refine Ct_of (own := "PathCalls$Kind") (ini := true) rfl rfl (by simp [lg_sl, va_rf_cat, cat_ref, cat_int, cat_long, cat_null]) (fun _ => rfl) ?_
  refine V_eq (L' := [(0, .ref a), (1, .int n), (2, va_rf q), (3, .int (ob u))]) (by simp [lv_args, va_rf_cat, cat_ref, cat_int, cat_long, cat_null]) rfl rfl ?_
  have fin : V x "PathCalls$Kind" b_Kd_init 4 (Option.none : Option Jvm.ClassFile.FieldType) true (rmd 1 0 0) 0 0 (fun r h' => r = none ∧ h' = aset h a (1, [.int n, .int l, va_rf q, .int (ob u), .int 1])) 29 [(0, .ref a), (1, .int n), (2, va_rf q), (3, .int (ob u))] [.int l, .ref a] (aset h a (1, [.int n, y1, y2, y3, .int 1])) 0 0 := by
    refine V_putF (pc' := 32) d_Kd_init_29 ff_Kd_18 rfl rfl (by first | assumption | exact aset_self _ _ _ | exact apush_self _ _) (by first | rfl | exact ob_nar _ | exact nar_rf _) (by first | rfl | exact ob_fit _ | exact fits_rf _) (by exact Nat.le_of_ble_eq_true rfl) ?_
    refine V_aload_n (pc' := 33) d_Kd_init_32 rfl (by first | rfl | exact isR_rf _) rfl ?_
    refine V_aload_n (pc' := 34) d_Kd_init_33 rfl (by first | rfl | exact isR_rf _) rfl ?_
    refine V_putF (pc' := 37) d_Kd_init_34 ff_Kd_21 rfl rfl (by first | assumption | exact aset_self _ _ _ | exact apush_self _ _) (by first | rfl | exact ob_nar _ | exact nar_rf _) (by first | rfl | exact ob_fit _ | exact fits_rf _) (by exact Nat.le_of_ble_eq_true rfl) ?_
    refine V_aload_n (pc' := 38) d_Kd_init_37 rfl (by first | rfl | exact isR_rf _) rfl ?_
    refine V_iload_n (pc' := 39) d_Kd_init_38 rfl rfl ?_
    refine V_putF (pc' := 42) d_Kd_init_39 ff_Kd_25 rfl rfl (by first | assumption | exact aset_self _ _ _ | exact apush_self _ _) (by first | rfl | exact ob_nar _ | exact nar_rf _) (by first | rfl | exact ob_fit _ | exact fits_rf _) (by exact Nat.le_of_ble_eq_true rfl) ?_
    refine V_vret d_Kd_init_42 rfl (by first | decide | omega) (by first | decide | omega) ?_
    rw [aset_aset, aset_aset, aset_aset]
    exact ⟨rfl, rfl⟩
  refine V_aload_n (pc' := 1) d_Kd_init_0 rfl (by first | rfl | exact isR_rf _) rfl ?_
  refine V_obj (pc' := 4) d_Kd_init_1 ob_Kd_3 rfl (by decide) (by decide) (by decide) ?_
  refine V_aload_n (pc' := 5) d_Kd_init_4 rfl (by first | rfl | exact isR_rf _) rfl ?_
  refine V_iconst (pc' := 6) (v := 1) d_Kd_init_5 (by decide) rfl ?_
  refine V_putf (pc' := 9) d_Kd_init_6 fp_Kd_9 rfl (by first | assumption | exact aset_self _ _ _ | exact apush_self _ _) (by first | rfl | exact ob_nar _ | exact nar_rf _) (by first | rfl | exact ob_fit _ | exact fits_rf _) (by exact Nat.le_of_ble_eq_true rfl) ?_
  refine V_aload_n (pc' := 10) d_Kd_init_9 rfl (by first | rfl | exact isR_rf _) rfl ?_
  refine V_iload_n (pc' := 11) d_Kd_init_10 rfl rfl ?_
  refine V_putF (pc' := 14) d_Kd_init_11 ff_Kd_15 rfl rfl (by first | assumption | exact aset_self _ _ _ | exact apush_self _ _) (by first | rfl | exact ob_nar _ | exact nar_rf _) (by first | rfl | exact ob_fit _ | exact fits_rf _) (by exact Nat.le_of_ble_eq_true rfl) ?_
  rw [aset_aset]
  refine V_aload_n (pc' := 15) d_Kd_init_14 rfl (by first | rfl | exact isR_rf _) rfl ?_
  refine V_aload_n (pc' := 16) d_Kd_init_15 rfl (by first | rfl | exact isR_rf _) rfl ?_
  refine V_ifnonnull (pc' := 19) (tgt := 23) (r := q) d_Kd_init_16 (by decide) rfl (fun a16 c16 => ?_) (fun c16 => ?_)
  · rcases hq with ⟨q1, q2⟩ | ⟨k, z0, l0, z2, z3, z4, q1, q2, q3, q4⟩
    · rw [q1] at c16; cases c16
    · subst q1
      have hk2 := (aset_ne (h := h) (c := (1, [.int n, y1, y2, y3, .int 1])) q2).trans q3
      rw [show va_rf (some k) = .ref k from rfl]
      refine V_aload_n (pc' := 24) d_Kd_init_23 rfl (by first | rfl | exact isR_rf _) rfl ?_
      refine V_getf (pc' := 27) d_Kd_init_24 fl_Kd_18 rfl (by first | assumption | exact aset_self _ _ _ | exact apush_self _ _) (by rfl) ?_
      refine V_iconst (pc' := 28) (v := 1) d_Kd_init_27 (by decide) rfl ?_
      refine V_iadd (pc' := 29) d_Kd_init_28 rfl ?_
      rw [← q4]
      exact fin
  · rcases hq with ⟨q1, q2⟩ | ⟨k, z0, l0, z2, z3, z4, q1, q2, q3, q4⟩
    · subst q2
      refine V_iconst (pc' := 20) (v := 1) d_Kd_init_19 (by decide) rfl ?_
      refine V_goto (tgt := 29) d_Kd_init_20 (by decide) ?_
      exact fin
    · rw [q1] at c16; cases c16
set_option maxHeartbeats 4000000 in
theorem c_PC_kind (hX : IX h o B S) (hh : Hok h) (hw : WX S) (hpk : ∀ p, p < 8 → spk S p ≤ skc S) (k : Int32) (u : Bool) : Ct x y_PC_kind b_PC_kind 5 (some .int) 2 1 5 [.ref o, .int k, .int (ob u)] h (PX h o B (kindS S k u)) := by
  have hJ : JX h h o B B S := ⟨hX, XF_rf hh⟩
  obtain ⟨ho, hka, hva, hpa, hba, hra, hpv, h8, h9, h10, h11, iv, ip, is⟩ := id hX
  obtain ⟨w1, w2, w3, w4, w5, w6, w7, w8, w9⟩ := id hw
  refine Ct_of (own := "PathCalls") (ini := false) rfl rfl (Nat.le_of_ble_eq_true rfl) (fun q => by cases q) ?_
  have bad : kindS S k u = (-1, S) → ∀ (z w : Value), V x "PathCalls" b_PC_kind 5 (Option.some .int) false (rmd 2 1 5) 1 5 (PX h o B (kindS S k u)) 57 [(0, .ref o), (1, .int k), (2, .int (ob u)), (3, z), (4, w)] [] h 0 0 := by
    intro he z w
    refine V_iconst (pc' := 58) (v := (-1)) d_PC_kind_57 (by decide) rfl ?_
    refine V_iret d_PC_kind_58 rfl (by first | decide | omega) (by first | decide | omega) ?_
    rw [he]; exact ⟨rfl, B, hJ⟩
  have bad2 : kindS S k u = (-1, S) → ∀ (z w : Value), V x "PathCalls" b_PC_kind 5 (Option.some .int) false (rmd 2 1 5) 1 5 (PX h o B (kindS S k u)) 33 [(0, .ref o), (1, .int k), (2, .int (ob u)), (3, z), (4, w)] [] h 0 0 := by
    intro he z w
    refine V_iconst (pc' := 34) (v := (-1)) d_PC_kind_33 (by decide) rfl ?_
    refine V_iret d_PC_kind_34 rfl (by first | decide | omega) (by first | decide | omega) ?_
    rw [he]; exact ⟨rfl, B, hJ⟩
  have good : ∀ (j l : Nat) (w : Value), j ≤ skc S → skc S < 20 → ((j = 0 ∧ l = 1) ∨ (1 ≤ j ∧ l = slv S j + 1)) → kindS S k u = (nI (skc S + 1), addk S j l u) → V x "PathCalls" b_PC_kind 5 (Option.some .int) false (rmd 2 1 5) 1 5 (PX h o B (kindS S k u)) 59 [(0, .ref o), (1, .int k), (2, .int (ob u)), (3, va_rf (kr B j)), (4, w)] [] h 0 0 := by
    intro j l w hj hk hl he
    have hlo := Nat.ne_of_lt (hh _ _ ho)
    have hlk := Nat.ne_of_lt (hh _ _ hka)
    have nov : o ≠ xC B 0 := tag_ne ho hka (by decide)
    have ho1 := (apush_ne (c := (1, [.int 0, .int 0, .null, .int 0, .int 0])) hlo).trans ho
    refine V_aload_n (pc' := 60) d_PC_kind_59 rfl (by first | rfl | exact isR_rf _) rfl ?_
    refine V_getf (pc' := 63) d_PC_kind_60 fl_PC_11 rfl (by first | assumption | exact aset_self _ _ _ | exact apush_self _ _) (by rfl) ?_
    refine V_aload_n (pc' := 64) d_PC_kind_63 rfl (by first | rfl | exact isR_rf _) rfl ?_
    refine V_getf (pc' := 67) d_PC_kind_64 fl_PC_43 rfl (by first | assumption | exact aset_self _ _ _ | exact apush_self _ _) (by rfl) ?_
    -- at 67 new
    refine V_new (pc' := 70) d_PC_kind_67 nw_PC_9 rfl (by first | decide | omega) (by first | decide | omega) ?_
    refine V_dup (pc' := 71) d_PC_kind_70 rfl rfl ?_
    refine V_aload_n (pc' := 72) d_PC_kind_71 rfl (by first | rfl | exact isR_rf _) rfl ?_
    refine V_getf (pc' := 75) d_PC_kind_72 fl_PC_43 rfl (by first | assumption | exact aset_self _ _ _ | exact apush_self _ _) (by rfl) ?_
    refine V_iconst (pc' := 76) (v := 1) d_PC_kind_75 (by decide) rfl ?_
    refine V_iadd (pc' := 77) d_PC_kind_76 rfl ?_
    rw [nI_1]
    refine V_aload_n (pc' := 78) d_PC_kind_77 rfl (by first | rfl | exact isR_rf _) rfl ?_
    refine V_iload_n (pc' := 79) d_PC_kind_78 rfl rfl ?_
    -- at 79 invokespecial
    refine V_callI (pc' := 82) (As := [_, _, _]) d_PC_kind_79 mi_PC_50 mw_Kd_init rfl rfl rfl (by simp [Value.category]) (c_Kd_init (a := h.1) (n := nI (skc S + 1)) (l := nI l) (q := kr B j) (u := u) (apush_self _ _) ?hyp) (by first | decide | omega) (by first | decide | omega) (by first | decide | omega) (by first | decide | omega) ?_
    case hyp =>
      rcases hl with ⟨a1, a2⟩ | ⟨a1, a2⟩
      · refine Or.inl ⟨?_, ?_⟩
        · rw [a1]; rfl
        · rw [a2]; rfl
      · have h6 := h8 j a1 hj
        refine Or.inr ⟨xk B j, .int (nI j), nI (slv S j), va_rf (kr B (sab S j)), .int (ob (sun S j)), .int (nI (sru S j)), kr_pos a1, Nat.ne_of_lt (hh _ _ h6), (apush_ne (Nat.ne_of_lt (hh _ _ h6))).trans h6, ?_⟩
        rw [a2, nI_1]
    rintro _ g ⟨rfl, rfl⟩
    rw [aset_apush]
    refine V_aast (pc' := 83) d_PC_kind_82 rfl ((apush_ne hlk).trans hka) rfl (apush_self _ _) rfl rfl (by omega) (arv_get (by omega)) ?_
    have ho2 := fun (c c2 : AC) => (aset_ne (h := apush h c) (c := c2) nov).trans ((apush_ne (c := c) hlo).trans ho)
    have ho3 := ho2 (1, [.int (nI (skc S + 1)), .int (nI l), va_rf (kr B j), .int (ob u), .int 1]) (50 + 0, (arv 20 (fun i => if i < skc S then .ref (xk B (i + 1)) else .null)).set (skc S) (.ref h.1))
    refine V_aload_n (pc' := 84) d_PC_kind_83 rfl (by first | rfl | exact isR_rf _) rfl ?_
    refine V_dup (pc' := 85) d_PC_kind_84 rfl rfl ?_
    refine V_getf (pc' := 88) d_PC_kind_85 fl_PC_43 rfl (by first | assumption | exact aset_self _ _ _ | exact apush_self _ _) (by rfl) ?_
    refine V_iconst (pc' := 89) (v := 1) d_PC_kind_88 (by decide) rfl ?_
    refine V_iadd (pc' := 90) d_PC_kind_89 rfl ?_
    rw [nI_1]
    refine V_putf (pc' := 93) d_PC_kind_90 fp_PC_43 rfl (by first | assumption | exact aset_self _ _ _ | exact apush_self _ _) (by first | rfl | exact ob_nar _ | exact nar_rf _) (by first | rfl | exact ob_fit _ | exact fits_rf _) (by exact Nat.le_of_ble_eq_true rfl) ?_
    refine V_aload_n (pc' := 94) d_PC_kind_93 rfl (by first | rfl | exact isR_rf _) rfl ?_
    refine V_getf (pc' := 97) d_PC_kind_94 fl_PC_43 rfl (by first | assumption | exact aset_self _ _ _ | exact apush_self _ _) (by rfl) ?_
    refine V_iret d_PC_kind_97 rfl (by first | decide | omega) (by first | decide | omega) ?_
    rw [he]
    exact ⟨rfl, _, JX_nkind hJ hw hk hpk hj⟩
  refine V_aload_n (pc' := 1) d_PC_kind_0 rfl (by first | rfl | exact isR_rf _) rfl ?_
  refine V_iload_n (pc' := 2) d_PC_kind_1 rfl rfl ?_
  -- at 2 invokevirtual
  refine V_callV (pc' := 5) (As := [_]) (ci := 0) d_PC_kind_2 mv_PC_39 mw_PC_kindNumbered rfl rfl rfl (by simp [Value.category]) rfl (by first | assumption | exact aset_self _ _ _ | exact apush_self _ _) (c_PC_kindNumbered hX w1 k) (by first | decide | omega) (by first | decide | omega) (by first | decide | omega) (by first | decide | omega) ?_
  rintro _ _ ⟨rfl, rfl⟩
  cases ek : ki (skc S) k with
  | none =>
    rw [show va_rf (knr B (skc S) k) = .null from by unfold knr; rw [ek]; rfl]
    have cut24 : ∀ b : Bool, b = decide (k = 0 ∧ skc S = 0) → V x "PathCalls" b_PC_kind 5 (Option.some .int) false (rmd 2 1 5) 1 5 (PX h o B (kindS S k u)) 24 [(0, .ref o), (1, .int k), (2, .int (ob u)), (3, .null), (4, .int (ob b))] [] h 0 0 := by
      intro b hb
      refine V_aload_n (pc' := 25) d_PC_kind_24 rfl (by first | rfl | exact isR_rf _) rfl ?_
      refine V_ifnonnull (pc' := 28) (tgt := 35) (r := none) d_PC_kind_25 (by decide) rfl (fun a25 c25 => ?_) (fun c25 => ?_)
      · cases c25
      · refine V_iload (pc' := 30) d_PC_kind_28 rfl rfl ?_
        refine V_if_ne (pc' := 33) (tgt := 35) d_PC_kind_30 (by decide) rfl (fun c30 => ?_) (fun c30 => ?_)
        · have hb1 := ob_nt c30
          rw [hb1] at hb
          have hb2 := of_decide_eq_true hb.symm
          refine V_aload_n (pc' := 36) d_PC_kind_35 rfl (by first | rfl | exact isR_rf _) rfl ?_
          refine V_getf (pc' := 39) d_PC_kind_36 fl_PC_43 rfl (by first | assumption | exact aset_self _ _ _ | exact apush_self _ _) (by rfl) ?_
          refine V_bipush (pc' := 41) (v := 20) d_PC_kind_39 (by decide) rfl ?_
          refine V_icmp_ge (pc' := 44) (tgt := 57) d_PC_kind_41 (by decide) rfl (fun c41 => ?_) (fun c41 => ?_)
          · exact absurd c41 (nI_ge (a := skc S) (b := 20) (by omega) (by omega))
          · refine V_aload_n (pc' := 45) d_PC_kind_44 rfl (by first | rfl | exact isR_rf _) rfl ?_
            refine V_ifnull (pc' := 48) (tgt := 59) (r := none) d_PC_kind_45 (by decide) rfl (fun c45 => ?_) (fun a45 c45 => ?_)
            · have hg := good 0 1 (.int (ob b)) (by omega) (by omega) (Or.inl ⟨rfl, rfl⟩) (by
                unfold kindS
                rw [if_pos hb2, hb2.2]; rfl)
              exact hg
            · cases c45
        · have hb1 := ob_0.mp c30
          rw [hb1] at hb
          have hb2 := of_decide_eq_false hb.symm
          refine bad2 ?_ _ _
          unfold kindS
          rw [if_neg hb2, ek]
    refine V_astore_n (pc' := 6) d_PC_kind_5 (by first | rfl | exact isR_rf _) (by decide) rfl ?_
    first | refine V_L [(0, _), (1, _), (2, _), (3, _)] ⟨rfl, rfl, rfl, rfl, trivial⟩ ?_ | (refine V_keep (by intro q hq e; simp only [List.mem_cons, List.not_mem_nil, or_false] at hq; rcases hq with rfl | rfl | rfl <;> first | rfl | exact va_rf_cat _ | exact absurd e (by first | decide | simp)) ?_; refine V_L [(0, _), (1, _), (2, _), (3, _)] ⟨rfl, rfl, rfl, rfl, trivial⟩ ?_)
    refine V_iload_n (pc' := 7) d_PC_kind_6 rfl rfl ?_
    refine V_if_ne (pc' := 10) (tgt := 21) d_PC_kind_7 (by decide) rfl (fun c7 => ?_) (fun c7 => ?_)
    · refine V_iconst (pc' := 22) (v := 0) d_PC_kind_21 (by decide) rfl ?_
      refine V_istore (pc' := 24) d_PC_kind_22 (by decide) rfl ?_
      first | refine V_L [(0, _), (1, _), (2, _), (3, _), (4, _)] ⟨rfl, rfl, rfl, rfl, rfl, trivial⟩ ?_ | (refine V_keep (by intro q hq e; simp only [List.mem_cons, List.not_mem_nil, or_false] at hq; rcases hq with rfl | rfl | rfl | rfl <;> first | rfl | exact va_rf_cat _ | exact absurd e (by first | decide | simp)) ?_; refine V_L [(0, _), (1, _), (2, _), (3, _), (4, _)] ⟨rfl, rfl, rfl, rfl, rfl, trivial⟩ ?_)
      exact cut24 false (decide_eq_false (fun q => c7 q.1)).symm
    · refine V_aload_n (pc' := 11) d_PC_kind_10 rfl (by first | rfl | exact isR_rf _) rfl ?_
      refine V_getf (pc' := 14) d_PC_kind_11 fl_PC_43 rfl (by first | assumption | exact aset_self _ _ _ | exact apush_self _ _) (by rfl) ?_
      refine V_if_ne (pc' := 17) (tgt := 21) d_PC_kind_14 (by decide) rfl (fun c14 => ?_) (fun c14 => ?_)
      · refine V_iconst (pc' := 22) (v := 0) d_PC_kind_21 (by decide) rfl ?_
        refine V_istore (pc' := 24) d_PC_kind_22 (by decide) rfl ?_
        first | refine V_L [(0, _), (1, _), (2, _), (3, _), (4, _)] ⟨rfl, rfl, rfl, rfl, rfl, trivial⟩ ?_ | (refine V_keep (by intro q hq e; simp only [List.mem_cons, List.not_mem_nil, or_false] at hq; rcases hq with rfl | rfl | rfl | rfl <;> first | rfl | exact va_rf_cat _ | exact absurd e (by first | decide | simp)) ?_; refine V_L [(0, _), (1, _), (2, _), (3, _), (4, _)] ⟨rfl, rfl, rfl, rfl, rfl, trivial⟩ ?_)
        exact cut24 false (decide_eq_false (fun q => c14 (by rw [q.2]; rfl))).symm
      · refine V_iconst (pc' := 18) (v := 1) d_PC_kind_17 (by decide) rfl ?_
        refine V_goto (tgt := 22) d_PC_kind_18 (by decide) ?_
        refine V_istore (pc' := 24) d_PC_kind_22 (by decide) rfl ?_
        first | refine V_L [(0, _), (1, _), (2, _), (3, _), (4, _)] ⟨rfl, rfl, rfl, rfl, rfl, trivial⟩ ?_ | (refine V_keep (by intro q hq e; simp only [List.mem_cons, List.not_mem_nil, or_false] at hq; rcases hq with rfl | rfl | rfl | rfl <;> first | rfl | exact va_rf_cat _ | exact absurd e (by first | decide | simp)) ?_; refine V_L [(0, _), (1, _), (2, _), (3, _), (4, _)] ⟨rfl, rfl, rfl, rfl, rfl, trivial⟩ ?_)
        exact cut24 true (decide_eq_true ⟨c7, (nI_sm (by omega) (by omega) rfl).mp c14⟩).symm
  | some j =>
    obtain ⟨e1, e2, e3⟩ := ki_some (by omega) ek
    subst e1
    rw [show va_rf (knr B (skc S) (nI j)) = va_rf (kr B j) from by unfold knr; rw [ek, kr_pos e2]; rfl]
    have h6 := h8 j e2 e3
    have h7 := w5 j e2 e3
    have hne : ¬ (nI j = 0 ∧ skc S = 0) := fun q => by omega
    have cut24 : V x "PathCalls" b_PC_kind 5 (Option.some .int) false (rmd 2 1 5) 1 5 (PX h o B (kindS S (nI j) u)) 24 [(0, .ref o), (1, .int (nI j)), (2, .int (ob u)), (3, va_rf (kr B j)), (4, .int 0)] [] h 0 0 := by
      rw [kr_pos e2]
      refine V_aload_n (pc' := 25) d_PC_kind_24 rfl (by first | rfl | exact isR_rf _) rfl ?_
      refine V_ifnonnull (pc' := 28) (tgt := 35) (r := (some (xk B j))) d_PC_kind_25 (by decide) rfl (fun a25 c25 => ?_) (fun c25 => ?_)
      · clear c25 a25
        refine V_aload_n (pc' := 36) d_PC_kind_35 rfl (by first | rfl | exact isR_rf _) rfl ?_
        refine V_getf (pc' := 39) d_PC_kind_36 fl_PC_43 rfl (by first | assumption | exact aset_self _ _ _ | exact apush_self _ _) (by rfl) ?_
        refine V_bipush (pc' := 41) (v := 20) d_PC_kind_39 (by decide) rfl ?_
        refine V_icmp_ge (pc' := 44) (tgt := 57) d_PC_kind_41 (by decide) rfl (fun c41 => ?_) (fun c41 => ?_)
        · have q1 : 20 ≤ skc S := (nI_leI (a := 20) (by omega) (by omega)).mp c41
          refine bad ?_ _ _
          unfold kindS
          rw [if_neg hne, ek]
          dsimp only
          rw [if_pos (Or.inr (by omega))]
        · have q1 : skc S < 20 := by
            rcases Nat.lt_or_ge (skc S) 20 with z | z
            · exact z
            · exact absurd (show nI 20 ≤ nI (skc S) from nI_le z (by omega)) c41
          refine V_aload_n (pc' := 45) d_PC_kind_44 rfl (by first | rfl | exact isR_rf _) rfl ?_
          refine V_ifnull (pc' := 48) (tgt := 59) (r := (some (xk B j))) d_PC_kind_45 (by decide) rfl (fun c45 => ?_) (fun a45 c45 => ?_)
          · cases c45
          · clear c45 a45
            rw [show va_rf (some (xk B j)) = .ref (xk B j) from rfl]
            refine V_aload_n (pc' := 49) d_PC_kind_48 rfl (by first | rfl | exact isR_rf _) rfl ?_
            refine V_getf (pc' := 52) d_PC_kind_49 fl_PC_47 rfl (by first | assumption | exact aset_self _ _ _ | exact apush_self _ _) (by rfl) ?_
            refine V_bipush (pc' := 54) (v := 8) d_PC_kind_52 (by decide) rfl ?_
            refine V_icmp_lt (pc' := 57) (tgt := 59) d_PC_kind_54 (by decide) rfl (fun c54 => ?_) (fun c54 => ?_)
            · have q2 : slv S j < 8 := (nI_ltI (b := 8) (by omega) (by omega)).mp c54
              have hg := good j (slv S j + 1) (.int 0) e3 q1 (Or.inr ⟨e2, rfl⟩) (by
                unfold kindS
                rw [if_neg hne, ek]
                dsimp only
                rw [if_neg (by omega)])
              rw [kr_pos e2] at hg
              exact hg
            · have q2 : slv S j = 8 := by
                rcases Nat.lt_or_ge (slv S j) 8 with z | z
                · exact absurd (nI_lt (b := 8) z (by omega)) c54
                · omega
              refine bad ?_ _ _
              unfold kindS
              rw [if_neg hne, ek]
              dsimp only
              rw [if_pos (Or.inl q2)]
      · cases c25
    refine V_astore_n (pc' := 6) d_PC_kind_5 (by first | rfl | exact isR_rf _) (by decide) rfl ?_
    first | refine V_L [(0, _), (1, _), (2, _), (3, _)] ⟨rfl, rfl, rfl, rfl, trivial⟩ ?_ | (refine V_keep (by intro q hq e; simp only [List.mem_cons, List.not_mem_nil, or_false] at hq; rcases hq with rfl | rfl | rfl <;> first | rfl | exact va_rf_cat _ | exact absurd e (by first | decide | simp)) ?_; refine V_L [(0, _), (1, _), (2, _), (3, _)] ⟨rfl, rfl, rfl, rfl, trivial⟩ ?_)
    refine V_iload_n (pc' := 7) d_PC_kind_6 rfl rfl ?_
    refine V_if_ne (pc' := 10) (tgt := 21) d_PC_kind_7 (by decide) rfl (fun c7 => ?_) (fun c7 => ?_)
    · refine V_iconst (pc' := 22) (v := 0) d_PC_kind_21 (by decide) rfl ?_
      refine V_istore (pc' := 24) d_PC_kind_22 (by decide) rfl ?_
      first | refine V_L [(0, _), (1, _), (2, _), (3, _), (4, _)] ⟨rfl, rfl, rfl, rfl, rfl, trivial⟩ ?_ | (refine V_keep (by intro q hq e; simp only [List.mem_cons, List.not_mem_nil, or_false] at hq; rcases hq with rfl | rfl | rfl | rfl <;> first | rfl | exact va_rf_cat _ | exact absurd e (by first | decide | simp)) ?_; refine V_L [(0, _), (1, _), (2, _), (3, _), (4, _)] ⟨rfl, rfl, rfl, rfl, rfl, trivial⟩ ?_)
      exact cut24
    · exact absurd ((nI_sm (a := j) (b := 0) (by omega) (by omega) rfl).mp c7) (by omega)
theorem c_Vw_takeHeld (hJ : JX h0 h o B0 B S) {v : Nat} (hv1 : 1 ≤ v) (hv2 : v ≤ svc S) : Ct x y_Vw_takeHeld b_Vw_takeHeld 2 (some (.object "PathCalls$Segment")) 0 0 0 [.ref (xv B v)] h (fun r h' => r = some (va_rf (if shd S v = true then sr B (spo S v) else none)) ∧ JX h0 h' o B0 B (uhd S v false)) := by
  have hcv := hJ.1.2.2.2.2.2.2.2.2.1 v hv1 hv2
  refine Ct_of (own := "PathCalls$View") (ini := false) rfl rfl (Nat.le_of_ble_eq_true rfl) (fun q => by cases q) ?_
  refine V_aload_n (pc' := 1) d_Vw_takeHeld_0 rfl (by first | rfl | exact isR_rf _) rfl ?_
  refine V_getf (pc' := 4) d_Vw_takeHeld_1 fl_Vw_7 rfl (by first | assumption | exact aset_self _ _ _ | exact apush_self _ _) (by rfl) ?_
  refine V_if_eq (pc' := 7) (tgt := 14) d_Vw_takeHeld_4 (by decide) rfl (fun c4 => ?_) (fun c4 => ?_)
  · have e := ob_0.mp c4
    refine V_null (pc' := 15) d_Vw_takeHeld_14 rfl ?_
    refine V_astore_n (pc' := 16) d_Vw_takeHeld_15 (by first | rfl | exact isR_rf _) (by decide) rfl ?_
    first | refine V_L [(0, _), (1, _)] ⟨rfl, rfl, trivial⟩ ?_ | (refine V_keep (by intro q hq e; simp only [List.mem_cons, List.not_mem_nil, or_false] at hq; rcases hq with rfl <;> first | rfl | exact va_rf_cat _ | exact absurd e (by first | decide | simp)) ?_; refine V_L [(0, _), (1, _)] ⟨rfl, rfl, trivial⟩ ?_)
    refine V_aload_n (pc' := 17) d_Vw_takeHeld_16 rfl (by first | rfl | exact isR_rf _) rfl ?_
    refine V_iconst (pc' := 18) (v := 0) d_Vw_takeHeld_17 (by decide) rfl ?_
    refine V_putf (pc' := 21) d_Vw_takeHeld_18 fp_Vw_7 rfl (by first | assumption | exact aset_self _ _ _ | exact apush_self _ _) (by first | rfl | exact ob_nar _ | exact nar_rf _) (by first | rfl | exact ob_fit _ | exact fits_rf _) (by exact Nat.le_of_ble_eq_true rfl) ?_
    refine V_aload_n (pc' := 22) d_Vw_takeHeld_21 rfl (by first | rfl | exact isR_rf _) rfl ?_
    refine V_aret d_Vw_takeHeld_22 rfl (by first | rfl | exact isR_rf _) (by first | decide | omega) (by first | decide | omega) ?_
    rw [if_neg (by rw [e]; decide)]
    exact ⟨rfl, JX_hd hJ hv1 hv2 false⟩
  · have e := ob_nt c4
    refine V_aload_n (pc' := 8) d_Vw_takeHeld_7 rfl (by first | rfl | exact isR_rf _) rfl ?_
    refine V_getf (pc' := 11) d_Vw_takeHeld_8 fl_Vw_13 rfl (by first | assumption | exact aset_self _ _ _ | exact apush_self _ _) (by rfl) ?_
    refine V_goto (tgt := 15) d_Vw_takeHeld_11 (by decide) ?_
    refine V_astore_n (pc' := 16) d_Vw_takeHeld_15 (by first | rfl | exact isR_rf _) (by decide) rfl ?_
    first | refine V_L [(0, _), (1, _)] ⟨rfl, rfl, trivial⟩ ?_ | (refine V_keep (by intro q hq e; simp only [List.mem_cons, List.not_mem_nil, or_false] at hq; rcases hq with rfl <;> first | rfl | exact va_rf_cat _ | exact absurd e (by first | decide | simp)) ?_; refine V_L [(0, _), (1, _)] ⟨rfl, rfl, trivial⟩ ?_)
    refine V_aload_n (pc' := 17) d_Vw_takeHeld_16 rfl (by first | rfl | exact isR_rf _) rfl ?_
    refine V_iconst (pc' := 18) (v := 0) d_Vw_takeHeld_17 (by decide) rfl ?_
    refine V_putf (pc' := 21) d_Vw_takeHeld_18 fp_Vw_7 rfl (by first | assumption | exact aset_self _ _ _ | exact apush_self _ _) (by first | rfl | exact ob_nar _ | exact nar_rf _) (by first | rfl | exact ob_fit _ | exact fits_rf _) (by exact Nat.le_of_ble_eq_true rfl) ?_
    refine V_aload_n (pc' := 22) d_Vw_takeHeld_21 rfl (by first | rfl | exact isR_rf _) rfl ?_
    refine V_aret d_Vw_takeHeld_22 rfl (by first | rfl | exact isR_rf _) (by first | decide | omega) (by first | decide | omega) ?_
    rw [if_pos e]
    exact ⟨rfl, JX_hd hJ hv1 hv2 false⟩
theorem c_PC_replace (hX : IX h o B S) (hh : Hok h) (hw : WX S) (hhd : ∀ j, 1 ≤ j → j ≤ svc S → shd S j = true → ∃ k, plc S (spo S j) = some k) (view : Int32) (w : Int64) : Ct x y_PC_replace b_PC_replace 6 (some .int) 1 0 0 [.ref o, .int view, .long w] h (PX h o B (replS S view w)) := by
  have hJ : JX h h o B B S := ⟨hX, XF_rf hh⟩
  obtain ⟨ho, hka, hva, hpa, hba, hra, hpv, h8, h9, h10, h11, iv, ip, is⟩ := id hX
  obtain ⟨w1, w2, w3, w4, w5, w6, w7, w8, w9⟩ := id hw
  refine Ct_of (own := "PathCalls") (ini := false) rfl rfl (Nat.le_of_ble_eq_true rfl) (fun q => by cases q) ?_
  refine V_aload_n (pc' := 1) d_PC_replace_0 rfl (by first | rfl | exact isR_rf _) rfl ?_
  refine V_iload_n (pc' := 2) d_PC_replace_1 rfl rfl ?_
  -- at 2 invokevirtual
  refine V_callV (pc' := 5) (As := [_]) (ci := 0) d_PC_replace_2 mv_PC_67 mw_PC_viewNumbered rfl rfl rfl (by simp [Value.category]) rfl (by first | assumption | exact aset_self _ _ _ | exact apush_self _ _) (c_PC_viewNumbered hX w9 view) (by first | decide | omega) (by first | decide | omega) (by first | decide | omega) (by first | decide | omega) ?_
  rintro _ _ ⟨rfl, rfl⟩
  cases ek : ki (svc S) view with
  | none =>
    rw [show va_rf (vnr B (svc S) view) = .null from by unfold vnr; rw [ek]; rfl]
    refine V_astore (pc' := 7) d_PC_replace_5 (by first | rfl | exact isR_rf _) (by decide) rfl ?_
    first | refine V_L [(0, _), (1, _), (2, _), (4, _)] ⟨rfl, rfl, rfl, rfl, trivial⟩ ?_ | (refine V_keep (by intro q hq e; simp only [List.mem_cons, List.not_mem_nil, or_false] at hq; rcases hq with rfl | rfl | rfl <;> first | rfl | exact va_rf_cat _ | exact absurd e (by first | decide | simp)) ?_; refine V_L [(0, _), (1, _), (2, _), (4, _)] ⟨rfl, rfl, rfl, rfl, trivial⟩ ?_)
    refine V_aload (pc' := 9) d_PC_replace_7 rfl (by first | rfl | exact isR_rf _) rfl ?_
    refine V_ifnonnull (pc' := 12) (tgt := 14) (r := none) d_PC_replace_9 (by decide) rfl (fun a9 c9 => ?_) (fun c9 => ?_)
    · cases c9
    · refine V_iconst (pc' := 13) (v := (-1)) d_PC_replace_12 (by decide) rfl ?_
      refine V_iret d_PC_replace_13 rfl (by first | decide | omega) (by first | decide | omega) ?_
      unfold replS
      rw [ek]; exact ⟨rfl, B, hJ⟩
  | some v =>
    obtain ⟨e1, e2, e3⟩ := ki_some (by omega) ek
    subst e1
    have hcv := h9 v e2 e3
    rw [show va_rf (vnr B (svc S) (nI v)) = .ref (xv B v) from by unfold vnr; rw [ek]; rfl]
    refine V_astore (pc' := 7) d_PC_replace_5 (by first | rfl | exact isR_rf _) (by decide) rfl ?_
    first | refine V_L [(0, _), (1, _), (2, _), (4, _)] ⟨rfl, rfl, rfl, rfl, trivial⟩ ?_ | (refine V_keep (by intro q hq e; simp only [List.mem_cons, List.not_mem_nil, or_false] at hq; rcases hq with rfl | rfl | rfl <;> first | rfl | exact va_rf_cat _ | exact absurd e (by first | decide | simp)) ?_; refine V_L [(0, _), (1, _), (2, _), (4, _)] ⟨rfl, rfl, rfl, rfl, trivial⟩ ?_)
    refine V_aload (pc' := 9) d_PC_replace_7 rfl (by first | rfl | exact isR_rf _) rfl ?_
    refine V_ifnonnull (pc' := 12) (tgt := 14) (r := (some (xv B v))) d_PC_replace_9 (by decide) rfl (fun a9 c9 => ?_) (fun c9 => ?_)
    · clear c9 a9
      refine V_aload (pc' := 16) d_PC_replace_14 rfl (by first | rfl | exact isR_rf _) rfl ?_
      -- at 16 invokevirtual
      refine V_callV (pc' := 19) (As := []) (ci := 3) d_PC_replace_16 mv_PC_147 mw_Vw_takeHeld rfl rfl rfl (by simp [Value.category]) rfl (by first | assumption | exact aset_self _ _ _ | exact apush_self _ _) (c_Vw_takeHeld hJ e2 e3) (by first | decide | omega) (by first | decide | omega) (by first | decide | omega) (by first | decide | omega) ?_
      rintro _ g ⟨rfl, hJ2⟩
      by_cases hs : shd S v = true
      · rw [if_pos hs, sr_rr w2 (w8 v e2 e3).1]
        obtain ⟨k, ep⟩ := hhd v e2 e3 hs
        have hkz := (plc_lt ep).1
        rw [ep]
        refine V_astore (pc' := 21) d_PC_replace_19 (by first | rfl | exact isR_rf _) (by decide) rfl ?_
        first | refine V_L [(0, _), (1, _), (2, _), (4, _), (5, _)] ⟨rfl, rfl, rfl, rfl, rfl, trivial⟩ ?_ | (refine V_keep (by intro q hq e; simp only [List.mem_cons, List.not_mem_nil, or_false] at hq; rcases hq with rfl | rfl | rfl | rfl <;> first | rfl | exact va_rf_cat _ | exact absurd e (by first | decide | simp)) ?_; refine V_L [(0, _), (1, _), (2, _), (4, _), (5, _)] ⟨rfl, rfl, rfl, rfl, rfl, trivial⟩ ?_)
        refine V_aload (pc' := 23) d_PC_replace_21 rfl (by first | rfl | exact isR_rf _) rfl ?_
        refine V_ifnonnull (pc' := 26) (tgt := 29) (r := (rr B S (some k))) d_PC_replace_23 (by decide) rfl (fun a23 c23 => ?_) (fun c23 => ?_)
        · clear c23 a23
          rw [show va_rf (rr B S (some k)) = .ref (xs B (snm S k)) from rfl]
          have hck := hJ2.1.2.2.2.2.2.2.2.2.2.2.1 k hkz
          refine V_aload (pc' := 31) d_PC_replace_29 rfl (by first | rfl | exact isR_rf _) rfl ?_
          refine V_lload_n (pc' := 32) d_PC_replace_31 rfl rfl ?_
          refine V_putf (pc' := 35) d_PC_replace_32 fp_PC_151 rfl (by first | assumption | exact aset_self _ _ _ | exact apush_self _ _) (by first | rfl | exact ob_nar _ | exact nar_rf _) (by first | rfl | exact ob_fit _ | exact fits_rf _) (by exact Nat.le_of_ble_eq_true rfl) ?_
          refine V_ex (fun g => JX h g o B B _) (JX_vl hJ2 hkz w) (fun g2 hJ3 => ?_)
          refine V_iconst (pc' := 36) (v := 0) d_PC_replace_35 (by decide) rfl ?_
          refine V_iret d_PC_replace_36 rfl (by first | decide | omega) (by first | decide | omega) ?_
          unfold replS
          rw [ek]
          dsimp only
          rw [if_pos hs, ep]
          exact ⟨rfl, B, hJ3⟩
        · cases c23
      · have hs2 : shd S v = false := by
          cases e : shd S v with
          | true => exact absurd e hs
          | false => rfl
        rw [if_neg hs]
        refine V_astore (pc' := 21) d_PC_replace_19 (by first | rfl | exact isR_rf _) (by decide) rfl ?_
        first | refine V_L [(0, _), (1, _), (2, _), (4, _), (5, _)] ⟨rfl, rfl, rfl, rfl, rfl, trivial⟩ ?_ | (refine V_keep (by intro q hq e; simp only [List.mem_cons, List.not_mem_nil, or_false] at hq; rcases hq with rfl | rfl | rfl | rfl <;> first | rfl | exact va_rf_cat _ | exact absurd e (by first | decide | simp)) ?_; refine V_L [(0, _), (1, _), (2, _), (4, _), (5, _)] ⟨rfl, rfl, rfl, rfl, rfl, trivial⟩ ?_)
        refine V_aload (pc' := 23) d_PC_replace_21 rfl (by first | rfl | exact isR_rf _) rfl ?_
        refine V_ifnonnull (pc' := 26) (tgt := 29) (r := none) d_PC_replace_23 (by decide) rfl (fun a23 c23 => ?_) (fun c23 => ?_)
        · cases c23
        · refine V_bipush (pc' := 28) (v := 8) d_PC_replace_26 (by decide) rfl ?_
          refine V_iret d_PC_replace_28 rfl (by first | decide | omega) (by first | decide | omega) ?_
          unfold replS
          rw [ek]
          dsimp only
          rw [if_neg hs]
          rw [uhd_same hs2] at hJ2
          exact ⟨rfl, B, hJ2⟩
    · cases c9
end X9
