-- the class: its constructor
def QA (h g : AH) (o k : Nat) (fs : List Value) (L : List AC) : Prop := g.1 = h.1 + k ∧ g.2 o = some (0, fs) ∧ (∀ i c, L[i]? = some c → g.2 (h.1 + i) = some c) ∧ (∀ q, q ≠ o → q < h.1 → g.2 q = h.2 q) ∧ Hok g ∧ L.length = k
theorem QA_push {h g : AH} {o k : Nat} {fs : List Value} {L : List AC} (ho : o < h.1) (hQ : QA h g o k fs L) (c : AC) : QA h (apush g c) o (k + 1) fs (L ++ [c]) := by
  obtain ⟨q1, q2, q3, q4, q5, q6⟩ := hQ
  refine ⟨by rw [apush_n, q1]; omega, (apush_ne (by omega)).trans q2, fun i c' hi => ?_, fun q a b => (apush_ne (by omega)).trans (q4 q a b), q5.push, by rw [List.length_append, q6]; rfl⟩
  by_cases e : i < k
  · rw [List.getElem?_append_left (by omega)] at hi
    rw [apush_ne (by omega)]
    exact q3 i c' hi
  · rw [List.getElem?_append_right (by omega)] at hi
    by_cases e2 : i = k
    · subst e2
      rw [q6, Nat.sub_self] at hi
      have e3 : c = c' := Option.some.inj hi
      rw [← e3, ← q1]
      exact apush_self _ _
    · rw [List.getElem?_eq_none (by rw [q6]; show 1 ≤ i - k; omega)] at hi
      cases hi
theorem QA_o {h g : AH} {o k : Nat} {fs : List Value} {L : List AC} (ho : o < h.1) (hQ : QA h g o k fs L) (fs2 : List Value) : QA h (aset g o (0, fs2)) o k fs2 L := by
  obtain ⟨q1, q2, q3, q4, q5, q6⟩ := hQ
  exact ⟨q1, aset_self _ _ _, fun i c' hi => (aset_ne (by omega)).trans (q3 i c' hi), fun q a b => (aset_ne a).trans (q4 q a b), q5.set q2, q6⟩
theorem QA_upd {h g : AH} {o k : Nat} {fs : List Value} {L : List AC} (ho : o < h.1) (hQ : QA h g o k fs L) {i : Nat} (hi : i < k) (c : AC) : QA h (aset g (h.1 + i) c) o k fs (L.set i c) := by
  obtain ⟨q1, q2, q3, q4, q5, q6⟩ := hQ
  obtain ⟨c0, hc0⟩ : ∃ c0, L[i]? = some c0 := ⟨L[i]'(by omega), List.getElem?_eq_getElem (by omega)⟩
  refine ⟨q1, (aset_ne (by omega)).trans q2, fun j c' hj => ?_, fun q a b => (aset_ne (by omega)).trans (q4 q a b), q5.set (q3 i c0 hc0), by rw [List.length_set, q6]⟩
  rw [List.getElem?_set] at hj
  by_cases e : i = j
  · subst e
    rw [if_pos rfl, if_pos (by omega)] at hj
    cases hj
    exact aset_self _ _ _
  · rw [if_neg e] at hj
    rw [aset_ne (by omega)]
    exact q3 j c' hj
theorem V_kn {x : CX} {own : String} {cc : ByteArray} {nL : Nat} {rt : Option FieldType} {ini : Bool} {R : Room} {mc ms : Nat} {Post : Option Value → AH → Prop} {pc : Nat} {L : List (Nat × Value)} {st : List Value} {h : AH} {k n k2 n2 : Nat} (hk : k = k2) (hn : n = n2) (kk : V x own cc nL rt ini R mc ms Post pc L st h k2 n2) : V x own cc nL rt ini R mc ms Post pc L st h k n := by
  subst hk; subst hn; exact kk
section X14
variable {x : CX} {h : AH} {o : Nat}
theorem c_Pt_init {a : Nat} : Ct x y_Pt_init b_Pt_init 1 none 1 0 0 [.ref a] h (fun r h' => r = none ∧ h = h') := by
  refine Ct_of (own := "PathCalls$Part") (ini := true) rfl rfl (Nat.le_of_ble_eq_true rfl) (fun _ => rfl) ?_
  refine V_aload_n (pc' := 1) d_Pt_init_0 rfl (by first | rfl | exact isR_rf _) rfl ?_
  refine V_obj (pc' := 4) d_Pt_init_1 ob_Pt_1 rfl (by decide) (by decide) (by decide) ?_
  refine V_vret d_Pt_init_4 rfl (by first | decide | omega) (by first | decide | omega) ?_
  exact ⟨rfl, rfl⟩
theorem c_Bs_init {a : Nat} {y0 y1 : Value} (ha : h.2 a = some (5, [y0, y1])) (hlt : a < h.1) : Ct x y_Bs_init b_Bs_init 1 none 1 1 256 [.ref a] h (fun r h' => r = none ∧ h' = aset (apush h (50 + 3, List.replicate 256 .null)) a (5, [.ref h.1, y1])) := by
  refine Ct_of (own := "PathCalls$Base") (ini := true) rfl rfl (Nat.le_of_ble_eq_true rfl) (fun _ => rfl) ?_
  refine V_aload_n (pc' := 1) d_Bs_init_0 rfl (by first | rfl | exact isR_rf _) rfl ?_
  refine V_obj (pc' := 4) d_Bs_init_1 ob_Bs_3 rfl (by decide) (by decide) (by decide) ?_
  refine V_aload_n (pc' := 5) d_Bs_init_4 rfl (by first | rfl | exact isR_rf _) rfl ?_
  refine V_sipush (pc' := 8) (v := 256) d_Bs_init_5 (by decide) rfl ?_
  refine V_anew (pc' := 11) (i := 3) (N := 256) d_Bs_init_8 an_Bs_9 (by decide) rfl rfl (by decide) rfl (by first | decide | omega) (by first | decide | omega) ?_
  have ha2 := (apush_ne (c := (50 + 3, List.replicate 256 .null)) (Nat.ne_of_lt hlt)).trans ha
  refine V_putF (pc' := 14) d_Bs_init_11 ff_Bs_11 rfl rfl (by first | assumption | exact aset_self _ _ _ | exact apush_self _ _) (by first | rfl | exact ob_nar _ | exact nar_rf _) (by first | rfl | exact ob_fit _ | exact fits_rf _) (by exact Nat.le_of_ble_eq_true rfl) ?_
  refine V_vret d_Bs_init_14 rfl (by first | decide | omega) (by first | decide | omega) ?_
  exact ⟨rfl, rfl⟩
def BI (n : Nat) : XB := (fun i => n + i, fun _ => 0, fun _ => 0, fun i => n + 6 + i, fun _ => 0)
set_option maxHeartbeats 4000000 in
theorem c_PC_init (hh : Hok h) (ho : h.2 o = some (0, [.null, .int 0, .null, .int 0, .null, .int 0, .null, .null])) : Ct x y_PC_init b_PC_init 2 none 2 14 335 [.ref o] h (fun r h' => r = none ∧ IX h' o (BI h.1) S00 ∧ Hok h' ∧ h'.1 = h.1 + 14 ∧ ∀ q, q ≠ o → q < h.1 → h'.2 q = h.2 q) := by
  have hlt : o < h.1 := hh _ _ ho
  have hRc : (rmd 2 14 335).cells = 14 := rfl
  have hRs : (rmd 2 14 335).slots = 335 := rfl
  refine Ct_of (own := "PathCalls") (ini := true) rfl rfl (Nat.le_of_ble_eq_true rfl) (fun _ => rfl) ?_
  have loop : ∀ (d i : Nat), i + d = 8 → ∀ (g : AH) (L : List AC), QA h g o (6 + i) (xfs (BI h.1) S00) L → L[0]? = some (50 + 0, List.replicate 20 .null) → L[1]? = some (50 + 1, List.replicate 9 .null) → L[2]? = some (50 + 2, arv 8 (fun j => if j < i then .ref (h.1 + 6 + j) else .null)) → L[3]? = some (5, [.ref (h.1 + 4), .int 0]) → L[4]? = some (50 + 3, List.replicate 256 .null) → L[5]? = some (50 + 4, List.replicate 8 (.long 0)) → (∀ j, j < i → L[6 + j]? = some (4, [.null, .int 0, .long 0, .int 0])) → V x "PathCalls" b_PC_init 2 (Option.none : Option Jvm.ClassFile.FieldType) true (rmd 2 14 335) 14 335 (fun r h' => r = none ∧ IX h' o (BI h.1) S00 ∧ Hok h' ∧ h'.1 = h.1 + 14 ∧ ∀ q, q ≠ o → q < h.1 → h'.2 q = h.2 q) 52 [(0, .ref o), (1, .int (nI i))] [] g (6 + i) (303 + 4 * i) := by
    intro d
    induction d with
    | zero =>
      intro i hi g L hQ l0 l1 l2 l3 l4 l5 l6
      have e : i = 8 := by omega
      subst e
      obtain ⟨q1, q2, q3, q4, q5, q6⟩ := hQ
      refine V_iload_n (pc' := 53) d_PC_init_52 rfl rfl ?_
      refine V_bipush (pc' := 55) (v := 8) d_PC_init_53 (by decide) rfl ?_
      refine V_icmp_ge (pc' := 58) (tgt := 77) d_PC_init_55 (by decide) rfl (fun c55 => ?_) (fun c55 => ?_)
      · refine V_vret d_PC_init_77 rfl (by first | decide | omega) (by first | decide | omega) ?_
        refine ⟨rfl, ⟨q2, ?_, ?_, ?_, q3 3 _ l3, ?_, ?_, fun k h1 h2 => absurd (show k ≤ 0 from h2) (by omega), fun v h1 h2 => absurd (show v ≤ 0 from h2) (by omega), fun p hp => ?_, fun i hi => absurd (show i < 0 from hi) (by omega), fun v w h1 h2 h3 h4 _ => absurd (show v ≤ 0 from h1) (by omega), fun p q h1 h2 he => ?_, fun i j hi => absurd (show i < 0 from hi) (by omega)⟩, q5, q1, q4⟩
        · refine (q3 0 _ l0).trans ?_
          rw [arv_rep]; rfl
        · refine (q3 1 _ l1).trans ?_
          rw [arv_rep]; rfl
        · refine (q3 2 _ l2).trans ?_
          refine congrArg (fun l => some (50 + 2, l)) (arv_congr (fun j hj => ?_))
          rw [if_pos hj]; rfl
        · refine (q3 4 _ l4).trans ?_
          rw [arv_rep]; rfl
        · refine (q3 5 _ l5).trans ?_
          rw [arv_rep]; rfl
        · have h1 := q3 (6 + p) _ (l6 p hp)
          show g.2 (h.1 + 6 + p) = _
          rw [show h.1 + 6 + p = h.1 + (6 + p) by omega]
          exact h1
        · have he2 : h.1 + 6 + p = h.1 + 6 + q := he
          omega
      · exact absurd (by decide) c55
    | succ d ih =>
      intro i hi g L hQ l0 l1 l2 l3 l4 l5 l6
      have ho1 := hQ.2.1
      have hn := hQ.1
      have hpa := hQ.2.2.1 2 _ l2
      have hpa2 := fun (c : AC) => (apush_ne (h := g) (c := c) (j := h.1 + 2) (by omega)).trans hpa
      have hlen := hQ.2.2.2.2.2
      refine V_iload_n (pc' := 53) d_PC_init_52 rfl rfl ?_
      refine V_bipush (pc' := 55) (v := 8) d_PC_init_53 (by decide) rfl ?_
      refine V_icmp_ge (pc' := 58) (tgt := 77) d_PC_init_55 (by decide) rfl (fun c55 => ?_) (fun c55 => ?_)
      · exact absurd (show nI 8 ≤ nI i from c55) (nI_ge (by omega) (by omega))
      · refine V_aload_n (pc' := 59) d_PC_init_58 rfl (by first | rfl | exact isR_rf _) rfl ?_
        refine V_getf (pc' := 62) d_PC_init_59 fl_PC_23 rfl (by first | assumption | exact aset_self _ _ _ | exact apush_self _ _) (by rfl) ?_
        refine V_iload_n (pc' := 63) d_PC_init_62 rfl rfl ?_
        -- at 63 new
        refine V_new (pc' := 66) d_PC_init_63 nw_PC_21 rfl (by first | decide | omega) (by first | decide | omega) ?_
        refine V_dup (pc' := 67) d_PC_init_66 rfl rfl ?_
        -- at 67 invokespecial
        refine V_callI (pc' := 70) (As := []) d_PC_init_67 mi_PC_38 mw_Pt_init rfl rfl rfl (by simp [Value.category]) c_Pt_init (by first | decide | omega) (by first | decide | omega) (by first | decide | omega) (by first | decide | omega) ?_
        rintro _ _ ⟨rfl, rfl⟩
        refine V_aast (pc' := 71) d_PC_init_70 rfl (hpa2 _) rfl (apush_self _ _) rfl rfl (by omega) (arv_get (by omega)) ?_
        rw [arv_set]
        refine V_ex (fun z => QA h z o (6 + (i + 1)) (xfs (BI h.1) S00) _) (QA_upd hlt (QA_push hlt hQ _) (i := 2) (by omega) _) (fun g2 hQ2 => ?_)
        first | refine V_iincN (pc' := 74) d_PC_init_71 rfl (by decide) rfl ?_ | refine V_iinc (pc' := 74) d_PC_init_71 rfl rfl (by decide) rfl ?_
        first | refine V_L [(0, _), (1, _)] ⟨rfl, rfl, trivial⟩ ?_ | (refine V_keep (by intro q hq e; simp only [List.mem_cons, List.not_mem_nil, or_false] at hq; rcases hq with rfl | rfl <;> first | rfl | exact va_rf_cat _ | exact absurd e (by first | decide | simp)) ?_; refine V_L [(0, _), (1, _)] ⟨rfl, rfl, trivial⟩ ?_)
        refine V_goto (tgt := 52) d_PC_init_74 (by decide) ?_
        have lft : ∀ (j : Nat) (c c2 c3 : AC), j ≠ 2 → L[j]? = some c → ((L ++ [c2]).set 2 c3)[j]? = some c := by
          intro j c c2 c3 hj hl
          rw [List.getElem?_set, if_neg (fun z => hj z.symm), List.getElem?_append_left (List.getElem?_eq_some_iff.mp hl).1]
          exact hl
        refine V_kn (show 6 + i + 1 + 0 = 6 + (i + 1) by omega) (show 303 + 4 * i + 4 + 0 = 303 + 4 * (i + 1) by omega) ?_
        refine ih (i + 1) (by omega) g2 _ hQ2 (lft 0 _ _ _ (by decide) l0) (lft 1 _ _ _ (by decide) l1) ?_ (lft 3 _ _ _ (by decide) l3) (lft 4 _ _ _ (by decide) l4) (lft 5 _ _ _ (by decide) l5) (fun j hj => ?_)
        · rw [List.getElem?_set, if_pos rfl, if_pos (by rw [List.length_append, hlen]; omega)]
          refine congrArg (fun l => some (50 + 2, l)) (arv_congr (fun j hj => ?_))
          rw [hn]
          by_cases z : j = i
          · rw [if_pos z, if_pos (by omega), z, show h.1 + (6 + i) = h.1 + 6 + i by omega]
          · rw [if_neg z]
            by_cases z2 : j < i
            · rw [if_pos z2, if_pos (by omega)]
            · rw [if_neg z2, if_neg (by omega)]
        · by_cases z : j = i
          · rw [List.getElem?_set, if_neg (by omega), List.getElem?_append_right (by omega), z, hlen, Nat.sub_self]
            rfl
          · exact lft _ _ _ _ (by omega) (l6 j (by omega))
  refine V_aload_n (pc' := 1) d_PC_init_0 rfl (by first | rfl | exact isR_rf _) rfl ?_
  refine V_obj (pc' := 4) d_PC_init_1 ob_PC_1 rfl (by decide) (by decide) (by decide) ?_
  refine V_ex (fun z => QA h z o 0 [.null, .int 0, .null, .int 0, .null, .int 0, .null, .null] []) ⟨rfl, ho, fun i c hi => (by cases hi), fun q _ _ => rfl, hh, rfl⟩ (fun g0 hQ0 => ?_)
  refine V_aload_n (pc' := 5) d_PC_init_4 rfl (by first | rfl | exact isR_rf _) rfl ?_
  refine V_bipush (pc' := 7) (v := 20) d_PC_init_5 (by decide) rfl ?_
  refine V_anew (pc' := 10) (i := 0) (N := 20) d_PC_init_7 an_PC_9 (by decide) rfl rfl (by decide) rfl (by first | decide | omega) (by first | decide | omega) ?_
  have ho1 := (QA_push hlt hQ0 (50 + 0, List.replicate 20 .null)).2.1
  refine V_putF (pc' := 13) d_PC_init_10 ff_PC_11 rfl rfl (by first | assumption | exact aset_self _ _ _ | exact apush_self _ _) (by first | rfl | exact ob_nar _ | exact nar_rf _) (by first | rfl | exact ob_fit _ | exact fits_rf _) (by exact Nat.le_of_ble_eq_true rfl) ?_
  refine V_ex (fun z => QA h z o 1 [.ref (h.1 + 0), .int 0, .null, .int 0, .null, .int 0, .null, .null] [(50 + 0, List.replicate 20 .null)]) (by have h1 := QA_o hlt (QA_push hlt hQ0 (50 + 0, List.replicate 20 .null)) [.ref (h.1 + 0), .int 0, .null, .int 0, .null, .int 0, .null, .null]; rw [← hQ0.1] at h1 ⊢; exact h1) (fun g1 hQ1 => ?_)
  clear ho1
  refine V_aload_n (pc' := 14) d_PC_init_13 rfl (by first | rfl | exact isR_rf _) rfl ?_
  refine V_bipush (pc' := 16) (v := 9) d_PC_init_14 (by decide) rfl ?_
  refine V_anew (pc' := 19) (i := 1) (N := 9) d_PC_init_16 an_PC_15 (by decide) rfl rfl (by decide) rfl (by first | decide | omega) (by first | decide | omega) ?_
  have ho1 := (QA_push hlt hQ1 (50 + 1, List.replicate 9 .null)).2.1
  refine V_putF (pc' := 22) d_PC_init_19 ff_PC_17 rfl rfl (by first | assumption | exact aset_self _ _ _ | exact apush_self _ _) (by first | rfl | exact ob_nar _ | exact nar_rf _) (by first | rfl | exact ob_fit _ | exact fits_rf _) (by exact Nat.le_of_ble_eq_true rfl) ?_
  refine V_ex (fun z => QA h z o 2 [.ref (h.1 + 0), .int 0, .ref (h.1 + 1), .int 0, .null, .int 0, .null, .null] [(50 + 0, List.replicate 20 .null), (50 + 1, List.replicate 9 .null)]) (by have h1 := QA_o hlt (QA_push hlt hQ1 (50 + 1, List.replicate 9 .null)) [.ref (h.1 + 0), .int 0, .ref (h.1 + 1), .int 0, .null, .int 0, .null, .null]; rw [← hQ1.1] at h1 ⊢; exact h1) (fun g2 hQ2 => ?_)
  clear ho1
  refine V_aload_n (pc' := 23) d_PC_init_22 rfl (by first | rfl | exact isR_rf _) rfl ?_
  refine V_bipush (pc' := 25) (v := 8) d_PC_init_23 (by decide) rfl ?_
  refine V_anew (pc' := 28) (i := 2) (N := 8) d_PC_init_25 an_PC_21 (by decide) rfl rfl (by decide) rfl (by first | decide | omega) (by first | decide | omega) ?_
  have ho1 := (QA_push hlt hQ2 (50 + 2, List.replicate 8 .null)).2.1
  refine V_putF (pc' := 31) d_PC_init_28 ff_PC_23 rfl rfl (by first | assumption | exact aset_self _ _ _ | exact apush_self _ _) (by first | rfl | exact ob_nar _ | exact nar_rf _) (by first | rfl | exact ob_fit _ | exact fits_rf _) (by exact Nat.le_of_ble_eq_true rfl) ?_
  refine V_ex (fun z => QA h z o 3 [.ref (h.1 + 0), .int 0, .ref (h.1 + 1), .int 0, .ref (h.1 + 2), .int 0, .null, .null] [(50 + 0, List.replicate 20 .null), (50 + 1, List.replicate 9 .null), (50 + 2, List.replicate 8 .null)]) (by have h1 := QA_o hlt (QA_push hlt hQ2 (50 + 2, List.replicate 8 .null)) [.ref (h.1 + 0), .int 0, .ref (h.1 + 1), .int 0, .ref (h.1 + 2), .int 0, .null, .null]; rw [← hQ2.1] at h1 ⊢; exact h1) (fun g3 hQ3 => ?_)
  clear ho1
  refine V_aload_n (pc' := 32) d_PC_init_31 rfl (by first | rfl | exact isR_rf _) rfl ?_
  refine V_new (pc' := 35) d_PC_init_32 nw_PC_27 rfl (by first | decide | omega) (by first | decide | omega) ?_
  refine V_dup (pc' := 36) d_PC_init_35 rfl rfl ?_
  -- at 36 invokespecial
  have hQ4 := QA_push hlt hQ3 (5, [.null, .int 0])
  have e3 : g3.1 = h.1 + 3 := hQ3.1
  rw [e3]
  refine V_ex (fun z => QA h z o 4 _ _) hQ4 (fun g4 hQ4 => ?_)
  refine V_callI (pc' := 39) (As := []) d_PC_init_36 mi_PC_29 mw_Bs_init rfl rfl rfl (by simp [Value.category]) (c_Bs_init (a := h.1 + 3) (y0 := .null) (y1 := .int 0) (hQ4.2.2.1 3 _ rfl) (by have := hQ4.1; omega)) (by first | decide | omega) (by first | decide | omega) (by first | decide | omega) (by first | decide | omega) ?_
  rintro _ _ ⟨rfl, rfl⟩
  have e4 : g4.1 = h.1 + 4 := hQ4.1
  rw [e4]
  have hQ5 := QA_upd hlt (QA_push hlt hQ4 (50 + 3, List.replicate 256 .null)) (i := 3) (by omega) (5, [.ref (h.1 + 4), .int 0])
  refine V_ex (fun z => QA h z o 5 _ _) hQ5 (fun g5 hQ5 => ?_)
  have ho1 := hQ5.2.1
  refine V_putF (pc' := 42) d_PC_init_39 ff_PC_30 rfl rfl (by first | assumption | exact aset_self _ _ _ | exact apush_self _ _) (by first | rfl | exact ob_nar _ | exact nar_rf _) (by first | rfl | exact ob_fit _ | exact fits_rf _) (by exact Nat.le_of_ble_eq_true rfl) ?_
  refine V_ex (fun z => QA h z o 5 _ _) (QA_o hlt hQ5 _) (fun g6 hQ6 => ?_)
  clear ho1
  refine V_aload_n (pc' := 43) d_PC_init_42 rfl (by first | rfl | exact isR_rf _) rfl ?_
  refine V_bipush (pc' := 45) (v := 8) d_PC_init_43 (by decide) rfl ?_
  refine V_newl (pc' := 47) (i := 4) (N := 8) (ty := .long) d_PC_init_45 rfl (fun C q => by cases q) ac_long rfl rfl (by decide) (by decide) rfl (by first | decide | omega) (by first | decide | omega) ?_
  have hQ7 := QA_push hlt hQ6 (50 + 4, List.replicate 8 (.long 0))
  have e6 : g6.1 = h.1 + 5 := hQ6.1
  rw [e6]
  refine V_ex (fun z => QA h z o 6 _ _) hQ7 (fun g7 hQ7 => ?_)
  have ho1 := hQ7.2.1
  refine V_putF (pc' := 50) d_PC_init_47 ff_PC_34 rfl rfl (by first | assumption | exact aset_self _ _ _ | exact apush_self _ _) (by first | rfl | exact ob_nar _ | exact nar_rf _) (by first | rfl | exact ob_fit _ | exact fits_rf _) (by exact Nat.le_of_ble_eq_true rfl) ?_
  refine V_ex (fun z => QA h z o 6 _ _) (QA_o hlt hQ7 _) (fun g8 hQ8 => ?_)
  refine V_iconst (pc' := 51) (v := 0) d_PC_init_50 (by decide) rfl ?_
  refine V_istore_n (pc' := 52) d_PC_init_51 (by decide) rfl ?_
  first | refine V_L [(0, _), (1, _)] ⟨rfl, rfl, trivial⟩ ?_ | (refine V_keep (by intro q hq e; simp only [List.mem_cons, List.not_mem_nil, or_false] at hq; rcases hq with rfl <;> first | rfl | exact va_rf_cat _ | exact absurd e (by first | decide | simp)) ?_; refine V_L [(0, _), (1, _)] ⟨rfl, rfl, trivial⟩ ?_)
  refine loop 8 0 (by omega) g8 _ hQ8 rfl rfl ?_ rfl rfl rfl (fun j hj => by omega)
  show some (50 + 2, List.replicate 8 Value.null) = _
  rw [arv_rep]
  rfl
end X14
