-- the reference: its constructor (by wip/whole/gmi.py)
def S00 : PS := ((0, fun _ => 0, fun _ => 0, fun _ => 0, fun _ => false), (0, 0, fun _ => 0, fun _ => 0, fun _ => 0, fun _ => 0), (0, fun _ => 0, fun _ => 0, fun _ => false), (0, fun _ => 0, fun _ => 0, fun _ => 0, fun _ => 0), fun _ => 0)
def pm (i : Nat) : Nat := if i ≤ 3 then i else if i = 4 then 1000004 else if i ≤ 8 then i - 1 else if i ≤ 10 then 1000000 + i else if i ≤ 13 then i - 3 else if i = 14 then 1000014 else if i ≤ 18 then i - 4 else if i = 19 then 1000019 else if i = 20 then 15 else 1000000 + i
theorem pm_lo (i : Nat) : pm i < 16 ∨ 1000000 ≤ pm i := by
  unfold pm
  repeat' split
  all_goals omega
theorem pm_inj (i j : Nat) (h : pm i = pm j) : i = j := by
  unfold pm at h
  repeat' split at h
  all_goals omega
def mcl : List AC := [(50 + 5, List.replicate 21 (defaultValue .int)), (50 + 5, List.replicate 21 (defaultValue .int)), (50 + 5, List.replicate 21 (defaultValue .int)), (50 + 6, List.replicate 21 (defaultValue .boolean)), (50 + 5, List.replicate 1100 (defaultValue .int)), (50 + 5, List.replicate 1100 (defaultValue .int)), (50 + 4, List.replicate 1100 (defaultValue .long)), (50 + 4, List.replicate 1100 (defaultValue .long)), (50 + 5, List.replicate 10 (defaultValue .int)), (50 + 5, List.replicate 10 (defaultValue .int)), (50 + 6, List.replicate 10 (defaultValue .boolean)), (50 + 5, List.replicate 8 (defaultValue .int)), (50 + 5, List.replicate 8 (defaultValue .int)), (50 + 5, List.replicate 8 (defaultValue .int)), (50 + 4, List.replicate 8 (defaultValue .long)), (50 + 4, List.replicate 9 (defaultValue .long))]
def PI (h g : AH) (m k : Nat) (fs : List Value) : Prop := g.1 = h.1 + k ∧ g.2 m = some (6, fs) ∧ (∀ i c, i < k → mcl[i]? = some c → g.2 (h.1 + i) = some c) ∧ (∀ q, q ≠ m → q < h.1 → g.2 q = h.2 q)
theorem PI_step {h g : AH} {m k : Nat} {fs fs2 : List Value} {c : AC} (hm : m < h.1) (hP : PI h g m k fs) (hc : mcl[k]? = some c) : PI h (aset (apush g c) m (6, fs2)) m (k + 1) fs2 := by
  obtain ⟨p1, p2, p3, p4⟩ := hP
  refine ⟨?_, aset_self _ _ _, fun i c' hi hc' => ?_, fun q hq hq2 => ?_⟩
  · rw [aset_n, apush_n, p1]; omega
  · rw [aset_ne (by omega)]
    by_cases e : i = k
    · subst e
      rw [hc] at hc'
      cases hc'
      rw [← p1]
      exact apush_self _ _
    · rw [apush_ne (by omega)]
      exact p3 i c' (by omega) hc'
  · rw [aset_ne hq, apush_ne (by omega)]
    exact p4 q hq hq2
section MI0
variable {x : CX} {h : AH} {m : Nat}
set_option maxHeartbeats 4000000 in
theorem c_Md_init (hlt : m < h.1) (hm : h.2 m = some (6, [.null, .null, .null, .null, .int 0, .null, .null, .null, .null, .int 0, .int 0, .null, .null, .null, .int 0, .null, .null, .null, .null, .int 0, .null])) : Ct x y_Md_init b_Md_init 1 none 1 16 4555 [.ref m] h (fun r h' => r = none ∧ IM h' m (fun i => h.1 + pm i) S00 ∧ h'.1 = h.1 + 16 ∧ ∀ q, q ≠ m → q < h.1 → h'.2 q = h.2 q) := by
  refine Ct_of (own := "PathCallsModel") (ini := true) rfl rfl (Nat.le_of_ble_eq_true rfl) (fun _ => rfl) ?_
  refine V_aload_n (pc' := 1) d_Md_init_0 rfl (by first | rfl | exact isR_rf _) rfl ?_
  refine V_obj (pc' := 4) d_Md_init_1 ob_Md_1 rfl (by decide) (by decide) (by decide) ?_
  refine V_ex (fun z => PI h z m 0 [.null, .null, .null, .null, .int 0, .null, .null, .null, .null, .int 0, .int 0, .null, .null, .null, .int 0, .null, .null, .null, .null, .int 0, .null]) ⟨rfl, hm, fun i c hi => by omega, fun q _ _ => rfl⟩ (fun g0 hP => ?_)
  refine V_aload_n (pc' := 5) d_Md_init_4 rfl (by first | rfl | exact isR_rf _) rfl ?_
  refine V_bipush (pc' := 7) (v := 21) d_Md_init_5 (by decide) rfl ?_
  refine V_newl (pc' := 9) (i := 5) (N := 21) (ty := .int) d_Md_init_7 rfl (fun C q => by cases q) ac_int rfl rfl (by decide) (by decide) rfl (by first | decide | omega) (by first | decide | omega) ?_
  have hq : (apush g0 (50 + 5, List.replicate 21 (defaultValue .int))).2 m = _ := (apush_ne (by have := hP.1; omega)).trans hP.2.1
  refine V_putF (pc' := 12) d_Md_init_9 ff_Md_7 rfl rfl (by first | assumption | exact aset_self _ _ _ | exact apush_self _ _) (by first | rfl | exact ob_nar _ | exact nar_rf _) (by first | rfl | exact ob_fit _ | exact fits_rf _) (by exact Nat.le_of_ble_eq_true rfl) ?_
  refine V_ex (fun z => PI h z m 1 _) (by first | exact PI_step hlt hP rfl) (fun g1 hP2 => ?_)
  rw [hP.1] at hP2
  clear hq
  replace hP := hP2
  clear hP2
  refine V_aload_n (pc' := 13) d_Md_init_12 rfl (by first | rfl | exact isR_rf _) rfl ?_
  refine V_bipush (pc' := 15) (v := 21) d_Md_init_13 (by decide) rfl ?_
  refine V_newl (pc' := 17) (i := 5) (N := 21) (ty := .int) d_Md_init_15 rfl (fun C q => by cases q) ac_int rfl rfl (by decide) (by decide) rfl (by first | decide | omega) (by first | decide | omega) ?_
  have hq : (apush g1 (50 + 5, List.replicate 21 (defaultValue .int))).2 m = _ := (apush_ne (by have := hP.1; omega)).trans hP.2.1
  refine V_putF (pc' := 20) d_Md_init_17 ff_Md_13 rfl rfl (by first | assumption | exact aset_self _ _ _ | exact apush_self _ _) (by first | rfl | exact ob_nar _ | exact nar_rf _) (by first | rfl | exact ob_fit _ | exact fits_rf _) (by exact Nat.le_of_ble_eq_true rfl) ?_
  refine V_ex (fun z => PI h z m 2 _) (by first | exact PI_step hlt hP rfl) (fun g2 hP2 => ?_)
  rw [hP.1] at hP2
  clear hq
  replace hP := hP2
  clear hP2
  refine V_aload_n (pc' := 21) d_Md_init_20 rfl (by first | rfl | exact isR_rf _) rfl ?_
  refine V_bipush (pc' := 23) (v := 21) d_Md_init_21 (by decide) rfl ?_
  refine V_newl (pc' := 25) (i := 5) (N := 21) (ty := .int) d_Md_init_23 rfl (fun C q => by cases q) ac_int rfl rfl (by decide) (by decide) rfl (by first | decide | omega) (by first | decide | omega) ?_
  have hq : (apush g2 (50 + 5, List.replicate 21 (defaultValue .int))).2 m = _ := (apush_ne (by have := hP.1; omega)).trans hP.2.1
  refine V_putF (pc' := 28) d_Md_init_25 ff_Md_16 rfl rfl (by first | assumption | exact aset_self _ _ _ | exact apush_self _ _) (by first | rfl | exact ob_nar _ | exact nar_rf _) (by first | rfl | exact ob_fit _ | exact fits_rf _) (by exact Nat.le_of_ble_eq_true rfl) ?_
  refine V_ex (fun z => PI h z m 3 _) (by first | exact PI_step hlt hP rfl) (fun g3 hP2 => ?_)
  rw [hP.1] at hP2
  clear hq
  replace hP := hP2
  clear hP2
  refine V_aload_n (pc' := 29) d_Md_init_28 rfl (by first | rfl | exact isR_rf _) rfl ?_
  refine V_bipush (pc' := 31) (v := 21) d_Md_init_29 (by decide) rfl ?_
  refine V_newl (pc' := 33) (i := 6) (N := 21) (ty := .boolean) d_Md_init_31 rfl (fun C q => by cases q) ac_boolean rfl rfl (by decide) (by decide) rfl (by first | decide | omega) (by first | decide | omega) ?_
  have hq : (apush g3 (50 + 6, List.replicate 21 (defaultValue .boolean))).2 m = _ := (apush_ne (by have := hP.1; omega)).trans hP.2.1
  refine V_putF (pc' := 36) d_Md_init_33 ff_Md_19 rfl rfl (by first | assumption | exact aset_self _ _ _ | exact apush_self _ _) (by first | rfl | exact ob_nar _ | exact nar_rf _) (by first | rfl | exact ob_fit _ | exact fits_rf _) (by exact Nat.le_of_ble_eq_true rfl) ?_
  refine V_ex (fun z => PI h z m 4 _) (by first | exact PI_step hlt hP rfl) (fun g4 hP2 => ?_)
  rw [hP.1] at hP2
  clear hq
  replace hP := hP2
  clear hP2
  refine V_aload_n (pc' := 37) d_Md_init_36 rfl (by first | rfl | exact isR_rf _) rfl ?_
  refine V_sipush (pc' := 40) (v := 1100) d_Md_init_37 (by decide) rfl ?_
  refine V_newl (pc' := 42) (i := 5) (N := 1100) (ty := .int) d_Md_init_40 rfl (fun C q => by cases q) ac_int rfl rfl (by decide) (by decide) rfl (by first | decide | omega) (by first | decide | omega) ?_
  have hq : (apush g4 (50 + 5, List.replicate 1100 (defaultValue .int))).2 m = _ := (apush_ne (by have := hP.1; omega)).trans hP.2.1
  refine V_putF (pc' := 45) d_Md_init_42 ff_Md_23 rfl rfl (by first | assumption | exact aset_self _ _ _ | exact apush_self _ _) (by first | rfl | exact ob_nar _ | exact nar_rf _) (by first | rfl | exact ob_fit _ | exact fits_rf _) (by exact Nat.le_of_ble_eq_true rfl) ?_
  refine V_ex (fun z => PI h z m 5 _) (by first | exact PI_step hlt hP rfl) (fun g5 hP2 => ?_)
  rw [hP.1] at hP2
  clear hq
  replace hP := hP2
  clear hP2
  refine V_aload_n (pc' := 46) d_Md_init_45 rfl (by first | rfl | exact isR_rf _) rfl ?_
  refine V_sipush (pc' := 49) (v := 1100) d_Md_init_46 (by decide) rfl ?_
  refine V_newl (pc' := 51) (i := 5) (N := 1100) (ty := .int) d_Md_init_49 rfl (fun C q => by cases q) ac_int rfl rfl (by decide) (by decide) rfl (by first | decide | omega) (by first | decide | omega) ?_
  have hq : (apush g5 (50 + 5, List.replicate 1100 (defaultValue .int))).2 m = _ := (apush_ne (by have := hP.1; omega)).trans hP.2.1
  refine V_putF (pc' := 54) d_Md_init_51 ff_Md_26 rfl rfl (by first | assumption | exact aset_self _ _ _ | exact apush_self _ _) (by first | rfl | exact ob_nar _ | exact nar_rf _) (by first | rfl | exact ob_fit _ | exact fits_rf _) (by exact Nat.le_of_ble_eq_true rfl) ?_
  refine V_ex (fun z => PI h z m 6 _) (by first | exact PI_step hlt hP rfl) (fun g6 hP2 => ?_)
  rw [hP.1] at hP2
  clear hq
  replace hP := hP2
  clear hP2
  refine V_aload_n (pc' := 55) d_Md_init_54 rfl (by first | rfl | exact isR_rf _) rfl ?_
  refine V_sipush (pc' := 58) (v := 1100) d_Md_init_55 (by decide) rfl ?_
  refine V_newl (pc' := 60) (i := 4) (N := 1100) (ty := .long) d_Md_init_58 rfl (fun C q => by cases q) ac_long rfl rfl (by decide) (by decide) rfl (by first | decide | omega) (by first | decide | omega) ?_
  have hq : (apush g6 (50 + 4, List.replicate 1100 (defaultValue .long))).2 m = _ := (apush_ne (by have := hP.1; omega)).trans hP.2.1
  refine V_putF (pc' := 63) d_Md_init_60 ff_Md_29 rfl rfl (by first | assumption | exact aset_self _ _ _ | exact apush_self _ _) (by first | rfl | exact ob_nar _ | exact nar_rf _) (by first | rfl | exact ob_fit _ | exact fits_rf _) (by exact Nat.le_of_ble_eq_true rfl) ?_
  refine V_ex (fun z => PI h z m 7 _) (by first | exact PI_step hlt hP rfl) (fun g7 hP2 => ?_)
  rw [hP.1] at hP2
  clear hq
  replace hP := hP2
  clear hP2
  refine V_aload_n (pc' := 64) d_Md_init_63 rfl (by first | rfl | exact isR_rf _) rfl ?_
  refine V_sipush (pc' := 67) (v := 1100) d_Md_init_64 (by decide) rfl ?_
  refine V_newl (pc' := 69) (i := 4) (N := 1100) (ty := .long) d_Md_init_67 rfl (fun C q => by cases q) ac_long rfl rfl (by decide) (by decide) rfl (by first | decide | omega) (by first | decide | omega) ?_
  have hq : (apush g7 (50 + 4, List.replicate 1100 (defaultValue .long))).2 m = _ := (apush_ne (by have := hP.1; omega)).trans hP.2.1
  refine V_putF (pc' := 72) d_Md_init_69 ff_Md_33 rfl rfl (by first | assumption | exact aset_self _ _ _ | exact apush_self _ _) (by first | rfl | exact ob_nar _ | exact nar_rf _) (by first | rfl | exact ob_fit _ | exact fits_rf _) (by exact Nat.le_of_ble_eq_true rfl) ?_
  refine V_ex (fun z => PI h z m 8 _) (by first | exact PI_step hlt hP rfl) (fun g8 hP2 => ?_)
  rw [hP.1] at hP2
  clear hq
  replace hP := hP2
  clear hP2
  refine V_aload_n (pc' := 73) d_Md_init_72 rfl (by first | rfl | exact isR_rf _) rfl ?_
  refine V_bipush (pc' := 75) (v := 10) d_Md_init_73 (by decide) rfl ?_
  refine V_newl (pc' := 77) (i := 5) (N := 10) (ty := .int) d_Md_init_75 rfl (fun C q => by cases q) ac_int rfl rfl (by decide) (by decide) rfl (by first | decide | omega) (by first | decide | omega) ?_
  have hq : (apush g8 (50 + 5, List.replicate 10 (defaultValue .int))).2 m = _ := (apush_ne (by have := hP.1; omega)).trans hP.2.1
  refine V_putF (pc' := 80) d_Md_init_77 ff_Md_36 rfl rfl (by first | assumption | exact aset_self _ _ _ | exact apush_self _ _) (by first | rfl | exact ob_nar _ | exact nar_rf _) (by first | rfl | exact ob_fit _ | exact fits_rf _) (by exact Nat.le_of_ble_eq_true rfl) ?_
  refine V_ex (fun z => PI h z m 9 _) (by first | exact PI_step hlt hP rfl) (fun g9 hP2 => ?_)
  rw [hP.1] at hP2
  clear hq
  replace hP := hP2
  clear hP2
  refine V_aload_n (pc' := 81) d_Md_init_80 rfl (by first | rfl | exact isR_rf _) rfl ?_
  refine V_bipush (pc' := 83) (v := 10) d_Md_init_81 (by decide) rfl ?_
  refine V_newl (pc' := 85) (i := 5) (N := 10) (ty := .int) d_Md_init_83 rfl (fun C q => by cases q) ac_int rfl rfl (by decide) (by decide) rfl (by first | decide | omega) (by first | decide | omega) ?_
  have hq : (apush g9 (50 + 5, List.replicate 10 (defaultValue .int))).2 m = _ := (apush_ne (by have := hP.1; omega)).trans hP.2.1
  refine V_putF (pc' := 88) d_Md_init_85 ff_Md_39 rfl rfl (by first | assumption | exact aset_self _ _ _ | exact apush_self _ _) (by first | rfl | exact ob_nar _ | exact nar_rf _) (by first | rfl | exact ob_fit _ | exact fits_rf _) (by exact Nat.le_of_ble_eq_true rfl) ?_
  refine V_ex (fun z => PI h z m 10 _) (by first | exact PI_step hlt hP rfl) (fun g10 hP2 => ?_)
  rw [hP.1] at hP2
  clear hq
  replace hP := hP2
  clear hP2
  refine V_aload_n (pc' := 89) d_Md_init_88 rfl (by first | rfl | exact isR_rf _) rfl ?_
  refine V_bipush (pc' := 91) (v := 10) d_Md_init_89 (by decide) rfl ?_
  refine V_newl (pc' := 93) (i := 6) (N := 10) (ty := .boolean) d_Md_init_91 rfl (fun C q => by cases q) ac_boolean rfl rfl (by decide) (by decide) rfl (by first | decide | omega) (by first | decide | omega) ?_
  have hq : (apush g10 (50 + 6, List.replicate 10 (defaultValue .boolean))).2 m = _ := (apush_ne (by have := hP.1; omega)).trans hP.2.1
  refine V_putF (pc' := 96) d_Md_init_93 ff_Md_42 rfl rfl (by first | assumption | exact aset_self _ _ _ | exact apush_self _ _) (by first | rfl | exact ob_nar _ | exact nar_rf _) (by first | rfl | exact ob_fit _ | exact fits_rf _) (by exact Nat.le_of_ble_eq_true rfl) ?_
  refine V_ex (fun z => PI h z m 11 _) (by first | exact PI_step hlt hP rfl) (fun g11 hP2 => ?_)
  rw [hP.1] at hP2
  clear hq
  replace hP := hP2
  clear hP2
  refine V_aload_n (pc' := 97) d_Md_init_96 rfl (by first | rfl | exact isR_rf _) rfl ?_
  refine V_bipush (pc' := 99) (v := 8) d_Md_init_97 (by decide) rfl ?_
  refine V_newl (pc' := 101) (i := 5) (N := 8) (ty := .int) d_Md_init_99 rfl (fun C q => by cases q) ac_int rfl rfl (by decide) (by decide) rfl (by first | decide | omega) (by first | decide | omega) ?_
  have hq : (apush g11 (50 + 5, List.replicate 8 (defaultValue .int))).2 m = _ := (apush_ne (by have := hP.1; omega)).trans hP.2.1
  refine V_putF (pc' := 104) d_Md_init_101 ff_Md_45 rfl rfl (by first | assumption | exact aset_self _ _ _ | exact apush_self _ _) (by first | rfl | exact ob_nar _ | exact nar_rf _) (by first | rfl | exact ob_fit _ | exact fits_rf _) (by exact Nat.le_of_ble_eq_true rfl) ?_
  refine V_ex (fun z => PI h z m 12 _) (by first | exact PI_step hlt hP rfl) (fun g12 hP2 => ?_)
  rw [hP.1] at hP2
  clear hq
  replace hP := hP2
  clear hP2
  refine V_aload_n (pc' := 105) d_Md_init_104 rfl (by first | rfl | exact isR_rf _) rfl ?_
  refine V_bipush (pc' := 107) (v := 8) d_Md_init_105 (by decide) rfl ?_
  refine V_newl (pc' := 109) (i := 5) (N := 8) (ty := .int) d_Md_init_107 rfl (fun C q => by cases q) ac_int rfl rfl (by decide) (by decide) rfl (by first | decide | omega) (by first | decide | omega) ?_
  have hq : (apush g12 (50 + 5, List.replicate 8 (defaultValue .int))).2 m = _ := (apush_ne (by have := hP.1; omega)).trans hP.2.1
  refine V_putF (pc' := 112) d_Md_init_109 ff_Md_48 rfl rfl (by first | assumption | exact aset_self _ _ _ | exact apush_self _ _) (by first | rfl | exact ob_nar _ | exact nar_rf _) (by first | rfl | exact ob_fit _ | exact fits_rf _) (by exact Nat.le_of_ble_eq_true rfl) ?_
  refine V_ex (fun z => PI h z m 13 _) (by first | exact PI_step hlt hP rfl) (fun g13 hP2 => ?_)
  rw [hP.1] at hP2
  clear hq
  replace hP := hP2
  clear hP2
  refine V_aload_n (pc' := 113) d_Md_init_112 rfl (by first | rfl | exact isR_rf _) rfl ?_
  refine V_bipush (pc' := 115) (v := 8) d_Md_init_113 (by decide) rfl ?_
  refine V_newl (pc' := 117) (i := 5) (N := 8) (ty := .int) d_Md_init_115 rfl (fun C q => by cases q) ac_int rfl rfl (by decide) (by decide) rfl (by first | decide | omega) (by first | decide | omega) ?_
  have hq : (apush g13 (50 + 5, List.replicate 8 (defaultValue .int))).2 m = _ := (apush_ne (by have := hP.1; omega)).trans hP.2.1
  refine V_putF (pc' := 120) d_Md_init_117 ff_Md_51 rfl rfl (by first | assumption | exact aset_self _ _ _ | exact apush_self _ _) (by first | rfl | exact ob_nar _ | exact nar_rf _) (by first | rfl | exact ob_fit _ | exact fits_rf _) (by exact Nat.le_of_ble_eq_true rfl) ?_
  refine V_ex (fun z => PI h z m 14 _) (by first | exact PI_step hlt hP rfl) (fun g14 hP2 => ?_)
  rw [hP.1] at hP2
  clear hq
  replace hP := hP2
  clear hP2
  refine V_aload_n (pc' := 121) d_Md_init_120 rfl (by first | rfl | exact isR_rf _) rfl ?_
  refine V_bipush (pc' := 123) (v := 8) d_Md_init_121 (by decide) rfl ?_
  refine V_newl (pc' := 125) (i := 4) (N := 8) (ty := .long) d_Md_init_123 rfl (fun C q => by cases q) ac_long rfl rfl (by decide) (by decide) rfl (by first | decide | omega) (by first | decide | omega) ?_
  have hq : (apush g14 (50 + 4, List.replicate 8 (defaultValue .long))).2 m = _ := (apush_ne (by have := hP.1; omega)).trans hP.2.1
  refine V_putF (pc' := 128) d_Md_init_125 ff_Md_54 rfl rfl (by first | assumption | exact aset_self _ _ _ | exact apush_self _ _) (by first | rfl | exact ob_nar _ | exact nar_rf _) (by first | rfl | exact ob_fit _ | exact fits_rf _) (by exact Nat.le_of_ble_eq_true rfl) ?_
  refine V_ex (fun z => PI h z m 15 _) (by first | exact PI_step hlt hP rfl) (fun g15 hP2 => ?_)
  rw [hP.1] at hP2
  clear hq
  replace hP := hP2
  clear hP2
  refine V_aload_n (pc' := 129) d_Md_init_128 rfl (by first | rfl | exact isR_rf _) rfl ?_
  refine V_bipush (pc' := 131) (v := 9) d_Md_init_129 (by decide) rfl ?_
  refine V_newl (pc' := 133) (i := 4) (N := 9) (ty := .long) d_Md_init_131 rfl (fun C q => by cases q) ac_long rfl rfl (by decide) (by decide) rfl (by first | decide | omega) (by first | decide | omega) ?_
  have hq : (apush g15 (50 + 4, List.replicate 9 (defaultValue .long))).2 m = _ := (apush_ne (by have := hP.1; omega)).trans hP.2.1
  refine V_putF (pc' := 136) d_Md_init_133 ff_Md_57 rfl rfl (by first | assumption | exact aset_self _ _ _ | exact apush_self _ _) (by first | rfl | exact ob_nar _ | exact nar_rf _) (by first | rfl | exact ob_fit _ | exact fits_rf _) (by exact Nat.le_of_ble_eq_true rfl) ?_
  refine V_ex (fun z => PI h z m 16 _) (by first | exact PI_step hlt hP rfl) (fun g16 hP2 => ?_)
  rw [hP.1] at hP2
  clear hq
  replace hP := hP2
  clear hP2
  refine V_vret d_Md_init_136 rfl (by first | decide | omega) (by first | decide | omega) ?_
  obtain ⟨p1, p2, p3, p4⟩ := hP
  refine ⟨rfl, ⟨p2, ?_⟩, p1, p4⟩
  have hz : ∀ (n : Nat) (v : Value), List.replicate n v = arv n (fun _ => v) := arv_rep
  refine ⟨(p3 0 _ (by decide) rfl).trans (by rw [hz]; rfl), (p3 1 _ (by decide) rfl).trans (by rw [hz]; rfl), (p3 2 _ (by decide) rfl).trans (by rw [hz]; rfl), (p3 3 _ (by decide) rfl).trans (by rw [hz]; rfl), (p3 4 _ (by decide) rfl).trans (by rw [hz]; rfl), (p3 5 _ (by decide) rfl).trans (by rw [hz]; rfl), (p3 6 _ (by decide) rfl).trans (by rw [hz]; rfl), (p3 7 _ (by decide) rfl).trans (by rw [hz]; rfl), (p3 8 _ (by decide) rfl).trans (by rw [hz]; rfl), (p3 9 _ (by decide) rfl).trans (by rw [hz]; rfl), (p3 10 _ (by decide) rfl).trans (by rw [hz]; rfl), (p3 11 _ (by decide) rfl).trans (by rw [hz]; rfl), (p3 12 _ (by decide) rfl).trans (by rw [hz]; rfl), (p3 13 _ (by decide) rfl).trans (by rw [hz]; rfl), (p3 14 _ (by decide) rfl).trans (by rw [hz]; rfl), (p3 15 _ (by decide) rfl).trans (by rw [hz]; rfl), fun i j e => pm_inj i j (by dsimp only at e; omega), fun i e => by dsimp only at e; omega⟩
end MI0
