-- the reference: fits, first
section M4
variable {x : CX} {h : AH} {m : Nat} {A : Nat → Nat} {S : PS}
theorem ob_nt {b : Bool} (c : ¬ ob b = 0) : b = true := by
  cases b
  · exact absurd rfl c
  · rfl
theorem c_Md_fits (hI : IM h m A S) (hw : RW S) {n : Nat} (hv : PV S n) {i : Nat} (hi : i < ssz S) {pos : Option Nat} (hpos : ∀ j, pos = some j → j < ssz S) : Cr x y_Md_fits b_Md_fits 7 (some .boolean) 3 [.ref m, .int (nI i), .int (nI n), .int (oI pos)] h (.int (ob (fit S i n pos))) := by
  obtain ⟨hm, h0, h1, h2, h3, h5, h6, h7, h8, h11, h12, h13, h15, h16, h17, h18, h20, -⟩ := id hI
  obtain ⟨w1, w2, w3, w4, w5⟩ := id hw
  have wl := hw.lo
  obtain ⟨v1, v2⟩ := id hv
  refine Ct_of (own := "PathCallsModel") (ini := false) rfl rfl (Nat.le_of_ble_eq_true rfl) (fun q => by cases q) ?_
  have loop : ∀ (c p : Nat), p + c = n → ∀ b : Bool, (b = true → fa S i pos p = true) → (b = false → fa S i pos n = false) → (n == 0 || sso S i == spk S (n - 1)) = true → ∀ k6 : List (Nat × Value), (k6 = [] ∨ ∃ z, k6 = [(6, .int z)]) → V x "PathCallsModel" b_Md_fits 7 (Option.some .boolean) false (rmd 3 0 0) 0 0 (fun r h' => r = some (.int (ob (fit S i n pos))) ∧ h = h') 29 ([(0, .ref m), (1, .int (nI i)), (2, .int (nI n)), (3, .int (oI pos)), (4, .int (ob b)), (5, .int (nI p))] ++ k6) [] h 0 0 := by
    intro c
    induction c with
    | zero =>
      intro p hp b hb1 hb2 hn k6 hk6
      refine V_L [(0, .ref m), (1, .int (nI i)), (2, .int (nI n)), (3, .int (oI pos)), (4, .int (ob b)), (5, .int (nI p))] ⟨rfl, rfl, rfl, rfl, rfl, rfl, trivial⟩ ?_
      refine V_iload (pc' := 31) d_Md_fits_29 rfl rfl ?_
      refine V_iload_n (pc' := 32) d_Md_fits_31 rfl rfl ?_
      refine V_icmp_ge (pc' := 35) (tgt := 176) d_Md_fits_32 (by decide) rfl (fun c32 => ?_) (fun c32 => ?_)
      · refine V_iload (pc' := 178) d_Md_fits_176 rfl rfl ?_
        refine V_zret d_Md_fits_178 rfl (by first | rfl | exact ob_nar _) (by first | decide | omega) (by first | decide | omega) ?_
        have e : p = n := by omega
        have : fit S i n pos = b := by
          unfold fit
          rw [hn]
          cases b
          · rw [hb2 rfl]; rfl
          · rw [← e, hb1 rfl]; rfl
        rw [this]; exact ⟨rfl, rfl⟩
      · exact absurd (nI_le (by omega) (by omega)) c32
    | succ c ih =>
      intro p hp b hb1 hb2 hn k6 hk6
      refine V_L [(0, .ref m), (1, .int (nI i)), (2, .int (nI n)), (3, .int (oI pos)), (4, .int (ob b)), (5, .int (nI p))] ⟨rfl, rfl, rfl, rfl, rfl, rfl, trivial⟩ ?_
      have hpn : p < n := by omega
      obtain ⟨p1, p2, p3, p4⟩ := v2 p hpn
      refine V_iload (pc' := 31) d_Md_fits_29 rfl rfl ?_
      refine V_iload_n (pc' := 32) d_Md_fits_31 rfl rfl ?_
      refine V_icmp_ge (pc' := 35) (tgt := 176) d_Md_fits_32 (by decide) rfl (fun c32 => ?_) (fun c32 => ?_)
      · exact absurd c32 (nI_ge hpn (by omega))
      · refine V_iload (pc' := 37) d_Md_fits_35 rfl rfl ?_
        refine V_if_eq (pc' := 40) (tgt := 176) d_Md_fits_37 (by decide) rfl (fun c37 => ?_) (fun c37 => ?_)
        · refine V_iload (pc' := 178) d_Md_fits_176 rfl rfl ?_
          refine V_zret d_Md_fits_178 rfl (by first | rfl | exact ob_nar _) (by first | decide | omega) (by first | decide | omega) ?_
          have : fit S i n pos = false := by unfold fit; rw [hb2 (ob_0.mp c37), Bool.and_false]
          rw [this, ob_0.mp c37]; exact ⟨rfl, rfl⟩
        · have hbt := ob_nt c37
          have hfp := hb1 hbt
          have hall : fp1 S i pos p = false → fa S i pos n = false := by
            intro q
            have h9 : ∀ d, fa S i pos (p + 1 + d) = false := by
              intro d
              induction d with
              | zero => rw [Nat.add_zero, fa, q, Bool.and_false]
              | succ d ihd => rw [← Nat.add_assoc, fa, ihd, Bool.false_and]
            have := h9 c
            rw [show p + 1 + c = n by omega] at this
            exact this
          have hl0 := w4 (spk S p) p1 p2
          have hl3 := w3 (spk S p) (by omega)
          refine V_aload_n (pc' := 41) d_Md_fits_40 rfl (by first | rfl | exact isR_rf _) rfl ?_
          refine V_iload_n (pc' := 42) d_Md_fits_41 rfl rfl ?_
          refine V_aload_n (pc' := 43) d_Md_fits_42 rfl (by first | rfl | exact isR_rf _) rfl ?_
          refine V_getf (pc' := 46) d_Md_fits_43 fl_Md_45 rfl (by first | assumption | exact aset_self _ _ _ | exact apush_self _ _) (by rfl) ?_
          refine V_iload (pc' := 48) d_Md_fits_46 rfl rfl ?_
          -- at 48 iaload
          refine V_iald (pc' := 49) d_Md_fits_48 rfl h15 rfl rfl (by omega) (arv_get (by omega)) ?_
          refine V_callV (pc' := 52) (As := [_, _]) (ci := 6) d_Md_fits_49 mv_Md_92 mw_Md_ofKind rfl rfl rfl (by simp [Value.category]) rfl (by first | assumption | exact aset_self _ _ _ | exact apush_self _ _) (c_Md_ofKind (o := some i) (kd := spk S p) hI w1 w2 wl (fun j hj => by cases hj; exact hi) (by omega) (by omega) hl0) (by first | decide | omega) (by first | decide | omega) (by first | decide | omega) (by first | decide | omega) ?_
          rintro _ _ ⟨rfl, rfl⟩
          have tail : ∀ (b2 : Bool) (z : Int32), b2 = fp1 S i pos p → V x "PathCallsModel" b_Md_fits 7 (Option.some .boolean) false (rmd 3 0 0) 0 0 (fun r h' => r = some (.int (ob (fit S i n pos))) ∧ h = h') 168 [(0, .ref m), (1, .int (nI i)), (2, .int (nI n)), (3, .int (oI pos)), (4, .int (ob false)), (5, .int (nI p)), (6, .int z)] [.int (ob b2)] h 0 0 := by
            intro b2 z hb2
            refine V_istore (pc' := 170) d_Md_fits_168 (by decide) rfl ?_
            first | refine V_iincN (pc' := 173) d_Md_fits_170 rfl (by decide) rfl ?_ | refine V_iinc (pc' := 173) d_Md_fits_170 rfl rfl (by decide) rfl ?_
            refine V_goto (tgt := 29) d_Md_fits_173 (by decide) ?_
            exact ih (p + 1) (by omega) b2 (fun q => by rw [fa, hfp, ← hb2, q]; rfl) (fun q => hall (by rw [← hb2, q])) hn _ (Or.inr ⟨z, rfl⟩)
          have tail2 : ∀ (b2 bb : Bool) (z : Int32), b2 = fp1 S i pos p → V x "PathCallsModel" b_Md_fits 7 (Option.some .boolean) false (rmd 3 0 0) 0 0 (fun r h' => r = some (.int (ob (fit S i n pos))) ∧ h = h') 168 [(0, .ref m), (1, .int (nI i)), (2, .int (nI n)), (3, .int (oI pos)), (4, .int (ob bb)), (5, .int (nI p)), (6, .int z)] [.int (ob b2)] h 0 0 := by
            intro b2 bb z hb2
            refine V_istore (pc' := 170) d_Md_fits_168 (by decide) rfl ?_
            first | refine V_iincN (pc' := 173) d_Md_fits_170 rfl (by decide) rfl ?_ | refine V_iinc (pc' := 173) d_Md_fits_170 rfl rfl (by decide) rfl ?_
            refine V_goto (tgt := 29) d_Md_fits_173 (by decide) ?_
            exact ih (p + 1) (by omega) b2 (fun q => by rw [fa, hfp, ← hb2, q]; rfl) (fun q => hall (by rw [← hb2, q])) hn _ (Or.inr ⟨z, rfl⟩)
          have bad : ∀ (z : Int32), fp1 S i pos p = false → V x "PathCallsModel" b_Md_fits 7 (Option.some .boolean) false (rmd 3 0 0) 0 0 (fun r h' => r = some (.int (ob (fit S i n pos))) ∧ h = h') 92 [(0, .ref m), (1, .int (nI i)), (2, .int (nI n)), (3, .int (oI pos)), (4, .int (ob b)), (5, .int (nI p)), (6, .int z)] [.int (ob false)] h 0 0 := by
            intro z hf
            refine V_istore (pc' := 94) d_Md_fits_92 (by decide) rfl ?_
            refine V_iload (pc' := 96) d_Md_fits_94 rfl rfl ?_
            refine V_if_eq (pc' := 99) (tgt := 126) d_Md_fits_96 (by decide) rfl (fun c96 => ?_) (fun c96 => ?_)
            · refine V_iconst (pc' := 127) (v := 0) d_Md_fits_126 (by decide) rfl ?_
              refine V_istore (pc' := 129) d_Md_fits_127 (by decide) rfl ?_
              refine V_iload (pc' := 131) d_Md_fits_129 rfl rfl ?_
              refine V_if_eq (pc' := 134) (tgt := 167) d_Md_fits_131 (by decide) rfl (fun c131 => ?_) (fun c131 => ?_)
              · refine V_iconst (pc' := 168) (v := 0) d_Md_fits_167 (by decide) rfl ?_
                exact tail2 false false z hf.symm
              · exact absurd rfl c131
            · exact absurd rfl c96
          have bad2 : ∀ (z : Int32), fp1 S i pos p = false → V x "PathCallsModel" b_Md_fits 7 (Option.some .boolean) false (rmd 3 0 0) 0 0 (fun r h' => r = some (.int (ob (fit S i n pos))) ∧ h = h') 127 [(0, .ref m), (1, .int (nI i)), (2, .int (nI n)), (3, .int (oI pos)), (4, .int (ob true)), (5, .int (nI p)), (6, .int z)] [.int (ob false)] h 0 0 := by
            intro z hf
            refine V_istore (pc' := 129) d_Md_fits_127 (by decide) rfl ?_
            refine V_iload (pc' := 131) d_Md_fits_129 rfl rfl ?_
            refine V_if_eq (pc' := 134) (tgt := 167) d_Md_fits_131 (by decide) rfl (fun c131 => ?_) (fun c131 => ?_)
            · refine V_iconst (pc' := 168) (v := 0) d_Md_fits_167 (by decide) rfl ?_
              exact tail2 false false z hf.symm
            · exact absurd rfl c131
          cases ek : okd S (some i) (spk S p) with
          | none =>
            have hf : fp1 S i pos p = false := by unfold fp1; rw [ek]
            refine V_istore (pc' := 54) d_Md_fits_52 (by decide) rfl ?_
            refine V_iload (pc' := 56) d_Md_fits_54 rfl rfl ?_
            refine V_iconst (pc' := 57) (v := (-1)) d_Md_fits_56 (by decide) rfl ?_
            refine V_icmp_eq (pc' := 60) (tgt := 91) d_Md_fits_57 (by decide) rfl (fun c57 => ?_) (fun c57 => ?_)
            · refine V_iconst (pc' := 92) (v := 0) d_Md_fits_91 (by decide) rfl ?_
              exact bad _ hf
            · exact absurd rfl c57
          | some k =>
            obtain ⟨k1, k2, k3, k4⟩ := okd_lt ek
            have hkz : k < ssz S := by omega
            refine V_istore (pc' := 54) d_Md_fits_52 (by decide) rfl ?_
            refine V_iload (pc' := 56) d_Md_fits_54 rfl rfl ?_
            refine V_iconst (pc' := 57) (v := (-1)) d_Md_fits_56 (by decide) rfl ?_
            refine V_icmp_eq (pc' := 60) (tgt := 91) d_Md_fits_57 (by decide) rfl (fun c57 => ?_) (fun c57 => ?_)
            · exact absurd c57 (nI_m1 (by omega))
            · refine V_aload_n (pc' := 61) d_Md_fits_60 rfl (by first | rfl | exact isR_rf _) rfl ?_
              refine V_getf (pc' := 64) d_Md_fits_61 fl_Md_48 rfl (by first | assumption | exact aset_self _ _ _ | exact apush_self _ _) (by rfl) ?_
              refine V_iload (pc' := 66) d_Md_fits_64 rfl rfl ?_
              -- at 66 iaload
              refine V_iald (pc' := 67) d_Md_fits_66 rfl h16 rfl rfl (by omega) (arv_get (by omega)) ?_
              refine V_aload_n (pc' := 68) d_Md_fits_67 rfl (by first | rfl | exact isR_rf _) rfl ?_
              refine V_getf (pc' := 71) d_Md_fits_68 fl_Md_29 rfl (by first | assumption | exact aset_self _ _ _ | exact apush_self _ _) (by rfl) ?_
              refine V_iload (pc' := 73) d_Md_fits_71 rfl rfl ?_
              -- at 73 laload
              refine V_lald (pc' := 74) d_Md_fits_73 rfl h7 rfl rfl (by omega) (arv_get (by omega)) ?_
              refine V_aload_n (pc' := 75) d_Md_fits_74 rfl (by first | rfl | exact isR_rf _) rfl ?_
              refine V_getf (pc' := 78) d_Md_fits_75 fl_Md_54 rfl (by first | assumption | exact aset_self _ _ _ | exact apush_self _ _) (by rfl) ?_
              refine V_iload (pc' := 80) d_Md_fits_78 rfl rfl ?_
              -- at 80 laload
              refine V_lald (pc' := 81) d_Md_fits_80 rfl h18 rfl rfl (by omega) (arv_get (by omega)) ?_
              refine V_callS (pc' := 84) (As := [_, _, _]) d_Md_fits_81 ms_Md_88 mw_Md_relates rfl rfl rfl (by simp [Value.category]) (c_Md_relates (by omega)) (by first | decide | omega) (by first | decide | omega) (by first | decide | omega) (by first | decide | omega) ?_
              rintro _ _ ⟨rfl, rfl⟩
              refine V_if_eq (pc' := 87) (tgt := 91) d_Md_fits_84 (by decide) rfl (fun c84 => ?_) (fun c84 => ?_)
              · refine V_iconst (pc' := 92) (v := 0) d_Md_fits_91 (by decide) rfl ?_
                exact bad _ (by unfold fp1; rw [ek]; dsimp only; rw [ob_0.mp c84]; rfl)
              · have hr := ob_nt c84
                refine V_iconst (pc' := 88) (v := 1) d_Md_fits_87 (by decide) rfl ?_
                refine V_goto (tgt := 92) d_Md_fits_88 (by decide) ?_
                refine V_istore (pc' := 94) d_Md_fits_92 (by decide) rfl ?_
                refine V_iload (pc' := 96) d_Md_fits_94 rfl rfl ?_
                refine V_if_eq (pc' := 99) (tgt := 126) d_Md_fits_96 (by decide) rfl (fun c96 => ?_) (fun c96 => ?_)
                · exact absurd c96 (by decide)
                · have mid : ∀ z : Int32, z = nI k → fp1 S i pos p = (!(cb (scd S p) 2) || decide (okd S pos (spk S p) = some k)) → V x "PathCallsModel" b_Md_fits 7 (Option.some .boolean) false (rmd 3 0 0) 0 0 (fun r h' => r = some (.int (ob (fit S i n pos))) ∧ h = h') 127 [(0, .ref m), (1, .int (nI i)), (2, .int (nI n)), (3, .int (oI pos)), (4, .int (ob true)), (5, .int (nI p)), (6, .int z)] [.int (ob true)] h 0 0 := by
                    intro z hz hf
                    subst hz
                    refine V_istore (pc' := 129) d_Md_fits_127 (by decide) rfl ?_
                    refine V_iload (pc' := 131) d_Md_fits_129 rfl rfl ?_
                    refine V_if_eq (pc' := 134) (tgt := 167) d_Md_fits_131 (by decide) rfl (fun c131 => ?_) (fun c131 => ?_)
                    · exact absurd c131 (by decide)
                    · refine V_aload_n (pc' := 135) d_Md_fits_134 rfl (by first | rfl | exact isR_rf _) rfl ?_
                      refine V_getf (pc' := 138) d_Md_fits_135 fl_Md_51 rfl (by first | assumption | exact aset_self _ _ _ | exact apush_self _ _) (by rfl) ?_
                      refine V_iload (pc' := 140) d_Md_fits_138 rfl rfl ?_
                      -- at 140 iaload
                      refine V_iald (pc' := 141) d_Md_fits_140 rfl h17 rfl rfl (by omega) (arv_get (by omega)) ?_
                      refine V_iconst (pc' := 142) (v := 2) d_Md_fits_141 (by decide) rfl ?_
                      refine V_iand (pc' := 143) d_Md_fits_142 rfl ?_
                      refine V_if_eq (pc' := 146) (tgt := 163) d_Md_fits_143 (by decide) rfl (fun c143 => ?_) (fun c143 => ?_)
                      · refine V_iconst (pc' := 164) (v := 1) d_Md_fits_163 (by decide) rfl ?_
                        refine V_goto (tgt := 168) d_Md_fits_164 (by decide) ?_
                        refine tail2 true true _ ?_
                        rw [hf, (cb_z _ _).mp c143]; rfl
                      · have hcb : cb (scd S p) 2 = true := by
                          cases e : cb (scd S p) 2
                          · exact absurd ((cb_z _ _).mpr e) c143
                          · rfl
                        refine V_aload_n (pc' := 147) d_Md_fits_146 rfl (by first | rfl | exact isR_rf _) rfl ?_
                        refine V_iload_n (pc' := 148) d_Md_fits_147 rfl rfl ?_
                        refine V_aload_n (pc' := 149) d_Md_fits_148 rfl (by first | rfl | exact isR_rf _) rfl ?_
                        refine V_getf (pc' := 152) d_Md_fits_149 fl_Md_45 rfl (by first | assumption | exact aset_self _ _ _ | exact apush_self _ _) (by rfl) ?_
                        refine V_iload (pc' := 154) d_Md_fits_152 rfl rfl ?_
                        -- at 154 iaload
                        refine V_iald (pc' := 155) d_Md_fits_154 rfl h15 rfl rfl (by omega) (arv_get (by omega)) ?_
                        refine V_callV (pc' := 158) (As := [_, _]) (ci := 6) d_Md_fits_155 mv_Md_92 mw_Md_ofKind rfl rfl rfl (by simp [Value.category]) rfl (by first | assumption | exact aset_self _ _ _ | exact apush_self _ _) (c_Md_ofKind (o := pos) (kd := spk S p) hI w1 w2 wl hpos (by omega) (by omega) hl0) (by first | decide | omega) (by first | decide | omega) (by first | decide | omega) (by first | decide | omega) ?_
                        rintro _ _ ⟨rfl, rfl⟩
                        have hpk : ∀ j, okd S pos (spk S p) = some j → j < ssz S := by
                          intro j hj
                          cases pos with
                          | none => cases hj
                          | some jj =>
                            have := (okd_lt hj).1
                            have := hpos jj rfl
                            omega
                        refine V_iload (pc' := 160) d_Md_fits_158 rfl rfl ?_
                        refine V_icmp_ne (pc' := 163) (tgt := 167) d_Md_fits_160 (by decide) rfl (fun c160 => ?_) (fun c160 => ?_)
                        · refine V_iconst (pc' := 168) (v := 0) d_Md_fits_167 (by decide) rfl ?_
                          refine tail2 false true _ ?_
                          have : ¬ okd S pos (spk S p) = some k := fun q => c160 (by rw [q]; rfl)
                          rw [hf, hcb, decide_eq_false this]; rfl
                        · refine V_iconst (pc' := 164) (v := 1) d_Md_fits_163 (by decide) rfl ?_
                          refine V_goto (tgt := 168) d_Md_fits_164 (by decide) ?_
                          refine tail2 true true _ ?_
                          have : okd S pos (spk S p) = some k := by
                            cases e : okd S pos (spk S p) with
                            | none => rw [e] at c160; exact absurd c160.symm (nI_m1 (by omega))
                            | some j =>
                              rw [e] at c160
                              have := hpk j e
                              rw [(nI_eq (by omega) (by omega)).mp c160]
                          rw [hf, hcb, decide_eq_true this]; rfl
                  refine V_aload_n (pc' := 100) d_Md_fits_99 rfl (by first | rfl | exact isR_rf _) rfl ?_
                  refine V_getf (pc' := 103) d_Md_fits_100 fl_Md_51 rfl (by first | assumption | exact aset_self _ _ _ | exact apush_self _ _) (by rfl) ?_
                  refine V_iload (pc' := 105) d_Md_fits_103 rfl rfl ?_
                  -- at 105 iaload
                  refine V_iald (pc' := 106) d_Md_fits_105 rfl h17 rfl rfl (by omega) (arv_get (by omega)) ?_
                  refine V_iconst (pc' := 107) (v := 1) d_Md_fits_106 (by decide) rfl ?_
                  refine V_iand (pc' := 108) d_Md_fits_107 rfl ?_
                  refine V_if_eq (pc' := 111) (tgt := 122) d_Md_fits_108 (by decide) rfl (fun c108 => ?_) (fun c108 => ?_)
                  · refine V_iconst (pc' := 123) (v := 1) d_Md_fits_122 (by decide) rfl ?_
                    refine V_goto (tgt := 127) d_Md_fits_123 (by decide) ?_
                    refine mid _ rfl ?_
                    unfold fp1
                    rw [ek]
                    dsimp only
                    rw [hr, (cb_z _ _).mp c108]
                    simp
                  · have hcb : cb (scd S p) 1 = true := by
                      cases e : cb (scd S p) 1
                      · exact absurd ((cb_z _ _).mpr e) c108
                      · rfl
                    refine V_aload_n (pc' := 112) d_Md_fits_111 rfl (by first | rfl | exact isR_rf _) rfl ?_
                    refine V_iload (pc' := 114) d_Md_fits_112 rfl rfl ?_
                    refine V_iload (pc' := 116) d_Md_fits_114 rfl rfl ?_
                    -- at 116 invokevirtual
                    refine V_callV (pc' := 119) (As := [_, _]) (ci := 6) d_Md_fits_116 mv_Md_95 mw_Md_hasLater rfl rfl rfl (by simp [Value.category]) rfl (by first | assumption | exact aset_self _ _ _ | exact apush_self _ _) (c_Md_hasLater hI hw hv hkz hpn) (by first | decide | omega) (by first | decide | omega) (by first | decide | omega) (by first | decide | omega) ?_
                    rintro _ _ ⟨rfl, rfl⟩
                    refine V_if_ne (pc' := 122) (tgt := 126) d_Md_fits_119 (by decide) rfl (fun c119 => ?_) (fun c119 => ?_)
                    · refine V_iconst (pc' := 127) (v := 0) d_Md_fits_126 (by decide) rfl ?_
                      refine bad2 _ ?_
                      unfold fp1
                      rw [ek]
                      dsimp only
                      rw [hr, hcb, ob_nt c119]
                      simp
                    · refine V_iconst (pc' := 123) (v := 1) d_Md_fits_122 (by decide) rfl ?_
                      refine V_goto (tgt := 127) d_Md_fits_123 (by decide) ?_
                      refine mid _ rfl ?_
                      unfold fp1
                      rw [ek]
                      dsimp only
                      rw [hr, hcb, ob_0.mp c119]
                      simp
  have start : (n == 0 || sso S i == spk S (n - 1)) = true → V x "PathCallsModel" b_Md_fits 7 (Option.some .boolean) false (rmd 3 0 0) 0 0 (fun r h' => r = some (.int (ob (fit S i n pos))) ∧ h = h') 23 [(0, .ref m), (1, .int (nI i)), (2, .int (nI n)), (3, .int (oI pos))] [] h 0 0 := by
    intro hn
    refine V_iconst (pc' := 24) (v := 1) d_Md_fits_23 (by decide) rfl ?_
    refine V_istore (pc' := 26) d_Md_fits_24 (by decide) rfl ?_
    refine V_iconst (pc' := 27) (v := 0) d_Md_fits_26 (by decide) rfl ?_
    refine V_istore (pc' := 29) d_Md_fits_27 (by decide) rfl ?_
    exact loop n 0 (by omega) true (fun _ => rfl) (fun q => by cases q) hn [] (Or.inl rfl)
  refine V_iload_n (pc' := 1) d_Md_fits_0 rfl rfl ?_
  refine V_if_le (pc' := 4) (tgt := 23) d_Md_fits_1 (by decide) rfl (fun c1 => ?_) (fun c1 => ?_)
  · have e : n = 0 := by
      rcases Nat.eq_zero_or_pos n with q | q
      · exact q
      · exact absurd (nI_lt (a := 0) (b := n) q (by omega)) (Int32.not_lt.mpr c1)
    exact start (by rw [e]; rfl)
  · have hn1 : 1 ≤ n := by
      rcases Nat.eq_zero_or_pos n with q | q
      · rw [q] at c1; exact absurd (Int32.le_refl _) c1
      · exact q
    obtain ⟨q1, q2, q3, q4⟩ := v2 (n - 1) (by omega)
    have e3 := w2 i hi
    refine V_aload_n (pc' := 5) d_Md_fits_4 rfl (by first | rfl | exact isR_rf _) rfl ?_
    refine V_getf (pc' := 8) d_Md_fits_5 fl_Md_26 rfl (by first | assumption | exact aset_self _ _ _ | exact apush_self _ _) (by rfl) ?_
    refine V_iload_n (pc' := 9) d_Md_fits_8 rfl rfl ?_
    -- at 9 iaload
    refine V_iald (pc' := 10) d_Md_fits_9 rfl h6 rfl rfl (by omega) (arv_get (by omega)) ?_
    refine V_aload_n (pc' := 11) d_Md_fits_10 rfl (by first | rfl | exact isR_rf _) rfl ?_
    refine V_getf (pc' := 14) d_Md_fits_11 fl_Md_45 rfl (by first | assumption | exact aset_self _ _ _ | exact apush_self _ _) (by rfl) ?_
    refine V_iload_n (pc' := 15) d_Md_fits_14 rfl rfl ?_
    refine V_iconst (pc' := 16) (v := 1) d_Md_fits_15 (by decide) rfl ?_
    refine V_isub (pc' := 17) d_Md_fits_16 rfl ?_
    -- at 17 iaload
    refine V_iald (pc' := 18) d_Md_fits_17 rfl h15 rfl (pk_sub (a := n) (b := 1) hn1) (by omega) (arv_get (by omega)) ?_
    refine V_icmp_eq (pc' := 21) (tgt := 23) d_Md_fits_18 (by decide) rfl (fun c18 => ?_) (fun c18 => ?_)
    · have e : sso S i = spk S (n - 1) := (nI_eq (by omega) (by omega)).mp c18
      exact start (by rw [e]; simp)
    · refine V_iconst (pc' := 22) (v := 0) d_Md_fits_21 (by decide) rfl ?_
      refine V_zret d_Md_fits_22 rfl (by first | rfl | exact ob_nar _) (by first | decide | omega) (by first | decide | omega) ?_
      have e : ¬ sso S i = spk S (n - 1) := fun q => c18 (by rw [q])
      have : fit S i n pos = false := by
        unfold fit
        have z1 : (n == 0) = false := by simp; omega
        have z2 : (sso S i == spk S (n - 1)) = false := by simp [e]
        rw [z1, z2]; rfl
      rw [this]; exact ⟨rfl, rfl⟩
theorem c_Md_first (hI : IM h m A S) (hw : RW S) {n : Nat} (hv : PV S n) {a b : Nat} (ha : a ≤ 1001) (hb : b ≤ ssz S) {pos : Option Nat} (hpos : ∀ j, pos = some j → j < ssz S) : Cr x y_Md_first b_Md_first 6 (some .int) 4 [.ref m, .int (nI a), .int (nI b), .int (nI n), .int (oI pos)] h (.int (oI (frst S a b n pos))) := by
  obtain ⟨hm, -⟩ := id hI
  have w1 := hw.1
  refine Ct_of (own := "PathCallsModel") (ini := false) rfl rfl (Nat.le_of_ble_eq_true rfl) (fun q => by cases q) ?_
  have loop : ∀ (c i : Nat), b - i = c → i ≤ 1001 → frst S a b n pos = fs1 (fun i => fit S i n pos) c i → V x "PathCallsModel" b_Md_first 6 (Option.some .int) false (rmd 4 0 0) 0 0 (fun r h' => r = some (.int (oI (frst S a b n pos))) ∧ h = h') 3 [(0, .ref m), (1, .int (nI a)), (2, .int (nI b)), (3, .int (nI n)), (4, .int (oI pos)), (5, .int (nI i))] [] h 0 0 := by
    intro c
    induction c with
    | zero =>
      intro i hi hi2 he
      refine V_iload (pc' := 5) d_Md_first_3 rfl rfl ?_
      refine V_iload_n (pc' := 6) d_Md_first_5 rfl rfl ?_
      refine V_icmp_ge (pc' := 9) (tgt := 30) d_Md_first_6 (by decide) rfl (fun c6 => ?_) (fun c6 => ?_)
      · refine V_iconst (pc' := 31) (v := (-1)) d_Md_first_30 (by decide) rfl ?_
        refine V_iret d_Md_first_31 rfl (by first | decide | omega) (by first | decide | omega) ?_
        rw [he]; exact ⟨rfl, rfl⟩
      · exact absurd (nI_le (by omega) (by omega)) c6
    | succ c ih =>
      intro i hi hi2 he
      refine V_iload (pc' := 5) d_Md_first_3 rfl rfl ?_
      refine V_iload_n (pc' := 6) d_Md_first_5 rfl rfl ?_
      refine V_icmp_ge (pc' := 9) (tgt := 30) d_Md_first_6 (by decide) rfl (fun c6 => ?_) (fun c6 => ?_)
      · exact absurd c6 (nI_ge (by omega) (by omega))
      · refine V_aload_n (pc' := 10) d_Md_first_9 rfl (by first | rfl | exact isR_rf _) rfl ?_
        refine V_iload (pc' := 12) d_Md_first_10 rfl rfl ?_
        refine V_iload_n (pc' := 13) d_Md_first_12 rfl rfl ?_
        refine V_iload (pc' := 15) d_Md_first_13 rfl rfl ?_
        -- at 15 invokevirtual
        refine V_callV (pc' := 18) (As := [_, _, _]) (ci := 6) d_Md_first_15 mv_Md_102 mw_Md_fits rfl rfl rfl (by simp [Value.category]) rfl (by first | assumption | exact aset_self _ _ _ | exact apush_self _ _) (c_Md_fits hI hw hv (i := i) (by omega) hpos) (by first | decide | omega) (by first | decide | omega) (by first | decide | omega) (by first | decide | omega) ?_
        rintro _ _ ⟨rfl, rfl⟩
        refine V_if_eq (pc' := 21) (tgt := 24) d_Md_first_18 (by decide) rfl (fun c18 => ?_) (fun c18 => ?_)
        · first | refine V_iincN (pc' := 27) d_Md_first_24 rfl (by decide) rfl ?_ | refine V_iinc (pc' := 27) d_Md_first_24 rfl rfl (by decide) rfl ?_
          refine V_goto (tgt := 3) d_Md_first_27 (by decide) ?_
          refine V_L [(0, .ref m), (1, .int (nI a)), (2, .int (nI b)), (3, .int (nI n)), (4, .int (oI pos)), (5, .int (nI (i + 1)))] ⟨rfl, rfl, rfl, rfl, rfl, rfl, trivial⟩ ?_
          refine ih (i + 1) (by omega) (by omega) ?_
          rw [he, fs1, if_neg (by rw [ob_0.mp c18]; decide)]
        · refine V_iload (pc' := 23) d_Md_first_21 rfl rfl ?_
          refine V_iret d_Md_first_23 rfl (by first | decide | omega) (by first | decide | omega) ?_
          rw [he, fs1, if_pos (ob_nt c18)]; exact ⟨rfl, rfl⟩
  refine V_iload_n (pc' := 1) d_Md_first_0 rfl rfl ?_
  refine V_istore (pc' := 3) d_Md_first_1 (by decide) rfl ?_
  exact loop (b - a) a rfl ha rfl
end M4
