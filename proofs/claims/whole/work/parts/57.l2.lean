-- the law: its loop (by wip/whole/gl.py)
section L2
variable {x : CX}
set_option maxHeartbeats 40000000 in
theorem law_loop (hL : cxn x ≤ 3072) {o m a : Nat} : ∀ (f c : Nat), cxn x + 6 ≤ 6 * c + 6 * f → 6 * c ≤ cxn x → ∀ (h : AH) (B : XB) (S : PS) (k n : Nat), INV h o m a B S c → k ≤ 32 + c → n ≤ 4919 + 5 * c → V x "PathCallsLaw" code 4 (Option.some .boolean) false room_1 600000 7302250 (fun r h' => r = some (.int 1)) 18 [(0, .ref (cxs x)), (1, .ref o), (2, .ref m), (3, .int (nI (6 * c)))] [] h k n := by
  have hRc : room_1.cells = 600000 := rfl
  have hRs : room_1.slots = 7302250 := rfl
  intro f
  induction f with
  | zero => intro c h1 h2; omega
  | succ f ih =>
    intro c h1 h2 h B S k n hI hk0 hn0
    refine V_hok (fun hh => ?_)
    have hc : c ≤ 512 := by omega
    have hW := hI.2.2.1
    have ho := hI.1.1
    have hm := hI.2.1.1
    have hwx := hW.wx hc
    have hrw := hW.rw hc
    have hvw := hW.vw hc
    have hpv := hW.pv
    have hhd := hW.hold
    have h21 := hW.sab21
    have hru := hW.ru
    have hSo := hW.2.1.2.2.1
    have hk := hW.1.1
    have hp := hW.2.2.2.1.1
    have hsv := hW.2.2.1.1
    have hpk : ∀ p, p < 8 → spk S p ≤ skc S := fun p hp => (hW.2.2.2.1.2.1 p hp).1
    have hvz : svc S < 9 → spo S (svc S + 1) = 0 ∧ spr S (svc S + 1) = 0 ∧ shd S (svc S + 1) = false := fun _ => hW.2.2.1.2.2 _ (Or.inr (Nat.lt_succ_self _))
    have hl8 : ∀ k, k ≤ skc S → slv S k ≤ 8 := fun k hk2 => hrw.2.2.1 k (by omega)
    have hso : ∀ i, i < ssz S → 1 ≤ sso S i ∧ sso S i ≤ skc S := hwx.2.2.2.1
    have hab : ∀ k, 1 ≤ k → k ≤ skc S → sab S k ≤ skc S := fun k a1 a2 => by have := (hW.1.2.1 k a1 a2).2.2.1; omega
    have hru1 : ∀ k, 1 ≤ k → k ≤ skc S → sru S k ≤ 2 := fun k _ a2 => hru k a2
    have hlv : ∀ k, 1 ≤ k → k ≤ skc S → slv S k = if sab S k = 0 then 1 else slv S (sab S k) + 1 := fun k a1 a2 => (hW.1.2.1 k a1 a2).2.2.2.2
    have hnd : ∀ i, i < ssz S → snm S i ≤ snd S := fun i hi => (hW.2.1.2.2.2 i hi).2.2
    have hz9 : ssz S ≤ 900 := by have := hwx.2.2.2.2.2.2.1; omega
    have hn9 : snd S ≤ 900 := by have := hW.2.2.2.2.1; omega
    have next : ∀ (g : AH) (B2 : XB) (T : PS) (k2 n2 : Nat), INV g o m a B2 T (c + 1) → k2 ≤ 33 + c → n2 ≤ 4924 + 5 * c → 6 * c + 6 ≤ cxn x → V x "PathCallsLaw" code 4 (Option.some .boolean) false room_1 600000 7302250 (fun r h' => r = some (.int 1)) 653 [(0, .ref (cxs x)), (1, .ref o), (2, .ref m), (3, .int (nI (6 * c)))] [] g k2 n2 := by
      intro g B2 T k2 n2 hI2 hk2 hn2 h6
      refine V_iinc (pc' := 656) d_Lw_law_653 rfl rfl (by decide) rfl ?_
      first | refine V_L [(0, _), (1, _), (2, _), (3, _)] ⟨rfl, rfl, rfl, rfl, trivial⟩ ?_ | (refine V_keep (by intro q hq e; simp only [List.mem_cons, List.not_mem_nil, or_false] at hq; rcases hq with rfl | rfl | rfl | rfl <;> first | rfl | exact va_rf_cat _ | exact absurd e (by first | decide | simp)) ?_; refine V_L [(0, _), (1, _), (2, _), (3, _)] ⟨rfl, rfl, rfl, rfl, trivial⟩ ?_)
      refine V_goto (tgt := 18) d_Lw_law_656 (by decide) ?_
      refine V_L [(0, .ref (cxs x)), (1, .ref o), (2, .ref m), (3, .int (nI (6 * (c + 1))))] ⟨rfl, rfl, rfl, (by show some (Value.int (nI (6 * c) + Int32.ofInt 6)) = _; rw [show Int32.ofInt 6 = nI 6 from rfl, nI_k]; rfl), trivial⟩ ?_
      exact ih (c + 1) (by omega) (by omega) g B2 T k2 n2 hI2 (by omega) (by omega)
    refine V_iload_n (pc' := 19) d_Lw_law_18 rfl rfl ?_
    refine V_aload_n (pc' := 20) d_Lw_law_19 rfl (by first | rfl | exact isR_rf _) rfl ?_
    refine V_slen (pc' := 21) d_Lw_law_20 rfl ?_
    by_cases h6 : 6 ≤ cxn x
    · refine V_bipush (pc' := 23) (v := 6) d_Lw_law_21 (by decide) rfl ?_
      refine V_isub (pc' := 24) d_Lw_law_23 rfl ?_
      rw [show nI (cxn x) - 6 = nI (cxn x - 6) from pk_sub (a := cxn x) (b := 6) h6]
      refine V_icmp_gt (pc' := 27) (tgt := 659) d_Lw_law_24 (by decide) rfl (fun c24 => ?_) (fun c24 => ?_)
      · refine V_iconst (pc' := 660) (v := 1) d_Lw_law_659 (by decide) rfl ?_
        refine V_zret d_Lw_law_660 rfl (by first | rfl | exact ob_nar _) (by first | decide | omega) (by first | decide | omega) ?_
        rfl
      · have h7 : 6 * c + 6 ≤ cxn x := by
          rcases Nat.lt_or_ge (cxn x - 6) (6 * c) with z | z
          · exact absurd (nI_lt z (by omega)) c24
          · omega
        replace next := fun (g : AH) (B2 : XB) (T : PS) (k2 n2 : Nat) hI2 hk2 hn2 => next g B2 T k2 n2 hI2 hk2 hn2 h7
        refine V_aload_n (pc' := 28) d_Lw_law_27 rfl (by first | rfl | exact isR_rf _) rfl ?_
        refine V_iload_n (pc' := 29) d_Lw_law_28 rfl rfl ?_
        refine V_sld (pc' := 30) d_Lw_law_29 rfl rfl (by omega) (by omega) ?_
        refine V_bipush (pc' := 32) (v := 15) d_Lw_law_30 (by decide) rfl ?_
        refine V_iand (pc' := 33) d_Lw_law_32 rfl ?_
        generalize (cxx x (6 * c) &&& 15) = w
        cases ew : kz 13 w with
        | none =>
          refine V_tableOut (tgt := 653) d_Lw_law_33 ?_ (by decide) ?_
          · rcases kz_none.mp ew with q | q
            · exact Or.inl (Int32.lt_iff_toInt_lt.mp q)
            · exact Or.inr (Int32.lt_iff_toInt_lt.mp q)
          exact next h B S _ _ (INV_up hI) (by omega) (by omega)
        | some oo =>
          obtain ⟨f1, f2⟩ := kz_some (by omega) ew
          subst f1
          rcases (show oo = 0 ∨ oo = 1 ∨ oo = 2 ∨ oo = 3 ∨ oo = 4 ∨ oo = 5 ∨ oo = 6 ∨ oo = 7 ∨ oo = 8 ∨ oo = 9 ∨ oo = 10 ∨ oo = 11 ∨ oo = 12 ∨ oo = 13 by omega) with rfl | rfl | rfl | rfl | rfl | rfl | rfl | rfl | rfl | rfl | rfl | rfl | rfl | rfl
          · refine V_tableIn (off := 71) (tgt := 104) d_Lw_law_33 (by decide) (by decide) rfl (by decide) ?_
            refine V_aload_n (pc' := 105) d_Lw_law_104 rfl (by first | rfl | exact isR_rf _) rfl ?_
            refine V_aload_n (pc' := 106) d_Lw_law_105 rfl (by first | rfl | exact isR_rf _) rfl ?_
            refine V_iload_n (pc' := 107) d_Lw_law_106 rfl rfl ?_
            refine V_iconst (pc' := 108) (v := 1) d_Lw_law_107 (by decide) rfl ?_
            refine V_iadd (pc' := 109) d_Lw_law_108 rfl ?_
            refine V_sld (pc' := 110) d_Lw_law_109 rfl (nI_k _ 1) (by omega) (by omega) ?_
            refine V_aload_n (pc' := 111) d_Lw_law_110 rfl (by first | rfl | exact isR_rf _) rfl ?_
            refine V_iload_n (pc' := 112) d_Lw_law_111 rfl rfl ?_
            refine V_iconst (pc' := 113) (v := 2) d_Lw_law_112 (by decide) rfl ?_
            refine V_iadd (pc' := 114) d_Lw_law_113 rfl ?_
            refine V_sld (pc' := 115) d_Lw_law_114 rfl (nI_k _ 2) (by omega) (by omega) ?_
            refine V_if_eq (pc' := 118) (tgt := 122) d_Lw_law_115 (by decide) rfl (fun c115 => ?_) (fun c115 => ?_)
            · refine V_iconst (pc' := 123) (v := 0) d_Lw_law_122 (by decide) rfl ?_
              refine V_callV (pc' := 126) (As := [_, _]) (ci := 0) d_Lw_law_123 mv_Lw_13 mw_PC_kind rfl rfl rfl (by simp [Value.category]) rfl (by first | assumption | exact aset_self _ _ _ | exact apush_self _ _) (c_PC_kind hI.1 hh hwx hpk _ false) (by first | decide | omega) (by first | decide | omega) (by first | decide | omega) (by first | decide | omega) ?_
              rintro _ g ⟨rfl, B2, hJ⟩
              have hM := INV_mid hI hJ
              have hm2 := hM.1
              refine V_aload_n (pc' := 127) d_Lw_law_126 rfl (by first | rfl | exact isR_rf _) rfl ?_
              refine V_aload_n (pc' := 128) d_Lw_law_127 rfl (by first | rfl | exact isR_rf _) rfl ?_
              refine V_iload_n (pc' := 129) d_Lw_law_128 rfl rfl ?_
              refine V_iconst (pc' := 130) (v := 1) d_Lw_law_129 (by decide) rfl ?_
              refine V_iadd (pc' := 131) d_Lw_law_130 rfl ?_
              refine V_sld (pc' := 132) d_Lw_law_131 rfl (nI_k _ 1) (by omega) (by omega) ?_
              refine V_aload_n (pc' := 133) d_Lw_law_132 rfl (by first | rfl | exact isR_rf _) rfl ?_
              refine V_iload_n (pc' := 134) d_Lw_law_133 rfl rfl ?_
              refine V_iconst (pc' := 135) (v := 2) d_Lw_law_134 (by decide) rfl ?_
              refine V_iadd (pc' := 136) d_Lw_law_135 rfl ?_
              refine V_sld (pc' := 137) d_Lw_law_136 rfl (nI_k _ 2) (by omega) (by omega) ?_
              refine V_if_eq (pc' := 140) (tgt := 144) d_Lw_law_137 (by decide) rfl (fun c137 => ?_) (fun c137 => ?_)
              · refine V_iconst (pc' := 145) (v := 0) d_Lw_law_144 (by decide) rfl ?_
                refine V_callV (pc' := 148) (As := [_, _]) (ci := 6) d_Lw_law_145 mv_Lw_17 mw_Md_kind rfl rfl rfl (by simp [Value.category]) rfl (by first | assumption | exact aset_self _ _ _ | exact apush_self _ _) (c_Md_kind hM hk hl8 _ false) (by first | decide | omega) (by first | decide | omega) (by first | decide | omega) (by first | decide | omega) ?_
                rintro _ g2 ⟨rfl, hIF⟩
                refine V_icmp_eq (pc' := 151) (tgt := 653) d_Lw_law_148 (by decide) rfl (fun c148 => ?_) (fun c148 => ?_)
                · exact next g2 B2 _ _ _ (INV_step hI hc hJ hIF (Wf_kind hW _ _)) (by omega) (by omega)
                · exact absurd rfl c148
              · exact absurd c115 c137
            · refine V_iconst (pc' := 119) (v := 1) d_Lw_law_118 (by decide) rfl ?_
              refine V_goto (tgt := 123) d_Lw_law_119 (by decide) ?_
              refine V_callV (pc' := 126) (As := [_, _]) (ci := 0) d_Lw_law_123 mv_Lw_13 mw_PC_kind rfl rfl rfl (by simp [Value.category]) rfl (by first | assumption | exact aset_self _ _ _ | exact apush_self _ _) (c_PC_kind hI.1 hh hwx hpk _ true) (by first | decide | omega) (by first | decide | omega) (by first | decide | omega) (by first | decide | omega) ?_
              rintro _ g ⟨rfl, B2, hJ⟩
              have hM := INV_mid hI hJ
              have hm2 := hM.1
              refine V_aload_n (pc' := 127) d_Lw_law_126 rfl (by first | rfl | exact isR_rf _) rfl ?_
              refine V_aload_n (pc' := 128) d_Lw_law_127 rfl (by first | rfl | exact isR_rf _) rfl ?_
              refine V_iload_n (pc' := 129) d_Lw_law_128 rfl rfl ?_
              refine V_iconst (pc' := 130) (v := 1) d_Lw_law_129 (by decide) rfl ?_
              refine V_iadd (pc' := 131) d_Lw_law_130 rfl ?_
              refine V_sld (pc' := 132) d_Lw_law_131 rfl (nI_k _ 1) (by omega) (by omega) ?_
              refine V_aload_n (pc' := 133) d_Lw_law_132 rfl (by first | rfl | exact isR_rf _) rfl ?_
              refine V_iload_n (pc' := 134) d_Lw_law_133 rfl rfl ?_
              refine V_iconst (pc' := 135) (v := 2) d_Lw_law_134 (by decide) rfl ?_
              refine V_iadd (pc' := 136) d_Lw_law_135 rfl ?_
              refine V_sld (pc' := 137) d_Lw_law_136 rfl (nI_k _ 2) (by omega) (by omega) ?_
              refine V_if_eq (pc' := 140) (tgt := 144) d_Lw_law_137 (by decide) rfl (fun c137 => ?_) (fun c137 => ?_)
              · exact absurd c137 c115
              · refine V_iconst (pc' := 141) (v := 1) d_Lw_law_140 (by decide) rfl ?_
                refine V_goto (tgt := 145) d_Lw_law_141 (by decide) ?_
                refine V_callV (pc' := 148) (As := [_, _]) (ci := 6) d_Lw_law_145 mv_Lw_17 mw_Md_kind rfl rfl rfl (by simp [Value.category]) rfl (by first | assumption | exact aset_self _ _ _ | exact apush_self _ _) (c_Md_kind hM hk hl8 _ true) (by first | decide | omega) (by first | decide | omega) (by first | decide | omega) (by first | decide | omega) ?_
                rintro _ g2 ⟨rfl, hIF⟩
                refine V_icmp_eq (pc' := 151) (tgt := 653) d_Lw_law_148 (by decide) rfl (fun c148 => ?_) (fun c148 => ?_)
                · exact next g2 B2 _ _ _ (INV_step hI hc hJ hIF (Wf_kind hW _ _)) (by omega) (by omega)
                · exact absurd rfl c148
          · refine V_tableIn (off := 120) (tgt := 153) d_Lw_law_33 (by decide) (by decide) rfl (by decide) ?_
            refine V_aload_n (pc' := 154) d_Lw_law_153 rfl (by first | rfl | exact isR_rf _) rfl ?_
            refine V_callV (pc' := 157) (As := []) (ci := 0) d_Lw_law_154 mv_Lw_18 mw_PC_view rfl rfl rfl (by simp [Value.category]) rfl (by first | assumption | exact aset_self _ _ _ | exact apush_self _ _) (c_PC_view hI.1 hh hsv hvz) (by first | decide | omega) (by first | decide | omega) (by first | decide | omega) (by first | decide | omega) ?_
            rintro _ g ⟨rfl, B2, hJ⟩
            have hM := INV_mid hI hJ
            have hm2 := hM.1
            refine V_aload_n (pc' := 158) d_Lw_law_157 rfl (by first | rfl | exact isR_rf _) rfl ?_
            refine V_callV (pc' := 161) (As := []) (ci := 6) d_Lw_law_158 mv_Lw_22 mw_Md_view rfl rfl rfl (by simp [Value.category]) rfl (by first | assumption | exact aset_self _ _ _ | exact apush_self _ _) (c_Md_view hM hsv) (by first | decide | omega) (by first | decide | omega) (by first | decide | omega) (by first | decide | omega) ?_
            rintro _ g2 ⟨rfl, hIF⟩
            refine V_icmp_eq (pc' := 164) (tgt := 653) d_Lw_law_161 (by decide) rfl (fun c161 => ?_) (fun c161 => ?_)
            · exact next g2 B2 _ _ _ (INV_step hI hc hJ hIF (Wf_view hW)) (by omega) (by omega)
            · exact absurd rfl c161
          · refine V_tableIn (off := 133) (tgt := 166) d_Lw_law_33 (by decide) (by decide) rfl (by decide) ?_
            refine V_aload_n (pc' := 167) d_Lw_law_166 rfl (by first | rfl | exact isR_rf _) rfl ?_
            refine V_aload_n (pc' := 168) d_Lw_law_167 rfl (by first | rfl | exact isR_rf _) rfl ?_
            refine V_iload_n (pc' := 169) d_Lw_law_168 rfl rfl ?_
            refine V_iconst (pc' := 170) (v := 1) d_Lw_law_169 (by decide) rfl ?_
            refine V_iadd (pc' := 171) d_Lw_law_170 rfl ?_
            refine V_sld (pc' := 172) d_Lw_law_171 rfl (nI_k _ 1) (by omega) (by omega) ?_
            refine V_aload_n (pc' := 173) d_Lw_law_172 rfl (by first | rfl | exact isR_rf _) rfl ?_
            refine V_iload_n (pc' := 174) d_Lw_law_173 rfl rfl ?_
            refine V_iconst (pc' := 175) (v := 2) d_Lw_law_174 (by decide) rfl ?_
            refine V_iadd (pc' := 176) d_Lw_law_175 rfl ?_
            refine V_sld (pc' := 177) d_Lw_law_176 rfl (nI_k _ 2) (by omega) (by omega) ?_
            refine V_aload_n (pc' := 178) d_Lw_law_177 rfl (by first | rfl | exact isR_rf _) rfl ?_
            refine V_iload_n (pc' := 179) d_Lw_law_178 rfl rfl ?_
            refine V_iconst (pc' := 180) (v := 3) d_Lw_law_179 (by decide) rfl ?_
            refine V_iadd (pc' := 181) d_Lw_law_180 rfl ?_
            refine V_sld (pc' := 182) d_Lw_law_181 rfl (nI_k _ 3) (by omega) (by omega) ?_
            refine V_i2l (pc' := 183) d_Lw_law_182 rfl ?_
            refine V_bipush (pc' := 185) (v := 32) d_Lw_law_183 (by decide) rfl ?_
            refine V_lshl (pc' := 186) d_Lw_law_185 rfl ?_
            refine V_aload_n (pc' := 187) d_Lw_law_186 rfl (by first | rfl | exact isR_rf _) rfl ?_
            refine V_iload_n (pc' := 188) d_Lw_law_187 rfl rfl ?_
            refine V_iconst (pc' := 189) (v := 4) d_Lw_law_188 (by decide) rfl ?_
            refine V_iadd (pc' := 190) d_Lw_law_189 rfl ?_
            refine V_sld (pc' := 191) d_Lw_law_190 rfl (nI_k _ 4) (by omega) (by omega) ?_
            refine V_i2l (pc' := 192) d_Lw_law_191 rfl ?_
            refine V_ldc2 (pc' := 195) d_Lw_law_192 kl_23 rfl ?_
            refine V_land (pc' := 196) d_Lw_law_195 rfl ?_
            refine V_lor (pc' := 197) d_Lw_law_196 rfl ?_
            refine V_callV (pc' := 200) (As := [_, _, _]) (ci := 0) d_Lw_law_197 mv_Lw_25 mw_PC_part rfl rfl rfl (by simp [Value.category]) rfl (by first | assumption | exact aset_self _ _ _ | exact apush_self _ _) (c_PC_part hI.1 hh hk hp _ _ _) (by first | decide | omega) (by first | decide | omega) (by first | decide | omega) (by first | decide | omega) ?_
            rintro _ g ⟨rfl, B2, hJ⟩
            have hM := INV_mid hI hJ
            have hm2 := hM.1
            refine V_aload_n (pc' := 201) d_Lw_law_200 rfl (by first | rfl | exact isR_rf _) rfl ?_
            refine V_aload_n (pc' := 202) d_Lw_law_201 rfl (by first | rfl | exact isR_rf _) rfl ?_
            refine V_iload_n (pc' := 203) d_Lw_law_202 rfl rfl ?_
            refine V_iconst (pc' := 204) (v := 1) d_Lw_law_203 (by decide) rfl ?_
            refine V_iadd (pc' := 205) d_Lw_law_204 rfl ?_
            refine V_sld (pc' := 206) d_Lw_law_205 rfl (nI_k _ 1) (by omega) (by omega) ?_
            refine V_aload_n (pc' := 207) d_Lw_law_206 rfl (by first | rfl | exact isR_rf _) rfl ?_
            refine V_iload_n (pc' := 208) d_Lw_law_207 rfl rfl ?_
            refine V_iconst (pc' := 209) (v := 2) d_Lw_law_208 (by decide) rfl ?_
            refine V_iadd (pc' := 210) d_Lw_law_209 rfl ?_
            refine V_sld (pc' := 211) d_Lw_law_210 rfl (nI_k _ 2) (by omega) (by omega) ?_
            refine V_aload_n (pc' := 212) d_Lw_law_211 rfl (by first | rfl | exact isR_rf _) rfl ?_
            refine V_iload_n (pc' := 213) d_Lw_law_212 rfl rfl ?_
            refine V_iconst (pc' := 214) (v := 3) d_Lw_law_213 (by decide) rfl ?_
            refine V_iadd (pc' := 215) d_Lw_law_214 rfl ?_
            refine V_sld (pc' := 216) d_Lw_law_215 rfl (nI_k _ 3) (by omega) (by omega) ?_
            refine V_i2l (pc' := 217) d_Lw_law_216 rfl ?_
            refine V_bipush (pc' := 219) (v := 32) d_Lw_law_217 (by decide) rfl ?_
            refine V_lshl (pc' := 220) d_Lw_law_219 rfl ?_
            refine V_aload_n (pc' := 221) d_Lw_law_220 rfl (by first | rfl | exact isR_rf _) rfl ?_
            refine V_iload_n (pc' := 222) d_Lw_law_221 rfl rfl ?_
            refine V_iconst (pc' := 223) (v := 4) d_Lw_law_222 (by decide) rfl ?_
            refine V_iadd (pc' := 224) d_Lw_law_223 rfl ?_
            refine V_sld (pc' := 225) d_Lw_law_224 rfl (nI_k _ 4) (by omega) (by omega) ?_
            refine V_i2l (pc' := 226) d_Lw_law_225 rfl ?_
            refine V_ldc2 (pc' := 229) d_Lw_law_226 kl_23 rfl ?_
            refine V_land (pc' := 230) d_Lw_law_229 rfl ?_
            refine V_lor (pc' := 231) d_Lw_law_230 rfl ?_
            refine V_callV (pc' := 234) (As := [_, _, _]) (ci := 6) d_Lw_law_231 mv_Lw_29 mw_Md_part rfl rfl rfl (by simp [Value.category]) rfl (by first | assumption | exact aset_self _ _ _ | exact apush_self _ _) (c_Md_part hM hk hp _ _ _) (by first | decide | omega) (by first | decide | omega) (by first | decide | omega) (by first | decide | omega) ?_
            rintro _ g2 ⟨rfl, hIF⟩
            refine V_icmp_eq (pc' := 237) (tgt := 653) d_Lw_law_234 (by decide) rfl (fun c234 => ?_) (fun c234 => ?_)
            · exact next g2 B2 _ _ _ (INV_step hI hc hJ hIF (Wf_part hW _ _ _)) (by omega) (by omega)
            · exact absurd rfl c234
          · refine V_tableIn (off := 206) (tgt := 239) d_Lw_law_33 (by decide) (by decide) rfl (by decide) ?_
            refine V_aload_n (pc' := 240) d_Lw_law_239 rfl (by first | rfl | exact isR_rf _) rfl ?_
            refine V_aload_n (pc' := 241) d_Lw_law_240 rfl (by first | rfl | exact isR_rf _) rfl ?_
            refine V_iload_n (pc' := 242) d_Lw_law_241 rfl rfl ?_
            refine V_iconst (pc' := 243) (v := 1) d_Lw_law_242 (by decide) rfl ?_
            refine V_iadd (pc' := 244) d_Lw_law_243 rfl ?_
            refine V_sld (pc' := 245) d_Lw_law_244 rfl (nI_k _ 1) (by omega) (by omega) ?_
            refine V_aload_n (pc' := 246) d_Lw_law_245 rfl (by first | rfl | exact isR_rf _) rfl ?_
            refine V_iload_n (pc' := 247) d_Lw_law_246 rfl rfl ?_
            refine V_iconst (pc' := 248) (v := 2) d_Lw_law_247 (by decide) rfl ?_
            refine V_iadd (pc' := 249) d_Lw_law_248 rfl ?_
            refine V_sld (pc' := 250) d_Lw_law_249 rfl (nI_k _ 2) (by omega) (by omega) ?_
            refine V_callV (pc' := 253) (As := [_, _]) (ci := 0) d_Lw_law_250 mv_Lw_30 mw_PC_code rfl rfl rfl (by simp [Value.category]) rfl (by first | assumption | exact aset_self _ _ _ | exact apush_self _ _) (c_PC_code hI.1 hh hp _ _) (by first | decide | omega) (by first | decide | omega) (by first | decide | omega) (by first | decide | omega) ?_
            rintro _ g ⟨rfl, B2, hJ⟩
            have hM := INV_mid hI hJ
            have hm2 := hM.1
            refine V_aload_n (pc' := 254) d_Lw_law_253 rfl (by first | rfl | exact isR_rf _) rfl ?_
            refine V_aload_n (pc' := 255) d_Lw_law_254 rfl (by first | rfl | exact isR_rf _) rfl ?_
            refine V_iload_n (pc' := 256) d_Lw_law_255 rfl rfl ?_
            refine V_iconst (pc' := 257) (v := 1) d_Lw_law_256 (by decide) rfl ?_
            refine V_iadd (pc' := 258) d_Lw_law_257 rfl ?_
            refine V_sld (pc' := 259) d_Lw_law_258 rfl (nI_k _ 1) (by omega) (by omega) ?_
            refine V_aload_n (pc' := 260) d_Lw_law_259 rfl (by first | rfl | exact isR_rf _) rfl ?_
            refine V_iload_n (pc' := 261) d_Lw_law_260 rfl rfl ?_
            refine V_iconst (pc' := 262) (v := 2) d_Lw_law_261 (by decide) rfl ?_
            refine V_iadd (pc' := 263) d_Lw_law_262 rfl ?_
            refine V_sld (pc' := 264) d_Lw_law_263 rfl (nI_k _ 2) (by omega) (by omega) ?_
            refine V_callV (pc' := 267) (As := [_, _]) (ci := 6) d_Lw_law_264 mv_Lw_34 mw_Md_code rfl rfl rfl (by simp [Value.category]) rfl (by first | assumption | exact aset_self _ _ _ | exact apush_self _ _) (c_Md_code hM hp _ _) (by first | decide | omega) (by first | decide | omega) (by first | decide | omega) (by first | decide | omega) ?_
            rintro _ g2 ⟨rfl, hIF⟩
            refine V_icmp_eq (pc' := 270) (tgt := 653) d_Lw_law_267 (by decide) rfl (fun c267 => ?_) (fun c267 => ?_)
            · exact next g2 B2 _ _ _ (INV_step hI hc hJ hIF (Wf_code hW _ _)) (by omega) (by omega)
            · exact absurd rfl c267
          · refine V_tableIn (off := 239) (tgt := 272) d_Lw_law_33 (by decide) (by decide) rfl (by decide) ?_
            refine V_aload_n (pc' := 273) d_Lw_law_272 rfl (by first | rfl | exact isR_rf _) rfl ?_
            refine V_aload_n (pc' := 274) d_Lw_law_273 rfl (by first | rfl | exact isR_rf _) rfl ?_
            refine V_iload_n (pc' := 275) d_Lw_law_274 rfl rfl ?_
            refine V_iconst (pc' := 276) (v := 1) d_Lw_law_275 (by decide) rfl ?_
            refine V_iadd (pc' := 277) d_Lw_law_276 rfl ?_
            refine V_sld (pc' := 278) d_Lw_law_277 rfl (nI_k _ 1) (by omega) (by omega) ?_
            refine V_aload_n (pc' := 279) d_Lw_law_278 rfl (by first | rfl | exact isR_rf _) rfl ?_
            refine V_iload_n (pc' := 280) d_Lw_law_279 rfl rfl ?_
            refine V_iconst (pc' := 281) (v := 2) d_Lw_law_280 (by decide) rfl ?_
            refine V_iadd (pc' := 282) d_Lw_law_281 rfl ?_
            refine V_sld (pc' := 283) d_Lw_law_282 rfl (nI_k _ 2) (by omega) (by omega) ?_
            refine V_callV (pc' := 286) (As := [_, _]) (ci := 0) d_Lw_law_283 mv_Lw_35 mw_PC_get rfl rfl rfl (by simp [Value.category]) rfl (by first | assumption | exact aset_self _ _ _ | exact apush_self _ _) (c_PC_get hI.1 hh hwx hSo hpv _ _) (by first | decide | omega) (by first | decide | omega) (by first | decide | omega) (by first | decide | omega) ?_
            rintro _ g ⟨rfl, B2, hJ⟩
            have hM := INV_mid hI hJ
            have hm2 := hM.1
            refine V_aload_n (pc' := 287) d_Lw_law_286 rfl (by first | rfl | exact isR_rf _) rfl ?_
            refine V_aload_n (pc' := 288) d_Lw_law_287 rfl (by first | rfl | exact isR_rf _) rfl ?_
            refine V_iload_n (pc' := 289) d_Lw_law_288 rfl rfl ?_
            refine V_iconst (pc' := 290) (v := 1) d_Lw_law_289 (by decide) rfl ?_
            refine V_iadd (pc' := 291) d_Lw_law_290 rfl ?_
            refine V_sld (pc' := 292) d_Lw_law_291 rfl (nI_k _ 1) (by omega) (by omega) ?_
            refine V_aload_n (pc' := 293) d_Lw_law_292 rfl (by first | rfl | exact isR_rf _) rfl ?_
            refine V_iload_n (pc' := 294) d_Lw_law_293 rfl rfl ?_
            refine V_iconst (pc' := 295) (v := 2) d_Lw_law_294 (by decide) rfl ?_
            refine V_iadd (pc' := 296) d_Lw_law_295 rfl ?_
            refine V_sld (pc' := 297) d_Lw_law_296 rfl (nI_k _ 2) (by omega) (by omega) ?_
            refine V_callV (pc' := 300) (As := [_, _]) (ci := 6) d_Lw_law_297 mv_Lw_38 mw_Md_get rfl rfl rfl (by simp [Value.category]) rfl (by first | assumption | exact aset_self _ _ _ | exact apush_self _ _) (c_Md_get hM hrw hvw hso hpv h21 _ _) (by first | decide | omega) (by first | decide | omega) (by first | decide | omega) (by first | decide | omega) ?_
            rintro _ g2 ⟨rfl, hIF⟩
            refine V_icmp_eq (pc' := 303) (tgt := 653) d_Lw_law_300 (by decide) rfl (fun c300 => ?_) (fun c300 => ?_)
            · exact next g2 B2 _ _ _ (INV_step hI hc hJ hIF (Wf_get hW _ _)) (by omega) (by omega)
            · exact absurd rfl c300
          · refine V_tableIn (off := 272) (tgt := 305) d_Lw_law_33 (by decide) (by decide) rfl (by decide) ?_
            refine V_aload_n (pc' := 306) d_Lw_law_305 rfl (by first | rfl | exact isR_rf _) rfl ?_
            refine V_aload_n (pc' := 307) d_Lw_law_306 rfl (by first | rfl | exact isR_rf _) rfl ?_
            refine V_iload_n (pc' := 308) d_Lw_law_307 rfl rfl ?_
            refine V_iconst (pc' := 309) (v := 1) d_Lw_law_308 (by decide) rfl ?_
            refine V_iadd (pc' := 310) d_Lw_law_309 rfl ?_
            refine V_sld (pc' := 311) d_Lw_law_310 rfl (nI_k _ 1) (by omega) (by omega) ?_
            refine V_callV (pc' := 314) (As := [_]) (ci := 0) d_Lw_law_311 mv_Lw_39 mw_PC_segment rfl rfl rfl (by simp [Value.category]) rfl (by first | assumption | exact aset_self _ _ _ | exact apush_self _ _) (c_PC_segment hI.1 _) (by first | decide | omega) (by first | decide | omega) (by first | decide | omega) (by first | decide | omega) ?_
            rintro _ _ ⟨rfl, rfl⟩
            refine V_aload_n (pc' := 315) d_Lw_law_314 rfl (by first | rfl | exact isR_rf _) rfl ?_
            refine V_aload_n (pc' := 316) d_Lw_law_315 rfl (by first | rfl | exact isR_rf _) rfl ?_
            refine V_iload_n (pc' := 317) d_Lw_law_316 rfl rfl ?_
            refine V_iconst (pc' := 318) (v := 1) d_Lw_law_317 (by decide) rfl ?_
            refine V_iadd (pc' := 319) d_Lw_law_318 rfl ?_
            refine V_sld (pc' := 320) d_Lw_law_319 rfl (nI_k _ 1) (by omega) (by omega) ?_
            refine V_callV (pc' := 323) (As := [_]) (ci := 6) d_Lw_law_320 mv_Lw_43 mw_Md_segment rfl rfl rfl (by simp [Value.category]) rfl (by first | assumption | exact aset_self _ _ _ | exact apush_self _ _) (c_Md_segment hI.2.1 _) (by first | decide | omega) (by first | decide | omega) (by first | decide | omega) (by first | decide | omega) ?_
            rintro _ _ ⟨rfl, rfl⟩
            refine V_lcmp (pc' := 324) d_Lw_law_323 rfl ?_
            refine V_if_eq (pc' := 327) (tgt := 653) d_Lw_law_324 (by decide) rfl (fun c324 => ?_) (fun c324 => ?_)
            · exact next h B S _ _ (INV_up hI) (by omega) (by omega)
            · exact absurd ((lg_cmp_eq _ _).mpr rfl) c324
          · refine V_tableIn (off := 296) (tgt := 329) d_Lw_law_33 (by decide) (by decide) rfl (by decide) ?_
            refine V_aload_n (pc' := 330) d_Lw_law_329 rfl (by first | rfl | exact isR_rf _) rfl ?_
            refine V_aload_n (pc' := 331) d_Lw_law_330 rfl (by first | rfl | exact isR_rf _) rfl ?_
            refine V_iload_n (pc' := 332) d_Lw_law_331 rfl rfl ?_
            refine V_iconst (pc' := 333) (v := 1) d_Lw_law_332 (by decide) rfl ?_
            refine V_iadd (pc' := 334) d_Lw_law_333 rfl ?_
            refine V_sld (pc' := 335) d_Lw_law_334 rfl (nI_k _ 1) (by omega) (by omega) ?_
            refine V_aload_n (pc' := 336) d_Lw_law_335 rfl (by first | rfl | exact isR_rf _) rfl ?_
            refine V_iload_n (pc' := 337) d_Lw_law_336 rfl rfl ?_
            refine V_iconst (pc' := 338) (v := 2) d_Lw_law_337 (by decide) rfl ?_
            refine V_iadd (pc' := 339) d_Lw_law_338 rfl ?_
            refine V_sld (pc' := 340) d_Lw_law_339 rfl (nI_k _ 2) (by omega) (by omega) ?_
            refine V_i2l (pc' := 341) d_Lw_law_340 rfl ?_
            refine V_bipush (pc' := 343) (v := 32) d_Lw_law_341 (by decide) rfl ?_
            refine V_lshl (pc' := 344) d_Lw_law_343 rfl ?_
            refine V_aload_n (pc' := 345) d_Lw_law_344 rfl (by first | rfl | exact isR_rf _) rfl ?_
            refine V_iload_n (pc' := 346) d_Lw_law_345 rfl rfl ?_
            refine V_iconst (pc' := 347) (v := 3) d_Lw_law_346 (by decide) rfl ?_
            refine V_iadd (pc' := 348) d_Lw_law_347 rfl ?_
            refine V_sld (pc' := 349) d_Lw_law_348 rfl (nI_k _ 3) (by omega) (by omega) ?_
            refine V_i2l (pc' := 350) d_Lw_law_349 rfl ?_
            refine V_ldc2 (pc' := 353) d_Lw_law_350 kl_23 rfl ?_
            refine V_land (pc' := 354) d_Lw_law_353 rfl ?_
            refine V_lor (pc' := 355) d_Lw_law_354 rfl ?_
            refine V_aload_n (pc' := 356) d_Lw_law_355 rfl (by first | rfl | exact isR_rf _) rfl ?_
            refine V_iload_n (pc' := 357) d_Lw_law_356 rfl rfl ?_
            refine V_iconst (pc' := 358) (v := 4) d_Lw_law_357 (by decide) rfl ?_
            refine V_iadd (pc' := 359) d_Lw_law_358 rfl ?_
            refine V_sld (pc' := 360) d_Lw_law_359 rfl (nI_k _ 4) (by omega) (by omega) ?_
            refine V_i2l (pc' := 361) d_Lw_law_360 rfl ?_
            refine V_bipush (pc' := 363) (v := 32) d_Lw_law_361 (by decide) rfl ?_
            refine V_lshl (pc' := 364) d_Lw_law_363 rfl ?_
            refine V_aload_n (pc' := 365) d_Lw_law_364 rfl (by first | rfl | exact isR_rf _) rfl ?_
            refine V_iload_n (pc' := 366) d_Lw_law_365 rfl rfl ?_
            refine V_iconst (pc' := 367) (v := 5) d_Lw_law_366 (by decide) rfl ?_
            refine V_iadd (pc' := 368) d_Lw_law_367 rfl ?_
            refine V_sld (pc' := 369) d_Lw_law_368 rfl (nI_k _ 5) (by omega) (by omega) ?_
            refine V_i2l (pc' := 370) d_Lw_law_369 rfl ?_
            refine V_ldc2 (pc' := 373) d_Lw_law_370 kl_23 rfl ?_
            refine V_land (pc' := 374) d_Lw_law_373 rfl ?_
            refine V_lor (pc' := 375) d_Lw_law_374 rfl ?_
            refine V_callV (pc' := 378) (As := [_, _, _]) (ci := 0) d_Lw_law_375 mv_Lw_44 mw_PC_insert rfl rfl rfl (by simp [Value.category]) rfl (by first | assumption | exact aset_self _ _ _ | exact apush_self _ _) (c_PC_insert hI.1 hh hwx hSo hpv hru1 hlv hnd _ _ _) (by first | decide | omega) (by first | decide | omega) (by first | decide | omega) (by first | decide | omega) ?_
            rintro _ g ⟨rfl, B2, hJ⟩
            have hM := INV_mid hI hJ
            have hm2 := hM.1
            refine V_aload_n (pc' := 379) d_Lw_law_378 rfl (by first | rfl | exact isR_rf _) rfl ?_
            refine V_aload_n (pc' := 380) d_Lw_law_379 rfl (by first | rfl | exact isR_rf _) rfl ?_
            refine V_iload_n (pc' := 381) d_Lw_law_380 rfl rfl ?_
            refine V_iconst (pc' := 382) (v := 1) d_Lw_law_381 (by decide) rfl ?_
            refine V_iadd (pc' := 383) d_Lw_law_382 rfl ?_
            refine V_sld (pc' := 384) d_Lw_law_383 rfl (nI_k _ 1) (by omega) (by omega) ?_
            refine V_aload_n (pc' := 385) d_Lw_law_384 rfl (by first | rfl | exact isR_rf _) rfl ?_
            refine V_iload_n (pc' := 386) d_Lw_law_385 rfl rfl ?_
            refine V_iconst (pc' := 387) (v := 2) d_Lw_law_386 (by decide) rfl ?_
            refine V_iadd (pc' := 388) d_Lw_law_387 rfl ?_
            refine V_sld (pc' := 389) d_Lw_law_388 rfl (nI_k _ 2) (by omega) (by omega) ?_
            refine V_i2l (pc' := 390) d_Lw_law_389 rfl ?_
            refine V_bipush (pc' := 392) (v := 32) d_Lw_law_390 (by decide) rfl ?_
            refine V_lshl (pc' := 393) d_Lw_law_392 rfl ?_
            refine V_aload_n (pc' := 394) d_Lw_law_393 rfl (by first | rfl | exact isR_rf _) rfl ?_
            refine V_iload_n (pc' := 395) d_Lw_law_394 rfl rfl ?_
            refine V_iconst (pc' := 396) (v := 3) d_Lw_law_395 (by decide) rfl ?_
            refine V_iadd (pc' := 397) d_Lw_law_396 rfl ?_
            refine V_sld (pc' := 398) d_Lw_law_397 rfl (nI_k _ 3) (by omega) (by omega) ?_
            refine V_i2l (pc' := 399) d_Lw_law_398 rfl ?_
            refine V_ldc2 (pc' := 402) d_Lw_law_399 kl_23 rfl ?_
            refine V_land (pc' := 403) d_Lw_law_402 rfl ?_
            refine V_lor (pc' := 404) d_Lw_law_403 rfl ?_
            refine V_aload_n (pc' := 405) d_Lw_law_404 rfl (by first | rfl | exact isR_rf _) rfl ?_
            refine V_iload_n (pc' := 406) d_Lw_law_405 rfl rfl ?_
            refine V_iconst (pc' := 407) (v := 4) d_Lw_law_406 (by decide) rfl ?_
            refine V_iadd (pc' := 408) d_Lw_law_407 rfl ?_
            refine V_sld (pc' := 409) d_Lw_law_408 rfl (nI_k _ 4) (by omega) (by omega) ?_
            refine V_i2l (pc' := 410) d_Lw_law_409 rfl ?_
            refine V_bipush (pc' := 412) (v := 32) d_Lw_law_410 (by decide) rfl ?_
            refine V_lshl (pc' := 413) d_Lw_law_412 rfl ?_
            refine V_aload_n (pc' := 414) d_Lw_law_413 rfl (by first | rfl | exact isR_rf _) rfl ?_
            refine V_iload_n (pc' := 415) d_Lw_law_414 rfl rfl ?_
            refine V_iconst (pc' := 416) (v := 5) d_Lw_law_415 (by decide) rfl ?_
            refine V_iadd (pc' := 417) d_Lw_law_416 rfl ?_
            refine V_sld (pc' := 418) d_Lw_law_417 rfl (nI_k _ 5) (by omega) (by omega) ?_
            refine V_i2l (pc' := 419) d_Lw_law_418 rfl ?_
            refine V_ldc2 (pc' := 422) d_Lw_law_419 kl_23 rfl ?_
            refine V_land (pc' := 423) d_Lw_law_422 rfl ?_
            refine V_lor (pc' := 424) d_Lw_law_423 rfl ?_
            refine V_callV (pc' := 427) (As := [_, _, _]) (ci := 6) d_Lw_law_424 mv_Lw_48 mw_Md_insert rfl rfl rfl (by simp [Value.category]) rfl (by first | assumption | exact aset_self _ _ _ | exact apush_self _ _) (c_Md_insert hM hrw hz9 hn9 hvw hso hru hab hpv h21 _ _ _) (by first | decide | omega) (by first | decide | omega) (by first | decide | omega) (by first | decide | omega) ?_
            rintro _ g2 ⟨rfl, hIF⟩
            refine V_icmp_eq (pc' := 430) (tgt := 653) d_Lw_law_427 (by decide) rfl (fun c427 => ?_) (fun c427 => ?_)
            · exact next g2 B2 _ _ _ (INV_step hI hc hJ hIF (Wf_ins hW _ _ _)) (by omega) (by omega)
            · exact absurd rfl c427
          · refine V_tableIn (off := 399) (tgt := 432) d_Lw_law_33 (by decide) (by decide) rfl (by decide) ?_
            refine V_aload_n (pc' := 433) d_Lw_law_432 rfl (by first | rfl | exact isR_rf _) rfl ?_
            refine V_aload_n (pc' := 434) d_Lw_law_433 rfl (by first | rfl | exact isR_rf _) rfl ?_
            refine V_iload_n (pc' := 435) d_Lw_law_434 rfl rfl ?_
            refine V_iconst (pc' := 436) (v := 1) d_Lw_law_435 (by decide) rfl ?_
            refine V_iadd (pc' := 437) d_Lw_law_436 rfl ?_
            refine V_sld (pc' := 438) d_Lw_law_437 rfl (nI_k _ 1) (by omega) (by omega) ?_
            refine V_aload_n (pc' := 439) d_Lw_law_438 rfl (by first | rfl | exact isR_rf _) rfl ?_
            refine V_iload_n (pc' := 440) d_Lw_law_439 rfl rfl ?_
            refine V_iconst (pc' := 441) (v := 2) d_Lw_law_440 (by decide) rfl ?_
            refine V_iadd (pc' := 442) d_Lw_law_441 rfl ?_
            refine V_sld (pc' := 443) d_Lw_law_442 rfl (nI_k _ 2) (by omega) (by omega) ?_
            refine V_i2l (pc' := 444) d_Lw_law_443 rfl ?_
            refine V_bipush (pc' := 446) (v := 32) d_Lw_law_444 (by decide) rfl ?_
            refine V_lshl (pc' := 447) d_Lw_law_446 rfl ?_
            refine V_aload_n (pc' := 448) d_Lw_law_447 rfl (by first | rfl | exact isR_rf _) rfl ?_
            refine V_iload_n (pc' := 449) d_Lw_law_448 rfl rfl ?_
            refine V_iconst (pc' := 450) (v := 3) d_Lw_law_449 (by decide) rfl ?_
            refine V_iadd (pc' := 451) d_Lw_law_450 rfl ?_
            refine V_sld (pc' := 452) d_Lw_law_451 rfl (nI_k _ 3) (by omega) (by omega) ?_
            refine V_i2l (pc' := 453) d_Lw_law_452 rfl ?_
            refine V_ldc2 (pc' := 456) d_Lw_law_453 kl_23 rfl ?_
            refine V_land (pc' := 457) d_Lw_law_456 rfl ?_
            refine V_lor (pc' := 458) d_Lw_law_457 rfl ?_
            refine V_callV (pc' := 461) (As := [_, _]) (ci := 0) d_Lw_law_458 mv_Lw_49 mw_PC_replace rfl rfl rfl (by simp [Value.category]) rfl (by first | assumption | exact aset_self _ _ _ | exact apush_self _ _) (c_PC_replace hI.1 hh hwx hhd _ _) (by first | decide | omega) (by first | decide | omega) (by first | decide | omega) (by first | decide | omega) ?_
            rintro _ g ⟨rfl, B2, hJ⟩
            have hM := INV_mid hI hJ
            have hm2 := hM.1
            refine V_aload_n (pc' := 462) d_Lw_law_461 rfl (by first | rfl | exact isR_rf _) rfl ?_
            refine V_aload_n (pc' := 463) d_Lw_law_462 rfl (by first | rfl | exact isR_rf _) rfl ?_
            refine V_iload_n (pc' := 464) d_Lw_law_463 rfl rfl ?_
            refine V_iconst (pc' := 465) (v := 1) d_Lw_law_464 (by decide) rfl ?_
            refine V_iadd (pc' := 466) d_Lw_law_465 rfl ?_
            refine V_sld (pc' := 467) d_Lw_law_466 rfl (nI_k _ 1) (by omega) (by omega) ?_
            refine V_aload_n (pc' := 468) d_Lw_law_467 rfl (by first | rfl | exact isR_rf _) rfl ?_
            refine V_iload_n (pc' := 469) d_Lw_law_468 rfl rfl ?_
            refine V_iconst (pc' := 470) (v := 2) d_Lw_law_469 (by decide) rfl ?_
            refine V_iadd (pc' := 471) d_Lw_law_470 rfl ?_
            refine V_sld (pc' := 472) d_Lw_law_471 rfl (nI_k _ 2) (by omega) (by omega) ?_
            refine V_i2l (pc' := 473) d_Lw_law_472 rfl ?_
            refine V_bipush (pc' := 475) (v := 32) d_Lw_law_473 (by decide) rfl ?_
            refine V_lshl (pc' := 476) d_Lw_law_475 rfl ?_
            refine V_aload_n (pc' := 477) d_Lw_law_476 rfl (by first | rfl | exact isR_rf _) rfl ?_
            refine V_iload_n (pc' := 478) d_Lw_law_477 rfl rfl ?_
            refine V_iconst (pc' := 479) (v := 3) d_Lw_law_478 (by decide) rfl ?_
            refine V_iadd (pc' := 480) d_Lw_law_479 rfl ?_
            refine V_sld (pc' := 481) d_Lw_law_480 rfl (nI_k _ 3) (by omega) (by omega) ?_
            refine V_i2l (pc' := 482) d_Lw_law_481 rfl ?_
            refine V_ldc2 (pc' := 485) d_Lw_law_482 kl_23 rfl ?_
            refine V_land (pc' := 486) d_Lw_law_485 rfl ?_
            refine V_lor (pc' := 487) d_Lw_law_486 rfl ?_
            refine V_callV (pc' := 490) (As := [_, _]) (ci := 6) d_Lw_law_487 mv_Lw_53 mw_Md_replace rfl rfl rfl (by simp [Value.category]) rfl (by first | assumption | exact aset_self _ _ _ | exact apush_self _ _) (c_Md_replace hM hrw hvw hhd _ _) (by first | decide | omega) (by first | decide | omega) (by first | decide | omega) (by first | decide | omega) ?_
            rintro _ g2 ⟨rfl, hIF⟩
            refine V_icmp_eq (pc' := 493) (tgt := 653) d_Lw_law_490 (by decide) rfl (fun c490 => ?_) (fun c490 => ?_)
            · exact next g2 B2 _ _ _ (INV_step hI hc hJ hIF (Wf_repl hW _ _)) (by omega) (by omega)
            · exact absurd rfl c490
          · refine V_tableIn (off := 462) (tgt := 495) d_Lw_law_33 (by decide) (by decide) rfl (by decide) ?_
            refine V_aload_n (pc' := 496) d_Lw_law_495 rfl (by first | rfl | exact isR_rf _) rfl ?_
            refine V_aload_n (pc' := 497) d_Lw_law_496 rfl (by first | rfl | exact isR_rf _) rfl ?_
            refine V_iload_n (pc' := 498) d_Lw_law_497 rfl rfl ?_
            refine V_iconst (pc' := 499) (v := 1) d_Lw_law_498 (by decide) rfl ?_
            refine V_iadd (pc' := 500) d_Lw_law_499 rfl ?_
            refine V_sld (pc' := 501) d_Lw_law_500 rfl (nI_k _ 1) (by omega) (by omega) ?_
            refine V_callV (pc' := 504) (As := [_]) (ci := 0) d_Lw_law_501 mv_Lw_54 mw_PC_delete rfl rfl rfl (by simp [Value.category]) rfl (by first | assumption | exact aset_self _ _ _ | exact apush_self _ _) (c_PC_delete hI.1 hh hwx hhd _) (by first | decide | omega) (by first | decide | omega) (by first | decide | omega) (by first | decide | omega) ?_
            rintro _ g ⟨rfl, B2, hJ⟩
            have hM := INV_mid hI hJ
            have hm2 := hM.1
            refine V_aload_n (pc' := 505) d_Lw_law_504 rfl (by first | rfl | exact isR_rf _) rfl ?_
            refine V_aload_n (pc' := 506) d_Lw_law_505 rfl (by first | rfl | exact isR_rf _) rfl ?_
            refine V_iload_n (pc' := 507) d_Lw_law_506 rfl rfl ?_
            refine V_iconst (pc' := 508) (v := 1) d_Lw_law_507 (by decide) rfl ?_
            refine V_iadd (pc' := 509) d_Lw_law_508 rfl ?_
            refine V_sld (pc' := 510) d_Lw_law_509 rfl (nI_k _ 1) (by omega) (by omega) ?_
            refine V_callV (pc' := 513) (As := [_]) (ci := 6) d_Lw_law_510 mv_Lw_58 mw_Md_delete rfl rfl rfl (by simp [Value.category]) rfl (by first | assumption | exact aset_self _ _ _ | exact apush_self _ _) (c_Md_delete hM hrw hvw hhd _) (by first | decide | omega) (by first | decide | omega) (by first | decide | omega) (by first | decide | omega) ?_
            rintro _ g2 ⟨rfl, hIF⟩
            refine V_icmp_eq (pc' := 516) (tgt := 653) d_Lw_law_513 (by decide) rfl (fun c513 => ?_) (fun c513 => ?_)
            · exact next g2 B2 _ _ _ (INV_step hI hc hJ hIF (Wf_del hW _)) (by omega) (by omega)
            · exact absurd rfl c513
          · refine V_tableIn (off := 485) (tgt := 518) d_Lw_law_33 (by decide) (by decide) rfl (by decide) ?_
            refine V_aload_n (pc' := 519) d_Lw_law_518 rfl (by first | rfl | exact isR_rf _) rfl ?_
            refine V_aload_n (pc' := 520) d_Lw_law_519 rfl (by first | rfl | exact isR_rf _) rfl ?_
            refine V_iload_n (pc' := 521) d_Lw_law_520 rfl rfl ?_
            refine V_iconst (pc' := 522) (v := 1) d_Lw_law_521 (by decide) rfl ?_
            refine V_iadd (pc' := 523) d_Lw_law_522 rfl ?_
            refine V_sld (pc' := 524) d_Lw_law_523 rfl (nI_k _ 1) (by omega) (by omega) ?_
            refine V_aload_n (pc' := 525) d_Lw_law_524 rfl (by first | rfl | exact isR_rf _) rfl ?_
            refine V_iload_n (pc' := 526) d_Lw_law_525 rfl rfl ?_
            refine V_iconst (pc' := 527) (v := 2) d_Lw_law_526 (by decide) rfl ?_
            refine V_iadd (pc' := 528) d_Lw_law_527 rfl ?_
            refine V_sld (pc' := 529) d_Lw_law_528 rfl (nI_k _ 2) (by omega) (by omega) ?_
            refine V_callV (pc' := 532) (As := [_, _]) (ci := 0) d_Lw_law_529 mv_Lw_59 mw_PC_position rfl rfl rfl (by simp [Value.category]) rfl (by first | assumption | exact aset_self _ _ _ | exact apush_self _ _) (c_PC_position hI.1 hwx _ _) (by first | decide | omega) (by first | decide | omega) (by first | decide | omega) (by first | decide | omega) ?_
            rintro _ _ ⟨rfl, rfl⟩
            refine V_aload_n (pc' := 533) d_Lw_law_532 rfl (by first | rfl | exact isR_rf _) rfl ?_
            refine V_aload_n (pc' := 534) d_Lw_law_533 rfl (by first | rfl | exact isR_rf _) rfl ?_
            refine V_iload_n (pc' := 535) d_Lw_law_534 rfl rfl ?_
            refine V_iconst (pc' := 536) (v := 1) d_Lw_law_535 (by decide) rfl ?_
            refine V_iadd (pc' := 537) d_Lw_law_536 rfl ?_
            refine V_sld (pc' := 538) d_Lw_law_537 rfl (nI_k _ 1) (by omega) (by omega) ?_
            refine V_aload_n (pc' := 539) d_Lw_law_538 rfl (by first | rfl | exact isR_rf _) rfl ?_
            refine V_iload_n (pc' := 540) d_Lw_law_539 rfl rfl ?_
            refine V_iconst (pc' := 541) (v := 2) d_Lw_law_540 (by decide) rfl ?_
            refine V_iadd (pc' := 542) d_Lw_law_541 rfl ?_
            refine V_sld (pc' := 543) d_Lw_law_542 rfl (nI_k _ 2) (by omega) (by omega) ?_
            refine V_callV (pc' := 546) (As := [_, _]) (ci := 6) d_Lw_law_543 mv_Lw_62 mw_Md_position rfl rfl rfl (by simp [Value.category]) rfl (by first | assumption | exact aset_self _ _ _ | exact apush_self _ _) (c_Md_position hI.2.1 hrw hvw _ _) (by first | decide | omega) (by first | decide | omega) (by first | decide | omega) (by first | decide | omega) ?_
            rintro _ _ ⟨rfl, rfl⟩
            refine V_icmp_eq (pc' := 549) (tgt := 653) d_Lw_law_546 (by decide) rfl (fun c546 => ?_) (fun c546 => ?_)
            · exact next h B S _ _ (INV_up hI) (by omega) (by omega)
            · exact absurd rfl c546
          · refine V_tableIn (off := 518) (tgt := 551) d_Lw_law_33 (by decide) (by decide) rfl (by decide) ?_
            refine V_aload_n (pc' := 552) d_Lw_law_551 rfl (by first | rfl | exact isR_rf _) rfl ?_
            refine V_aload_n (pc' := 553) d_Lw_law_552 rfl (by first | rfl | exact isR_rf _) rfl ?_
            refine V_iload_n (pc' := 554) d_Lw_law_553 rfl rfl ?_
            refine V_iconst (pc' := 555) (v := 1) d_Lw_law_554 (by decide) rfl ?_
            refine V_iadd (pc' := 556) d_Lw_law_555 rfl ?_
            refine V_sld (pc' := 557) d_Lw_law_556 rfl (nI_k _ 1) (by omega) (by omega) ?_
            refine V_aload_n (pc' := 558) d_Lw_law_557 rfl (by first | rfl | exact isR_rf _) rfl ?_
            refine V_iload_n (pc' := 559) d_Lw_law_558 rfl rfl ?_
            refine V_iconst (pc' := 560) (v := 2) d_Lw_law_559 (by decide) rfl ?_
            refine V_iadd (pc' := 561) d_Lw_law_560 rfl ?_
            refine V_sld (pc' := 562) d_Lw_law_561 rfl (nI_k _ 2) (by omega) (by omega) ?_
            refine V_callV (pc' := 565) (As := [_, _]) (ci := 0) d_Lw_law_562 mv_Lw_63 mw_PC_order rfl rfl rfl (by simp [Value.category]) rfl (by first | assumption | exact aset_self _ _ _ | exact apush_self _ _) (c_PC_order hI.1 hwx _ _) (by first | decide | omega) (by first | decide | omega) (by first | decide | omega) (by first | decide | omega) ?_
            rintro _ _ ⟨rfl, rfl⟩
            refine V_aload_n (pc' := 566) d_Lw_law_565 rfl (by first | rfl | exact isR_rf _) rfl ?_
            refine V_aload_n (pc' := 567) d_Lw_law_566 rfl (by first | rfl | exact isR_rf _) rfl ?_
            refine V_iload_n (pc' := 568) d_Lw_law_567 rfl rfl ?_
            refine V_iconst (pc' := 569) (v := 1) d_Lw_law_568 (by decide) rfl ?_
            refine V_iadd (pc' := 570) d_Lw_law_569 rfl ?_
            refine V_sld (pc' := 571) d_Lw_law_570 rfl (nI_k _ 1) (by omega) (by omega) ?_
            refine V_aload_n (pc' := 572) d_Lw_law_571 rfl (by first | rfl | exact isR_rf _) rfl ?_
            refine V_iload_n (pc' := 573) d_Lw_law_572 rfl rfl ?_
            refine V_iconst (pc' := 574) (v := 2) d_Lw_law_573 (by decide) rfl ?_
            refine V_iadd (pc' := 575) d_Lw_law_574 rfl ?_
            refine V_sld (pc' := 576) d_Lw_law_575 rfl (nI_k _ 2) (by omega) (by omega) ?_
            refine V_callV (pc' := 579) (As := [_, _]) (ci := 6) d_Lw_law_576 mv_Lw_66 mw_Md_order rfl rfl rfl (by simp [Value.category]) rfl (by first | assumption | exact aset_self _ _ _ | exact apush_self _ _) (c_Md_order hI.2.1 hrw _ _) (by first | decide | omega) (by first | decide | omega) (by first | decide | omega) (by first | decide | omega) ?_
            rintro _ _ ⟨rfl, rfl⟩
            refine V_icmp_eq (pc' := 582) (tgt := 653) d_Lw_law_579 (by decide) rfl (fun c579 => ?_) (fun c579 => ?_)
            · exact next h B S _ _ (INV_up hI) (by omega) (by omega)
            · exact absurd rfl c579
          · refine V_tableIn (off := 551) (tgt := 584) d_Lw_law_33 (by decide) (by decide) rfl (by decide) ?_
            refine V_aload_n (pc' := 585) d_Lw_law_584 rfl (by first | rfl | exact isR_rf _) rfl ?_
            refine V_callV (pc' := 588) (As := []) (ci := 0) d_Lw_law_585 mv_Lw_67 mw_PC_count rfl rfl rfl (by simp [Value.category]) rfl (by first | assumption | exact aset_self _ _ _ | exact apush_self _ _) (c_PC_count hI.1) (by first | decide | omega) (by first | decide | omega) (by first | decide | omega) (by first | decide | omega) ?_
            rintro _ _ ⟨rfl, rfl⟩
            refine V_aload_n (pc' := 589) d_Lw_law_588 rfl (by first | rfl | exact isR_rf _) rfl ?_
            refine V_callV (pc' := 592) (As := []) (ci := 6) d_Lw_law_589 mv_Lw_70 mw_Md_count rfl rfl rfl (by simp [Value.category]) rfl (by first | assumption | exact aset_self _ _ _ | exact apush_self _ _) (c_Md_count hI.2.1) (by first | decide | omega) (by first | decide | omega) (by first | decide | omega) (by first | decide | omega) ?_
            rintro _ _ ⟨rfl, rfl⟩
            refine V_icmp_eq (pc' := 595) (tgt := 653) d_Lw_law_592 (by decide) rfl (fun c592 => ?_) (fun c592 => ?_)
            · exact next h B S _ _ (INV_up hI) (by omega) (by omega)
            · exact absurd rfl c592
          · refine V_tableIn (off := 564) (tgt := 597) d_Lw_law_33 (by decide) (by decide) rfl (by decide) ?_
            refine V_aload_n (pc' := 598) d_Lw_law_597 rfl (by first | rfl | exact isR_rf _) rfl ?_
            refine V_aload_n (pc' := 599) d_Lw_law_598 rfl (by first | rfl | exact isR_rf _) rfl ?_
            refine V_iload_n (pc' := 600) d_Lw_law_599 rfl rfl ?_
            refine V_iconst (pc' := 601) (v := 1) d_Lw_law_600 (by decide) rfl ?_
            refine V_iadd (pc' := 602) d_Lw_law_601 rfl ?_
            refine V_sld (pc' := 603) d_Lw_law_602 rfl (nI_k _ 1) (by omega) (by omega) ?_
            refine V_aload_n (pc' := 604) d_Lw_law_603 rfl (by first | rfl | exact isR_rf _) rfl ?_
            refine V_iload_n (pc' := 605) d_Lw_law_604 rfl rfl ?_
            refine V_iconst (pc' := 606) (v := 2) d_Lw_law_605 (by decide) rfl ?_
            refine V_iadd (pc' := 607) d_Lw_law_606 rfl ?_
            refine V_sld (pc' := 608) d_Lw_law_607 rfl (nI_k _ 2) (by omega) (by omega) ?_
            refine V_callV (pc' := 611) (As := [_, _]) (ci := 0) d_Lw_law_608 mv_Lw_71 mw_PC_rule rfl rfl rfl (by simp [Value.category]) rfl (by first | assumption | exact aset_self _ _ _ | exact apush_self _ _) (c_PC_rule hI.1 hh hk _ _) (by first | decide | omega) (by first | decide | omega) (by first | decide | omega) (by first | decide | omega) ?_
            rintro _ g ⟨rfl, B2, hJ⟩
            have hM := INV_mid hI hJ
            have hm2 := hM.1
            refine V_aload_n (pc' := 612) d_Lw_law_611 rfl (by first | rfl | exact isR_rf _) rfl ?_
            refine V_aload_n (pc' := 613) d_Lw_law_612 rfl (by first | rfl | exact isR_rf _) rfl ?_
            refine V_iload_n (pc' := 614) d_Lw_law_613 rfl rfl ?_
            refine V_iconst (pc' := 615) (v := 1) d_Lw_law_614 (by decide) rfl ?_
            refine V_iadd (pc' := 616) d_Lw_law_615 rfl ?_
            refine V_sld (pc' := 617) d_Lw_law_616 rfl (nI_k _ 1) (by omega) (by omega) ?_
            refine V_aload_n (pc' := 618) d_Lw_law_617 rfl (by first | rfl | exact isR_rf _) rfl ?_
            refine V_iload_n (pc' := 619) d_Lw_law_618 rfl rfl ?_
            refine V_iconst (pc' := 620) (v := 2) d_Lw_law_619 (by decide) rfl ?_
            refine V_iadd (pc' := 621) d_Lw_law_620 rfl ?_
            refine V_sld (pc' := 622) d_Lw_law_621 rfl (nI_k _ 2) (by omega) (by omega) ?_
            refine V_callV (pc' := 625) (As := [_, _]) (ci := 6) d_Lw_law_622 mv_Lw_74 mw_Md_rule rfl rfl rfl (by simp [Value.category]) rfl (by first | assumption | exact aset_self _ _ _ | exact apush_self _ _) (c_Md_rule hM hk _ _) (by first | decide | omega) (by first | decide | omega) (by first | decide | omega) (by first | decide | omega) ?_
            rintro _ g2 ⟨rfl, hIF⟩
            refine V_icmp_eq (pc' := 628) (tgt := 653) d_Lw_law_625 (by decide) rfl (fun c625 => ?_) (fun c625 => ?_)
            · exact next g2 B2 _ _ _ (INV_step hI hc hJ hIF (Wf_rule hW _ _)) (by omega) (by omega)
            · exact absurd rfl c625
          · refine V_tableIn (off := 597) (tgt := 630) d_Lw_law_33 (by decide) (by decide) rfl (by decide) ?_
            refine V_aload_n (pc' := 631) d_Lw_law_630 rfl (by first | rfl | exact isR_rf _) rfl ?_
            refine V_aload_n (pc' := 632) d_Lw_law_631 rfl (by first | rfl | exact isR_rf _) rfl ?_
            refine V_iload_n (pc' := 633) d_Lw_law_632 rfl rfl ?_
            refine V_iconst (pc' := 634) (v := 1) d_Lw_law_633 (by decide) rfl ?_
            refine V_iadd (pc' := 635) d_Lw_law_634 rfl ?_
            refine V_sld (pc' := 636) d_Lw_law_635 rfl (nI_k _ 1) (by omega) (by omega) ?_
            refine V_callV (pc' := 639) (As := [_]) (ci := 0) d_Lw_law_636 mv_Lw_75 mw_PC_within rfl rfl rfl (by simp [Value.category]) rfl (by first | assumption | exact aset_self _ _ _ | exact apush_self _ _) (c_PC_within hI.1 hwx _) (by first | decide | omega) (by first | decide | omega) (by first | decide | omega) (by first | decide | omega) ?_
            rintro _ _ ⟨rfl, rfl⟩
            refine V_aload_n (pc' := 640) d_Lw_law_639 rfl (by first | rfl | exact isR_rf _) rfl ?_
            refine V_aload_n (pc' := 641) d_Lw_law_640 rfl (by first | rfl | exact isR_rf _) rfl ?_
            refine V_iload_n (pc' := 642) d_Lw_law_641 rfl rfl ?_
            refine V_iconst (pc' := 643) (v := 1) d_Lw_law_642 (by decide) rfl ?_
            refine V_iadd (pc' := 644) d_Lw_law_643 rfl ?_
            refine V_sld (pc' := 645) d_Lw_law_644 rfl (nI_k _ 1) (by omega) (by omega) ?_
            refine V_callV (pc' := 648) (As := [_]) (ci := 6) d_Lw_law_645 mv_Lw_78 mw_Md_within rfl rfl rfl (by simp [Value.category]) rfl (by first | assumption | exact aset_self _ _ _ | exact apush_self _ _) (c_Md_within hI.2.1 hrw hvw _) (by first | decide | omega) (by first | decide | omega) (by first | decide | omega) (by first | decide | omega) ?_
            rintro _ _ ⟨rfl, rfl⟩
            refine V_icmp_eq (pc' := 651) (tgt := 653) d_Lw_law_648 (by decide) rfl (fun c648 => ?_) (fun c648 => ?_)
            · exact next h B S _ _ (INV_up hI) (by omega) (by omega)
            · exact absurd rfl c648
    · have hc0 : c = 0 := by omega
      subst hc0
      refine V_bipush (pc' := 23) (v := 6) d_Lw_law_21 (by decide) rfl ?_
      refine V_isub (pc' := 24) d_Lw_law_23 rfl ?_
      refine V_icmp_gt (pc' := 27) (tgt := 659) d_Lw_law_24 (by decide) rfl (fun c24 => ?_) (fun c24 => ?_)
      · refine V_iconst (pc' := 660) (v := 1) d_Lw_law_659 (by decide) rfl ?_
        refine V_zret d_Lw_law_660 rfl (by first | rfl | exact ob_nar _) (by first | decide | omega) (by first | decide | omega) ?_
        rfl
      · exfalso
        rcases (show cxn x = 0 ∨ cxn x = 1 ∨ cxn x = 2 ∨ cxn x = 3 ∨ cxn x = 4 ∨ cxn x = 5 by omega) with z | z | z | z | z | z <;> (rw [z] at c24; exact absurd (by decide) c24)
end L2
