-- links, by program (wip/whole/links.py)
theorem fl_PC_11 : FL "PathCalls" 11 0 0 := ⟨R_PC, F_PC, 8, rfl, by decide, Or.inl (by decide +kernel)⟩
theorem fl_PC_17 : FL "PathCalls" 17 0 2 := ⟨R_PC, F_PC, 8, rfl, by decide, Or.inl (by decide +kernel)⟩
theorem fl_PC_23 : FL "PathCalls" 23 0 4 := ⟨R_PC, F_PC, 8, rfl, by decide, Or.inl (by decide +kernel)⟩
theorem fl_PC_30 : FL "PathCalls" 30 0 6 := ⟨R_PC, F_PC, 8, rfl, by decide, Or.inl (by decide +kernel)⟩
theorem fl_PC_34 : FL "PathCalls" 34 0 7 := ⟨R_PC, F_PC, 8, rfl, by decide, Or.inl (by decide +kernel)⟩
theorem fl_PC_43 : FL "PathCalls" 43 0 1 := ⟨R_PC, F_PC, 8, rfl, by decide, Or.inl (by decide +kernel)⟩
theorem fl_PC_47 : FL "PathCalls" 47 1 1 := ⟨R_Kd, F_Kd, 5, rfl, by decide, Or.inr ⟨"PathCalls", by decide +kernel⟩⟩
theorem fl_PC_53 : FL "PathCalls" 53 0 3 := ⟨R_PC, F_PC, 8, rfl, by decide, Or.inl (by decide +kernel)⟩
theorem fl_PC_57 : FL "PathCalls" 57 0 5 := ⟨R_PC, F_PC, 8, rfl, by decide, Or.inl (by decide +kernel)⟩
theorem fl_PC_64 : FL "PathCalls" 64 4 3 := ⟨R_Pt, F_Pt, 4, rfl, by decide, Or.inr ⟨"PathCalls", by decide +kernel⟩⟩
theorem fl_PC_75 : FL "PathCalls" 75 3 2 := ⟨R_Vw, F_Vw, 3, rfl, by decide, Or.inr ⟨"PathCalls", by decide +kernel⟩⟩
theorem fl_PC_83 : FL "PathCalls" 83 3 1 := ⟨R_Vw, F_Vw, 3, rfl, by decide, Or.inr ⟨"PathCalls", by decide +kernel⟩⟩
theorem fl_PC_95 : FL "PathCalls" 95 3 0 := ⟨R_Vw, F_Vw, 3, rfl, by decide, Or.inr ⟨"PathCalls", by decide +kernel⟩⟩
theorem fl_PC_117 : FL "PathCalls" 117 4 0 := ⟨R_Pt, F_Pt, 4, rfl, by decide, Or.inr ⟨"PathCalls", by decide +kernel⟩⟩
theorem fl_PC_125 : FL "PathCalls" 125 1 2 := ⟨R_Kd, F_Kd, 5, rfl, by decide, Or.inr ⟨"PathCalls", by decide +kernel⟩⟩
theorem fl_PC_133 : FL "PathCalls" 133 1 3 := ⟨R_Kd, F_Kd, 5, rfl, by decide, Or.inr ⟨"PathCalls", by decide +kernel⟩⟩
theorem fl_PC_151 : FL "PathCalls" 151 2 3 := ⟨R_Sg, F_Sg, 4, rfl, by decide, Or.inr ⟨"PathCalls", by decide +kernel⟩⟩
theorem fl_PC_174 : FL "PathCalls" 174 2 0 := ⟨R_Sg, F_Sg, 4, rfl, by decide, Or.inr ⟨"PathCalls", by decide +kernel⟩⟩
theorem fl_PC_175 : FL "PathCalls" 175 1 0 := ⟨R_Kd, F_Kd, 5, rfl, by decide, Or.inr ⟨"PathCalls", by decide +kernel⟩⟩
theorem fl_PC_178 : FL "PathCalls" 178 2 2 := ⟨R_Sg, F_Sg, 4, rfl, by decide, Or.inr ⟨"PathCalls", by decide +kernel⟩⟩
theorem fl_PC_181 : FL "PathCalls" 181 5 1 := ⟨R_Bs, F_Bs, 2, rfl, by decide, Or.inr ⟨"PathCalls", by decide +kernel⟩⟩
theorem fl_PC_184 : FL "PathCalls" 184 1 4 := ⟨R_Kd, F_Kd, 5, rfl, by decide, Or.inr ⟨"PathCalls", by decide +kernel⟩⟩
theorem fl_Bs_11 : FL "PathCalls$Base" 11 5 0 := ⟨R_Bs, F_Bs, 2, rfl, by decide, Or.inl (by decide +kernel)⟩
theorem fl_Bs_17 : FL "PathCalls$Base" 17 5 1 := ⟨R_Bs, F_Bs, 2, rfl, by decide, Or.inl (by decide +kernel)⟩
theorem fl_Bs_25 : FL "PathCalls$Base" 25 2 0 := ⟨R_Sg, F_Sg, 4, rfl, by decide, Or.inr ⟨"PathCalls", by decide +kernel⟩⟩
theorem fl_Bs_29 : FL "PathCalls$Base" 29 1 1 := ⟨R_Kd, F_Kd, 5, rfl, by decide, Or.inr ⟨"PathCalls", by decide +kernel⟩⟩
theorem fl_Bs_41 : FL "PathCalls$Base" 41 2 2 := ⟨R_Sg, F_Sg, 4, rfl, by decide, Or.inr ⟨"PathCalls", by decide +kernel⟩⟩
theorem fl_Bs_51 : FL "PathCalls$Base" 51 2 1 := ⟨R_Sg, F_Sg, 4, rfl, by decide, Or.inr ⟨"PathCalls", by decide +kernel⟩⟩
theorem fl_Bs_67 : FL "PathCalls$Base" 67 1 0 := ⟨R_Kd, F_Kd, 5, rfl, by decide, Or.inr ⟨"PathCalls", by decide +kernel⟩⟩
theorem fl_Bs_70 : FL "PathCalls$Base" 70 1 4 := ⟨R_Kd, F_Kd, 5, rfl, by decide, Or.inr ⟨"PathCalls", by decide +kernel⟩⟩
theorem fl_Kd_18 : FL "PathCalls$Kind" 18 1 1 := ⟨R_Kd, F_Kd, 5, rfl, by decide, Or.inl (by decide +kernel)⟩
theorem fl_Kd_21 : FL "PathCalls$Kind" 21 1 2 := ⟨R_Kd, F_Kd, 5, rfl, by decide, Or.inl (by decide +kernel)⟩
theorem fl_Pt_13 : FL "PathCalls$Part" 13 4 1 := ⟨R_Pt, F_Pt, 4, rfl, by decide, Or.inl (by decide +kernel)⟩
theorem fl_Pt_17 : FL "PathCalls$Part" 17 4 2 := ⟨R_Pt, F_Pt, 4, rfl, by decide, Or.inl (by decide +kernel)⟩
theorem fl_Pt_21 : FL "PathCalls$Part" 21 4 3 := ⟨R_Pt, F_Pt, 4, rfl, by decide, Or.inl (by decide +kernel)⟩
theorem fl_Sg_7 : FL "PathCalls$Segment" 7 2 0 := ⟨R_Sg, F_Sg, 4, rfl, by decide, Or.inl (by decide +kernel)⟩
theorem fl_Sg_13 : FL "PathCalls$Segment" 13 2 1 := ⟨R_Sg, F_Sg, 4, rfl, by decide, Or.inl (by decide +kernel)⟩
theorem fl_Sg_17 : FL "PathCalls$Segment" 17 2 2 := ⟨R_Sg, F_Sg, 4, rfl, by decide, Or.inl (by decide +kernel)⟩
theorem fl_Vw_7 : FL "PathCalls$View" 7 3 2 := ⟨R_Vw, F_Vw, 3, rfl, by decide, Or.inl (by decide +kernel)⟩
theorem fl_Vw_13 : FL "PathCalls$View" 13 3 0 := ⟨R_Vw, F_Vw, 3, rfl, by decide, Or.inl (by decide +kernel)⟩
theorem fl_Vw_23 : FL "PathCalls$View" 23 3 1 := ⟨R_Vw, F_Vw, 3, rfl, by decide, Or.inl (by decide +kernel)⟩
theorem fl_Md_7 : FL "PathCallsModel" 7 6 0 := ⟨R_Md, F_Md, 21, rfl, by decide, Or.inl (by decide +kernel)⟩
theorem fl_Md_13 : FL "PathCallsModel" 13 6 1 := ⟨R_Md, F_Md, 21, rfl, by decide, Or.inl (by decide +kernel)⟩
theorem fl_Md_16 : FL "PathCallsModel" 16 6 2 := ⟨R_Md, F_Md, 21, rfl, by decide, Or.inl (by decide +kernel)⟩
theorem fl_Md_19 : FL "PathCallsModel" 19 6 3 := ⟨R_Md, F_Md, 21, rfl, by decide, Or.inl (by decide +kernel)⟩
theorem fl_Md_23 : FL "PathCallsModel" 23 6 5 := ⟨R_Md, F_Md, 21, rfl, by decide, Or.inl (by decide +kernel)⟩
theorem fl_Md_26 : FL "PathCallsModel" 26 6 6 := ⟨R_Md, F_Md, 21, rfl, by decide, Or.inl (by decide +kernel)⟩
theorem fl_Md_29 : FL "PathCallsModel" 29 6 7 := ⟨R_Md, F_Md, 21, rfl, by decide, Or.inl (by decide +kernel)⟩
theorem fl_Md_33 : FL "PathCallsModel" 33 6 8 := ⟨R_Md, F_Md, 21, rfl, by decide, Or.inl (by decide +kernel)⟩
theorem fl_Md_36 : FL "PathCallsModel" 36 6 11 := ⟨R_Md, F_Md, 21, rfl, by decide, Or.inl (by decide +kernel)⟩
theorem fl_Md_39 : FL "PathCallsModel" 39 6 12 := ⟨R_Md, F_Md, 21, rfl, by decide, Or.inl (by decide +kernel)⟩
theorem fl_Md_42 : FL "PathCallsModel" 42 6 13 := ⟨R_Md, F_Md, 21, rfl, by decide, Or.inl (by decide +kernel)⟩
theorem fl_Md_45 : FL "PathCallsModel" 45 6 15 := ⟨R_Md, F_Md, 21, rfl, by decide, Or.inl (by decide +kernel)⟩
theorem fl_Md_48 : FL "PathCallsModel" 48 6 16 := ⟨R_Md, F_Md, 21, rfl, by decide, Or.inl (by decide +kernel)⟩
theorem fl_Md_51 : FL "PathCallsModel" 51 6 17 := ⟨R_Md, F_Md, 21, rfl, by decide, Or.inl (by decide +kernel)⟩
theorem fl_Md_54 : FL "PathCallsModel" 54 6 18 := ⟨R_Md, F_Md, 21, rfl, by decide, Or.inl (by decide +kernel)⟩
theorem fl_Md_57 : FL "PathCallsModel" 57 6 20 := ⟨R_Md, F_Md, 21, rfl, by decide, Or.inl (by decide +kernel)⟩
theorem fl_Md_60 : FL "PathCallsModel" 60 6 4 := ⟨R_Md, F_Md, 21, rfl, by decide, Or.inl (by decide +kernel)⟩
theorem fl_Md_68 : FL "PathCallsModel" 68 6 14 := ⟨R_Md, F_Md, 21, rfl, by decide, Or.inl (by decide +kernel)⟩
theorem fl_Md_71 : FL "PathCallsModel" 71 6 19 := ⟨R_Md, F_Md, 21, rfl, by decide, Or.inl (by decide +kernel)⟩
theorem fl_Md_74 : FL "PathCallsModel" 74 6 9 := ⟨R_Md, F_Md, 21, rfl, by decide, Or.inl (by decide +kernel)⟩
theorem fl_Md_121 : FL "PathCallsModel" 121 6 10 := ⟨R_Md, F_Md, 21, rfl, by decide, Or.inl (by decide +kernel)⟩
theorem ff_PC_11 : FF "PathCalls" 11 0 0 (.array (.object "PathCalls$Kind")) := ⟨R_PC, F_PC, 8, rfl, by decide, by decide +kernel, rfl, rfl, by decide +kernel⟩
theorem ff_PC_17 : FF "PathCalls" 17 0 2 (.array (.object "PathCalls$View")) := ⟨R_PC, F_PC, 8, rfl, by decide, by decide +kernel, rfl, rfl, by decide +kernel⟩
theorem ff_PC_23 : FF "PathCalls" 23 0 4 (.array (.object "PathCalls$Part")) := ⟨R_PC, F_PC, 8, rfl, by decide, by decide +kernel, rfl, rfl, by decide +kernel⟩
theorem ff_PC_30 : FF "PathCalls" 30 0 6 (.object "PathCalls$Base") := ⟨R_PC, F_PC, 8, rfl, by decide, by decide +kernel, rfl, rfl, by decide +kernel⟩
theorem ff_PC_34 : FF "PathCalls" 34 0 7 (.array .long) := ⟨R_PC, F_PC, 8, rfl, by decide, by decide +kernel, rfl, rfl, by decide +kernel⟩
theorem fp_PC_43 : FP "PathCalls" 43 0 1 (.int) := ⟨R_PC, F_PC, 8, rfl, by decide, Or.inl (by decide +kernel), rfl, by decide +kernel⟩
theorem fp_PC_53 : FP "PathCalls" 53 0 3 (.int) := ⟨R_PC, F_PC, 8, rfl, by decide, Or.inl (by decide +kernel), rfl, by decide +kernel⟩
theorem fp_PC_57 : FP "PathCalls" 57 0 5 (.int) := ⟨R_PC, F_PC, 8, rfl, by decide, Or.inl (by decide +kernel), rfl, by decide +kernel⟩
theorem fp_PC_64 : FP "PathCalls" 64 4 3 (.int) := ⟨R_Pt, F_Pt, 4, rfl, by decide, Or.inr ⟨"PathCalls", by decide +kernel⟩, rfl, by decide +kernel⟩
theorem fp_PC_75 : FP "PathCalls" 75 3 2 (.boolean) := ⟨R_Vw, F_Vw, 3, rfl, by decide, Or.inr ⟨"PathCalls", by decide +kernel⟩, rfl, by decide +kernel⟩
theorem fp_PC_83 : FP "PathCalls" 83 3 1 (.object "PathCalls$Segment") := ⟨R_Vw, F_Vw, 3, rfl, by decide, Or.inr ⟨"PathCalls", by decide +kernel⟩, rfl, by decide +kernel⟩
theorem fp_PC_95 : FP "PathCalls" 95 3 0 (.object "PathCalls$Segment") := ⟨R_Vw, F_Vw, 3, rfl, by decide, Or.inr ⟨"PathCalls", by decide +kernel⟩, rfl, by decide +kernel⟩
theorem fp_PC_151 : FP "PathCalls" 151 2 3 (.long) := ⟨R_Sg, F_Sg, 4, rfl, by decide, Or.inr ⟨"PathCalls", by decide +kernel⟩, rfl, by decide +kernel⟩
theorem fp_PC_184 : FP "PathCalls" 184 1 4 (.int) := ⟨R_Kd, F_Kd, 5, rfl, by decide, Or.inr ⟨"PathCalls", by decide +kernel⟩, rfl, by decide +kernel⟩
theorem ff_Bs_11 : FF "PathCalls$Base" 11 5 0 (.array (.object "PathCalls$Segment")) := ⟨R_Bs, F_Bs, 2, rfl, by decide, by decide +kernel, rfl, rfl, by decide +kernel⟩
theorem fp_Bs_17 : FP "PathCalls$Base" 17 5 1 (.int) := ⟨R_Bs, F_Bs, 2, rfl, by decide, Or.inl (by decide +kernel), rfl, by decide +kernel⟩
theorem fp_Kd_9 : FP "PathCalls$Kind" 9 1 4 (.int) := ⟨R_Kd, F_Kd, 5, rfl, by decide, Or.inl (by decide +kernel), rfl, by decide +kernel⟩
theorem ff_Kd_15 : FF "PathCalls$Kind" 15 1 0 (.int) := ⟨R_Kd, F_Kd, 5, rfl, by decide, by decide +kernel, rfl, rfl, by decide +kernel⟩
theorem ff_Kd_18 : FF "PathCalls$Kind" 18 1 1 (.int) := ⟨R_Kd, F_Kd, 5, rfl, by decide, by decide +kernel, rfl, rfl, by decide +kernel⟩
theorem ff_Kd_21 : FF "PathCalls$Kind" 21 1 2 (.object "PathCalls$Kind") := ⟨R_Kd, F_Kd, 5, rfl, by decide, by decide +kernel, rfl, rfl, by decide +kernel⟩
theorem ff_Kd_25 : FF "PathCalls$Kind" 25 1 3 (.boolean) := ⟨R_Kd, F_Kd, 5, rfl, by decide, by decide +kernel, rfl, rfl, by decide +kernel⟩
theorem fp_Pt_7 : FP "PathCalls$Part" 7 4 0 (.object "PathCalls$Kind") := ⟨R_Pt, F_Pt, 4, rfl, by decide, Or.inl (by decide +kernel), rfl, by decide +kernel⟩
theorem fp_Pt_13 : FP "PathCalls$Part" 13 4 1 (.int) := ⟨R_Pt, F_Pt, 4, rfl, by decide, Or.inl (by decide +kernel), rfl, by decide +kernel⟩
theorem fp_Pt_17 : FP "PathCalls$Part" 17 4 2 (.long) := ⟨R_Pt, F_Pt, 4, rfl, by decide, Or.inl (by decide +kernel), rfl, by decide +kernel⟩
theorem fp_Pt_21 : FP "PathCalls$Part" 21 4 3 (.int) := ⟨R_Pt, F_Pt, 4, rfl, by decide, Or.inl (by decide +kernel), rfl, by decide +kernel⟩
theorem ff_Sg_7 : FF "PathCalls$Segment" 7 2 0 (.object "PathCalls$Kind") := ⟨R_Sg, F_Sg, 4, rfl, by decide, by decide +kernel, rfl, rfl, by decide +kernel⟩
theorem ff_Sg_13 : FF "PathCalls$Segment" 13 2 1 (.object "PathCalls$Segment") := ⟨R_Sg, F_Sg, 4, rfl, by decide, by decide +kernel, rfl, rfl, by decide +kernel⟩
theorem ff_Sg_17 : FF "PathCalls$Segment" 17 2 2 (.long) := ⟨R_Sg, F_Sg, 4, rfl, by decide, by decide +kernel, rfl, rfl, by decide +kernel⟩
theorem fp_Sg_21 : FP "PathCalls$Segment" 21 2 3 (.long) := ⟨R_Sg, F_Sg, 4, rfl, by decide, Or.inl (by decide +kernel), rfl, by decide +kernel⟩
theorem fp_Vw_7 : FP "PathCalls$View" 7 3 2 (.boolean) := ⟨R_Vw, F_Vw, 3, rfl, by decide, Or.inl (by decide +kernel), rfl, by decide +kernel⟩
theorem fp_Vw_13 : FP "PathCalls$View" 13 3 0 (.object "PathCalls$Segment") := ⟨R_Vw, F_Vw, 3, rfl, by decide, Or.inl (by decide +kernel), rfl, by decide +kernel⟩
theorem fp_Vw_23 : FP "PathCalls$View" 23 3 1 (.object "PathCalls$Segment") := ⟨R_Vw, F_Vw, 3, rfl, by decide, Or.inl (by decide +kernel), rfl, by decide +kernel⟩
theorem ff_Md_7 : FF "PathCallsModel" 7 6 0 (.array .int) := ⟨R_Md, F_Md, 21, rfl, by decide, by decide +kernel, rfl, rfl, by decide +kernel⟩
theorem ff_Md_13 : FF "PathCallsModel" 13 6 1 (.array .int) := ⟨R_Md, F_Md, 21, rfl, by decide, by decide +kernel, rfl, rfl, by decide +kernel⟩
theorem ff_Md_16 : FF "PathCallsModel" 16 6 2 (.array .int) := ⟨R_Md, F_Md, 21, rfl, by decide, by decide +kernel, rfl, rfl, by decide +kernel⟩
theorem ff_Md_19 : FF "PathCallsModel" 19 6 3 (.array .boolean) := ⟨R_Md, F_Md, 21, rfl, by decide, by decide +kernel, rfl, rfl, by decide +kernel⟩
theorem ff_Md_23 : FF "PathCallsModel" 23 6 5 (.array .int) := ⟨R_Md, F_Md, 21, rfl, by decide, by decide +kernel, rfl, rfl, by decide +kernel⟩
theorem ff_Md_26 : FF "PathCallsModel" 26 6 6 (.array .int) := ⟨R_Md, F_Md, 21, rfl, by decide, by decide +kernel, rfl, rfl, by decide +kernel⟩
theorem ff_Md_29 : FF "PathCallsModel" 29 6 7 (.array .long) := ⟨R_Md, F_Md, 21, rfl, by decide, by decide +kernel, rfl, rfl, by decide +kernel⟩
theorem ff_Md_33 : FF "PathCallsModel" 33 6 8 (.array .long) := ⟨R_Md, F_Md, 21, rfl, by decide, by decide +kernel, rfl, rfl, by decide +kernel⟩
theorem ff_Md_36 : FF "PathCallsModel" 36 6 11 (.array .int) := ⟨R_Md, F_Md, 21, rfl, by decide, by decide +kernel, rfl, rfl, by decide +kernel⟩
theorem ff_Md_39 : FF "PathCallsModel" 39 6 12 (.array .int) := ⟨R_Md, F_Md, 21, rfl, by decide, by decide +kernel, rfl, rfl, by decide +kernel⟩
theorem ff_Md_42 : FF "PathCallsModel" 42 6 13 (.array .boolean) := ⟨R_Md, F_Md, 21, rfl, by decide, by decide +kernel, rfl, rfl, by decide +kernel⟩
theorem ff_Md_45 : FF "PathCallsModel" 45 6 15 (.array .int) := ⟨R_Md, F_Md, 21, rfl, by decide, by decide +kernel, rfl, rfl, by decide +kernel⟩
theorem ff_Md_48 : FF "PathCallsModel" 48 6 16 (.array .int) := ⟨R_Md, F_Md, 21, rfl, by decide, by decide +kernel, rfl, rfl, by decide +kernel⟩
theorem ff_Md_51 : FF "PathCallsModel" 51 6 17 (.array .int) := ⟨R_Md, F_Md, 21, rfl, by decide, by decide +kernel, rfl, rfl, by decide +kernel⟩
theorem ff_Md_54 : FF "PathCallsModel" 54 6 18 (.array .long) := ⟨R_Md, F_Md, 21, rfl, by decide, by decide +kernel, rfl, rfl, by decide +kernel⟩
theorem ff_Md_57 : FF "PathCallsModel" 57 6 20 (.array .long) := ⟨R_Md, F_Md, 21, rfl, by decide, by decide +kernel, rfl, rfl, by decide +kernel⟩
theorem fp_Md_60 : FP "PathCallsModel" 60 6 4 (.int) := ⟨R_Md, F_Md, 21, rfl, by decide, Or.inl (by decide +kernel), rfl, by decide +kernel⟩
theorem fp_Md_68 : FP "PathCallsModel" 68 6 14 (.int) := ⟨R_Md, F_Md, 21, rfl, by decide, Or.inl (by decide +kernel), rfl, by decide +kernel⟩
theorem fp_Md_71 : FP "PathCallsModel" 71 6 19 (.int) := ⟨R_Md, F_Md, 21, rfl, by decide, Or.inl (by decide +kernel), rfl, by decide +kernel⟩
theorem fp_Md_74 : FP "PathCallsModel" 74 6 9 (.int) := ⟨R_Md, F_Md, 21, rfl, by decide, Or.inl (by decide +kernel), rfl, by decide +kernel⟩
theorem fp_Md_121 : FP "PathCallsModel" 121 6 10 (.int) := ⟨R_Md, F_Md, 21, rfl, by decide, Or.inl (by decide +kernel), rfl, by decide +kernel⟩
theorem ob_PC_1 : Cond.methodLink "PathCalls" 1 objectInit ∈ gtbl := by decide +kernel
theorem mi_PC_29 : MI "PathCalls" 29 y_Bs_init := ⟨Or.inr ⟨"PathCalls", by decide +kernel⟩, by decide +kernel, rfl⟩
theorem mi_PC_38 : MI "PathCalls" 38 y_Pt_init := ⟨Or.inr ⟨"PathCalls", by decide +kernel⟩, by decide +kernel, rfl⟩
theorem mv_PC_39 : MV "PathCalls" 39 y_PC_kindNumbered := ⟨Or.inl (by decide +kernel), by decide +kernel, by decide +kernel⟩
theorem mi_PC_50 : MI "PathCalls" 50 y_Kd_init := ⟨Or.inr ⟨"PathCalls", by decide +kernel⟩, by decide +kernel, rfl⟩
theorem mi_PC_56 : MI "PathCalls" 56 y_Vw_init := ⟨Or.inr ⟨"PathCalls", by decide +kernel⟩, by decide +kernel, rfl⟩
theorem mv_PC_60 : MV "PathCalls" 60 y_Pt_fill := ⟨Or.inr ⟨"PathCalls", by decide +kernel⟩, by decide +kernel, by decide +kernel⟩
theorem mv_PC_67 : MV "PathCalls" 67 y_PC_viewNumbered := ⟨Or.inl (by decide +kernel), by decide +kernel, by decide +kernel⟩
theorem mv_PC_71 : MV "PathCalls" 71 y_PC_takeParts := ⟨Or.inl (by decide +kernel), by decide +kernel, by decide +kernel⟩
theorem mv_PC_79 : MV "PathCalls" 79 y_PC_partsFit := ⟨Or.inl (by decide +kernel), by decide +kernel, by decide +kernel⟩
theorem mv_PC_87 : MV "PathCalls" 87 y_PC_search := ⟨Or.inl (by decide +kernel), by decide +kernel, by decide +kernel⟩
theorem ms_PC_91 : MS "PathCalls" 91 y_PC_tellMissing := ⟨Or.inl (by decide +kernel), by decide +kernel⟩
theorem ms_PC_98 : MS "PathCalls" 98 y_PC_stepStatus := ⟨Or.inl (by decide +kernel), by decide +kernel⟩
theorem mv_PC_102 : MV "PathCalls" 102 y_PC_keepPath := ⟨Or.inl (by decide +kernel), by decide +kernel, by decide +kernel⟩
theorem mv_PC_106 : MV "PathCalls" 106 y_PC_newParentage := ⟨Or.inl (by decide +kernel), by decide +kernel, by decide +kernel⟩
theorem mv_PC_110 : MV "PathCalls" 110 y_Bs_isFull := ⟨Or.inr ⟨"PathCalls", by decide +kernel⟩, by decide +kernel, by decide +kernel⟩
theorem mv_PC_114 : MV "PathCalls" 114 y_PC_partsFitInsert := ⟨Or.inl (by decide +kernel), by decide +kernel, by decide +kernel⟩
theorem mv_PC_121 : MV "PathCalls" 121 y_PC_parentForInsert := ⟨Or.inl (by decide +kernel), by decide +kernel, by decide +kernel⟩
theorem mi_PC_130 : MI "PathCalls" 130 y_Sg_init := ⟨Or.inr ⟨"PathCalls", by decide +kernel⟩, by decide +kernel, rfl⟩
theorem mv_PC_136 : MV "PathCalls" 136 y_Bs_hasEqualTwin := ⟨Or.inr ⟨"PathCalls", by decide +kernel⟩, by decide +kernel, by decide +kernel⟩
theorem mv_PC_140 : MV "PathCalls" 140 y_Bs_placeFor := ⟨Or.inr ⟨"PathCalls", by decide +kernel⟩, by decide +kernel, by decide +kernel⟩
theorem mv_PC_143 : MV "PathCalls" 143 y_Bs_putAt := ⟨Or.inr ⟨"PathCalls", by decide +kernel⟩, by decide +kernel, by decide +kernel⟩
theorem mv_PC_147 : MV "PathCalls" 147 y_Vw_takeHeld := ⟨Or.inr ⟨"PathCalls", by decide +kernel⟩, by decide +kernel, by decide +kernel⟩
theorem mv_PC_155 : MV "PathCalls" 155 y_Bs_indexOf := ⟨Or.inr ⟨"PathCalls", by decide +kernel⟩, by decide +kernel, by decide +kernel⟩
theorem mv_PC_159 : MV "PathCalls" 159 y_Bs_at := ⟨Or.inr ⟨"PathCalls", by decide +kernel⟩, by decide +kernel, by decide +kernel⟩
theorem mv_PC_163 : MV "PathCalls" 163 y_Vw_leave := ⟨Or.inr ⟨"PathCalls", by decide +kernel⟩, by decide +kernel, by decide +kernel⟩
theorem mv_PC_167 : MV "PathCalls" 167 y_Bs_removeTree := ⟨Or.inr ⟨"PathCalls", by decide +kernel⟩, by decide +kernel, by decide +kernel⟩
theorem ms_PC_171 : MS "PathCalls" 171 y_PC_kindNumberOf := ⟨Or.inl (by decide +kernel), by decide +kernel⟩
theorem mv_PC_187 : MV "PathCalls" 187 y_Bs_endOfTree := ⟨Or.inr ⟨"PathCalls", by decide +kernel⟩, by decide +kernel, by decide +kernel⟩
theorem mv_PC_191 : MV "PathCalls" 191 y_Kd_liesBelow := ⟨Or.inr ⟨"PathCalls", by decide +kernel⟩, by decide +kernel, by decide +kernel⟩
theorem mv_PC_195 : MV "PathCalls" 195 y_PC_firstAsParts := ⟨Or.inl (by decide +kernel), by decide +kernel, by decide +kernel⟩
theorem ms_PC_199 : MS "PathCalls" 199 y_Sg_around := ⟨Or.inr ⟨"PathCalls", by decide +kernel⟩, by decide +kernel⟩
theorem ms_PC_203 : MS "PathCalls" 203 y_Sg_isOrLiesIn := ⟨Or.inr ⟨"PathCalls", by decide +kernel⟩, by decide +kernel⟩
theorem mv_PC_207 : MV "PathCalls" 207 y_PC_isAsParts := ⟨Or.inl (by decide +kernel), by decide +kernel, by decide +kernel⟩
theorem mv_PC_211 : MV "PathCalls" 211 y_PC_isAsPart := ⟨Or.inl (by decide +kernel), by decide +kernel, by decide +kernel⟩
theorem mv_PC_215 : MV "PathCalls" 215 y_Pt_tells := ⟨Or.inr ⟨"PathCalls", by decide +kernel⟩, by decide +kernel, by decide +kernel⟩
theorem mv_PC_219 : MV "PathCalls" 219 y_Pt_has := ⟨Or.inr ⟨"PathCalls", by decide +kernel⟩, by decide +kernel, by decide +kernel⟩
theorem mv_PC_222 : MV "PathCalls" 222 y_Bs_hasToldTwinBehind := ⟨Or.inr ⟨"PathCalls", by decide +kernel⟩, by decide +kernel, by decide +kernel⟩
theorem mv_PC_226 : MV "PathCalls" 226 y_PC_keepValue := ⟨Or.inl (by decide +kernel), by decide +kernel, by decide +kernel⟩
theorem ob_Bs_3 : Cond.methodLink "PathCalls$Base" 3 objectInit ∈ gtbl := by decide +kernel
theorem mv_Bs_21 : MV "PathCalls$Base" 21 y_Bs_at := ⟨Or.inl (by decide +kernel), by decide +kernel, by decide +kernel⟩
theorem mv_Bs_34 : MV "PathCalls$Base" 34 y_Sg_isEqualTwinOf := ⟨Or.inr ⟨"PathCalls", by decide +kernel⟩, by decide +kernel, by decide +kernel⟩
theorem mv_Bs_38 : MV "PathCalls$Base" 38 y_Sg_isTwinOf := ⟨Or.inr ⟨"PathCalls", by decide +kernel⟩, by decide +kernel, by decide +kernel⟩
theorem mv_Bs_45 : MV "PathCalls$Base" 45 y_Pt_tells := ⟨Or.inr ⟨"PathCalls", by decide +kernel⟩, by decide +kernel, by decide +kernel⟩
theorem mv_Bs_55 : MV "PathCalls$Base" 55 y_Bs_indexOf := ⟨Or.inl (by decide +kernel), by decide +kernel, by decide +kernel⟩
theorem mv_Bs_59 : MV "PathCalls$Base" 59 y_Bs_endOfTree := ⟨Or.inl (by decide +kernel), by decide +kernel, by decide +kernel⟩
theorem ms_Bs_63 : MS "PathCalls$Base" 63 y_Bs_goesAhead := ⟨Or.inl (by decide +kernel), by decide +kernel⟩
theorem mv_Bs_73 : MV "PathCalls$Base" 73 y_Bs_isFull := ⟨Or.inl (by decide +kernel), by decide +kernel, by decide +kernel⟩
theorem ob_Kd_3 : Cond.methodLink "PathCalls$Kind" 3 objectInit ∈ gtbl := by decide +kernel
theorem ob_Pt_1 : Cond.methodLink "PathCalls$Part" 1 objectInit ∈ gtbl := by decide +kernel
theorem ob_Sg_1 : Cond.methodLink "PathCalls$Segment" 1 objectInit ∈ gtbl := by decide +kernel
theorem mv_Sg_24 : MV "PathCalls$Segment" 24 y_Sg_isTwinOf := ⟨Or.inl (by decide +kernel), by decide +kernel, by decide +kernel⟩
theorem ob_Vw_1 : Cond.methodLink "PathCalls$View" 1 objectInit ∈ gtbl := by decide +kernel
theorem ms_Vw_17 : MS "PathCalls$View" 17 y_Sg_isOrLiesIn := ⟨Or.inr ⟨"PathCalls", by decide +kernel⟩, by decide +kernel⟩
theorem mi_Lw_9 : MI "PathCallsLaw" 9 y_PC_init := ⟨Or.inl (by decide +kernel), by decide +kernel, rfl⟩
theorem mi_Lw_12 : MI "PathCallsLaw" 12 y_Md_init := ⟨Or.inl (by decide +kernel), by decide +kernel, rfl⟩
theorem mv_Lw_13 : MV "PathCallsLaw" 13 y_PC_kind := ⟨Or.inl (by decide +kernel), by decide +kernel, by decide +kernel⟩
theorem mv_Lw_17 : MV "PathCallsLaw" 17 y_Md_kind := ⟨Or.inl (by decide +kernel), by decide +kernel, by decide +kernel⟩
theorem mv_Lw_18 : MV "PathCallsLaw" 18 y_PC_view := ⟨Or.inl (by decide +kernel), by decide +kernel, by decide +kernel⟩
theorem mv_Lw_22 : MV "PathCallsLaw" 22 y_Md_view := ⟨Or.inl (by decide +kernel), by decide +kernel, by decide +kernel⟩
theorem mv_Lw_25 : MV "PathCallsLaw" 25 y_PC_part := ⟨Or.inl (by decide +kernel), by decide +kernel, by decide +kernel⟩
theorem mv_Lw_29 : MV "PathCallsLaw" 29 y_Md_part := ⟨Or.inl (by decide +kernel), by decide +kernel, by decide +kernel⟩
theorem mv_Lw_30 : MV "PathCallsLaw" 30 y_PC_code := ⟨Or.inl (by decide +kernel), by decide +kernel, by decide +kernel⟩
theorem mv_Lw_34 : MV "PathCallsLaw" 34 y_Md_code := ⟨Or.inl (by decide +kernel), by decide +kernel, by decide +kernel⟩
theorem mv_Lw_35 : MV "PathCallsLaw" 35 y_PC_get := ⟨Or.inl (by decide +kernel), by decide +kernel, by decide +kernel⟩
theorem mv_Lw_38 : MV "PathCallsLaw" 38 y_Md_get := ⟨Or.inl (by decide +kernel), by decide +kernel, by decide +kernel⟩
theorem mv_Lw_39 : MV "PathCallsLaw" 39 y_PC_segment := ⟨Or.inl (by decide +kernel), by decide +kernel, by decide +kernel⟩
theorem mv_Lw_43 : MV "PathCallsLaw" 43 y_Md_segment := ⟨Or.inl (by decide +kernel), by decide +kernel, by decide +kernel⟩
theorem mv_Lw_44 : MV "PathCallsLaw" 44 y_PC_insert := ⟨Or.inl (by decide +kernel), by decide +kernel, by decide +kernel⟩
theorem mv_Lw_48 : MV "PathCallsLaw" 48 y_Md_insert := ⟨Or.inl (by decide +kernel), by decide +kernel, by decide +kernel⟩
theorem mv_Lw_49 : MV "PathCallsLaw" 49 y_PC_replace := ⟨Or.inl (by decide +kernel), by decide +kernel, by decide +kernel⟩
theorem mv_Lw_53 : MV "PathCallsLaw" 53 y_Md_replace := ⟨Or.inl (by decide +kernel), by decide +kernel, by decide +kernel⟩
theorem mv_Lw_54 : MV "PathCallsLaw" 54 y_PC_delete := ⟨Or.inl (by decide +kernel), by decide +kernel, by decide +kernel⟩
theorem mv_Lw_58 : MV "PathCallsLaw" 58 y_Md_delete := ⟨Or.inl (by decide +kernel), by decide +kernel, by decide +kernel⟩
theorem mv_Lw_59 : MV "PathCallsLaw" 59 y_PC_position := ⟨Or.inl (by decide +kernel), by decide +kernel, by decide +kernel⟩
theorem mv_Lw_62 : MV "PathCallsLaw" 62 y_Md_position := ⟨Or.inl (by decide +kernel), by decide +kernel, by decide +kernel⟩
theorem mv_Lw_63 : MV "PathCallsLaw" 63 y_PC_order := ⟨Or.inl (by decide +kernel), by decide +kernel, by decide +kernel⟩
theorem mv_Lw_66 : MV "PathCallsLaw" 66 y_Md_order := ⟨Or.inl (by decide +kernel), by decide +kernel, by decide +kernel⟩
theorem mv_Lw_67 : MV "PathCallsLaw" 67 y_PC_count := ⟨Or.inl (by decide +kernel), by decide +kernel, by decide +kernel⟩
theorem mv_Lw_70 : MV "PathCallsLaw" 70 y_Md_count := ⟨Or.inl (by decide +kernel), by decide +kernel, by decide +kernel⟩
theorem mv_Lw_71 : MV "PathCallsLaw" 71 y_PC_rule := ⟨Or.inl (by decide +kernel), by decide +kernel, by decide +kernel⟩
theorem mv_Lw_74 : MV "PathCallsLaw" 74 y_Md_rule := ⟨Or.inl (by decide +kernel), by decide +kernel, by decide +kernel⟩
theorem mv_Lw_75 : MV "PathCallsLaw" 75 y_PC_within := ⟨Or.inl (by decide +kernel), by decide +kernel, by decide +kernel⟩
theorem mv_Lw_78 : MV "PathCallsLaw" 78 y_Md_within := ⟨Or.inl (by decide +kernel), by decide +kernel, by decide +kernel⟩
theorem ob_Md_1 : Cond.methodLink "PathCallsModel" 1 objectInit ∈ gtbl := by decide +kernel
theorem mv_Md_64 : MV "PathCallsModel" 64 y_Md_isKind := ⟨Or.inl (by decide +kernel), by decide +kernel, by decide +kernel⟩
theorem mv_Md_77 : MV "PathCallsModel" 77 y_Md_levelOf := ⟨Or.inl (by decide +kernel), by decide +kernel, by decide +kernel⟩
theorem mv_Md_81 : MV "PathCallsModel" 81 y_Md_over := ⟨Or.inl (by decide +kernel), by decide +kernel, by decide +kernel⟩
theorem mv_Md_85 : MV "PathCallsModel" 85 y_Md_behind := ⟨Or.inl (by decide +kernel), by decide +kernel, by decide +kernel⟩
theorem ms_Md_88 : MS "PathCallsModel" 88 y_Md_relates := ⟨Or.inl (by decide +kernel), by decide +kernel⟩
theorem mv_Md_92 : MV "PathCallsModel" 92 y_Md_ofKind := ⟨Or.inl (by decide +kernel), by decide +kernel, by decide +kernel⟩
theorem mv_Md_95 : MV "PathCallsModel" 95 y_Md_hasLater := ⟨Or.inl (by decide +kernel), by decide +kernel, by decide +kernel⟩
theorem mv_Md_99 : MV "PathCallsModel" 99 y_Md_isBelow := ⟨Or.inl (by decide +kernel), by decide +kernel, by decide +kernel⟩
theorem mv_Md_102 : MV "PathCallsModel" 102 y_Md_fits := ⟨Or.inl (by decide +kernel), by decide +kernel, by decide +kernel⟩
theorem mv_Md_106 : MV "PathCallsModel" 106 y_Md_placeOf := ⟨Or.inl (by decide +kernel), by decide +kernel, by decide +kernel⟩
theorem mv_Md_109 : MV "PathCallsModel" 109 y_Md_first := ⟨Or.inl (by decide +kernel), by decide +kernel, by decide +kernel⟩
theorem mv_Md_113 : MV "PathCallsModel" 113 y_Md_areFit := ⟨Or.inl (by decide +kernel), by decide +kernel, by decide +kernel⟩
theorem mv_Md_117 : MV "PathCallsModel" 117 y_Md_finds := ⟨Or.inl (by decide +kernel), by decide +kernel, by decide +kernel⟩
theorem mv_Md_124 : MV "PathCallsModel" 124 y_Md_insertion := ⟨Or.inl (by decide +kernel), by decide +kernel, by decide +kernel⟩
set_option maxRecDepth 20000 in
theorem mw_PC_init : MW y_PC_init b_PC_init 2 (Option.none : Option Jvm.ClassFile.FieldType) 0 := ⟨List.mem_filter.mpr ⟨List.mem_of_getElem? (i := 55) rfl, rfl⟩, by decide +kernel, ⟨by decide +kernel, by decide +kernel⟩, by decide +kernel⟩
set_option maxRecDepth 20000 in
theorem mw_PC_kind : MW y_PC_kind b_PC_kind 5 (Option.some .int) 2 := ⟨List.mem_filter.mpr ⟨List.mem_of_getElem? (i := 130) rfl, rfl⟩, by decide +kernel, ⟨by decide +kernel, by decide +kernel⟩, by decide +kernel⟩
set_option maxRecDepth 20000 in
theorem mw_PC_view : MW y_PC_view b_PC_view 1 (Option.some .int) 0 := ⟨List.mem_filter.mpr ⟨List.mem_of_getElem? (i := 167) rfl, rfl⟩, by decide +kernel, ⟨by decide +kernel, by decide +kernel⟩, by decide +kernel⟩
set_option maxRecDepth 20000 in
theorem mw_PC_part : MW y_PC_part b_PC_part 6 (Option.some .int) 3 := ⟨List.mem_filter.mpr ⟨List.mem_of_getElem? (i := 189) rfl, rfl⟩, by decide +kernel, ⟨by decide +kernel, by decide +kernel⟩, by decide +kernel⟩
set_option maxRecDepth 20000 in
theorem mw_PC_code : MW y_PC_code b_PC_code 5 (Option.some .int) 2 := ⟨List.mem_filter.mpr ⟨List.mem_of_getElem? (i := 197) rfl, rfl⟩, by decide +kernel, ⟨by decide +kernel, by decide +kernel⟩, by decide +kernel⟩
set_option maxRecDepth 20000 in
theorem mw_PC_get : MW y_PC_get b_PC_get 9 (Option.some .int) 2 := ⟨List.mem_filter.mpr ⟨List.mem_of_getElem? (i := 201) rfl, rfl⟩, by decide +kernel, ⟨by decide +kernel, by decide +kernel⟩, by decide +kernel⟩
set_option maxRecDepth 20000 in
theorem mw_PC_segment : MW y_PC_segment b_PC_segment 2 (Option.some .long) 1 := ⟨List.mem_filter.mpr ⟨List.mem_of_getElem? (i := 292) rfl, rfl⟩, by decide +kernel, ⟨by decide +kernel, by decide +kernel⟩, by decide +kernel⟩
set_option maxRecDepth 20000 in
theorem mw_PC_insert : MW y_PC_insert b_PC_insert 11 (Option.some .int) 3 := ⟨List.mem_filter.mpr ⟨List.mem_of_getElem? (i := 296) rfl, rfl⟩, by decide +kernel, ⟨by decide +kernel, by decide +kernel⟩, by decide +kernel⟩
set_option maxRecDepth 20000 in
theorem mw_PC_replace : MW y_PC_replace b_PC_replace 6 (Option.some .int) 2 := ⟨List.mem_filter.mpr ⟨List.mem_of_getElem? (i := 359) rfl, rfl⟩, by decide +kernel, ⟨by decide +kernel, by decide +kernel⟩, by decide +kernel⟩
set_option maxRecDepth 20000 in
theorem mw_PC_delete : MW y_PC_delete b_PC_delete 7 (Option.some .int) 1 := ⟨List.mem_filter.mpr ⟨List.mem_of_getElem? (i := 367) rfl, rfl⟩, by decide +kernel, ⟨by decide +kernel, by decide +kernel⟩, by decide +kernel⟩
set_option maxRecDepth 20000 in
theorem mw_PC_position : MW y_PC_position b_PC_position 4 (Option.some .int) 2 := ⟨List.mem_filter.mpr ⟨List.mem_of_getElem? (i := 380) rfl, rfl⟩, by decide +kernel, ⟨by decide +kernel, by decide +kernel⟩, by decide +kernel⟩
set_option maxRecDepth 20000 in
theorem mw_PC_order : MW y_PC_order b_PC_order 4 (Option.some .int) 2 := ⟨List.mem_filter.mpr ⟨List.mem_of_getElem? (i := 387) rfl, rfl⟩, by decide +kernel, ⟨by decide +kernel, by decide +kernel⟩, by decide +kernel⟩
set_option maxRecDepth 20000 in
theorem mw_PC_count : MW y_PC_count b_PC_count 1 (Option.some .int) 0 := ⟨List.mem_filter.mpr ⟨List.mem_of_getElem? (i := 391) rfl, rfl⟩, by decide +kernel, ⟨by decide +kernel, by decide +kernel⟩, by decide +kernel⟩
set_option maxRecDepth 20000 in
theorem mw_PC_rule : MW y_PC_rule b_PC_rule 5 (Option.some .int) 2 := ⟨List.mem_filter.mpr ⟨List.mem_of_getElem? (i := 395) rfl, rfl⟩, by decide +kernel, ⟨by decide +kernel, by decide +kernel⟩, by decide +kernel⟩
set_option maxRecDepth 20000 in
theorem mw_PC_within : MW y_PC_within b_PC_within 4 (Option.some .int) 1 := ⟨List.mem_filter.mpr ⟨List.mem_of_getElem? (i := 399) rfl, rfl⟩, by decide +kernel, ⟨by decide +kernel, by decide +kernel⟩, by decide +kernel⟩
set_option maxRecDepth 20000 in
theorem mw_PC_kindNumbered : MW y_PC_kindNumbered b_PC_kindNumbered 2 (Option.some (.object "PathCalls$Kind")) 1 := ⟨List.mem_filter.mpr ⟨List.mem_of_getElem? (i := 134) rfl, rfl⟩, by decide +kernel, ⟨by decide +kernel, by decide +kernel⟩, by decide +kernel⟩
set_option maxRecDepth 20000 in
theorem mw_PC_viewNumbered : MW y_PC_viewNumbered b_PC_viewNumbered 2 (Option.some (.object "PathCalls$View")) 1 := ⟨List.mem_filter.mpr ⟨List.mem_of_getElem? (i := 205) rfl, rfl⟩, by decide +kernel, ⟨by decide +kernel, by decide +kernel⟩, by decide +kernel⟩
set_option maxRecDepth 20000 in
theorem mw_PC_kindNumberOf : MW y_PC_kindNumberOf b_PC_kindNumberOf 1 (Option.some .int) 1 := ⟨List.mem_filter.mpr ⟨List.mem_of_getElem? (i := 383) rfl, rfl⟩, by decide +kernel, ⟨by decide +kernel, by decide +kernel⟩, by decide +kernel⟩
set_option maxRecDepth 20000 in
theorem mw_PC_takeParts : MW y_PC_takeParts b_PC_takeParts 2 (Option.some .int) 0 := ⟨List.mem_filter.mpr ⟨List.mem_of_getElem? (i := 209) rfl, rfl⟩, by decide +kernel, ⟨by decide +kernel, by decide +kernel⟩, by decide +kernel⟩
set_option maxRecDepth 20000 in
theorem mw_PC_partsFit : MW y_PC_partsFit b_PC_partsFit 3 (Option.some .boolean) 1 := ⟨List.mem_filter.mpr ⟨List.mem_of_getElem? (i := 213) rfl, rfl⟩, by decide +kernel, ⟨by decide +kernel, by decide +kernel⟩, by decide +kernel⟩
set_option maxRecDepth 20000 in
theorem mw_PC_partsFitInsert : MW y_PC_partsFitInsert b_PC_partsFitInsert 2 (Option.some .boolean) 1 := ⟨List.mem_filter.mpr ⟨List.mem_of_getElem? (i := 304) rfl, rfl⟩, by decide +kernel, ⟨by decide +kernel, by decide +kernel⟩, by decide +kernel⟩
set_option maxRecDepth 20000 in
theorem mw_PC_parentForInsert : MW y_PC_parentForInsert b_PC_parentForInsert 4 (Option.some (.object "PathCalls$Segment")) 3 := ⟨List.mem_filter.mpr ⟨List.mem_of_getElem? (i := 308) rfl, rfl⟩, by decide +kernel, ⟨by decide +kernel, by decide +kernel⟩, by decide +kernel⟩
set_option maxRecDepth 20000 in
theorem mw_PC_search : MW y_PC_search b_PC_search 8 (Option.some (.object "PathCalls$Segment")) 3 := ⟨List.mem_filter.mpr ⟨List.mem_of_getElem? (i := 221) rfl, rfl⟩, by decide +kernel, ⟨by decide +kernel, by decide +kernel⟩, by decide +kernel⟩
set_option maxRecDepth 20000 in
theorem mw_PC_firstAsParts : MW y_PC_firstAsParts b_PC_firstAsParts 6 (Option.some (.object "PathCalls$Segment")) 4 := ⟨List.mem_filter.mpr ⟨List.mem_of_getElem? (i := 225) rfl, rfl⟩, by decide +kernel, ⟨by decide +kernel, by decide +kernel⟩, by decide +kernel⟩
set_option maxRecDepth 20000 in
theorem mw_PC_isAsParts : MW y_PC_isAsParts b_PC_isAsParts 7 (Option.some .boolean) 3 := ⟨List.mem_filter.mpr ⟨List.mem_of_getElem? (i := 229) rfl, rfl⟩, by decide +kernel, ⟨by decide +kernel, by decide +kernel⟩, by decide +kernel⟩
set_option maxRecDepth 20000 in
theorem mw_PC_isAsPart : MW y_PC_isAsPart b_PC_isAsPart 5 (Option.some .boolean) 4 := ⟨List.mem_filter.mpr ⟨List.mem_of_getElem? (i := 240) rfl, rfl⟩, by decide +kernel, ⟨by decide +kernel, by decide +kernel⟩, by decide +kernel⟩
set_option maxRecDepth 20000 in
theorem mw_PC_tellMissing : MW y_PC_tellMissing b_PC_tellMissing 2 (Option.some .int) 2 := ⟨List.mem_filter.mpr ⟨List.mem_of_getElem? (i := 273) rfl, rfl⟩, by decide +kernel, ⟨by decide +kernel, by decide +kernel⟩, by decide +kernel⟩
set_option maxRecDepth 20000 in
theorem mw_PC_stepStatus : MW y_PC_stepStatus b_PC_stepStatus 2 (Option.some .int) 2 := ⟨List.mem_filter.mpr ⟨List.mem_of_getElem? (i := 276) rfl, rfl⟩, by decide +kernel, ⟨by decide +kernel, by decide +kernel⟩, by decide +kernel⟩
set_option maxRecDepth 20000 in
theorem mw_PC_keepPath : MW y_PC_keepPath b_PC_keepPath 4 (Option.none : Option Jvm.ClassFile.FieldType) 2 := ⟨List.mem_filter.mpr ⟨List.mem_of_getElem? (i := 280) rfl, rfl⟩, by decide +kernel, ⟨by decide +kernel, by decide +kernel⟩, by decide +kernel⟩
set_option maxRecDepth 20000 in
theorem mw_PC_keepValue : MW y_PC_keepValue b_PC_keepValue 2 (Option.none : Option Jvm.ClassFile.FieldType) 1 := ⟨List.mem_filter.mpr ⟨List.mem_of_getElem? (i := 284) rfl, rfl⟩, by decide +kernel, ⟨by decide +kernel, by decide +kernel⟩, by decide +kernel⟩
set_option maxRecDepth 20000 in
theorem mw_PC_newParentage : MW y_PC_newParentage b_PC_newParentage 6 (Option.some (.object "PathCalls$Segment")) 4 := ⟨List.mem_filter.mpr ⟨List.mem_of_getElem? (i := 288) rfl, rfl⟩, by decide +kernel, ⟨by decide +kernel, by decide +kernel⟩, by decide +kernel⟩
set_option maxRecDepth 20000 in
theorem mw_Md_init : MW y_Md_init b_Md_init 1 (Option.none : Option Jvm.ClassFile.FieldType) 0 := ⟨List.mem_filter.mpr ⟨List.mem_of_getElem? (i := 404) rfl, rfl⟩, by decide +kernel, ⟨by decide +kernel, by decide +kernel⟩, by decide +kernel⟩
set_option maxRecDepth 20000 in
theorem mw_Md_isKind : MW y_Md_isKind b_Md_isKind 2 (Option.some .boolean) 1 := ⟨List.mem_filter.mpr ⟨List.mem_of_getElem? (i := 479) rfl, rfl⟩, by decide +kernel, ⟨by decide +kernel, by decide +kernel⟩, by decide +kernel⟩
set_option maxRecDepth 20000 in
theorem mw_Md_kind : MW y_Md_kind b_Md_kind 4 (Option.some .int) 2 := ⟨List.mem_filter.mpr ⟨List.mem_of_getElem? (i := 475) rfl, rfl⟩, by decide +kernel, ⟨by decide +kernel, by decide +kernel⟩, by decide +kernel⟩
set_option maxRecDepth 20000 in
theorem mw_Md_view : MW y_Md_view b_Md_view 1 (Option.some .int) 0 := ⟨List.mem_filter.mpr ⟨List.mem_of_getElem? (i := 483) rfl, rfl⟩, by decide +kernel, ⟨by decide +kernel, by decide +kernel⟩, by decide +kernel⟩
set_option maxRecDepth 20000 in
theorem mw_Md_part : MW y_Md_part b_Md_part 5 (Option.some .int) 3 := ⟨List.mem_filter.mpr ⟨List.mem_of_getElem? (i := 487) rfl, rfl⟩, by decide +kernel, ⟨by decide +kernel, by decide +kernel⟩, by decide +kernel⟩
set_option maxRecDepth 20000 in
theorem mw_Md_code : MW y_Md_code b_Md_code 4 (Option.some .int) 2 := ⟨List.mem_filter.mpr ⟨List.mem_of_getElem? (i := 491) rfl, rfl⟩, by decide +kernel, ⟨by decide +kernel, by decide +kernel⟩, by decide +kernel⟩
set_option maxRecDepth 20000 in
theorem mw_Md_rule : MW y_Md_rule b_Md_rule 4 (Option.some .int) 2 := ⟨List.mem_filter.mpr ⟨List.mem_of_getElem? (i := 495) rfl, rfl⟩, by decide +kernel, ⟨by decide +kernel, by decide +kernel⟩, by decide +kernel⟩
set_option maxRecDepth 20000 in
theorem mw_Md_levelOf : MW y_Md_levelOf b_Md_levelOf 2 (Option.some .int) 1 := ⟨List.mem_filter.mpr ⟨List.mem_of_getElem? (i := 519) rfl, rfl⟩, by decide +kernel, ⟨by decide +kernel, by decide +kernel⟩, by decide +kernel⟩
set_option maxRecDepth 20000 in
theorem mw_Md_placeOf : MW y_Md_placeOf b_Md_placeOf 4 (Option.some .int) 1 := ⟨List.mem_filter.mpr ⟨List.mem_of_getElem? (i := 515) rfl, rfl⟩, by decide +kernel, ⟨by decide +kernel, by decide +kernel⟩, by decide +kernel⟩
set_option maxRecDepth 20000 in
theorem mw_Md_behind : MW y_Md_behind b_Md_behind 3 (Option.some .int) 1 := ⟨List.mem_filter.mpr ⟨List.mem_of_getElem? (i := 527) rfl, rfl⟩, by decide +kernel, ⟨by decide +kernel, by decide +kernel⟩, by decide +kernel⟩
set_option maxRecDepth 20000 in
theorem mw_Md_over : MW y_Md_over b_Md_over 4 (Option.some .int) 2 := ⟨List.mem_filter.mpr ⟨List.mem_of_getElem? (i := 523) rfl, rfl⟩, by decide +kernel, ⟨by decide +kernel, by decide +kernel⟩, by decide +kernel⟩
set_option maxRecDepth 20000 in
theorem mw_Md_ofKind : MW y_Md_ofKind b_Md_ofKind 4 (Option.some .int) 2 := ⟨List.mem_filter.mpr ⟨List.mem_of_getElem? (i := 539) rfl, rfl⟩, by decide +kernel, ⟨by decide +kernel, by decide +kernel⟩, by decide +kernel⟩
set_option maxRecDepth 20000 in
theorem mw_Md_relates : MW y_Md_relates b_Md_relates 5 (Option.some .boolean) 3 := ⟨List.mem_filter.mpr ⟨List.mem_of_getElem? (i := 542) rfl, rfl⟩, by decide +kernel, ⟨by decide +kernel, by decide +kernel⟩, by decide +kernel⟩
set_option maxRecDepth 20000 in
theorem mw_Md_hasLater : MW y_Md_hasLater b_Md_hasLater 5 (Option.some .boolean) 2 := ⟨List.mem_filter.mpr ⟨List.mem_of_getElem? (i := 546) rfl, rfl⟩, by decide +kernel, ⟨by decide +kernel, by decide +kernel⟩, by decide +kernel⟩
set_option maxRecDepth 20000 in
theorem mw_Md_fits : MW y_Md_fits b_Md_fits 7 (Option.some .boolean) 3 := ⟨List.mem_filter.mpr ⟨List.mem_of_getElem? (i := 535) rfl, rfl⟩, by decide +kernel, ⟨by decide +kernel, by decide +kernel⟩, by decide +kernel⟩
set_option maxRecDepth 20000 in
theorem mw_Md_isBelow : MW y_Md_isBelow b_Md_isBelow 4 (Option.some .boolean) 2 := ⟨List.mem_filter.mpr ⟨List.mem_of_getElem? (i := 507) rfl, rfl⟩, by decide +kernel, ⟨by decide +kernel, by decide +kernel⟩, by decide +kernel⟩
set_option maxRecDepth 20000 in
theorem mw_Md_areFit : MW y_Md_areFit b_Md_areFit 3 (Option.some .boolean) 0 := ⟨List.mem_filter.mpr ⟨List.mem_of_getElem? (i := 503) rfl, rfl⟩, by decide +kernel, ⟨by decide +kernel, by decide +kernel⟩, by decide +kernel⟩
set_option maxRecDepth 20000 in
theorem mw_Md_first : MW y_Md_first b_Md_first 6 (Option.some .int) 4 := ⟨List.mem_filter.mpr ⟨List.mem_of_getElem? (i := 531) rfl, rfl⟩, by decide +kernel, ⟨by decide +kernel, by decide +kernel⟩, by decide +kernel⟩
set_option maxRecDepth 20000 in
theorem mw_Md_finds : MW y_Md_finds b_Md_finds 12 (Option.some .int) 3 := ⟨List.mem_filter.mpr ⟨List.mem_of_getElem? (i := 511) rfl, rfl⟩, by decide +kernel, ⟨by decide +kernel, by decide +kernel⟩, by decide +kernel⟩
set_option maxRecDepth 20000 in
theorem mw_Md_get : MW y_Md_get b_Md_get 6 (Option.some .int) 2 := ⟨List.mem_filter.mpr ⟨List.mem_of_getElem? (i := 499) rfl, rfl⟩, by decide +kernel, ⟨by decide +kernel, by decide +kernel⟩, by decide +kernel⟩
set_option maxRecDepth 20000 in
theorem mw_Md_segment : MW y_Md_segment b_Md_segment 2 (Option.some .long) 1 := ⟨List.mem_filter.mpr ⟨List.mem_of_getElem? (i := 550) rfl, rfl⟩, by decide +kernel, ⟨by decide +kernel, by decide +kernel⟩, by decide +kernel⟩
set_option maxRecDepth 20000 in
theorem mw_Md_insertion : MW y_Md_insertion b_Md_insertion 16 (Option.some .int) 4 := ⟨List.mem_filter.mpr ⟨List.mem_of_getElem? (i := 558) rfl, rfl⟩, by decide +kernel, ⟨by decide +kernel, by decide +kernel⟩, by decide +kernel⟩
set_option maxRecDepth 20000 in
theorem mw_Md_insert : MW y_Md_insert b_Md_insert 8 (Option.some .int) 3 := ⟨List.mem_filter.mpr ⟨List.mem_of_getElem? (i := 554) rfl, rfl⟩, by decide +kernel, ⟨by decide +kernel, by decide +kernel⟩, by decide +kernel⟩
set_option maxRecDepth 20000 in
theorem mw_Md_replace : MW y_Md_replace b_Md_replace 4 (Option.some .int) 2 := ⟨List.mem_filter.mpr ⟨List.mem_of_getElem? (i := 562) rfl, rfl⟩, by decide +kernel, ⟨by decide +kernel, by decide +kernel⟩, by decide +kernel⟩
set_option maxRecDepth 20000 in
theorem mw_Md_delete : MW y_Md_delete b_Md_delete 8 (Option.some .int) 1 := ⟨List.mem_filter.mpr ⟨List.mem_of_getElem? (i := 566) rfl, rfl⟩, by decide +kernel, ⟨by decide +kernel, by decide +kernel⟩, by decide +kernel⟩
set_option maxRecDepth 20000 in
theorem mw_Md_position : MW y_Md_position b_Md_position 5 (Option.some .int) 2 := ⟨List.mem_filter.mpr ⟨List.mem_of_getElem? (i := 570) rfl, rfl⟩, by decide +kernel, ⟨by decide +kernel, by decide +kernel⟩, by decide +kernel⟩
set_option maxRecDepth 20000 in
theorem mw_Md_order : MW y_Md_order b_Md_order 3 (Option.some .int) 2 := ⟨List.mem_filter.mpr ⟨List.mem_of_getElem? (i := 574) rfl, rfl⟩, by decide +kernel, ⟨by decide +kernel, by decide +kernel⟩, by decide +kernel⟩
set_option maxRecDepth 20000 in
theorem mw_Md_count : MW y_Md_count b_Md_count 1 (Option.some .int) 0 := ⟨List.mem_filter.mpr ⟨List.mem_of_getElem? (i := 578) rfl, rfl⟩, by decide +kernel, ⟨by decide +kernel, by decide +kernel⟩, by decide +kernel⟩
set_option maxRecDepth 20000 in
theorem mw_Md_within : MW y_Md_within b_Md_within 3 (Option.some .int) 1 := ⟨List.mem_filter.mpr ⟨List.mem_of_getElem? (i := 582) rfl, rfl⟩, by decide +kernel, ⟨by decide +kernel, by decide +kernel⟩, by decide +kernel⟩
set_option maxRecDepth 20000 in
theorem mw_Bs_init : MW y_Bs_init b_Bs_init 1 (Option.none : Option Jvm.ClassFile.FieldType) 0 := ⟨List.mem_filter.mpr ⟨List.mem_of_getElem? (i := 69) rfl, rfl⟩, by decide +kernel, ⟨by decide +kernel, by decide +kernel⟩, by decide +kernel⟩
set_option maxRecDepth 20000 in
theorem mw_Bs_isFull : MW y_Bs_isFull b_Bs_isFull 1 (Option.some .boolean) 0 := ⟨List.mem_filter.mpr ⟨List.mem_of_getElem? (i := 300) rfl, rfl⟩, by decide +kernel, ⟨by decide +kernel, by decide +kernel⟩, by decide +kernel⟩
set_option maxRecDepth 20000 in
theorem mw_Bs_at : MW y_Bs_at b_Bs_at 2 (Option.some (.object "PathCalls$Segment")) 1 := ⟨List.mem_filter.mpr ⟨List.mem_of_getElem? (i := 233) rfl, rfl⟩, by decide +kernel, ⟨by decide +kernel, by decide +kernel⟩, by decide +kernel⟩
set_option maxRecDepth 20000 in
theorem mw_Bs_indexOf : MW y_Bs_indexOf b_Bs_indexOf 3 (Option.some .int) 1 := ⟨List.mem_filter.mpr ⟨List.mem_of_getElem? (i := 262) rfl, rfl⟩, by decide +kernel, ⟨by decide +kernel, by decide +kernel⟩, by decide +kernel⟩
set_option maxRecDepth 20000 in
theorem mw_Bs_endOfTree : MW y_Bs_endOfTree b_Bs_endOfTree 4 (Option.some .int) 1 := ⟨List.mem_filter.mpr ⟨List.mem_of_getElem? (i := 269) rfl, rfl⟩, by decide +kernel, ⟨by decide +kernel, by decide +kernel⟩, by decide +kernel⟩
set_option maxRecDepth 20000 in
theorem mw_Bs_hasEqualTwin : MW y_Bs_hasEqualTwin b_Bs_hasEqualTwin 3 (Option.some .boolean) 1 := ⟨List.mem_filter.mpr ⟨List.mem_of_getElem? (i := 336) rfl, rfl⟩, by decide +kernel, ⟨by decide +kernel, by decide +kernel⟩, by decide +kernel⟩
set_option maxRecDepth 20000 in
theorem mw_Bs_hasToldTwinBehind : MW y_Bs_hasToldTwinBehind b_Bs_hasToldTwinBehind 5 (Option.some .boolean) 3 := ⟨List.mem_filter.mpr ⟨List.mem_of_getElem? (i := 252) rfl, rfl⟩, by decide +kernel, ⟨by decide +kernel, by decide +kernel⟩, by decide +kernel⟩
set_option maxRecDepth 20000 in
theorem mw_Bs_placeFor : MW y_Bs_placeFor b_Bs_placeFor 6 (Option.some .int) 2 := ⟨List.mem_filter.mpr ⟨List.mem_of_getElem? (i := 345) rfl, rfl⟩, by decide +kernel, ⟨by decide +kernel, by decide +kernel⟩, by decide +kernel⟩
set_option maxRecDepth 20000 in
theorem mw_Bs_goesAhead : MW y_Bs_goesAhead b_Bs_goesAhead 4 (Option.some .boolean) 3 := ⟨List.mem_filter.mpr ⟨List.mem_of_getElem? (i := 350) rfl, rfl⟩, by decide +kernel, ⟨by decide +kernel, by decide +kernel⟩, by decide +kernel⟩
set_option maxRecDepth 20000 in
theorem mw_Bs_putAt : MW y_Bs_putAt b_Bs_putAt 4 (Option.none : Option Jvm.ClassFile.FieldType) 2 := ⟨List.mem_filter.mpr ⟨List.mem_of_getElem? (i := 354) rfl, rfl⟩, by decide +kernel, ⟨by decide +kernel, by decide +kernel⟩, by decide +kernel⟩
set_option maxRecDepth 20000 in
theorem mw_Bs_removeTree : MW y_Bs_removeTree b_Bs_removeTree 5 (Option.none : Option Jvm.ClassFile.FieldType) 1 := ⟨List.mem_filter.mpr ⟨List.mem_of_getElem? (i := 376) rfl, rfl⟩, by decide +kernel, ⟨by decide +kernel, by decide +kernel⟩, by decide +kernel⟩
set_option maxRecDepth 20000 in
theorem mw_Kd_init : MW y_Kd_init b_Kd_init 4 (Option.none : Option Jvm.ClassFile.FieldType) 3 := ⟨List.mem_filter.mpr ⟨List.mem_of_getElem? (i := 138) rfl, rfl⟩, by decide +kernel, ⟨by decide +kernel, by decide +kernel⟩, by decide +kernel⟩
set_option maxRecDepth 20000 in
theorem mw_Kd_liesBelow : MW y_Kd_liesBelow b_Kd_liesBelow 3 (Option.some .boolean) 1 := ⟨List.mem_filter.mpr ⟨List.mem_of_getElem? (i := 217) rfl, rfl⟩, by decide +kernel, ⟨by decide +kernel, by decide +kernel⟩, by decide +kernel⟩
set_option maxRecDepth 20000 in
theorem mw_Pt_init : MW y_Pt_init b_Pt_init 1 (Option.none : Option Jvm.ClassFile.FieldType) 0 := ⟨List.mem_filter.mpr ⟨List.mem_of_getElem? (i := 84) rfl, rfl⟩, by decide +kernel, ⟨by decide +kernel, by decide +kernel⟩, by decide +kernel⟩
set_option maxRecDepth 20000 in
theorem mw_Pt_fill : MW y_Pt_fill b_Pt_fill 5 (Option.none : Option Jvm.ClassFile.FieldType) 3 := ⟨List.mem_filter.mpr ⟨List.mem_of_getElem? (i := 193) rfl, rfl⟩, by decide +kernel, ⟨by decide +kernel, by decide +kernel⟩, by decide +kernel⟩
set_option maxRecDepth 20000 in
theorem mw_Pt_has : MW y_Pt_has b_Pt_has 2 (Option.some .boolean) 1 := ⟨List.mem_filter.mpr ⟨List.mem_of_getElem? (i := 248) rfl, rfl⟩, by decide +kernel, ⟨by decide +kernel, by decide +kernel⟩, by decide +kernel⟩
set_option maxRecDepth 20000 in
theorem mw_Pt_tells : MW y_Pt_tells b_Pt_tells 3 (Option.some .boolean) 1 := ⟨List.mem_filter.mpr ⟨List.mem_of_getElem? (i := 244) rfl, rfl⟩, by decide +kernel, ⟨by decide +kernel, by decide +kernel⟩, by decide +kernel⟩
set_option maxRecDepth 20000 in
theorem mw_Sg_init : MW y_Sg_init b_Sg_init 7 (Option.none : Option Jvm.ClassFile.FieldType) 4 := ⟨List.mem_filter.mpr ⟨List.mem_of_getElem? (i := 312) rfl, rfl⟩, by decide +kernel, ⟨by decide +kernel, by decide +kernel⟩, by decide +kernel⟩
set_option maxRecDepth 20000 in
theorem mw_Sg_around : MW y_Sg_around b_Sg_around 3 (Option.some (.object "PathCalls$Segment")) 2 := ⟨List.mem_filter.mpr ⟨List.mem_of_getElem? (i := 236) rfl, rfl⟩, by decide +kernel, ⟨by decide +kernel, by decide +kernel⟩, by decide +kernel⟩
set_option maxRecDepth 20000 in
theorem mw_Sg_isOrLiesIn : MW y_Sg_isOrLiesIn b_Sg_isOrLiesIn 3 (Option.some .boolean) 2 := ⟨List.mem_filter.mpr ⟨List.mem_of_getElem? (i := 265) rfl, rfl⟩, by decide +kernel, ⟨by decide +kernel, by decide +kernel⟩, by decide +kernel⟩
set_option maxRecDepth 20000 in
theorem mw_Sg_isTwinOf : MW y_Sg_isTwinOf b_Sg_isTwinOf 2 (Option.some .boolean) 1 := ⟨List.mem_filter.mpr ⟨List.mem_of_getElem? (i := 257) rfl, rfl⟩, by decide +kernel, ⟨by decide +kernel, by decide +kernel⟩, by decide +kernel⟩
set_option maxRecDepth 20000 in
theorem mw_Sg_isEqualTwinOf : MW y_Sg_isEqualTwinOf b_Sg_isEqualTwinOf 2 (Option.some .boolean) 1 := ⟨List.mem_filter.mpr ⟨List.mem_of_getElem? (i := 340) rfl, rfl⟩, by decide +kernel, ⟨by decide +kernel, by decide +kernel⟩, by decide +kernel⟩
set_option maxRecDepth 20000 in
theorem mw_Vw_init : MW y_Vw_init b_Vw_init 1 (Option.none : Option Jvm.ClassFile.FieldType) 0 := ⟨List.mem_filter.mpr ⟨List.mem_of_getElem? (i := 171) rfl, rfl⟩, by decide +kernel, ⟨by decide +kernel, by decide +kernel⟩, by decide +kernel⟩
set_option maxRecDepth 20000 in
theorem mw_Vw_takeHeld : MW y_Vw_takeHeld b_Vw_takeHeld 2 (Option.some (.object "PathCalls$Segment")) 0 := ⟨List.mem_filter.mpr ⟨List.mem_of_getElem? (i := 363) rfl, rfl⟩, by decide +kernel, ⟨by decide +kernel, by decide +kernel⟩, by decide +kernel⟩
set_option maxRecDepth 20000 in
theorem mw_Vw_leave : MW y_Vw_leave b_Vw_leave 3 (Option.none : Option Jvm.ClassFile.FieldType) 2 := ⟨List.mem_filter.mpr ⟨List.mem_of_getElem? (i := 371) rfl, rfl⟩, by decide +kernel, ⟨by decide +kernel, by decide +kernel⟩, by decide +kernel⟩
theorem nw_PC_9 : NW "PathCalls" 9 1 5 [.int 0, .int 0, .null, .int 0, .int 0] := ⟨R_Kd, F_Kd, rfl, by decide +kernel, by decide +kernel, by decide +kernel, fun j hj => by rcases (show j = 0 ∨ j = 1 ∨ j = 2 ∨ j = 3 ∨ j = 4 by omega) with rfl | rfl | rfl | rfl | rfl <;> rfl⟩
theorem nw_PC_15 : NW "PathCalls" 15 3 3 [.null, .null, .int 0] := ⟨R_Vw, F_Vw, rfl, by decide +kernel, by decide +kernel, by decide +kernel, fun j hj => by rcases (show j = 0 ∨ j = 1 ∨ j = 2 by omega) with rfl | rfl | rfl <;> rfl⟩
theorem nw_PC_21 : NW "PathCalls" 21 4 4 [.null, .int 0, .long 0, .int 0] := ⟨R_Pt, F_Pt, rfl, by decide +kernel, by decide +kernel, by decide +kernel, fun j hj => by rcases (show j = 0 ∨ j = 1 ∨ j = 2 ∨ j = 3 by omega) with rfl | rfl | rfl | rfl <;> rfl⟩
theorem nw_PC_27 : NW "PathCalls" 27 5 2 [.null, .int 0] := ⟨R_Bs, F_Bs, rfl, by decide +kernel, by decide +kernel, by decide +kernel, fun j hj => by rcases (show j = 0 ∨ j = 1 by omega) with rfl | rfl <;> rfl⟩
theorem nw_PC_128 : NW "PathCalls" 128 2 4 [.null, .null, .long 0, .long 0] := ⟨R_Sg, F_Sg, rfl, by decide +kernel, by decide +kernel, by decide +kernel, fun j hj => by rcases (show j = 0 ∨ j = 1 ∨ j = 2 ∨ j = 3 by omega) with rfl | rfl | rfl | rfl <;> rfl⟩
theorem nw_Lw_7 : NW "PathCallsLaw" 7 0 8 [.null, .int 0, .null, .int 0, .null, .int 0, .null, .null] := ⟨R_PC, F_PC, rfl, by decide +kernel, by decide +kernel, by decide +kernel, fun j hj => by rcases (show j = 0 ∨ j = 1 ∨ j = 2 ∨ j = 3 ∨ j = 4 ∨ j = 5 ∨ j = 6 ∨ j = 7 by omega) with rfl | rfl | rfl | rfl | rfl | rfl | rfl | rfl <;> rfl⟩
theorem nw_Lw_10 : NW "PathCallsLaw" 10 6 21 [.null, .null, .null, .null, .int 0, .null, .null, .null, .null, .int 0, .int 0, .null, .null, .null, .int 0, .null, .null, .null, .null, .int 0, .null] := ⟨R_Md, F_Md, rfl, by decide +kernel, by decide +kernel, by decide +kernel, fun j hj => by rcases (show j = 0 ∨ j = 1 ∨ j = 2 ∨ j = 3 ∨ j = 4 ∨ j = 5 ∨ j = 6 ∨ j = 7 ∨ j = 8 ∨ j = 9 ∨ j = 10 ∨ j = 11 ∨ j = 12 ∨ j = 13 ∨ j = 14 ∨ j = 15 ∨ j = 16 ∨ j = 17 ∨ j = 18 ∨ j = 19 ∨ j = 20 by omega) with rfl | rfl | rfl | rfl | rfl | rfl | rfl | rfl | rfl | rfl | rfl | rfl | rfl | rfl | rfl | rfl | rfl | rfl | rfl | rfl | rfl <;> rfl⟩
theorem an_PC_9 : Cond.classLink "PathCalls" 9 "PathCalls$Kind" ∈ gtbl := by decide +kernel
theorem an_PC_15 : Cond.classLink "PathCalls" 15 "PathCalls$View" ∈ gtbl := by decide +kernel
theorem an_PC_21 : Cond.classLink "PathCalls" 21 "PathCalls$Part" ∈ gtbl := by decide +kernel
theorem an_Bs_9 : Cond.classLink "PathCalls$Base" 9 "PathCalls$Segment" ∈ gtbl := by decide +kernel
theorem ac_long : Cond.arrayClass .long ∈ gtbl := by decide +kernel
theorem ac_int : Cond.arrayClass .int ∈ gtbl := by decide +kernel
theorem ac_boolean : Cond.arrayClass .boolean ∈ gtbl := by decide +kernel
theorem kl_23 : Cond.constantLong "PathCallsLaw" 23 4294967295 ∈ gtbl := by decide +kernel
