/-! THE LAW (written by gen40.py) -/
theorem xTc_flat : xTc.flatten = lw_tbl := by
  simp only [xTc, List.flatten_cons, List.flatten_nil, lw_tbl, lw_privs, k2_sels, tables_1, List.map_append, List.append_assoc, List.append_nil]
theorem xTc_in {r : List Cond} (hr : r ∈ xTc) {w : Cond} (hw : w ∈ r) : w ∈ lw_tbl := by
  rw [← xTc_flat]
  exact List.mem_flatten.mpr ⟨r, hr, hw⟩
theorem xpos {i : Nat} {w : Cond} (h : xwd xTc i w = true) : w ∈ lw_tbl := by
  obtain ⟨r, h1, h2⟩ := xwd_of h
  exact xTc_in h1 h2
theorem xTs_in : ∀ w ∈ xTs xTc, w ∈ lw_tbl := by
  intro w hw
  obtain ⟨r, h1, h2⟩ := List.mem_flatten.mp hw
  obtain ⟨q, h3, rfl⟩ := List.mem_map.mp h1
  exact xTc_in h3 (List.mem_filter.mp h2).1
theorem xNs_in : ∀ w ∈ xNs xTc, w ∈ lw_tbl := by
  intro w hw
  obtain ⟨r, h1, h2⟩ := List.mem_flatten.mp hw
  obtain ⟨q, h3, rfl⟩ := List.mem_map.mp h1
  exact xTc_in h3 (List.mem_filter.mp h2).1
theorem xG1 : ∀ (ci : Nat) (C : String) (T : u_T) (N : Nat), vwCl[ci]? = some (C, T, N) → xTb (xTs xTc) C T N
  | 0, _, _, _, h => by cases h; exact xcl_0
  | 1, _, _, _, h => by cases h; exact xcl_1
  | 2, _, _, _, h => by cases h; exact xcl_2
  | 3, _, _, _, h => by cases h; exact xcl_3
  | 4, _, _, _, h => by cases h; exact xcl_4
  | 5, _, _, _, h => by cases h; exact xcl_5
  | 6, _, _, _, h => by cases h; exact xcl_6
  | 7, _, _, _, h => by cases h; exact xcl_7
  | 8, _, _, _, h => by cases h; exact xcl_8
  | 9, _, _, _, h => by cases h; exact xcl_9
  | 10, _, _, _, h => by cases h; exact xcl_10
  | 11, _, _, _, h => by cases h; exact xcl_11
  | 12, _, _, _, h => by cases h; exact xcl_12
  | n + 13, _, _, _, h => by simp [vwCl] at h
def xPm (mc : xM) : Prop := plainName mc.1.cls = true ∧ xokc xTc xMs vwCl xTys mc (xcd mc) = true ∧ xatp 0 (xcd mc)
theorem xpm_0 : xPm xm_0 := ⟨by decide +kernel, xok_0, fun i r e => by cases e; rfl⟩
theorem xpm_1 : xPm xm_1 := ⟨by decide +kernel, xok_1, fun i r e => by cases e; rfl⟩
theorem xpm_2 : xPm xm_2 := ⟨by decide +kernel, xok_2, fun i r e => by cases e; rfl⟩
theorem xpm_3 : xPm xm_3 := ⟨by decide +kernel, xok_3, fun i r e => by cases e; rfl⟩
theorem xpm_4 : xPm xm_4 := ⟨by decide +kernel, xok_4, fun i r e => by cases e; rfl⟩
theorem xpm_5 : xPm xm_5 := ⟨by decide +kernel, xok_5, fun i r e => by cases e; rfl⟩
theorem xpm_6 : xPm xm_6 := ⟨by decide +kernel, xok_6, fun i r e => by cases e; rfl⟩
theorem xpm_7 : xPm xm_7 := ⟨by decide +kernel, xok_7, fun i r e => by cases e; rfl⟩
theorem xpm_8 : xPm xm_8 := ⟨by decide +kernel, xok_8, fun i r e => by cases e; rfl⟩
theorem xpm_9 : xPm xm_9 := ⟨by decide +kernel, xok_9, fun i r e => by cases e; rfl⟩
theorem xpm_10 : xPm xm_10 := ⟨by decide +kernel, xok_10, fun i r e => by cases e; rfl⟩
theorem xpm_11 : xPm xm_11 := ⟨by decide +kernel, xok_11, fun i r e => by cases e; rfl⟩
theorem xpm_12 : xPm xm_12 := ⟨by decide +kernel, xok_12, fun i r e => by cases e; rfl⟩
theorem xpm_13 : xPm xm_13 := ⟨by decide +kernel, xok_13, fun i r e => by cases e; rfl⟩
theorem xpm_14 : xPm xm_14 := ⟨by decide +kernel, xok_14, fun i r e => by cases e; rfl⟩
theorem xpm_15 : xPm xm_15 := ⟨by decide +kernel, xok_15, fun i r e => by cases e; rfl⟩
theorem xpm_16 : xPm xm_16 := ⟨by decide +kernel, xok_16, fun i r e => by cases e; rfl⟩
theorem xpm_17 : xPm xm_17 := ⟨by decide +kernel, xok_17, fun i r e => by cases e; rfl⟩
theorem xpm_18 : xPm xm_18 := ⟨by decide +kernel, xok_18, fun i r e => by cases e; rfl⟩
theorem xpm_19 : xPm xm_19 := ⟨by decide +kernel, xok_19, fun i r e => by cases e; rfl⟩
theorem xpm_20 : xPm xm_20 := ⟨by decide +kernel, xok_20, fun i r e => by cases e; rfl⟩
theorem xpm_21 : xPm xm_21 := ⟨by decide +kernel, xok_21, fun i r e => by cases e; rfl⟩
theorem xpm_22 : xPm xm_22 := ⟨by decide +kernel, xok_22, fun i r e => by cases e; rfl⟩
theorem xpm_23 : xPm xm_23 := ⟨by decide +kernel, xok_23, fun i r e => by cases e; rfl⟩
theorem xpm_24 : xPm xm_24 := ⟨by decide +kernel, xok_24, fun i r e => by cases e; rfl⟩
theorem xpm_25 : xPm xm_25 := ⟨by decide +kernel, xok_25, fun i r e => by cases e; rfl⟩
theorem xpm_26 : xPm xm_26 := ⟨by decide +kernel, xok_26, fun i r e => by cases e; rfl⟩
theorem xpm_27 : xPm xm_27 := ⟨by decide +kernel, xok_27, fun i r e => by cases e; rfl⟩
theorem xpm_28 : xPm xm_28 := ⟨by decide +kernel, xok_28, fun i r e => by cases e; rfl⟩
theorem xpm_29 : xPm xm_29 := ⟨by decide +kernel, xok_29, fun i r e => by cases e; rfl⟩
theorem xpm_30 : xPm xm_30 := ⟨by decide +kernel, xok_30, fun i r e => by cases e; rfl⟩
theorem xpm_31 : xPm xm_31 := ⟨by decide +kernel, xok_31, fun i r e => by cases e; rfl⟩
theorem xpm_32 : xPm xm_32 := ⟨by decide +kernel, xok_32, fun i r e => by cases e; rfl⟩
theorem xpm_33 : xPm xm_33 := ⟨by decide +kernel, xok_33, fun i r e => by cases e; rfl⟩
theorem xpm_34 : xPm xm_34 := ⟨by decide +kernel, xok_34, fun i r e => by cases e; rfl⟩
theorem xpm_35 : xPm xm_35 := ⟨by decide +kernel, xok_35, fun i r e => by cases e; rfl⟩
theorem xpm_36 : xPm xm_36 := ⟨by decide +kernel, xok_36, fun i r e => by cases e; rfl⟩
theorem xpm_37 : xPm xm_37 := ⟨by decide +kernel, xok_37, fun i r e => by cases e; rfl⟩
theorem xpm_38 : xPm xm_38 := ⟨by decide +kernel, xok_38, fun i r e => by cases e; rfl⟩
theorem xpm_39 : xPm xm_39 := ⟨by decide +kernel, xok_39, fun i r e => by cases e; rfl⟩
theorem xpm_40 : xPm xm_40 := ⟨by decide +kernel, xok_40, fun i r e => by cases e; rfl⟩
theorem xpm_41 : xPm xm_41 := ⟨by decide +kernel, xok_41, fun i r e => by cases e; rfl⟩
theorem xpm_42 : xPm xm_42 := ⟨by decide +kernel, xok_42, fun i r e => by cases e; rfl⟩
theorem xpm_43 : xPm xm_43 := ⟨by decide +kernel, xok_43, fun i r e => by cases e; rfl⟩
theorem xpm_44 : xPm xm_44 := ⟨by decide +kernel, xok_44, fun i r e => by cases e; rfl⟩
theorem xpm_45 : xPm xm_45 := ⟨by decide +kernel, xok_45, fun i r e => by cases e; rfl⟩
theorem xpm_46 : xPm xm_46 := ⟨by decide +kernel, xok_46, fun i r e => by cases e; rfl⟩
theorem xpm_47 : xPm xm_47 := ⟨by decide +kernel, xok_47, fun i r e => by cases e; rfl⟩
theorem xpm_48 : xPm xm_48 := ⟨by decide +kernel, xok_48, fun i r e => by cases e; rfl⟩
theorem xpm_49 : xPm xm_49 := ⟨by decide +kernel, xok_49, fun i r e => by cases e; rfl⟩
theorem xpm_50 : xPm xm_50 := ⟨by decide +kernel, xok_50, fun i r e => by cases e; rfl⟩
theorem xpm_51 : xPm xm_51 := ⟨by decide +kernel, xok_51, fun i r e => by cases e; rfl⟩
theorem xpm_52 : xPm xm_52 := ⟨by decide +kernel, xok_52, fun i r e => by cases e; rfl⟩
theorem xpm_53 : xPm xm_53 := ⟨by decide +kernel, xok_53, fun i r e => by cases e; rfl⟩
theorem xpm_54 : xPm xm_54 := ⟨by decide +kernel, xok_54, fun i r e => by cases e; rfl⟩
theorem xpm_55 : xPm xm_55 := ⟨by decide +kernel, xok_55, fun i r e => by cases e; rfl⟩
theorem xpm_56 : xPm xm_56 := ⟨by decide +kernel, xok_56, fun i r e => by cases e; rfl⟩
theorem xpm_57 : xPm xm_57 := ⟨by decide +kernel, xok_57, fun i r e => by cases e; rfl⟩
theorem xpm_58 : xPm xm_58 := ⟨by decide +kernel, xok_58, fun i r e => by cases e; rfl⟩
theorem xpm_59 : xPm xm_59 := ⟨by decide +kernel, xok_59, fun i r e => by cases e; rfl⟩
theorem xpm_60 : xPm xm_60 := ⟨by decide +kernel, xok_60, fun i r e => by cases e; rfl⟩
theorem xpm_61 : xPm xm_61 := ⟨by decide +kernel, xok_61, fun i r e => by cases e; rfl⟩
theorem xpm_62 : xPm xm_62 := ⟨by decide +kernel, xok_62, fun i r e => by cases e; rfl⟩
theorem xpm_63 : xPm xm_63 := ⟨by decide +kernel, xok_63, fun i r e => by cases e; rfl⟩
theorem xpm_64 : xPm xm_64 := ⟨by decide +kernel, xok_64, fun i r e => by cases e; rfl⟩
theorem xpm_65 : xPm xm_65 := ⟨by decide +kernel, xok_65, fun i r e => by cases e; rfl⟩
theorem xpm_66 : xPm xm_66 := ⟨by decide +kernel, xok_66, fun i r e => by cases e; rfl⟩
theorem xpm_67 : xPm xm_67 := ⟨by decide +kernel, xok_67, fun i r e => by cases e; rfl⟩
theorem xpm_68 : xPm xm_68 := ⟨by decide +kernel, xok_68, fun i r e => by cases e; rfl⟩
theorem xpm_69 : xPm xm_69 := ⟨by decide +kernel, xok_69, fun i r e => by cases e; rfl⟩
theorem xpm_70 : xPm xm_70 := ⟨by decide +kernel, xok_70, fun i r e => by cases e; rfl⟩
theorem xpm_71 : xPm xm_71 := ⟨by decide +kernel, xok_71, fun i r e => by cases e; rfl⟩
theorem xpm_72 : xPm xm_72 := ⟨by decide +kernel, xok_72, fun i r e => by cases e; rfl⟩
theorem xpm_73 : xPm xm_73 := ⟨by decide +kernel, xok_73, fun i r e => by cases e; rfl⟩
theorem xpm_74 : xPm xm_74 := ⟨by decide +kernel, xok_74, fun i r e => by cases e; rfl⟩
theorem xpm_75 : xPm xm_75 := ⟨by decide +kernel, xok_75, fun i r e => by cases e; rfl⟩
theorem xpm_76 : xPm xm_76 := ⟨by decide +kernel, xok_76, fun i r e => by cases e; rfl⟩
theorem xpm_77 : xPm xm_77 := ⟨by decide +kernel, xok_77, fun i r e => by cases e; rfl⟩
theorem xpm_78 : xPm xm_78 := ⟨by decide +kernel, xok_78, fun i r e => by cases e; rfl⟩
theorem xpm_79 : xPm xm_79 := ⟨by decide +kernel, xok_79, fun i r e => by cases e; rfl⟩
theorem xpm_80 : xPm xm_80 := ⟨by decide +kernel, xok_80, fun i r e => by cases e; rfl⟩
theorem xpm_81 : xPm xm_81 := ⟨by decide +kernel, xok_81, fun i r e => by cases e; rfl⟩
theorem xpm_82 : xPm xm_82 := ⟨by decide +kernel, xok_82, fun i r e => by cases e; rfl⟩
theorem xpm_83 : xPm xm_83 := ⟨by decide +kernel, xok_83, fun i r e => by cases e; rfl⟩
theorem xpm_84 : xPm xm_84 := ⟨by decide +kernel, xok_84, fun i r e => by cases e; rfl⟩
theorem xpm_85 : xPm xm_85 := ⟨by decide +kernel, xok_85, fun i r e => by cases e; rfl⟩
theorem xpm_86 : xPm xm_86 := ⟨by decide +kernel, xok_86, fun i r e => by cases e; rfl⟩
theorem xpm_87 : xPm xm_87 := ⟨by decide +kernel, xok_87, fun i r e => by cases e; rfl⟩
theorem xpm_88 : xPm xm_88 := ⟨by decide +kernel, xok_88, fun i r e => by cases e; rfl⟩
theorem xpm_89 : xPm xm_89 := ⟨by decide +kernel, xok_89, fun i r e => by cases e; rfl⟩
theorem xpm_90 : xPm xm_90 := ⟨by decide +kernel, xok_90, fun i r e => by cases e; rfl⟩
theorem xpm_91 : xPm xm_91 := ⟨by decide +kernel, xok_91, fun i r e => by cases e; rfl⟩
theorem xpm_92 : xPm xm_92 := ⟨by decide +kernel, xok_92, fun i r e => by cases e; rfl⟩
theorem xpm_93 : xPm xm_93 := ⟨by decide +kernel, xok_93, fun i r e => by cases e; rfl⟩
theorem xpm_94 : xPm xm_94 := ⟨by decide +kernel, xok_94, fun i r e => by cases e; rfl⟩
theorem xpm_95 : xPm xm_95 := ⟨by decide +kernel, xok_95, fun i r e => by cases e; rfl⟩
theorem xpm_96 : xPm xm_96 := ⟨by decide +kernel, xok_96, fun i r e => by cases e; rfl⟩
theorem xpm_97 : xPm xm_97 := ⟨by decide +kernel, xok_97, fun i r e => by cases e; rfl⟩
theorem xpm_98 : xPm xm_98 := ⟨by decide +kernel, xok_98, fun i r e => by cases e; rfl⟩
theorem xpm_99 : xPm xm_99 := ⟨by decide +kernel, xok_99, fun i r e => by cases e; rfl⟩
theorem xpm_100 : xPm xm_100 := ⟨by decide +kernel, xok_100, fun i r e => by cases e; rfl⟩
theorem xpm_101 : xPm xm_101 := ⟨by decide +kernel, xok_101, fun i r e => by cases e; rfl⟩
theorem xpm_102 : xPm xm_102 := ⟨by decide +kernel, xok_102, fun i r e => by cases e; rfl⟩
theorem xpm_103 : xPm xm_103 := ⟨by decide +kernel, xok_103, fun i r e => by cases e; rfl⟩
theorem xpm_104 : xPm xm_104 := ⟨by decide +kernel, xok_104, fun i r e => by cases e; rfl⟩
theorem xpm_105 : xPm xm_105 := ⟨by decide +kernel, xok_105, fun i r e => by cases e; rfl⟩
theorem xpm_106 : xPm xm_106 := ⟨by decide +kernel, xok_106, fun i r e => by cases e; rfl⟩
theorem xpm_107 : xPm xm_107 := ⟨by decide +kernel, xok_107, fun i r e => by cases e; rfl⟩
theorem xpm_108 : xPm xm_108 := ⟨by decide +kernel, xok_108, fun i r e => by cases e; rfl⟩
theorem xpm_109 : xPm xm_109 := ⟨by decide +kernel, xok_109, fun i r e => by cases e; rfl⟩
theorem xpm_110 : xPm xm_110 := ⟨by decide +kernel, xok_110, fun i r e => by cases e; rfl⟩
theorem xpm_111 : xPm xm_111 := ⟨by decide +kernel, xok_111, fun i r e => by cases e; rfl⟩
theorem xpm_112 : xPm xm_112 := ⟨by decide +kernel, xok_112, fun i r e => by cases e; rfl⟩
theorem xpm_113 : xPm xm_113 := ⟨by decide +kernel, xok_113, fun i r e => by cases e; rfl⟩
theorem xpm_114 : xPm xm_114 := ⟨by decide +kernel, xok_114, fun i r e => by cases e; rfl⟩
theorem xpm_115 : xPm xm_115 := ⟨by decide +kernel, xok_115, fun i r e => by cases e; rfl⟩
theorem xpm_116 : xPm xm_116 := ⟨by decide +kernel, xok_116, fun i r e => by cases e; rfl⟩
theorem xpm_117 : xPm xm_117 := ⟨by decide +kernel, xok_117, fun i r e => by cases e; rfl⟩
theorem xpm_118 : xPm xm_118 := ⟨by decide +kernel, xok_118, fun i r e => by cases e; rfl⟩
theorem xpm_119 : xPm xm_119 := ⟨by decide +kernel, xok_119, fun i r e => by cases e; rfl⟩
theorem xpm_120 : xPm xm_120 := ⟨by decide +kernel, xok_120, fun i r e => by cases e; rfl⟩
theorem xpm_121 : xPm xm_121 := ⟨by decide +kernel, xok_121, fun i r e => by cases e; rfl⟩
theorem xpm_122 : xPm xm_122 := ⟨by decide +kernel, xok_122, fun i r e => by cases e; rfl⟩
theorem xpm_123 : xPm xm_123 := ⟨by decide +kernel, xok_123, fun i r e => by cases e; rfl⟩
theorem xpm_124 : xPm xm_124 := ⟨by decide +kernel, xok_124, fun i r e => by cases e; rfl⟩
theorem xpm_125 : xPm xm_125 := ⟨by decide +kernel, xok_125, fun i r e => by cases e; rfl⟩
theorem xpm_126 : xPm xm_126 := ⟨by decide +kernel, xok_126, fun i r e => by cases e; rfl⟩
theorem xpm_127 : xPm xm_127 := ⟨by decide +kernel, xok_127, fun i r e => by cases e; rfl⟩
theorem xpm_128 : xPm xm_128 := ⟨by decide +kernel, xok_128, fun i r e => by cases e; rfl⟩
theorem xpm_129 : xPm xm_129 := ⟨by decide +kernel, xok_129, fun i r e => by cases e; rfl⟩
theorem xpm_130 : xPm xm_130 := ⟨by decide +kernel, xok_130, fun i r e => by cases e; rfl⟩
theorem xpm_131 : xPm xm_131 := ⟨by decide +kernel, xok_131, fun i r e => by cases e; rfl⟩
theorem xpm_132 : xPm xm_132 := ⟨by decide +kernel, xok_132, fun i r e => by cases e; rfl⟩
theorem xpm_133 : xPm xm_133 := ⟨by decide +kernel, xok_133, fun i r e => by cases e; rfl⟩
theorem xpm_134 : xPm xm_134 := ⟨by decide +kernel, xok_134, fun i r e => by cases e; rfl⟩
theorem xpm_135 : xPm xm_135 := ⟨by decide +kernel, xok_135, fun i r e => by cases e; rfl⟩
theorem xpm_136 : xPm xm_136 := ⟨by decide +kernel, xok_136, fun i r e => by cases e; rfl⟩
theorem xpm_137 : xPm xm_137 := ⟨by decide +kernel, xok_137, fun i r e => by cases e; rfl⟩
theorem xpm_138 : xPm xm_138 := ⟨by decide +kernel, xok_138, fun i r e => by cases e; rfl⟩
theorem xpm_139 : xPm xm_139 := ⟨by decide +kernel, xok_139, fun i r e => by cases e; rfl⟩
theorem xpm_140 : xPm xm_140 := ⟨by decide +kernel, xok_140, fun i r e => by cases e; rfl⟩
theorem xpm_141 : xPm xm_141 := ⟨by decide +kernel, xok_141, fun i r e => by cases e; rfl⟩
theorem xpm_142 : xPm xm_142 := ⟨by decide +kernel, xok_142, fun i r e => by cases e; rfl⟩
theorem xpm_143 : xPm xm_143 := ⟨by decide +kernel, xok_143, fun i r e => by cases e; rfl⟩
theorem xpm_144 : xPm xm_144 := ⟨by decide +kernel, xok_144, fun i r e => by cases e; rfl⟩
theorem xpm_145 : xPm xm_145 := ⟨by decide +kernel, xok_145, fun i r e => by cases e; rfl⟩
theorem xpm_146 : xPm xm_146 := ⟨by decide +kernel, xok_146, fun i r e => by cases e; rfl⟩
theorem xpm_147 : xPm xm_147 := ⟨by decide +kernel, xok_147, fun i r e => by cases e; rfl⟩
theorem xpm_148 : xPm xm_148 := ⟨by decide +kernel, xok_148, fun i r e => by cases e; rfl⟩
theorem xpm_149 : xPm xm_149 := ⟨by decide +kernel, xok_149, fun i r e => by cases e; rfl⟩
theorem xpm_150 : xPm xm_150 := ⟨by decide +kernel, xok_150, fun i r e => by cases e; rfl⟩
theorem xpm_151 : xPm xm_151 := ⟨by decide +kernel, xok_151, fun i r e => by cases e; rfl⟩
theorem xpm_152 : xPm xm_152 := ⟨by decide +kernel, xok_152, fun i r e => by cases e; rfl⟩
theorem xpm_153 : xPm xm_153 := ⟨by decide +kernel, xok_153, fun i r e => by cases e; rfl⟩
theorem xpm_154 : xPm xm_154 := ⟨by decide +kernel, xok_154, fun i r e => by cases e; rfl⟩
theorem xpm_155 : xPm xm_155 := ⟨by decide +kernel, xok_155, fun i r e => by cases e; rfl⟩
theorem xpm_156 : xPm xm_156 := ⟨by decide +kernel, xok_156, fun i r e => by cases e; rfl⟩
theorem xpm_157 : xPm xm_157 := ⟨by decide +kernel, xok_157, fun i r e => by cases e; rfl⟩
theorem xpm_158 : xPm xm_158 := ⟨by decide +kernel, xok_158, fun i r e => by cases e; rfl⟩
theorem xpm_159 : xPm xm_159 := ⟨by decide +kernel, xok_159, fun i r e => by cases e; rfl⟩
theorem xpm_160 : xPm xm_160 := ⟨by decide +kernel, xok_160, fun i r e => by cases e; rfl⟩
theorem xpm_161 : xPm xm_161 := ⟨by decide +kernel, xok_161, fun i r e => by cases e; rfl⟩
theorem xpm_162 : xPm xm_162 := ⟨by decide +kernel, xok_162, fun i r e => by cases e; rfl⟩
theorem xpm_163 : xPm xm_163 := ⟨by decide +kernel, xok_163, fun i r e => by cases e; rfl⟩
theorem xpm_164 : xPm xm_164 := ⟨by decide +kernel, xok_164, fun i r e => by cases e; rfl⟩
theorem xpm_165 : xPm xm_165 := ⟨by decide +kernel, xok_165, fun i r e => by cases e; rfl⟩
theorem xpm_166 : xPm xm_166 := ⟨by decide +kernel, xok_166, fun i r e => by cases e; rfl⟩
theorem xpm_167 : xPm xm_167 := ⟨by decide +kernel, xok_167, fun i r e => by cases e; rfl⟩
theorem xpm_168 : xPm xm_168 := ⟨by decide +kernel, xok_168, fun i r e => by cases e; rfl⟩
theorem xpm_169 : xPm xm_169 := ⟨by decide +kernel, xok_169, fun i r e => by cases e; rfl⟩
theorem xpm_170 : xPm xm_170 := ⟨by decide +kernel, xok_170, fun i r e => by cases e; rfl⟩
theorem xpm_171 : xPm xm_171 := ⟨by decide +kernel, xok_171, fun i r e => by cases e; rfl⟩
theorem xpm_172 : xPm xm_172 := ⟨by decide +kernel, xok_172, fun i r e => by cases e; rfl⟩
theorem xpm_173 : xPm xm_173 := ⟨by decide +kernel, xok_173, fun i r e => by cases e; rfl⟩
theorem xpm_174 : xPm xm_174 := ⟨by decide +kernel, xok_174, fun i r e => by cases e; rfl⟩
theorem xpm_175 : xPm xm_175 := ⟨by decide +kernel, xok_175, fun i r e => by cases e; rfl⟩
theorem xpm_176 : xPm xm_176 := ⟨by decide +kernel, xok_176, fun i r e => by cases e; rfl⟩
theorem xpm_177 : xPm xm_177 := ⟨by decide +kernel, xok_177, fun i r e => by cases e; rfl⟩
theorem xpm_178 : xPm xm_178 := ⟨by decide +kernel, xok_178, fun i r e => by cases e; rfl⟩
theorem xpm_179 : xPm xm_179 := ⟨by decide +kernel, xok_179, fun i r e => by cases e; rfl⟩
theorem xpm_180 : xPm xm_180 := ⟨by decide +kernel, xok_180, fun i r e => by cases e; rfl⟩
theorem xpm_181 : xPm xm_181 := ⟨by decide +kernel, xok_181, fun i r e => by cases e; rfl⟩
theorem xpm_182 : xPm xm_182 := ⟨by decide +kernel, xok_182, fun i r e => by cases e; rfl⟩
theorem xpm_183 : xPm xm_183 := ⟨by decide +kernel, xok_183, fun i r e => by cases e; rfl⟩
theorem xpm_184 : xPm xm_184 := ⟨by decide +kernel, xok_184, fun i r e => by cases e; rfl⟩
theorem xpm_185 : xPm xm_185 := ⟨by decide +kernel, xok_185, fun i r e => by cases e; rfl⟩
theorem xpm_186 : xPm xm_186 := ⟨by decide +kernel, xok_186, fun i r e => by cases e; rfl⟩
theorem xpm_187 : xPm xm_187 := ⟨by decide +kernel, xok_187, fun i r e => by cases e; rfl⟩
theorem xpm_188 : xPm xm_188 := ⟨by decide +kernel, xok_188, fun i r e => by cases e; rfl⟩
theorem xpm_189 : xPm xm_189 := ⟨by decide +kernel, xok_189, fun i r e => by cases e; rfl⟩
theorem xpm_190 : xPm xm_190 := ⟨by decide +kernel, xok_190, fun i r e => by cases e; rfl⟩
theorem xpm_191 : xPm xm_191 := ⟨by decide +kernel, xok_191, fun i r e => by cases e; rfl⟩
theorem xpm_192 : xPm xm_192 := ⟨by decide +kernel, xok_192, fun i r e => by cases e; rfl⟩
theorem xpm_193 : xPm xm_193 := ⟨by decide +kernel, xok_193, fun i r e => by cases e; rfl⟩
theorem xpm_194 : xPm xm_194 := ⟨by decide +kernel, xok_194, fun i r e => by cases e; rfl⟩
theorem xpm_195 : xPm xm_195 := ⟨by decide +kernel, xok_195, fun i r e => by cases e; rfl⟩
theorem xpm_196 : xPm xm_196 := ⟨by decide +kernel, xok_196, fun i r e => by cases e; rfl⟩
theorem xpm_197 : xPm xm_197 := ⟨by decide +kernel, xok_197, fun i r e => by cases e; rfl⟩
theorem xpm_198 : xPm xm_198 := ⟨by decide +kernel, xok_198, fun i r e => by cases e; rfl⟩
theorem xpm_199 : xPm xm_199 := ⟨by decide +kernel, xok_199, fun i r e => by cases e; rfl⟩
theorem xpm_200 : xPm xm_200 := ⟨by decide +kernel, xok_200, fun i r e => by cases e; rfl⟩
theorem xpm_201 : xPm xm_201 := ⟨by decide +kernel, xok_201, fun i r e => by cases e; rfl⟩
theorem xpm_202 : xPm xm_202 := ⟨by decide +kernel, xok_202, fun i r e => by cases e; rfl⟩
theorem xpm_203 : xPm xm_203 := ⟨by decide +kernel, xok_203, fun i r e => by cases e; rfl⟩
theorem xpm_204 : xPm xm_204 := ⟨by decide +kernel, xok_204, fun i r e => by cases e; rfl⟩
theorem xpm_205 : xPm xm_205 := ⟨by decide +kernel, xok_205, fun i r e => by cases e; rfl⟩
theorem xpm_206 : xPm xm_206 := ⟨by decide +kernel, xok_206, fun i r e => by cases e; rfl⟩
theorem xpm_207 : xPm xm_207 := ⟨by decide +kernel, xok_207, fun i r e => by cases e; rfl⟩
theorem xpm_208 : xPm xm_208 := ⟨by decide +kernel, xok_208, fun i r e => by cases e; rfl⟩
theorem xpm_209 : xPm xm_209 := ⟨by decide +kernel, xok_209, fun i r e => by cases e; rfl⟩
theorem xpm_210 : xPm xm_210 := ⟨by decide +kernel, xok_210, fun i r e => by cases e; rfl⟩
theorem xpm_211 : xPm xm_211 := ⟨by decide +kernel, xok_211, fun i r e => by cases e; rfl⟩
theorem xpm_212 : xPm xm_212 := ⟨by decide +kernel, xok_212, fun i r e => by cases e; rfl⟩
theorem xpm_213 : xPm xm_213 := ⟨by decide +kernel, xok_213, fun i r e => by cases e; rfl⟩
theorem xpm_214 : xPm xm_214 := ⟨by decide +kernel, xok_214, fun i r e => by cases e; rfl⟩
theorem xpm_215 : xPm xm_215 := ⟨by decide +kernel, xok_215, fun i r e => by cases e; rfl⟩
theorem xpm_216 : xPm xm_216 := ⟨by decide +kernel, xok_216, fun i r e => by cases e; rfl⟩
theorem xpm_217 : xPm xm_217 := ⟨by decide +kernel, xok_217, fun i r e => by cases e; rfl⟩
theorem xpm_218 : xPm xm_218 := ⟨by decide +kernel, xok_218, fun i r e => by cases e; rfl⟩
theorem xpm_219 : xPm xm_219 := ⟨by decide +kernel, xok_219, fun i r e => by cases e; rfl⟩
theorem xpm_220 : xPm xm_220 := ⟨by decide +kernel, xok_220, fun i r e => by cases e; rfl⟩
theorem xpm_221 : xPm xm_221 := ⟨by decide +kernel, xok_221, fun i r e => by cases e; rfl⟩
theorem xpm_222 : xPm xm_222 := ⟨by decide +kernel, xok_222, fun i r e => by cases e; rfl⟩
theorem xpm_223 : xPm xm_223 := ⟨by decide +kernel, xok_223, fun i r e => by cases e; rfl⟩
theorem xpm_224 : xPm xm_224 := ⟨by decide +kernel, xok_224, fun i r e => by cases e; rfl⟩
theorem xpm_225 : xPm xm_225 := ⟨by decide +kernel, xok_225, fun i r e => by cases e; rfl⟩
theorem xpm_226 : xPm xm_226 := ⟨by decide +kernel, xok_226, fun i r e => by cases e; rfl⟩
theorem xpm_227 : xPm xm_227 := ⟨by decide +kernel, xok_227, fun i r e => by cases e; rfl⟩
theorem xpm_228 : xPm xm_228 := ⟨by decide +kernel, xok_228, fun i r e => by cases e; rfl⟩
theorem xpm_229 : xPm xm_229 := ⟨by decide +kernel, xok_229, fun i r e => by cases e; rfl⟩
theorem xpm_230 : xPm xm_230 := ⟨by decide +kernel, xok_230, fun i r e => by cases e; rfl⟩
theorem xpm_231 : xPm xm_231 := ⟨by decide +kernel, xok_231, fun i r e => by cases e; rfl⟩
theorem xpm_232 : xPm xm_232 := ⟨by decide +kernel, xok_232, fun i r e => by cases e; rfl⟩
theorem xpm_233 : xPm xm_233 := ⟨by decide +kernel, xok_233, fun i r e => by cases e; rfl⟩
theorem xpm_234 : xPm xm_234 := ⟨by decide +kernel, xok_234, fun i r e => by cases e; rfl⟩
theorem xpm_235 : xPm xm_235 := ⟨by decide +kernel, xok_235, fun i r e => by cases e; rfl⟩
theorem xpm_236 : xPm xm_236 := ⟨by decide +kernel, xok_236, fun i r e => by cases e; rfl⟩
theorem xpm_237 : xPm xm_237 := ⟨by decide +kernel, xok_237, fun i r e => by cases e; rfl⟩
theorem xpm_238 : xPm xm_238 := ⟨by decide +kernel, xok_238, fun i r e => by cases e; rfl⟩
theorem xpm_239 : xPm xm_239 := ⟨by decide +kernel, xok_239, fun i r e => by cases e; rfl⟩
theorem xpm_240 : xPm xm_240 := ⟨by decide +kernel, xok_240, fun i r e => by cases e; rfl⟩
theorem xpm_241 : xPm xm_241 := ⟨by decide +kernel, xok_241, fun i r e => by cases e; rfl⟩
theorem xpm_242 : xPm xm_242 := ⟨by decide +kernel, xok_242, fun i r e => by cases e; rfl⟩
theorem xpm_243 : xPm xm_243 := ⟨by decide +kernel, xok_243, fun i r e => by cases e; rfl⟩
theorem xpm_244 : xPm xm_244 := ⟨by decide +kernel, xok_244, fun i r e => by cases e; rfl⟩
theorem xpm_245 : xPm xm_245 := ⟨by decide +kernel, xok_245, fun i r e => by cases e; rfl⟩
theorem xpm_246 : xPm xm_246 := ⟨by decide +kernel, xok_246, fun i r e => by cases e; rfl⟩
theorem xpm_247 : xPm xm_247 := ⟨by decide +kernel, xok_247, fun i r e => by cases e; rfl⟩
theorem xpm_248 : xPm xm_248 := ⟨by decide +kernel, xok_248, fun i r e => by cases e; rfl⟩
theorem xpm_249 : xPm xm_249 := ⟨by decide +kernel, xok_249, fun i r e => by cases e; rfl⟩
theorem xpm_250 : xPm xm_250 := ⟨by decide +kernel, xok_250, fun i r e => by cases e; rfl⟩
theorem xpm_251 : xPm xm_251 := ⟨by decide +kernel, xok_251, fun i r e => by cases e; rfl⟩
theorem xpm_252 : xPm xm_252 := ⟨by decide +kernel, xok_252, fun i r e => by cases e; rfl⟩
theorem xpm_253 : xPm xm_253 := ⟨by decide +kernel, xok_253, fun i r e => by cases e; rfl⟩
theorem xpm_254 : xPm xm_254 := ⟨by decide +kernel, xok_254, fun i r e => by cases e; rfl⟩
theorem xpm_255 : xPm xm_255 := ⟨by decide +kernel, xok_255, fun i r e => by cases e; rfl⟩
theorem xpm_256 : xPm xm_256 := ⟨by decide +kernel, xok_256, fun i r e => by cases e; rfl⟩
theorem xpm_257 : xPm xm_257 := ⟨by decide +kernel, xok_257, fun i r e => by cases e; rfl⟩
theorem xpm_258 : xPm xm_258 := ⟨by decide +kernel, xok_258, fun i r e => by cases e; rfl⟩
theorem xpm_259 : xPm xm_259 := ⟨by decide +kernel, xok_259, fun i r e => by cases e; rfl⟩
theorem xpm_260 : xPm xm_260 := ⟨by decide +kernel, xok_260, fun i r e => by cases e; rfl⟩
theorem xpm_261 : xPm xm_261 := ⟨by decide +kernel, xok_261, fun i r e => by cases e; rfl⟩
set_option maxRecDepth 100000 in
theorem xG2 : ∀ mc ∈ xMs, xPm mc := List.forall_mem_cons.mpr ⟨xpm_0, List.forall_mem_cons.mpr ⟨xpm_1, List.forall_mem_cons.mpr ⟨xpm_2, List.forall_mem_cons.mpr ⟨xpm_3, List.forall_mem_cons.mpr ⟨xpm_4, List.forall_mem_cons.mpr ⟨xpm_5, List.forall_mem_cons.mpr ⟨xpm_6, List.forall_mem_cons.mpr ⟨xpm_7, List.forall_mem_cons.mpr ⟨xpm_8, List.forall_mem_cons.mpr ⟨xpm_9, List.forall_mem_cons.mpr ⟨xpm_10, List.forall_mem_cons.mpr ⟨xpm_11, List.forall_mem_cons.mpr ⟨xpm_12, List.forall_mem_cons.mpr ⟨xpm_13, List.forall_mem_cons.mpr ⟨xpm_14, List.forall_mem_cons.mpr ⟨xpm_15, List.forall_mem_cons.mpr ⟨xpm_16, List.forall_mem_cons.mpr ⟨xpm_17, List.forall_mem_cons.mpr ⟨xpm_18, List.forall_mem_cons.mpr ⟨xpm_19, List.forall_mem_cons.mpr ⟨xpm_20, List.forall_mem_cons.mpr ⟨xpm_21, List.forall_mem_cons.mpr ⟨xpm_22, List.forall_mem_cons.mpr ⟨xpm_23, List.forall_mem_cons.mpr ⟨xpm_24, List.forall_mem_cons.mpr ⟨xpm_25, List.forall_mem_cons.mpr ⟨xpm_26, List.forall_mem_cons.mpr ⟨xpm_27, List.forall_mem_cons.mpr ⟨xpm_28, List.forall_mem_cons.mpr ⟨xpm_29, List.forall_mem_cons.mpr ⟨xpm_30, List.forall_mem_cons.mpr ⟨xpm_31, List.forall_mem_cons.mpr ⟨xpm_32, List.forall_mem_cons.mpr ⟨xpm_33, List.forall_mem_cons.mpr ⟨xpm_34, List.forall_mem_cons.mpr ⟨xpm_35, List.forall_mem_cons.mpr ⟨xpm_36, List.forall_mem_cons.mpr ⟨xpm_37, List.forall_mem_cons.mpr ⟨xpm_38, List.forall_mem_cons.mpr ⟨xpm_39, List.forall_mem_cons.mpr ⟨xpm_40, List.forall_mem_cons.mpr ⟨xpm_41, List.forall_mem_cons.mpr ⟨xpm_42, List.forall_mem_cons.mpr ⟨xpm_43, List.forall_mem_cons.mpr ⟨xpm_44, List.forall_mem_cons.mpr ⟨xpm_45, List.forall_mem_cons.mpr ⟨xpm_46, List.forall_mem_cons.mpr ⟨xpm_47, List.forall_mem_cons.mpr ⟨xpm_48, List.forall_mem_cons.mpr ⟨xpm_49, List.forall_mem_cons.mpr ⟨xpm_50, List.forall_mem_cons.mpr ⟨xpm_51, List.forall_mem_cons.mpr ⟨xpm_52, List.forall_mem_cons.mpr ⟨xpm_53, List.forall_mem_cons.mpr ⟨xpm_54, List.forall_mem_cons.mpr ⟨xpm_55, List.forall_mem_cons.mpr ⟨xpm_56, List.forall_mem_cons.mpr ⟨xpm_57, List.forall_mem_cons.mpr ⟨xpm_58, List.forall_mem_cons.mpr ⟨xpm_59, List.forall_mem_cons.mpr ⟨xpm_60, List.forall_mem_cons.mpr ⟨xpm_61, List.forall_mem_cons.mpr ⟨xpm_62, List.forall_mem_cons.mpr ⟨xpm_63, List.forall_mem_cons.mpr ⟨xpm_64, List.forall_mem_cons.mpr ⟨xpm_65, List.forall_mem_cons.mpr ⟨xpm_66, List.forall_mem_cons.mpr ⟨xpm_67, List.forall_mem_cons.mpr ⟨xpm_68, List.forall_mem_cons.mpr ⟨xpm_69, List.forall_mem_cons.mpr ⟨xpm_70, List.forall_mem_cons.mpr ⟨xpm_71, List.forall_mem_cons.mpr ⟨xpm_72, List.forall_mem_cons.mpr ⟨xpm_73, List.forall_mem_cons.mpr ⟨xpm_74, List.forall_mem_cons.mpr ⟨xpm_75, List.forall_mem_cons.mpr ⟨xpm_76, List.forall_mem_cons.mpr ⟨xpm_77, List.forall_mem_cons.mpr ⟨xpm_78, List.forall_mem_cons.mpr ⟨xpm_79, List.forall_mem_cons.mpr ⟨xpm_80, List.forall_mem_cons.mpr ⟨xpm_81, List.forall_mem_cons.mpr ⟨xpm_82, List.forall_mem_cons.mpr ⟨xpm_83, List.forall_mem_cons.mpr ⟨xpm_84, List.forall_mem_cons.mpr ⟨xpm_85, List.forall_mem_cons.mpr ⟨xpm_86, List.forall_mem_cons.mpr ⟨xpm_87, List.forall_mem_cons.mpr ⟨xpm_88, List.forall_mem_cons.mpr ⟨xpm_89, List.forall_mem_cons.mpr ⟨xpm_90, List.forall_mem_cons.mpr ⟨xpm_91, List.forall_mem_cons.mpr ⟨xpm_92, List.forall_mem_cons.mpr ⟨xpm_93, List.forall_mem_cons.mpr ⟨xpm_94, List.forall_mem_cons.mpr ⟨xpm_95, List.forall_mem_cons.mpr ⟨xpm_96, List.forall_mem_cons.mpr ⟨xpm_97, List.forall_mem_cons.mpr ⟨xpm_98, List.forall_mem_cons.mpr ⟨xpm_99, List.forall_mem_cons.mpr ⟨xpm_100, List.forall_mem_cons.mpr ⟨xpm_101, List.forall_mem_cons.mpr ⟨xpm_102, List.forall_mem_cons.mpr ⟨xpm_103, List.forall_mem_cons.mpr ⟨xpm_104, List.forall_mem_cons.mpr ⟨xpm_105, List.forall_mem_cons.mpr ⟨xpm_106, List.forall_mem_cons.mpr ⟨xpm_107, List.forall_mem_cons.mpr ⟨xpm_108, List.forall_mem_cons.mpr ⟨xpm_109, List.forall_mem_cons.mpr ⟨xpm_110, List.forall_mem_cons.mpr ⟨xpm_111, List.forall_mem_cons.mpr ⟨xpm_112, List.forall_mem_cons.mpr ⟨xpm_113, List.forall_mem_cons.mpr ⟨xpm_114, List.forall_mem_cons.mpr ⟨xpm_115, List.forall_mem_cons.mpr ⟨xpm_116, List.forall_mem_cons.mpr ⟨xpm_117, List.forall_mem_cons.mpr ⟨xpm_118, List.forall_mem_cons.mpr ⟨xpm_119, List.forall_mem_cons.mpr ⟨xpm_120, List.forall_mem_cons.mpr ⟨xpm_121, List.forall_mem_cons.mpr ⟨xpm_122, List.forall_mem_cons.mpr ⟨xpm_123, List.forall_mem_cons.mpr ⟨xpm_124, List.forall_mem_cons.mpr ⟨xpm_125, List.forall_mem_cons.mpr ⟨xpm_126, List.forall_mem_cons.mpr ⟨xpm_127, List.forall_mem_cons.mpr ⟨xpm_128, List.forall_mem_cons.mpr ⟨xpm_129, List.forall_mem_cons.mpr ⟨xpm_130, List.forall_mem_cons.mpr ⟨xpm_131, List.forall_mem_cons.mpr ⟨xpm_132, List.forall_mem_cons.mpr ⟨xpm_133, List.forall_mem_cons.mpr ⟨xpm_134, List.forall_mem_cons.mpr ⟨xpm_135, List.forall_mem_cons.mpr ⟨xpm_136, List.forall_mem_cons.mpr ⟨xpm_137, List.forall_mem_cons.mpr ⟨xpm_138, List.forall_mem_cons.mpr ⟨xpm_139, List.forall_mem_cons.mpr ⟨xpm_140, List.forall_mem_cons.mpr ⟨xpm_141, List.forall_mem_cons.mpr ⟨xpm_142, List.forall_mem_cons.mpr ⟨xpm_143, List.forall_mem_cons.mpr ⟨xpm_144, List.forall_mem_cons.mpr ⟨xpm_145, List.forall_mem_cons.mpr ⟨xpm_146, List.forall_mem_cons.mpr ⟨xpm_147, List.forall_mem_cons.mpr ⟨xpm_148, List.forall_mem_cons.mpr ⟨xpm_149, List.forall_mem_cons.mpr ⟨xpm_150, List.forall_mem_cons.mpr ⟨xpm_151, List.forall_mem_cons.mpr ⟨xpm_152, List.forall_mem_cons.mpr ⟨xpm_153, List.forall_mem_cons.mpr ⟨xpm_154, List.forall_mem_cons.mpr ⟨xpm_155, List.forall_mem_cons.mpr ⟨xpm_156, List.forall_mem_cons.mpr ⟨xpm_157, List.forall_mem_cons.mpr ⟨xpm_158, List.forall_mem_cons.mpr ⟨xpm_159, List.forall_mem_cons.mpr ⟨xpm_160, List.forall_mem_cons.mpr ⟨xpm_161, List.forall_mem_cons.mpr ⟨xpm_162, List.forall_mem_cons.mpr ⟨xpm_163, List.forall_mem_cons.mpr ⟨xpm_164, List.forall_mem_cons.mpr ⟨xpm_165, List.forall_mem_cons.mpr ⟨xpm_166, List.forall_mem_cons.mpr ⟨xpm_167, List.forall_mem_cons.mpr ⟨xpm_168, List.forall_mem_cons.mpr ⟨xpm_169, List.forall_mem_cons.mpr ⟨xpm_170, List.forall_mem_cons.mpr ⟨xpm_171, List.forall_mem_cons.mpr ⟨xpm_172, List.forall_mem_cons.mpr ⟨xpm_173, List.forall_mem_cons.mpr ⟨xpm_174, List.forall_mem_cons.mpr ⟨xpm_175, List.forall_mem_cons.mpr ⟨xpm_176, List.forall_mem_cons.mpr ⟨xpm_177, List.forall_mem_cons.mpr ⟨xpm_178, List.forall_mem_cons.mpr ⟨xpm_179, List.forall_mem_cons.mpr ⟨xpm_180, List.forall_mem_cons.mpr ⟨xpm_181, List.forall_mem_cons.mpr ⟨xpm_182, List.forall_mem_cons.mpr ⟨xpm_183, List.forall_mem_cons.mpr ⟨xpm_184, List.forall_mem_cons.mpr ⟨xpm_185, List.forall_mem_cons.mpr ⟨xpm_186, List.forall_mem_cons.mpr ⟨xpm_187, List.forall_mem_cons.mpr ⟨xpm_188, List.forall_mem_cons.mpr ⟨xpm_189, List.forall_mem_cons.mpr ⟨xpm_190, List.forall_mem_cons.mpr ⟨xpm_191, List.forall_mem_cons.mpr ⟨xpm_192, List.forall_mem_cons.mpr ⟨xpm_193, List.forall_mem_cons.mpr ⟨xpm_194, List.forall_mem_cons.mpr ⟨xpm_195, List.forall_mem_cons.mpr ⟨xpm_196, List.forall_mem_cons.mpr ⟨xpm_197, List.forall_mem_cons.mpr ⟨xpm_198, List.forall_mem_cons.mpr ⟨xpm_199, List.forall_mem_cons.mpr ⟨xpm_200, List.forall_mem_cons.mpr ⟨xpm_201, List.forall_mem_cons.mpr ⟨xpm_202, List.forall_mem_cons.mpr ⟨xpm_203, List.forall_mem_cons.mpr ⟨xpm_204, List.forall_mem_cons.mpr ⟨xpm_205, List.forall_mem_cons.mpr ⟨xpm_206, List.forall_mem_cons.mpr ⟨xpm_207, List.forall_mem_cons.mpr ⟨xpm_208, List.forall_mem_cons.mpr ⟨xpm_209, List.forall_mem_cons.mpr ⟨xpm_210, List.forall_mem_cons.mpr ⟨xpm_211, List.forall_mem_cons.mpr ⟨xpm_212, List.forall_mem_cons.mpr ⟨xpm_213, List.forall_mem_cons.mpr ⟨xpm_214, List.forall_mem_cons.mpr ⟨xpm_215, List.forall_mem_cons.mpr ⟨xpm_216, List.forall_mem_cons.mpr ⟨xpm_217, List.forall_mem_cons.mpr ⟨xpm_218, List.forall_mem_cons.mpr ⟨xpm_219, List.forall_mem_cons.mpr ⟨xpm_220, List.forall_mem_cons.mpr ⟨xpm_221, List.forall_mem_cons.mpr ⟨xpm_222, List.forall_mem_cons.mpr ⟨xpm_223, List.forall_mem_cons.mpr ⟨xpm_224, List.forall_mem_cons.mpr ⟨xpm_225, List.forall_mem_cons.mpr ⟨xpm_226, List.forall_mem_cons.mpr ⟨xpm_227, List.forall_mem_cons.mpr ⟨xpm_228, List.forall_mem_cons.mpr ⟨xpm_229, List.forall_mem_cons.mpr ⟨xpm_230, List.forall_mem_cons.mpr ⟨xpm_231, List.forall_mem_cons.mpr ⟨xpm_232, List.forall_mem_cons.mpr ⟨xpm_233, List.forall_mem_cons.mpr ⟨xpm_234, List.forall_mem_cons.mpr ⟨xpm_235, List.forall_mem_cons.mpr ⟨xpm_236, List.forall_mem_cons.mpr ⟨xpm_237, List.forall_mem_cons.mpr ⟨xpm_238, List.forall_mem_cons.mpr ⟨xpm_239, List.forall_mem_cons.mpr ⟨xpm_240, List.forall_mem_cons.mpr ⟨xpm_241, List.forall_mem_cons.mpr ⟨xpm_242, List.forall_mem_cons.mpr ⟨xpm_243, List.forall_mem_cons.mpr ⟨xpm_244, List.forall_mem_cons.mpr ⟨xpm_245, List.forall_mem_cons.mpr ⟨xpm_246, List.forall_mem_cons.mpr ⟨xpm_247, List.forall_mem_cons.mpr ⟨xpm_248, List.forall_mem_cons.mpr ⟨xpm_249, List.forall_mem_cons.mpr ⟨xpm_250, List.forall_mem_cons.mpr ⟨xpm_251, List.forall_mem_cons.mpr ⟨xpm_252, List.forall_mem_cons.mpr ⟨xpm_253, List.forall_mem_cons.mpr ⟨xpm_254, List.forall_mem_cons.mpr ⟨xpm_255, List.forall_mem_cons.mpr ⟨xpm_256, List.forall_mem_cons.mpr ⟨xpm_257, List.forall_mem_cons.mpr ⟨xpm_258, List.forall_mem_cons.mpr ⟨xpm_259, List.forall_mem_cons.mpr ⟨xpm_260, List.forall_mem_cons.mpr ⟨xpm_261, fun _ h => absurd h List.not_mem_nil⟩⟩⟩⟩⟩⟩⟩⟩⟩⟩⟩⟩⟩⟩⟩⟩⟩⟩⟩⟩⟩⟩⟩⟩⟩⟩⟩⟩⟩⟩⟩⟩⟩⟩⟩⟩⟩⟩⟩⟩⟩⟩⟩⟩⟩⟩⟩⟩⟩⟩⟩⟩⟩⟩⟩⟩⟩⟩⟩⟩⟩⟩⟩⟩⟩⟩⟩⟩⟩⟩⟩⟩⟩⟩⟩⟩⟩⟩⟩⟩⟩⟩⟩⟩⟩⟩⟩⟩⟩⟩⟩⟩⟩⟩⟩⟩⟩⟩⟩⟩⟩⟩⟩⟩⟩⟩⟩⟩⟩⟩⟩⟩⟩⟩⟩⟩⟩⟩⟩⟩⟩⟩⟩⟩⟩⟩⟩⟩⟩⟩⟩⟩⟩⟩⟩⟩⟩⟩⟩⟩⟩⟩⟩⟩⟩⟩⟩⟩⟩⟩⟩⟩⟩⟩⟩⟩⟩⟩⟩⟩⟩⟩⟩⟩⟩⟩⟩⟩⟩⟩⟩⟩⟩⟩⟩⟩⟩⟩⟩⟩⟩⟩⟩⟩⟩⟩⟩⟩⟩⟩⟩⟩⟩⟩⟩⟩⟩⟩⟩⟩⟩⟩⟩⟩⟩⟩⟩⟩⟩⟩⟩⟩⟩⟩⟩⟩⟩⟩⟩⟩⟩⟩⟩⟩⟩⟩⟩⟩⟩⟩⟩⟩⟩⟩⟩⟩⟩⟩⟩⟩⟩⟩⟩⟩⟩⟩⟩⟩⟩⟩⟩⟩⟩⟩⟩⟩⟩⟩⟩⟩⟩⟩
theorem xG : xGl xTc xMs vwCl xTys := ⟨xG1, xG2⟩
