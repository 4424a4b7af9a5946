/-! every case: two contracts that answer alike (written by gen60.py) -/
section LWE
variable {s : State} {la : Launch} {xs : Nat → Int32} {base : Nat} {D : va_G} {dA : Nat → ClassId}
theorem xenvp_of {lo hi : Nat} (h1 : lo ≤ xb (xs 1)) (h2 : xb (xs 1) ≤ hi) : xρ (xext xs) (xenvp lo hi) := by
  have h0 := (xenv0_of (xext_lin xs)).2
  refine ⟨xext_lin xs, fun k q hq => ?_⟩
  match k, hq with
  | 0, hq => exact h0 0 q hq
  | 1, hq => cases hq; rw [xext_at xs (by decide)]; exact ⟨h1, h2⟩
  | 2, hq => exact h0 2 q hq
  | 3, hq => exact h0 3 q hq
  | 4, hq => exact h0 4 q hq
  | 5, hq => exact h0 5 q hq
  | n + 6, hq => exact absurd hq (by simp [xenvp])
theorem lw_t0 : lw_Two la xs base D dA xm_134 xm_135 [.int (xs 1)] := lw_std (na := 1) base (by decide) xin_134 xin_135 (by decide) (by decide) xop_0
theorem lw_t1 : lw_Two la xs base D dA xm_136 xm_137 [.int (xs 1), .int (xs 2), .int (xs 3)] := lw_std (na := 3) base (by decide) xin_136 xin_137 (by decide) (by decide) xop_1
theorem lw_t2 : lw_Two la xs base D dA xm_138 xm_139 [.int (xs 1), .int (xs 2)] := lw_std (na := 2) base (by decide) xin_138 xin_139 (by decide) (by decide) xop_2
theorem lw_t3 : lw_Two la xs base D dA xm_140 xm_141 [.int (xs 1), .int (xs 2), .int (xs 3)] := lw_std (na := 3) base (by decide) xin_140 xin_141 (by decide) (by decide) xop_3
theorem lw_t4 : lw_Two la xs base D dA xm_142 xm_143 [.int (xs 1), .int (xs 2), .int (xs 3)] := lw_std (na := 3) base (by decide) xin_142 xin_143 (by decide) (by decide) xop_4
theorem lw_t5 : lw_Two la xs base D dA xm_144 xm_145 [.int (xs 1), .int (xs 2)] := lw_std (na := 2) base (by decide) xin_144 xin_145 (by decide) (by decide) xop_5
theorem lw_t6 : lw_Two la xs base D dA xm_146 xm_147 [.int (xs 1), .int (xs 2), .int (xs 3)] := lw_std (na := 3) base (by decide) xin_146 xin_147 (by decide) (by decide) xop_6
theorem lw_t7 : lw_Two la xs base D dA xm_148 xm_149 [.int (xs 1), .int (xs 2), .int (xs 3), .int (xs 4), .int (xs 5)] := lw_std (na := 5) base (by decide) xin_148 xin_149 (by decide) (by decide) xop_7
theorem lw_t8 : lw_Two la xs base D dA xm_150 xm_151 [.int (xs 1), .int (xs 2)] := lw_std (na := 2) base (by decide) xin_150 xin_151 (by decide) (by decide) xop_8
theorem lw_t9 : lw_Two la xs base D dA xm_152 xm_153 [.int (xs 1), .int (xs 2)] := lw_std (na := 2) base (by decide) xin_152 xin_153 (by decide) (by decide) xop_9
theorem lw_t10 : lw_Two la xs base D dA xm_154 xm_155 [.int (xs 1), .int (xs 2), .int (xs 3)] := lw_std (na := 3) base (by decide) xin_154 xin_155 (by decide) (by decide) xop_10
theorem lw_t11 : lw_Two la xs base D dA xm_156 xm_157 [.int (xs 1)] := lw_std (na := 1) base (by decide) xin_156 xin_157 (by decide) (by decide) xop_11
theorem lw_t12 : lw_Two la xs base D dA xm_158 xm_159 [.int (xs 1)] := lw_std (na := 1) base (by decide) xin_158 xin_159 (by decide) (by decide) xop_12
theorem lw_t13 : lw_Two la xs base D dA xm_160 xm_161 [.int (xs 1)] := lw_std (na := 1) base (by decide) xin_160 xin_161 (by decide) (by decide) xop_13
theorem lw_t14 : lw_Two la xs base D dA xm_162 xm_163 [.int (xs 1)] := lw_std (na := 1) base (by decide) xin_162 xin_163 (by decide) (by decide) xop_14
theorem lw_t15 : lw_Two la xs base D dA xm_164 xm_165 [.int (xs 1), .int (xs 2), .int (xs 3)] := lw_std (na := 3) base (by decide) xin_164 xin_165 (by decide) (by decide) xop_15
theorem lw_t16 : lw_Two la xs base D dA xm_166 xm_167 [.int (xs 1), .int (xs 2)] := lw_std (na := 2) base (by decide) xin_166 xin_167 (by decide) (by decide) xop_16
theorem lw_t17 : lw_Two la xs base D dA xm_168 xm_169 [.int (xs 1)] := lw_std (na := 1) base (by decide) xin_168 xin_169 (by decide) (by decide) xop_17
theorem lw_t18 : lw_Two la xs base D dA xm_170 xm_171 [.int (xs 1)] := lw_sp (na := 1) xbs_18 base (by decide) (xrun_ok xG 200000) (xrun_ok xG 200000) xin_170 xin_171 (by decide) (by decide) (xenv0_of (xext_lin xs)) (xenv0_of (xext_lin xs)) xsx_18 xsm_18
theorem lw_t19 : lw_Two la xs base D dA xm_172 xm_173 [.int (xs 1), .int (xs 2), .int (xs 3)] := lw_std (na := 3) base (by decide) xin_172 xin_173 (by decide) (by decide) xop_19
theorem lw_t20 : lw_Two la xs base D dA xm_174 xm_175 [.int (xs 1), .int (xs 2), .int (xs 3)] := lw_std (na := 3) base (by decide) xin_174 xin_175 (by decide) (by decide) xop_20
theorem lw_t21 : lw_Two la xs base D dA xm_176 xm_177 [.int (xs 1), .int (xs 2)] := lw_std (na := 2) base (by decide) xin_176 xin_177 (by decide) (by decide) xop_21
theorem lw_t22 : lw_Two la xs base D dA xm_178 xm_179 [.int (xs 1)] := lw_std (na := 1) base (by decide) xin_178 xin_179 (by decide) (by decide) xop_22
theorem lw_t23 : lw_Two la xs base D dA xm_180 xm_181 [.int (xs 1), .int (xs 2), .int (xs 3)] := lw_std (na := 3) base (by decide) xin_180 xin_181 (by decide) (by decide) xop_23
theorem lw_t24 : lw_Two la xs base D dA xm_182 xm_183 [.int (xs 1)] := lw_std (na := 1) base (by decide) xin_182 xin_183 (by decide) (by decide) xop_24
theorem lw_t25 : lw_Two la xs base D dA xm_254 xm_255 [] := lw_sp (na := 0) xbs_25 base (by decide) (xrunS_ok xG kb_sum 200000) (xrun_ok xG 200000) xin_254 xin_255 (by decide) (by decide) (xenv0_of (xext_lin xs)) (xenv0_of (xext_lin xs)) xsx_25 xsm_25
theorem lw_t26 : lw_Two la xs base D dA xm_184 xm_185 [.int (xs 1), .int (xs 2)] := lw_std (na := 2) base (by decide) xin_184 xin_185 (by decide) (by decide) xop_26
theorem lw_t27 : lw_Two la xs base D dA xm_186 xm_187 [.int (xs 1)] := lw_std (na := 1) base (by decide) xin_186 xin_187 (by decide) (by decide) xop_27
theorem lw_t28 : lw_Two la xs base D dA xm_188 xm_189 [.int (xs 1), .int (xs 2)] := lw_std (na := 2) base (by decide) xin_188 xin_189 (by decide) (by decide) xop_28
theorem lw_t29 : lw_Two la xs base D dA xm_190 xm_191 [] := lw_std (na := 0) base (by decide) xin_190 xin_191 (by decide) (by decide) xop_29
theorem lw_t30 : lw_Two la xs base D dA xm_192 xm_193 [.int (xs 1), .int (xs 2), .int (xs 3)] := lw_std (na := 3) base (by decide) xin_192 xin_193 (by decide) (by decide) xop_30
theorem lw_t31 : lw_Two la xs base D dA xm_194 xm_195 [.int (xs 1)] := lw_std (na := 1) base (by decide) xin_194 xin_195 (by decide) (by decide) xop_31
theorem lw_t32 : lw_Two la xs base D dA xm_196 xm_197 [.int (xs 1), .int (xs 2)] := lw_std (na := 2) base (by decide) xin_196 xin_197 (by decide) (by decide) xop_32
theorem lw_t33 : lw_Two la xs base D dA xm_198 xm_199 [.int (xs 1)] := lw_std (na := 1) base (by decide) xin_198 xin_199 (by decide) (by decide) xop_33
theorem lw_t34 : lw_Two la xs base D dA xm_200 xm_201 [] := lw_std (na := 0) base (by decide) xin_200 xin_201 (by decide) (by decide) xop_34
theorem lw_t35 : lw_Two la xs base D dA xm_202 xm_203 [] := lw_std (na := 0) base (by decide) xin_202 xin_203 (by decide) (by decide) xop_35
theorem lw_t36 : lw_Two la xs base D dA xm_204 xm_205 [.int (xs 1), .int (xs 2), .int (xs 3)] := lw_std (na := 3) base (by decide) xin_204 xin_205 (by decide) (by decide) xop_36
theorem lw_t37 : lw_Two la xs base D dA xm_206 xm_207 [.int (xs 1), .int (xs 2), .int (xs 3)] := lw_std (na := 3) base (by decide) xin_206 xin_207 (by decide) (by decide) xop_37
theorem lw_t38 : lw_Two la xs base D dA xm_208 xm_209 [.int (xs 1), .int (xs 2)] := lw_std (na := 2) base (by decide) xin_208 xin_209 (by decide) (by decide) xop_38
theorem lw_t39 : lw_Two la xs base D dA xm_210 xm_211 [.int (xs 1), .int (xs 2)] := lw_std (na := 2) base (by decide) xin_210 xin_211 (by decide) (by decide) xop_39
theorem lw_t40 : lw_Two la xs base D dA xm_212 xm_213 [.int (xs 1), .int (xs 2), .int (xs 3), .int (xs 4), .int (xs 5)] := lw_std (na := 5) base (by decide) xin_212 xin_213 (by decide) (by decide) xop_40
theorem lw_t41 : lw_Two la xs base D dA xm_214 xm_215 [.int (xs 1), .int (xs 2), .int (xs 3)] := lw_std (na := 3) base (by decide) xin_214 xin_215 (by decide) (by decide) xop_41
theorem lw_t42 : lw_Two la xs base D dA xm_216 xm_217 [.int (xs 1), .int (xs 2)] := lw_sp (na := 2) xbs_42 base (by decide) (xrun_ok xG 200000) (xrun_ok xG 200000) xin_216 xin_217 (by decide) (by decide) (xenv0_of (xext_lin xs)) (xenv0_of (xext_lin xs)) xsx_42 xsm_42
theorem lw_t43 : lw_Two la xs base D dA xm_218 xm_219 [.int (xs 1)] := lw_std (na := 1) base (by decide) xin_218 xin_219 (by decide) (by decide) xop_43
theorem lw_t44 : lw_Two la xs base D dA xm_220 xm_221 [.int (xs 1), .int (xs 2)] := lw_std (na := 2) base (by decide) xin_220 xin_221 (by decide) (by decide) xop_44
theorem lw_t45 : lw_Two la xs base D dA xm_222 xm_223 [.int (xs 1), .int (xs 2)] := lw_sp (na := 2) xbs_45 base (by decide) (xrun_ok xG 200000) (xrun_ok xG 200000) xin_222 xin_223 (by decide) (by decide) (xenv0_of (xext_lin xs)) (xenv0_of (xext_lin xs)) xsx_45 xsm_45
theorem lw_t46 : lw_Two la xs base D dA xm_224 xm_225 [.int (xs 1), .int (xs 2), .int (xs 3), .int (xs 4)] := lw_std (na := 4) base (by decide) xin_224 xin_225 (by decide) (by decide) xop_46
theorem lw_t47 : lw_Two la xs base D dA xm_226 xm_227 [.int (xs 1), .int (xs 2)] := lw_std (na := 2) base (by decide) xin_226 xin_227 (by decide) (by decide) xop_47
theorem lw_t48 : lw_Two la xs base D dA xm_228 xm_229 [.int (xs 1), .int (xs 2), .int (xs 3)] := lw_std (na := 3) base (by decide) xin_228 xin_229 (by decide) (by decide) xop_48
theorem lw_t49 : lw_Two la xs base D dA xm_256 xm_257 [.int (xs 1), .int (xs 2)] := lw_sp (na := 2) xbs_49 base (by decide) (xrunS_ok xG dk_sum 200000) (xrunS_ok xG fl_sum 200000) xin_256 xin_257 (by decide) (by decide) (xenv0_of (xext_lin xs)) (xenv0_of (xext_lin xs)) xsx_49 xsm_49
theorem lw_t50 : lw_Two la xs base D dA xm_258 xm_259 [.int (xs 1), .int (xs 2), .int (xs 3)] := by
  have hm := xb_max (xs 1)
  by_cases h0 : xb (xs 1) ≤ 2147483648
  · exact lw_sp (na := 3) xbs_50 base (by decide) (xrunS_ok xG dk_sum 200000) (xrunS_ok xG fl_sum 200000) xin_258 xin_259 (by decide) (by decide) (xenv0_of (xext_lin xs)) (xenvp_of (by omega) h0) xsx_50 xsm_50_0
  by_cases h1 : xb (xs 1) ≤ 2147483659
  · exact lw_sp (na := 3) xbs_50 base (by decide) (xrunS_ok xG dk_sum 200000) (xrunS_ok xG fl_sum 200000) xin_258 xin_259 (by decide) (by decide) (xenv0_of (xext_lin xs)) (xenvp_of (by omega) h1) xsx_50 xsm_50_1
  by_cases h2 : xb (xs 1) ≤ 2147483664
  · exact lw_sp (na := 3) xbs_50 base (by decide) (xrunS_ok xG dk_sum 200000) (xrunS_ok xG fl_sum 200000) xin_258 xin_259 (by decide) (by decide) (xenv0_of (xext_lin xs)) (xenvp_of (by omega) h2) xsx_50 xsm_50_2
  by_cases h3 : xb (xs 1) ≤ 2147483668
  · exact lw_sp (na := 3) xbs_50 base (by decide) (xrunS_ok xG dk_sum 200000) (xrunS_ok xG fl_sum 200000) xin_258 xin_259 (by decide) (by decide) (xenv0_of (xext_lin xs)) (xenvp_of (by omega) h3) xsx_50 xsm_50_3
  by_cases h4 : xb (xs 1) ≤ 2147483670
  · exact lw_sp (na := 3) xbs_50 base (by decide) (xrunS_ok xG dk_sum 200000) (xrunS_ok xG fl_sum 200000) xin_258 xin_259 (by decide) (by decide) (xenv0_of (xext_lin xs)) (xenvp_of (by omega) h4) xsx_50 xsm_50_4
  by_cases h5 : xb (xs 1) ≤ 2147483672
  · exact lw_sp (na := 3) xbs_50 base (by decide) (xrunS_ok xG dk_sum 200000) (xrunS_ok xG fl_sum 200000) xin_258 xin_259 (by decide) (by decide) (xenv0_of (xext_lin xs)) (xenvp_of (by omega) h5) xsx_50 xsm_50_5
  · exact lw_sp (na := 3) xbs_50 base (by decide) (xrunS_ok xG dk_sum 200000) (xrunS_ok xG fl_sum 200000) xin_258 xin_259 (by decide) (by decide) (xenv0_of (xext_lin xs)) (xenvp_of (by omega) (by omega)) xsx_50 xsm_50_6
theorem lw_t51 : lw_Two la xs base D dA xm_230 xm_231 [.int (xs 1), .int (xs 2)] := lw_std (na := 2) base (by decide) xin_230 xin_231 (by decide) (by decide) xop_51
theorem lw_t52 : lw_Two la xs base D dA xm_232 xm_233 [.int (xs 1), .int (xs 2), .int (xs 3)] := lw_std (na := 3) base (by decide) xin_232 xin_233 (by decide) (by decide) xop_52
theorem lw_t53 : lw_Two la xs base D dA xm_234 xm_235 [.int (xs 1)] := lw_std (na := 1) base (by decide) xin_234 xin_235 (by decide) (by decide) xop_53
theorem lw_t54 : lw_Two la xs base D dA xm_236 xm_237 [.int (xs 1), .int (xs 2)] := lw_std (na := 2) base (by decide) xin_236 xin_237 (by decide) (by decide) xop_54
theorem lw_t55 : lw_Two la xs base D dA xm_238 xm_239 [.int (xs 1)] := lw_std (na := 1) base (by decide) xin_238 xin_239 (by decide) (by decide) xop_55
theorem lw_t56 : lw_Two la xs base D dA xm_240 xm_241 [.int (xs 1), .int (xs 2), .int (xs 3)] := lw_std (na := 3) base (by decide) xin_240 xin_241 (by decide) (by decide) xop_56
theorem lw_t57 : lw_Two la xs base D dA xm_242 xm_243 [.int (xs 1), .int (xs 2)] := lw_std (na := 2) base (by decide) xin_242 xin_243 (by decide) (by decide) xop_57
theorem lw_t58 : lw_Two la xs base D dA xm_244 xm_245 [.int (xs 1), .int (xs 2)] := lw_std (na := 2) base (by decide) xin_244 xin_245 (by decide) (by decide) xop_58
theorem lw_t59 : lw_Two la xs base D dA xm_246 xm_247 [.int (xs 1)] := lw_std (na := 1) base (by decide) xin_246 xin_247 (by decide) (by decide) xop_59
theorem lw_t60 : lw_Two la xs base D dA xm_260 xm_261 [.int (xs 1), .int (xs 2), .int (xs 3)] := lw_sp (na := 3) xbs_60 base (by decide) (xrunS_ok xG dk_sum 200000) (xrunS_ok xG fl_sum 200000) xin_260 xin_261 (by decide) (by decide) (xenv0_of (xext_lin xs)) (xenv0_of (xext_lin xs)) xsx_60 xsm_60
theorem lw_t61 : lw_Two la xs base D dA xm_248 xm_249 [] := lw_sp (na := 0) xbs_61 base (by decide) (xrun_ok xG 200000) (xrunS_ok xG kp_sum 200000) xin_248 xin_249 (by decide) (by decide) (xenv0_of (xext_lin xs)) (xenv0_of (xext_lin xs)) xsx_61 xsm_61
theorem lw_t62 : lw_Two la xs base D dA xm_250 xm_251 [] := lw_std (na := 0) base (by decide) xin_250 xin_251 (by decide) (by decide) xop_62
theorem lw_t63 : lw_Two la xs base D dA xm_252 xm_253 [.int (xs 1)] := lw_std (na := 1) base (by decide) xin_252 xin_253 (by decide) (by decide) xop_63
end LWE
