/-! ops of each method, and that each is sound -/
theorem d164_0 : decode (pB 164) 0 = .ok (.iload_n 0, 1) := by decide +kernel
theorem d164_1 : decode (pB 164) 1 = .ok (.iload_n 0, 1) := by decide +kernel
theorem d164_2 : decode (pB 164) 2 = .ok (.iconst 1, 1) := by decide +kernel
theorem d164_3 : decode (pB 164) 3 = .ok (.iushr, 1) := by decide +kernel
theorem d164_4 : decode (pB 164) 4 = .ok (.ldc_w 265, 3) := by decide +kernel
theorem d164_7 : decode (pB 164) 7 = .ok (.iand, 1) := by decide +kernel
theorem d164_8 : decode (pB 164) 8 = .ok (.isub, 1) := by decide +kernel
theorem d164_9 : decode (pB 164) 9 = .ok (.istore_n 0, 1) := by decide +kernel
theorem d164_10 : decode (pB 164) 10 = .ok (.iload_n 0, 1) := by decide +kernel
theorem d164_11 : decode (pB 164) 11 = .ok (.ldc_w 266, 3) := by decide +kernel
theorem d164_14 : decode (pB 164) 14 = .ok (.iand, 1) := by decide +kernel
theorem d164_15 : decode (pB 164) 15 = .ok (.iload_n 0, 1) := by decide +kernel
theorem d164_16 : decode (pB 164) 16 = .ok (.iconst 2, 1) := by decide +kernel
theorem d164_17 : decode (pB 164) 17 = .ok (.iushr, 1) := by decide +kernel
theorem d164_18 : decode (pB 164) 18 = .ok (.ldc_w 266, 3) := by decide +kernel
theorem d164_21 : decode (pB 164) 21 = .ok (.iand, 1) := by decide +kernel
theorem d164_22 : decode (pB 164) 22 = .ok (.iadd, 1) := by decide +kernel
theorem d164_23 : decode (pB 164) 23 = .ok (.istore_n 0, 1) := by decide +kernel
theorem d164_24 : decode (pB 164) 24 = .ok (.iload_n 0, 1) := by decide +kernel
theorem d164_25 : decode (pB 164) 25 = .ok (.iload_n 0, 1) := by decide +kernel
theorem d164_26 : decode (pB 164) 26 = .ok (.iconst 4, 1) := by decide +kernel
theorem d164_27 : decode (pB 164) 27 = .ok (.iushr, 1) := by decide +kernel
theorem d164_28 : decode (pB 164) 28 = .ok (.iadd, 1) := by decide +kernel
theorem d164_29 : decode (pB 164) 29 = .ok (.ldc_w 267, 3) := by decide +kernel
theorem d164_32 : decode (pB 164) 32 = .ok (.iand, 1) := by decide +kernel
theorem d164_33 : decode (pB 164) 33 = .ok (.istore_n 0, 1) := by decide +kernel
theorem d164_34 : decode (pB 164) 34 = .ok (.iload_n 0, 1) := by decide +kernel
theorem d164_35 : decode (pB 164) 35 = .ok (.iload_n 0, 1) := by decide +kernel
theorem d164_36 : decode (pB 164) 36 = .ok (.bipush 8, 2) := by decide +kernel
theorem d164_38 : decode (pB 164) 38 = .ok (.iushr, 1) := by decide +kernel
theorem d164_39 : decode (pB 164) 39 = .ok (.iadd, 1) := by decide +kernel
theorem d164_40 : decode (pB 164) 40 = .ok (.istore_n 0, 1) := by decide +kernel
theorem d164_41 : decode (pB 164) 41 = .ok (.iload_n 0, 1) := by decide +kernel
theorem d164_42 : decode (pB 164) 42 = .ok (.iload_n 0, 1) := by decide +kernel
theorem d164_43 : decode (pB 164) 43 = .ok (.bipush 16, 2) := by decide +kernel
theorem d164_45 : decode (pB 164) 45 = .ok (.iushr, 1) := by decide +kernel
theorem d164_46 : decode (pB 164) 46 = .ok (.iadd, 1) := by decide +kernel
theorem d164_47 : decode (pB 164) 47 = .ok (.istore_n 0, 1) := by decide +kernel
theorem d164_48 : decode (pB 164) 48 = .ok (.iload_n 0, 1) := by decide +kernel
theorem d164_49 : decode (pB 164) 49 = .ok (.bipush 63, 2) := by decide +kernel
theorem d164_51 : decode (pB 164) 51 = .ok (.iand, 1) := by decide +kernel
theorem d164_52 : decode (pB 164) 52 = .ok (.ireturn, 1) := by decide +kernel
theorem st1_164_0 : p_st1 164 0 = true := by decide +kernel
/-- RJ6.bitCount -/
def t164_0 : List (Nat × pO) := [(0, o_iload 0 1), (1, o_iload 0 2), (2, o_push (.int (nI 1)) 3), (3, o_iushr 4), (4, o_push (.int (1431655765 : Int32)) 7), (7, o_iand 8), (8, o_isub 9), (9, o_istore 0 10), (10, o_iload 0 11), (11, o_push (.int (858993459 : Int32)) 14), (14, o_iand 15), (15, o_iload 0 16), (16, o_push (.int (nI 2)) 17), (17, o_iushr 18), (18, o_push (.int (858993459 : Int32)) 21), (21, o_iand 22), (22, o_iadd 23), (23, o_istore 0 24), (24, o_iload 0 25), (25, o_iload 0 26), (26, o_push (.int (nI 4)) 27), (27, o_iushr 28), (28, o_iadd 29), (29, o_push (.int (252645135 : Int32)) 32), (32, o_iand 33), (33, o_istore 0 34), (34, o_iload 0 35), (35, o_iload 0 36), (36, o_push (.int (nI 8)) 38), (38, o_iushr 39), (39, o_iadd 40), (40, o_istore 0 41), (41, o_iload 0 42), (42, o_iload 0 43), (43, o_push (.int (nI 16)) 45), (45, o_iushr 46), (46, o_iadd 47), (47, o_istore 0 48), (48, o_iload 0 49), (49, o_push (.int (nI 63)) 51)]
theorem ok164_0 : ∀ q ∈ t164_0, p_Z 164 q := List.forall_mem_cons.mpr ⟨⟨s_iload_n d164_0 rfl, tl_iload _ _⟩, List.forall_mem_cons.mpr ⟨⟨s_iload_n d164_1 rfl, tl_iload _ _⟩, List.forall_mem_cons.mpr ⟨⟨s_iconst d164_2 rfl, tl_push _ _⟩, List.forall_mem_cons.mpr ⟨⟨s_iushr d164_3, tl_iushr _⟩, List.forall_mem_cons.mpr ⟨⟨s_ldcw wd_358 d164_4, tl_push _ _⟩, List.forall_mem_cons.mpr ⟨⟨s_iand d164_7, tl_iand _⟩, List.forall_mem_cons.mpr ⟨⟨s_isub d164_8, tl_isub _⟩, List.forall_mem_cons.mpr ⟨⟨s_istore_n d164_9 rfl st1_164_0, tl_istore _ _⟩, List.forall_mem_cons.mpr ⟨⟨s_iload_n d164_10 rfl, tl_iload _ _⟩, List.forall_mem_cons.mpr ⟨⟨s_ldcw wd_359 d164_11, tl_push _ _⟩, List.forall_mem_cons.mpr ⟨⟨s_iand d164_14, tl_iand _⟩, List.forall_mem_cons.mpr ⟨⟨s_iload_n d164_15 rfl, tl_iload _ _⟩, List.forall_mem_cons.mpr ⟨⟨s_iconst d164_16 rfl, tl_push _ _⟩, List.forall_mem_cons.mpr ⟨⟨s_iushr d164_17, tl_iushr _⟩, List.forall_mem_cons.mpr ⟨⟨s_ldcw wd_359 d164_18, tl_push _ _⟩, List.forall_mem_cons.mpr ⟨⟨s_iand d164_21, tl_iand _⟩, List.forall_mem_cons.mpr ⟨⟨s_iadd d164_22, tl_iadd _⟩, List.forall_mem_cons.mpr ⟨⟨s_istore_n d164_23 rfl st1_164_0, tl_istore _ _⟩, List.forall_mem_cons.mpr ⟨⟨s_iload_n d164_24 rfl, tl_iload _ _⟩, List.forall_mem_cons.mpr ⟨⟨s_iload_n d164_25 rfl, tl_iload _ _⟩, List.forall_mem_cons.mpr ⟨⟨s_iconst d164_26 rfl, tl_push _ _⟩, List.forall_mem_cons.mpr ⟨⟨s_iushr d164_27, tl_iushr _⟩, List.forall_mem_cons.mpr ⟨⟨s_iadd d164_28, tl_iadd _⟩, List.forall_mem_cons.mpr ⟨⟨s_ldcw wd_360 d164_29, tl_push _ _⟩, List.forall_mem_cons.mpr ⟨⟨s_iand d164_32, tl_iand _⟩, List.forall_mem_cons.mpr ⟨⟨s_istore_n d164_33 rfl st1_164_0, tl_istore _ _⟩, List.forall_mem_cons.mpr ⟨⟨s_iload_n d164_34 rfl, tl_iload _ _⟩, List.forall_mem_cons.mpr ⟨⟨s_iload_n d164_35 rfl, tl_iload _ _⟩, List.forall_mem_cons.mpr ⟨⟨s_bipush d164_36 rfl, tl_push _ _⟩, List.forall_mem_cons.mpr ⟨⟨s_iushr d164_38, tl_iushr _⟩, List.forall_mem_cons.mpr ⟨⟨s_iadd d164_39, tl_iadd _⟩, List.forall_mem_cons.mpr ⟨⟨s_istore_n d164_40 rfl st1_164_0, tl_istore _ _⟩, List.forall_mem_cons.mpr ⟨⟨s_iload_n d164_41 rfl, tl_iload _ _⟩, List.forall_mem_cons.mpr ⟨⟨s_iload_n d164_42 rfl, tl_iload _ _⟩, List.forall_mem_cons.mpr ⟨⟨s_bipush d164_43 rfl, tl_push _ _⟩, List.forall_mem_cons.mpr ⟨⟨s_iushr d164_45, tl_iushr _⟩, List.forall_mem_cons.mpr ⟨⟨s_iadd d164_46, tl_iadd _⟩, List.forall_mem_cons.mpr ⟨⟨s_istore_n d164_47 rfl st1_164_0, tl_istore _ _⟩, List.forall_mem_cons.mpr ⟨⟨s_iload_n d164_48 rfl, tl_iload _ _⟩, List.forall_mem_cons.mpr ⟨⟨s_bipush d164_49 rfl, tl_push _ _⟩, fun _ h => absurd h List.not_mem_nil⟩⟩⟩⟩⟩⟩⟩⟩⟩⟩⟩⟩⟩⟩⟩⟩⟩⟩⟩⟩⟩⟩⟩⟩⟩⟩⟩⟩⟩⟩⟩⟩⟩⟩⟩⟩⟩⟩⟩⟩
/-- RJ6.bitCount -/
def t164_1 : List (Nat × pO) := [(51, o_iand 52), (52, o_iret)]
theorem ok164_1 : ∀ q ∈ t164_1, p_Z 164 q := List.forall_mem_cons.mpr ⟨⟨s_iand d164_51, tl_iand _⟩, List.forall_mem_cons.mpr ⟨⟨s_iret d164_52 rfl, tl_iret⟩, fun _ h => absurd h List.not_mem_nil⟩⟩
def t164 : List (Nat × pO) := t164_0 ++ (t164_1)
theorem ok164 : ∀ q ∈ t164, p_Z 164 q := List.forall_mem_append.mpr ⟨ok164_0, ok164_1⟩
theorem d165_0 : decode (pB 165) 0 = .ok (.new 7, 3) := by decide +kernel
theorem d165_3 : decode (pB 165) 3 = .ok (.dup, 1) := by decide +kernel
theorem d165_4 : decode (pB 165) 4 = .ok (.invokespecial 9, 3) := by decide +kernel
theorem d165_7 : decode (pB 165) 7 = .ok (.astore_n 1, 1) := by decide +kernel
theorem d165_8 : decode (pB 165) 8 = .ok (.new 10, 3) := by decide +kernel
theorem d165_11 : decode (pB 165) 11 = .ok (.dup, 1) := by decide +kernel
theorem d165_12 : decode (pB 165) 12 = .ok (.invokespecial 12, 3) := by decide +kernel
theorem d165_15 : decode (pB 165) 15 = .ok (.astore_n 2, 1) := by decide +kernel
theorem d165_16 : decode (pB 165) 16 = .ok (.iconst 0, 1) := by decide +kernel
theorem d165_17 : decode (pB 165) 17 = .ok (.istore_n 3, 1) := by decide +kernel
theorem d165_18 : decode (pB 165) 18 = .ok (.iload_n 3, 1) := by decide +kernel
theorem d165_19 : decode (pB 165) 19 = .ok (.aload_n 0, 1) := by decide +kernel
theorem d165_20 : decode (pB 165) 20 = .ok (.arraylength, 1) := by decide +kernel
theorem d165_21 : decode (pB 165) 21 = .ok (.iconst 4, 1) := by decide +kernel
theorem d165_22 : decode (pB 165) 22 = .ok (.isub, 1) := by decide +kernel
theorem d165_23 : decode (pB 165) 23 = .ok (.if_icmp .gt 763, 3) := by decide +kernel
theorem d165_26 : decode (pB 165) 26 = .ok (.aload_n 0, 1) := by decide +kernel
theorem d165_27 : decode (pB 165) 27 = .ok (.iload_n 3, 1) := by decide +kernel
theorem d165_28 : decode (pB 165) 28 = .ok (.iaload, 1) := by decide +kernel
theorem d165_29 : decode (pB 165) 29 = .ok (.bipush 31, 2) := by decide +kernel
theorem d165_31 : decode (pB 165) 31 = .ok (.iand, 1) := by decide +kernel
theorem d165_32 : decode (pB 165) 32 = .ok (.tableswitch 748 0 25 #[120, 153, 166, 199, 222, 255, 298, 321, 344, 357, 370, 403, 436, 469, 492, 515, 548, 561, 584, 597, 650, 663, 676, 689, 702, 725], 120) := by decide +kernel
theorem d165_152 : decode (pB 165) 152 = .ok (.aload_n 1, 1) := by decide +kernel
theorem d165_153 : decode (pB 165) 153 = .ok (.aload_n 0, 1) := by decide +kernel
theorem d165_154 : decode (pB 165) 154 = .ok (.iload_n 3, 1) := by decide +kernel
theorem d165_155 : decode (pB 165) 155 = .ok (.iconst 1, 1) := by decide +kernel
theorem d165_156 : decode (pB 165) 156 = .ok (.iadd, 1) := by decide +kernel
theorem d165_157 : decode (pB 165) 157 = .ok (.iaload, 1) := by decide +kernel
theorem d165_158 : decode (pB 165) 158 = .ok (.aload_n 0, 1) := by decide +kernel
theorem d165_159 : decode (pB 165) 159 = .ok (.iload_n 3, 1) := by decide +kernel
theorem d165_160 : decode (pB 165) 160 = .ok (.iconst 2, 1) := by decide +kernel
theorem d165_161 : decode (pB 165) 161 = .ok (.iadd, 1) := by decide +kernel
theorem d165_162 : decode (pB 165) 162 = .ok (.iaload, 1) := by decide +kernel
theorem d165_163 : decode (pB 165) 163 = .ok (.invokevirtual 13, 3) := by decide +kernel
theorem d165_166 : decode (pB 165) 166 = .ok (.aload_n 2, 1) := by decide +kernel
theorem d165_167 : decode (pB 165) 167 = .ok (.aload_n 0, 1) := by decide +kernel
theorem d165_168 : decode (pB 165) 168 = .ok (.iload_n 3, 1) := by decide +kernel
theorem d165_169 : decode (pB 165) 169 = .ok (.iconst 1, 1) := by decide +kernel
theorem d165_170 : decode (pB 165) 170 = .ok (.iadd, 1) := by decide +kernel
theorem d165_171 : decode (pB 165) 171 = .ok (.iaload, 1) := by decide +kernel
theorem d165_172 : decode (pB 165) 172 = .ok (.aload_n 0, 1) := by decide +kernel
theorem d165_173 : decode (pB 165) 173 = .ok (.iload_n 3, 1) := by decide +kernel
theorem d165_174 : decode (pB 165) 174 = .ok (.iconst 2, 1) := by decide +kernel
theorem d165_175 : decode (pB 165) 175 = .ok (.iadd, 1) := by decide +kernel
theorem d165_176 : decode (pB 165) 176 = .ok (.iaload, 1) := by decide +kernel
theorem d165_177 : decode (pB 165) 177 = .ok (.invokevirtual 17, 3) := by decide +kernel
theorem d165_180 : decode (pB 165) 180 = .ok (.if_icmp .eq 600, 3) := by decide +kernel
theorem d165_183 : decode (pB 165) 183 = .ok (.iconst 0, 1) := by decide +kernel
theorem d165_184 : decode (pB 165) 184 = .ok (.ireturn, 1) := by decide +kernel
theorem d165_185 : decode (pB 165) 185 = .ok (.aload_n 1, 1) := by decide +kernel
theorem d165_186 : decode (pB 165) 186 = .ok (.invokevirtual 18, 3) := by decide +kernel
theorem d165_189 : decode (pB 165) 189 = .ok (.aload_n 2, 1) := by decide +kernel
theorem d165_190 : decode (pB 165) 190 = .ok (.invokevirtual 22, 3) := by decide +kernel
theorem d165_193 : decode (pB 165) 193 = .ok (.if_icmp .eq 587, 3) := by decide +kernel
theorem d165_196 : decode (pB 165) 196 = .ok (.iconst 0, 1) := by decide +kernel
theorem d165_197 : decode (pB 165) 197 = .ok (.ireturn, 1) := by decide +kernel
theorem d165_198 : decode (pB 165) 198 = .ok (.aload_n 1, 1) := by decide +kernel
theorem d165_199 : decode (pB 165) 199 = .ok (.aload_n 0, 1) := by decide +kernel
theorem d165_200 : decode (pB 165) 200 = .ok (.iload_n 3, 1) := by decide +kernel
theorem d165_201 : decode (pB 165) 201 = .ok (.iconst 1, 1) := by decide +kernel
theorem d165_202 : decode (pB 165) 202 = .ok (.iadd, 1) := by decide +kernel
theorem d165_203 : decode (pB 165) 203 = .ok (.iaload, 1) := by decide +kernel
theorem d165_204 : decode (pB 165) 204 = .ok (.aload_n 0, 1) := by decide +kernel
theorem d165_205 : decode (pB 165) 205 = .ok (.iload_n 3, 1) := by decide +kernel
theorem d165_206 : decode (pB 165) 206 = .ok (.iconst 2, 1) := by decide +kernel
theorem d165_207 : decode (pB 165) 207 = .ok (.iadd, 1) := by decide +kernel
theorem d165_208 : decode (pB 165) 208 = .ok (.iaload, 1) := by decide +kernel
theorem d165_209 : decode (pB 165) 209 = .ok (.invokevirtual 23, 3) := by decide +kernel
theorem d165_212 : decode (pB 165) 212 = .ok (.aload_n 2, 1) := by decide +kernel
theorem d165_213 : decode (pB 165) 213 = .ok (.aload_n 0, 1) := by decide +kernel
theorem d165_214 : decode (pB 165) 214 = .ok (.iload_n 3, 1) := by decide +kernel
theorem d165_215 : decode (pB 165) 215 = .ok (.iconst 1, 1) := by decide +kernel
theorem d165_216 : decode (pB 165) 216 = .ok (.iadd, 1) := by decide +kernel
theorem d165_217 : decode (pB 165) 217 = .ok (.iaload, 1) := by decide +kernel
theorem d165_218 : decode (pB 165) 218 = .ok (.aload_n 0, 1) := by decide +kernel
theorem d165_219 : decode (pB 165) 219 = .ok (.iload_n 3, 1) := by decide +kernel
theorem d165_220 : decode (pB 165) 220 = .ok (.iconst 2, 1) := by decide +kernel
theorem d165_221 : decode (pB 165) 221 = .ok (.iadd, 1) := by decide +kernel
theorem d165_222 : decode (pB 165) 222 = .ok (.iaload, 1) := by decide +kernel
theorem d165_223 : decode (pB 165) 223 = .ok (.invokevirtual 26, 3) := by decide +kernel
theorem d165_226 : decode (pB 165) 226 = .ok (.if_icmp .eq 554, 3) := by decide +kernel
theorem d165_229 : decode (pB 165) 229 = .ok (.iconst 0, 1) := by decide +kernel
theorem d165_230 : decode (pB 165) 230 = .ok (.ireturn, 1) := by decide +kernel
theorem d165_231 : decode (pB 165) 231 = .ok (.aload_n 1, 1) := by decide +kernel
theorem d165_232 : decode (pB 165) 232 = .ok (.aload_n 0, 1) := by decide +kernel
theorem d165_233 : decode (pB 165) 233 = .ok (.iload_n 3, 1) := by decide +kernel
theorem d165_234 : decode (pB 165) 234 = .ok (.iconst 1, 1) := by decide +kernel
theorem d165_235 : decode (pB 165) 235 = .ok (.iadd, 1) := by decide +kernel
theorem d165_236 : decode (pB 165) 236 = .ok (.iaload, 1) := by decide +kernel
theorem d165_237 : decode (pB 165) 237 = .ok (.invokevirtual 27, 3) := by decide +kernel
theorem d165_240 : decode (pB 165) 240 = .ok (.aload_n 2, 1) := by decide +kernel
theorem d165_241 : decode (pB 165) 241 = .ok (.aload_n 0, 1) := by decide +kernel
theorem d165_242 : decode (pB 165) 242 = .ok (.iload_n 3, 1) := by decide +kernel
theorem d165_243 : decode (pB 165) 243 = .ok (.iconst 1, 1) := by decide +kernel
theorem d165_244 : decode (pB 165) 244 = .ok (.iadd, 1) := by decide +kernel
theorem d165_245 : decode (pB 165) 245 = .ok (.iaload, 1) := by decide +kernel
theorem d165_246 : decode (pB 165) 246 = .ok (.invokevirtual 31, 3) := by decide +kernel
theorem d165_249 : decode (pB 165) 249 = .ok (.if_icmp .eq 531, 3) := by decide +kernel
theorem d165_252 : decode (pB 165) 252 = .ok (.iconst 0, 1) := by decide +kernel
theorem d165_253 : decode (pB 165) 253 = .ok (.ireturn, 1) := by decide +kernel
theorem d165_254 : decode (pB 165) 254 = .ok (.aload_n 1, 1) := by decide +kernel
theorem d165_255 : decode (pB 165) 255 = .ok (.aload_n 0, 1) := by decide +kernel
theorem d165_256 : decode (pB 165) 256 = .ok (.iload_n 3, 1) := by decide +kernel
theorem d165_257 : decode (pB 165) 257 = .ok (.iconst 1, 1) := by decide +kernel
theorem d165_258 : decode (pB 165) 258 = .ok (.iadd, 1) := by decide +kernel
theorem d165_259 : decode (pB 165) 259 = .ok (.iaload, 1) := by decide +kernel
theorem d165_260 : decode (pB 165) 260 = .ok (.aload_n 0, 1) := by decide +kernel
theorem d165_261 : decode (pB 165) 261 = .ok (.iload_n 3, 1) := by decide +kernel
theorem d165_262 : decode (pB 165) 262 = .ok (.iconst 2, 1) := by decide +kernel
theorem d165_263 : decode (pB 165) 263 = .ok (.iadd, 1) := by decide +kernel
theorem d165_264 : decode (pB 165) 264 = .ok (.iaload, 1) := by decide +kernel
theorem d165_265 : decode (pB 165) 265 = .ok (.invokevirtual 32, 3) := by decide +kernel
theorem d165_268 : decode (pB 165) 268 = .ok (.aload_n 2, 1) := by decide +kernel
theorem d165_269 : decode (pB 165) 269 = .ok (.aload_n 0, 1) := by decide +kernel
theorem d165_270 : decode (pB 165) 270 = .ok (.iload_n 3, 1) := by decide +kernel
theorem d165_271 : decode (pB 165) 271 = .ok (.iconst 1, 1) := by decide +kernel
theorem d165_272 : decode (pB 165) 272 = .ok (.iadd, 1) := by decide +kernel
theorem d165_273 : decode (pB 165) 273 = .ok (.iaload, 1) := by decide +kernel
theorem d165_274 : decode (pB 165) 274 = .ok (.aload_n 0, 1) := by decide +kernel
theorem d165_275 : decode (pB 165) 275 = .ok (.iload_n 3, 1) := by decide +kernel
theorem d165_276 : decode (pB 165) 276 = .ok (.iconst 2, 1) := by decide +kernel
theorem d165_277 : decode (pB 165) 277 = .ok (.iadd, 1) := by decide +kernel
theorem d165_278 : decode (pB 165) 278 = .ok (.iaload, 1) := by decide +kernel
theorem d165_279 : decode (pB 165) 279 = .ok (.invokevirtual 35, 3) := by decide +kernel
theorem d165_282 : decode (pB 165) 282 = .ok (.if_icmp .eq 498, 3) := by decide +kernel
theorem d165_285 : decode (pB 165) 285 = .ok (.iconst 0, 1) := by decide +kernel
theorem d165_286 : decode (pB 165) 286 = .ok (.ireturn, 1) := by decide +kernel
theorem d165_287 : decode (pB 165) 287 = .ok (.aload_n 1, 1) := by decide +kernel
theorem d165_288 : decode (pB 165) 288 = .ok (.aload_n 0, 1) := by decide +kernel
theorem d165_289 : decode (pB 165) 289 = .ok (.iload_n 3, 1) := by decide +kernel
theorem d165_290 : decode (pB 165) 290 = .ok (.iconst 1, 1) := by decide +kernel
theorem d165_291 : decode (pB 165) 291 = .ok (.iadd, 1) := by decide +kernel
theorem d165_292 : decode (pB 165) 292 = .ok (.iaload, 1) := by decide +kernel
theorem d165_293 : decode (pB 165) 293 = .ok (.aload_n 0, 1) := by decide +kernel
theorem d165_294 : decode (pB 165) 294 = .ok (.iload_n 3, 1) := by decide +kernel
theorem d165_295 : decode (pB 165) 295 = .ok (.iconst 2, 1) := by decide +kernel
theorem d165_296 : decode (pB 165) 296 = .ok (.iadd, 1) := by decide +kernel
theorem d165_297 : decode (pB 165) 297 = .ok (.iaload, 1) := by decide +kernel
theorem d165_298 : decode (pB 165) 298 = .ok (.aload_n 0, 1) := by decide +kernel
theorem d165_299 : decode (pB 165) 299 = .ok (.iload_n 3, 1) := by decide +kernel
theorem d165_300 : decode (pB 165) 300 = .ok (.iconst 3, 1) := by decide +kernel
theorem d165_301 : decode (pB 165) 301 = .ok (.iadd, 1) := by decide +kernel
theorem d165_302 : decode (pB 165) 302 = .ok (.iaload, 1) := by decide +kernel
theorem d165_303 : decode (pB 165) 303 = .ok (.invokevirtual 36, 3) := by decide +kernel
theorem d165_306 : decode (pB 165) 306 = .ok (.aload_n 2, 1) := by decide +kernel
theorem d165_307 : decode (pB 165) 307 = .ok (.aload_n 0, 1) := by decide +kernel
theorem d165_308 : decode (pB 165) 308 = .ok (.iload_n 3, 1) := by decide +kernel
theorem d165_309 : decode (pB 165) 309 = .ok (.iconst 1, 1) := by decide +kernel
theorem d165_310 : decode (pB 165) 310 = .ok (.iadd, 1) := by decide +kernel
theorem d165_311 : decode (pB 165) 311 = .ok (.iaload, 1) := by decide +kernel
theorem d165_312 : decode (pB 165) 312 = .ok (.aload_n 0, 1) := by decide +kernel
theorem d165_313 : decode (pB 165) 313 = .ok (.iload_n 3, 1) := by decide +kernel
theorem d165_314 : decode (pB 165) 314 = .ok (.iconst 2, 1) := by decide +kernel
theorem d165_315 : decode (pB 165) 315 = .ok (.iadd, 1) := by decide +kernel
theorem d165_316 : decode (pB 165) 316 = .ok (.iaload, 1) := by decide +kernel
theorem d165_317 : decode (pB 165) 317 = .ok (.aload_n 0, 1) := by decide +kernel
theorem d165_318 : decode (pB 165) 318 = .ok (.iload_n 3, 1) := by decide +kernel
theorem d165_319 : decode (pB 165) 319 = .ok (.iconst 3, 1) := by decide +kernel
theorem d165_320 : decode (pB 165) 320 = .ok (.iadd, 1) := by decide +kernel
theorem d165_321 : decode (pB 165) 321 = .ok (.iaload, 1) := by decide +kernel
theorem d165_322 : decode (pB 165) 322 = .ok (.invokevirtual 40, 3) := by decide +kernel
theorem d165_325 : decode (pB 165) 325 = .ok (.if_icmp .eq 455, 3) := by decide +kernel
theorem d165_328 : decode (pB 165) 328 = .ok (.iconst 0, 1) := by decide +kernel
theorem d165_329 : decode (pB 165) 329 = .ok (.ireturn, 1) := by decide +kernel
theorem d165_330 : decode (pB 165) 330 = .ok (.aload_n 1, 1) := by decide +kernel
theorem d165_331 : decode (pB 165) 331 = .ok (.aload_n 0, 1) := by decide +kernel
theorem d165_332 : decode (pB 165) 332 = .ok (.iload_n 3, 1) := by decide +kernel
theorem d165_333 : decode (pB 165) 333 = .ok (.iconst 1, 1) := by decide +kernel
theorem d165_334 : decode (pB 165) 334 = .ok (.iadd, 1) := by decide +kernel
theorem d165_335 : decode (pB 165) 335 = .ok (.iaload, 1) := by decide +kernel
theorem d165_336 : decode (pB 165) 336 = .ok (.invokevirtual 41, 3) := by decide +kernel
theorem d165_339 : decode (pB 165) 339 = .ok (.aload_n 2, 1) := by decide +kernel
theorem d165_340 : decode (pB 165) 340 = .ok (.aload_n 0, 1) := by decide +kernel
theorem d165_341 : decode (pB 165) 341 = .ok (.iload_n 3, 1) := by decide +kernel
theorem d165_342 : decode (pB 165) 342 = .ok (.iconst 1, 1) := by decide +kernel
theorem d165_343 : decode (pB 165) 343 = .ok (.iadd, 1) := by decide +kernel
theorem d165_344 : decode (pB 165) 344 = .ok (.iaload, 1) := by decide +kernel
theorem d165_345 : decode (pB 165) 345 = .ok (.invokevirtual 44, 3) := by decide +kernel
theorem d165_348 : decode (pB 165) 348 = .ok (.if_icmp .eq 432, 3) := by decide +kernel
theorem d165_351 : decode (pB 165) 351 = .ok (.iconst 0, 1) := by decide +kernel
theorem d165_352 : decode (pB 165) 352 = .ok (.ireturn, 1) := by decide +kernel
theorem d165_353 : decode (pB 165) 353 = .ok (.aload_n 1, 1) := by decide +kernel
theorem d165_354 : decode (pB 165) 354 = .ok (.aload_n 0, 1) := by decide +kernel
theorem d165_355 : decode (pB 165) 355 = .ok (.iload_n 3, 1) := by decide +kernel
theorem d165_356 : decode (pB 165) 356 = .ok (.iconst 1, 1) := by decide +kernel
theorem d165_357 : decode (pB 165) 357 = .ok (.iadd, 1) := by decide +kernel
theorem d165_358 : decode (pB 165) 358 = .ok (.iaload, 1) := by decide +kernel
theorem d165_359 : decode (pB 165) 359 = .ok (.invokevirtual 45, 3) := by decide +kernel
theorem d165_362 : decode (pB 165) 362 = .ok (.aload_n 2, 1) := by decide +kernel
theorem d165_363 : decode (pB 165) 363 = .ok (.aload_n 0, 1) := by decide +kernel
theorem d165_364 : decode (pB 165) 364 = .ok (.iload_n 3, 1) := by decide +kernel
theorem d165_365 : decode (pB 165) 365 = .ok (.iconst 1, 1) := by decide +kernel
theorem d165_366 : decode (pB 165) 366 = .ok (.iadd, 1) := by decide +kernel
theorem d165_367 : decode (pB 165) 367 = .ok (.iaload, 1) := by decide +kernel
theorem d165_368 : decode (pB 165) 368 = .ok (.invokevirtual 48, 3) := by decide +kernel
theorem d165_371 : decode (pB 165) 371 = .ok (.if_icmp .eq 409, 3) := by decide +kernel
theorem d165_374 : decode (pB 165) 374 = .ok (.iconst 0, 1) := by decide +kernel
theorem d165_375 : decode (pB 165) 375 = .ok (.ireturn, 1) := by decide +kernel
theorem d165_376 : decode (pB 165) 376 = .ok (.aload_n 1, 1) := by decide +kernel
theorem d165_377 : decode (pB 165) 377 = .ok (.invokevirtual 49, 3) := by decide +kernel
theorem d165_380 : decode (pB 165) 380 = .ok (.aload_n 2, 1) := by decide +kernel
theorem d165_381 : decode (pB 165) 381 = .ok (.invokevirtual 52, 3) := by decide +kernel
theorem d165_384 : decode (pB 165) 384 = .ok (.if_icmp .eq 396, 3) := by decide +kernel
theorem d165_387 : decode (pB 165) 387 = .ok (.iconst 0, 1) := by decide +kernel
theorem d165_388 : decode (pB 165) 388 = .ok (.ireturn, 1) := by decide +kernel
theorem d165_389 : decode (pB 165) 389 = .ok (.aload_n 1, 1) := by decide +kernel
theorem d165_390 : decode (pB 165) 390 = .ok (.invokevirtual 53, 3) := by decide +kernel
theorem d165_393 : decode (pB 165) 393 = .ok (.aload_n 2, 1) := by decide +kernel
theorem d165_394 : decode (pB 165) 394 = .ok (.invokevirtual 56, 3) := by decide +kernel
theorem d165_397 : decode (pB 165) 397 = .ok (.if_icmp .eq 383, 3) := by decide +kernel
theorem d165_400 : decode (pB 165) 400 = .ok (.iconst 0, 1) := by decide +kernel
theorem d165_401 : decode (pB 165) 401 = .ok (.ireturn, 1) := by decide +kernel
theorem d165_402 : decode (pB 165) 402 = .ok (.aload_n 1, 1) := by decide +kernel
theorem d165_403 : decode (pB 165) 403 = .ok (.aload_n 0, 1) := by decide +kernel
theorem d165_404 : decode (pB 165) 404 = .ok (.iload_n 3, 1) := by decide +kernel
theorem d165_405 : decode (pB 165) 405 = .ok (.iconst 1, 1) := by decide +kernel
theorem d165_406 : decode (pB 165) 406 = .ok (.iadd, 1) := by decide +kernel
theorem d165_407 : decode (pB 165) 407 = .ok (.iaload, 1) := by decide +kernel
theorem d165_408 : decode (pB 165) 408 = .ok (.aload_n 0, 1) := by decide +kernel
theorem d165_409 : decode (pB 165) 409 = .ok (.iload_n 3, 1) := by decide +kernel
theorem d165_410 : decode (pB 165) 410 = .ok (.iconst 2, 1) := by decide +kernel
theorem d165_411 : decode (pB 165) 411 = .ok (.iadd, 1) := by decide +kernel
theorem d165_412 : decode (pB 165) 412 = .ok (.iaload, 1) := by decide +kernel
theorem d165_413 : decode (pB 165) 413 = .ok (.invokevirtual 57, 3) := by decide +kernel
theorem d165_416 : decode (pB 165) 416 = .ok (.aload_n 2, 1) := by decide +kernel
theorem d165_417 : decode (pB 165) 417 = .ok (.aload_n 0, 1) := by decide +kernel
theorem d165_418 : decode (pB 165) 418 = .ok (.iload_n 3, 1) := by decide +kernel
theorem d165_419 : decode (pB 165) 419 = .ok (.iconst 1, 1) := by decide +kernel
theorem d165_420 : decode (pB 165) 420 = .ok (.iadd, 1) := by decide +kernel
theorem d165_421 : decode (pB 165) 421 = .ok (.iaload, 1) := by decide +kernel
theorem d165_422 : decode (pB 165) 422 = .ok (.aload_n 0, 1) := by decide +kernel
theorem d165_423 : decode (pB 165) 423 = .ok (.iload_n 3, 1) := by decide +kernel
theorem d165_424 : decode (pB 165) 424 = .ok (.iconst 2, 1) := by decide +kernel
theorem d165_425 : decode (pB 165) 425 = .ok (.iadd, 1) := by decide +kernel
theorem d165_426 : decode (pB 165) 426 = .ok (.iaload, 1) := by decide +kernel
theorem d165_427 : decode (pB 165) 427 = .ok (.invokevirtual 60, 3) := by decide +kernel
theorem d165_430 : decode (pB 165) 430 = .ok (.if_icmp .eq 350, 3) := by decide +kernel
theorem d165_433 : decode (pB 165) 433 = .ok (.iconst 0, 1) := by decide +kernel
theorem d165_434 : decode (pB 165) 434 = .ok (.ireturn, 1) := by decide +kernel
theorem d165_435 : decode (pB 165) 435 = .ok (.aload_n 1, 1) := by decide +kernel
theorem d165_436 : decode (pB 165) 436 = .ok (.aload_n 0, 1) := by decide +kernel
theorem d165_437 : decode (pB 165) 437 = .ok (.iload_n 3, 1) := by decide +kernel
theorem d165_438 : decode (pB 165) 438 = .ok (.iconst 1, 1) := by decide +kernel
theorem d165_439 : decode (pB 165) 439 = .ok (.iadd, 1) := by decide +kernel
theorem d165_440 : decode (pB 165) 440 = .ok (.iaload, 1) := by decide +kernel
theorem d165_441 : decode (pB 165) 441 = .ok (.aload_n 0, 1) := by decide +kernel
theorem d165_442 : decode (pB 165) 442 = .ok (.iload_n 3, 1) := by decide +kernel
theorem d165_443 : decode (pB 165) 443 = .ok (.iconst 2, 1) := by decide +kernel
theorem d165_444 : decode (pB 165) 444 = .ok (.iadd, 1) := by decide +kernel
theorem d165_445 : decode (pB 165) 445 = .ok (.iaload, 1) := by decide +kernel
theorem d165_446 : decode (pB 165) 446 = .ok (.invokevirtual 61, 3) := by decide +kernel
theorem d165_449 : decode (pB 165) 449 = .ok (.aload_n 2, 1) := by decide +kernel
theorem d165_450 : decode (pB 165) 450 = .ok (.aload_n 0, 1) := by decide +kernel
theorem d165_451 : decode (pB 165) 451 = .ok (.iload_n 3, 1) := by decide +kernel
theorem d165_452 : decode (pB 165) 452 = .ok (.iconst 1, 1) := by decide +kernel
theorem d165_453 : decode (pB 165) 453 = .ok (.iadd, 1) := by decide +kernel
theorem d165_454 : decode (pB 165) 454 = .ok (.iaload, 1) := by decide +kernel
theorem d165_455 : decode (pB 165) 455 = .ok (.aload_n 0, 1) := by decide +kernel
theorem d165_456 : decode (pB 165) 456 = .ok (.iload_n 3, 1) := by decide +kernel
theorem d165_457 : decode (pB 165) 457 = .ok (.iconst 2, 1) := by decide +kernel
theorem d165_458 : decode (pB 165) 458 = .ok (.iadd, 1) := by decide +kernel
theorem d165_459 : decode (pB 165) 459 = .ok (.iaload, 1) := by decide +kernel
theorem d165_460 : decode (pB 165) 460 = .ok (.invokevirtual 64, 3) := by decide +kernel
theorem d165_463 : decode (pB 165) 463 = .ok (.if_icmp .eq 317, 3) := by decide +kernel
theorem d165_466 : decode (pB 165) 466 = .ok (.iconst 0, 1) := by decide +kernel
theorem d165_467 : decode (pB 165) 467 = .ok (.ireturn, 1) := by decide +kernel
theorem d165_468 : decode (pB 165) 468 = .ok (.aload_n 1, 1) := by decide +kernel
theorem d165_469 : decode (pB 165) 469 = .ok (.aload_n 0, 1) := by decide +kernel
theorem d165_470 : decode (pB 165) 470 = .ok (.iload_n 3, 1) := by decide +kernel
theorem d165_471 : decode (pB 165) 471 = .ok (.iconst 1, 1) := by decide +kernel
theorem d165_472 : decode (pB 165) 472 = .ok (.iadd, 1) := by decide +kernel
theorem d165_473 : decode (pB 165) 473 = .ok (.iaload, 1) := by decide +kernel
theorem d165_474 : decode (pB 165) 474 = .ok (.aload_n 0, 1) := by decide +kernel
theorem d165_475 : decode (pB 165) 475 = .ok (.iload_n 3, 1) := by decide +kernel
theorem d165_476 : decode (pB 165) 476 = .ok (.iconst 2, 1) := by decide +kernel
theorem d165_477 : decode (pB 165) 477 = .ok (.iadd, 1) := by decide +kernel
theorem d165_478 : decode (pB 165) 478 = .ok (.iaload, 1) := by decide +kernel
theorem d165_479 : decode (pB 165) 479 = .ok (.invokevirtual 65, 3) := by decide +kernel
theorem d165_482 : decode (pB 165) 482 = .ok (.aload_n 2, 1) := by decide +kernel
theorem d165_483 : decode (pB 165) 483 = .ok (.aload_n 0, 1) := by decide +kernel
theorem d165_484 : decode (pB 165) 484 = .ok (.iload_n 3, 1) := by decide +kernel
theorem d165_485 : decode (pB 165) 485 = .ok (.iconst 1, 1) := by decide +kernel
theorem d165_486 : decode (pB 165) 486 = .ok (.iadd, 1) := by decide +kernel
theorem d165_487 : decode (pB 165) 487 = .ok (.iaload, 1) := by decide +kernel
theorem d165_488 : decode (pB 165) 488 = .ok (.aload_n 0, 1) := by decide +kernel
theorem d165_489 : decode (pB 165) 489 = .ok (.iload_n 3, 1) := by decide +kernel
theorem d165_490 : decode (pB 165) 490 = .ok (.iconst 2, 1) := by decide +kernel
theorem d165_491 : decode (pB 165) 491 = .ok (.iadd, 1) := by decide +kernel
theorem d165_492 : decode (pB 165) 492 = .ok (.iaload, 1) := by decide +kernel
theorem d165_493 : decode (pB 165) 493 = .ok (.invokevirtual 68, 3) := by decide +kernel
theorem d165_496 : decode (pB 165) 496 = .ok (.if_icmp .eq 284, 3) := by decide +kernel
theorem d165_499 : decode (pB 165) 499 = .ok (.iconst 0, 1) := by decide +kernel
theorem d165_500 : decode (pB 165) 500 = .ok (.ireturn, 1) := by decide +kernel
theorem d165_501 : decode (pB 165) 501 = .ok (.aload_n 1, 1) := by decide +kernel
theorem d165_502 : decode (pB 165) 502 = .ok (.aload_n 0, 1) := by decide +kernel
theorem d165_503 : decode (pB 165) 503 = .ok (.iload_n 3, 1) := by decide +kernel
theorem d165_504 : decode (pB 165) 504 = .ok (.iconst 1, 1) := by decide +kernel
theorem d165_505 : decode (pB 165) 505 = .ok (.iadd, 1) := by decide +kernel
theorem d165_506 : decode (pB 165) 506 = .ok (.iaload, 1) := by decide +kernel
theorem d165_507 : decode (pB 165) 507 = .ok (.invokevirtual 69, 3) := by decide +kernel
theorem d165_510 : decode (pB 165) 510 = .ok (.aload_n 2, 1) := by decide +kernel
theorem d165_511 : decode (pB 165) 511 = .ok (.aload_n 0, 1) := by decide +kernel
theorem d165_512 : decode (pB 165) 512 = .ok (.iload_n 3, 1) := by decide +kernel
theorem d165_513 : decode (pB 165) 513 = .ok (.iconst 1, 1) := by decide +kernel
theorem d165_514 : decode (pB 165) 514 = .ok (.iadd, 1) := by decide +kernel
theorem d165_515 : decode (pB 165) 515 = .ok (.iaload, 1) := by decide +kernel
theorem d165_516 : decode (pB 165) 516 = .ok (.invokevirtual 72, 3) := by decide +kernel
theorem d165_519 : decode (pB 165) 519 = .ok (.if_icmp .eq 261, 3) := by decide +kernel
theorem d165_522 : decode (pB 165) 522 = .ok (.iconst 0, 1) := by decide +kernel
theorem d165_523 : decode (pB 165) 523 = .ok (.ireturn, 1) := by decide +kernel
theorem d165_524 : decode (pB 165) 524 = .ok (.aload_n 1, 1) := by decide +kernel
theorem d165_525 : decode (pB 165) 525 = .ok (.aload_n 0, 1) := by decide +kernel
theorem d165_526 : decode (pB 165) 526 = .ok (.iload_n 3, 1) := by decide +kernel
theorem d165_527 : decode (pB 165) 527 = .ok (.iconst 1, 1) := by decide +kernel
theorem d165_528 : decode (pB 165) 528 = .ok (.iadd, 1) := by decide +kernel
theorem d165_529 : decode (pB 165) 529 = .ok (.iaload, 1) := by decide +kernel
theorem d165_530 : decode (pB 165) 530 = .ok (.invokevirtual 73, 3) := by decide +kernel
theorem d165_533 : decode (pB 165) 533 = .ok (.aload_n 2, 1) := by decide +kernel
theorem d165_534 : decode (pB 165) 534 = .ok (.aload_n 0, 1) := by decide +kernel
theorem d165_535 : decode (pB 165) 535 = .ok (.iload_n 3, 1) := by decide +kernel
theorem d165_536 : decode (pB 165) 536 = .ok (.iconst 1, 1) := by decide +kernel
theorem d165_537 : decode (pB 165) 537 = .ok (.iadd, 1) := by decide +kernel
theorem d165_538 : decode (pB 165) 538 = .ok (.iaload, 1) := by decide +kernel
theorem d165_539 : decode (pB 165) 539 = .ok (.invokevirtual 76, 3) := by decide +kernel
theorem d165_542 : decode (pB 165) 542 = .ok (.if_icmp .eq 238, 3) := by decide +kernel
theorem d165_545 : decode (pB 165) 545 = .ok (.iconst 0, 1) := by decide +kernel
theorem d165_546 : decode (pB 165) 546 = .ok (.ireturn, 1) := by decide +kernel
theorem d165_547 : decode (pB 165) 547 = .ok (.aload_n 1, 1) := by decide +kernel
theorem d165_548 : decode (pB 165) 548 = .ok (.aload_n 0, 1) := by decide +kernel
theorem d165_549 : decode (pB 165) 549 = .ok (.iload_n 3, 1) := by decide +kernel
theorem d165_550 : decode (pB 165) 550 = .ok (.iconst 1, 1) := by decide +kernel
theorem d165_551 : decode (pB 165) 551 = .ok (.iadd, 1) := by decide +kernel
theorem d165_552 : decode (pB 165) 552 = .ok (.iaload, 1) := by decide +kernel
theorem d165_553 : decode (pB 165) 553 = .ok (.aload_n 0, 1) := by decide +kernel
theorem d165_554 : decode (pB 165) 554 = .ok (.iload_n 3, 1) := by decide +kernel
theorem d165_555 : decode (pB 165) 555 = .ok (.iconst 2, 1) := by decide +kernel
theorem d165_556 : decode (pB 165) 556 = .ok (.iadd, 1) := by decide +kernel
theorem d165_557 : decode (pB 165) 557 = .ok (.iaload, 1) := by decide +kernel
theorem d165_558 : decode (pB 165) 558 = .ok (.invokevirtual 77, 3) := by decide +kernel
theorem d165_561 : decode (pB 165) 561 = .ok (.aload_n 2, 1) := by decide +kernel
theorem d165_562 : decode (pB 165) 562 = .ok (.aload_n 0, 1) := by decide +kernel
theorem d165_563 : decode (pB 165) 563 = .ok (.iload_n 3, 1) := by decide +kernel
theorem d165_564 : decode (pB 165) 564 = .ok (.iconst 1, 1) := by decide +kernel
theorem d165_565 : decode (pB 165) 565 = .ok (.iadd, 1) := by decide +kernel
theorem d165_566 : decode (pB 165) 566 = .ok (.iaload, 1) := by decide +kernel
theorem d165_567 : decode (pB 165) 567 = .ok (.aload_n 0, 1) := by decide +kernel
theorem d165_568 : decode (pB 165) 568 = .ok (.iload_n 3, 1) := by decide +kernel
theorem d165_569 : decode (pB 165) 569 = .ok (.iconst 2, 1) := by decide +kernel
theorem d165_570 : decode (pB 165) 570 = .ok (.iadd, 1) := by decide +kernel
theorem d165_571 : decode (pB 165) 571 = .ok (.iaload, 1) := by decide +kernel
theorem d165_572 : decode (pB 165) 572 = .ok (.invokevirtual 80, 3) := by decide +kernel
theorem d165_575 : decode (pB 165) 575 = .ok (.if_icmp .eq 205, 3) := by decide +kernel
theorem d165_578 : decode (pB 165) 578 = .ok (.iconst 0, 1) := by decide +kernel
theorem d165_579 : decode (pB 165) 579 = .ok (.ireturn, 1) := by decide +kernel
theorem d165_580 : decode (pB 165) 580 = .ok (.aload_n 1, 1) := by decide +kernel
theorem d165_581 : decode (pB 165) 581 = .ok (.invokevirtual 81, 3) := by decide +kernel
theorem d165_584 : decode (pB 165) 584 = .ok (.aload_n 2, 1) := by decide +kernel
theorem d165_585 : decode (pB 165) 585 = .ok (.invokevirtual 84, 3) := by decide +kernel
theorem d165_588 : decode (pB 165) 588 = .ok (.if_icmp .eq 192, 3) := by decide +kernel
theorem d165_591 : decode (pB 165) 591 = .ok (.iconst 0, 1) := by decide +kernel
theorem d165_592 : decode (pB 165) 592 = .ok (.ireturn, 1) := by decide +kernel
theorem d165_593 : decode (pB 165) 593 = .ok (.aload_n 1, 1) := by decide +kernel
theorem d165_594 : decode (pB 165) 594 = .ok (.aload_n 0, 1) := by decide +kernel
theorem d165_595 : decode (pB 165) 595 = .ok (.iload_n 3, 1) := by decide +kernel
theorem d165_596 : decode (pB 165) 596 = .ok (.iconst 1, 1) := by decide +kernel
theorem d165_597 : decode (pB 165) 597 = .ok (.iadd, 1) := by decide +kernel
theorem d165_598 : decode (pB 165) 598 = .ok (.iaload, 1) := by decide +kernel
theorem d165_599 : decode (pB 165) 599 = .ok (.invokevirtual 85, 3) := by decide +kernel
theorem d165_602 : decode (pB 165) 602 = .ok (.aload_n 2, 1) := by decide +kernel
theorem d165_603 : decode (pB 165) 603 = .ok (.aload_n 0, 1) := by decide +kernel
theorem d165_604 : decode (pB 165) 604 = .ok (.iload_n 3, 1) := by decide +kernel
theorem d165_605 : decode (pB 165) 605 = .ok (.iconst 1, 1) := by decide +kernel
theorem d165_606 : decode (pB 165) 606 = .ok (.iadd, 1) := by decide +kernel
theorem d165_607 : decode (pB 165) 607 = .ok (.iaload, 1) := by decide +kernel
theorem d165_608 : decode (pB 165) 608 = .ok (.invokevirtual 88, 3) := by decide +kernel
theorem d165_611 : decode (pB 165) 611 = .ok (.if_icmp .eq 169, 3) := by decide +kernel
theorem d165_614 : decode (pB 165) 614 = .ok (.iconst 0, 1) := by decide +kernel
theorem d165_615 : decode (pB 165) 615 = .ok (.ireturn, 1) := by decide +kernel
theorem d165_616 : decode (pB 165) 616 = .ok (.aload_n 1, 1) := by decide +kernel
theorem d165_617 : decode (pB 165) 617 = .ok (.invokevirtual 89, 3) := by decide +kernel
theorem d165_620 : decode (pB 165) 620 = .ok (.aload_n 2, 1) := by decide +kernel
theorem d165_621 : decode (pB 165) 621 = .ok (.invokevirtual 92, 3) := by decide +kernel
theorem d165_624 : decode (pB 165) 624 = .ok (.if_icmp .eq 156, 3) := by decide +kernel
theorem d165_627 : decode (pB 165) 627 = .ok (.iconst 0, 1) := by decide +kernel
theorem d165_628 : decode (pB 165) 628 = .ok (.ireturn, 1) := by decide +kernel
theorem d165_629 : decode (pB 165) 629 = .ok (.aload_n 1, 1) := by decide +kernel
theorem d165_630 : decode (pB 165) 630 = .ok (.aload_n 0, 1) := by decide +kernel
theorem d165_631 : decode (pB 165) 631 = .ok (.iload_n 3, 1) := by decide +kernel
theorem d165_632 : decode (pB 165) 632 = .ok (.iconst 1, 1) := by decide +kernel
theorem d165_633 : decode (pB 165) 633 = .ok (.iadd, 1) := by decide +kernel
theorem d165_634 : decode (pB 165) 634 = .ok (.iaload, 1) := by decide +kernel
theorem d165_635 : decode (pB 165) 635 = .ok (.i2l, 1) := by decide +kernel
theorem d165_636 : decode (pB 165) 636 = .ok (.bipush 32, 2) := by decide +kernel
theorem d165_638 : decode (pB 165) 638 = .ok (.lshl, 1) := by decide +kernel
theorem d165_639 : decode (pB 165) 639 = .ok (.aload_n 0, 1) := by decide +kernel
theorem d165_640 : decode (pB 165) 640 = .ok (.iload_n 3, 1) := by decide +kernel
theorem d165_641 : decode (pB 165) 641 = .ok (.iconst 2, 1) := by decide +kernel
theorem d165_642 : decode (pB 165) 642 = .ok (.iadd, 1) := by decide +kernel
theorem d165_643 : decode (pB 165) 643 = .ok (.iaload, 1) := by decide +kernel
theorem d165_644 : decode (pB 165) 644 = .ok (.i2l, 1) := by decide +kernel
theorem d165_645 : decode (pB 165) 645 = .ok (.ldc2_w 93, 3) := by decide +kernel
theorem d165_648 : decode (pB 165) 648 = .ok (.land, 1) := by decide +kernel
theorem d165_649 : decode (pB 165) 649 = .ok (.lor, 1) := by decide +kernel
theorem d165_650 : decode (pB 165) 650 = .ok (.invokevirtual 95, 3) := by decide +kernel
theorem d165_653 : decode (pB 165) 653 = .ok (.aload_n 2, 1) := by decide +kernel
theorem d165_654 : decode (pB 165) 654 = .ok (.aload_n 0, 1) := by decide +kernel
theorem d165_655 : decode (pB 165) 655 = .ok (.iload_n 3, 1) := by decide +kernel
theorem d165_656 : decode (pB 165) 656 = .ok (.iconst 1, 1) := by decide +kernel
theorem d165_657 : decode (pB 165) 657 = .ok (.iadd, 1) := by decide +kernel
theorem d165_658 : decode (pB 165) 658 = .ok (.iaload, 1) := by decide +kernel
theorem d165_659 : decode (pB 165) 659 = .ok (.i2l, 1) := by decide +kernel
theorem d165_660 : decode (pB 165) 660 = .ok (.bipush 32, 2) := by decide +kernel
theorem d165_662 : decode (pB 165) 662 = .ok (.lshl, 1) := by decide +kernel
theorem d165_663 : decode (pB 165) 663 = .ok (.aload_n 0, 1) := by decide +kernel
theorem d165_664 : decode (pB 165) 664 = .ok (.iload_n 3, 1) := by decide +kernel
theorem d165_665 : decode (pB 165) 665 = .ok (.iconst 2, 1) := by decide +kernel
theorem d165_666 : decode (pB 165) 666 = .ok (.iadd, 1) := by decide +kernel
theorem d165_667 : decode (pB 165) 667 = .ok (.iaload, 1) := by decide +kernel
theorem d165_668 : decode (pB 165) 668 = .ok (.i2l, 1) := by decide +kernel
theorem d165_669 : decode (pB 165) 669 = .ok (.ldc2_w 93, 3) := by decide +kernel
theorem d165_672 : decode (pB 165) 672 = .ok (.land, 1) := by decide +kernel
theorem d165_673 : decode (pB 165) 673 = .ok (.lor, 1) := by decide +kernel
theorem d165_674 : decode (pB 165) 674 = .ok (.invokevirtual 99, 3) := by decide +kernel
theorem d165_677 : decode (pB 165) 677 = .ok (.if_icmp .eq 103, 3) := by decide +kernel
theorem d165_680 : decode (pB 165) 680 = .ok (.iconst 0, 1) := by decide +kernel
theorem d165_681 : decode (pB 165) 681 = .ok (.ireturn, 1) := by decide +kernel
theorem d165_682 : decode (pB 165) 682 = .ok (.aload_n 1, 1) := by decide +kernel
theorem d165_683 : decode (pB 165) 683 = .ok (.invokevirtual 100, 3) := by decide +kernel
theorem d165_686 : decode (pB 165) 686 = .ok (.aload_n 2, 1) := by decide +kernel
theorem d165_687 : decode (pB 165) 687 = .ok (.invokevirtual 103, 3) := by decide +kernel
theorem d165_690 : decode (pB 165) 690 = .ok (.if_icmp .eq 90, 3) := by decide +kernel
theorem d165_693 : decode (pB 165) 693 = .ok (.iconst 0, 1) := by decide +kernel
theorem d165_694 : decode (pB 165) 694 = .ok (.ireturn, 1) := by decide +kernel
theorem d165_695 : decode (pB 165) 695 = .ok (.aload_n 1, 1) := by decide +kernel
theorem d165_696 : decode (pB 165) 696 = .ok (.invokevirtual 104, 3) := by decide +kernel
theorem d165_699 : decode (pB 165) 699 = .ok (.aload_n 2, 1) := by decide +kernel
theorem d165_700 : decode (pB 165) 700 = .ok (.invokevirtual 107, 3) := by decide +kernel
theorem d165_703 : decode (pB 165) 703 = .ok (.if_icmp .eq 77, 3) := by decide +kernel
theorem d165_706 : decode (pB 165) 706 = .ok (.iconst 0, 1) := by decide +kernel
theorem d165_707 : decode (pB 165) 707 = .ok (.ireturn, 1) := by decide +kernel
theorem d165_708 : decode (pB 165) 708 = .ok (.aload_n 1, 1) := by decide +kernel
theorem d165_709 : decode (pB 165) 709 = .ok (.invokevirtual 108, 3) := by decide +kernel
theorem d165_712 : decode (pB 165) 712 = .ok (.aload_n 2, 1) := by decide +kernel
theorem d165_713 : decode (pB 165) 713 = .ok (.invokevirtual 111, 3) := by decide +kernel
theorem d165_716 : decode (pB 165) 716 = .ok (.if_icmp .eq 64, 3) := by decide +kernel
theorem d165_719 : decode (pB 165) 719 = .ok (.iconst 0, 1) := by decide +kernel
theorem d165_720 : decode (pB 165) 720 = .ok (.ireturn, 1) := by decide +kernel
theorem d165_721 : decode (pB 165) 721 = .ok (.aload_n 1, 1) := by decide +kernel
theorem d165_722 : decode (pB 165) 722 = .ok (.invokevirtual 112, 3) := by decide +kernel
theorem d165_725 : decode (pB 165) 725 = .ok (.aload_n 2, 1) := by decide +kernel
theorem d165_726 : decode (pB 165) 726 = .ok (.invokevirtual 115, 3) := by decide +kernel
theorem d165_729 : decode (pB 165) 729 = .ok (.if_icmp .eq 51, 3) := by decide +kernel
theorem d165_732 : decode (pB 165) 732 = .ok (.iconst 0, 1) := by decide +kernel
theorem d165_733 : decode (pB 165) 733 = .ok (.ireturn, 1) := by decide +kernel
theorem d165_734 : decode (pB 165) 734 = .ok (.aload_n 1, 1) := by decide +kernel
theorem d165_735 : decode (pB 165) 735 = .ok (.aload_n 0, 1) := by decide +kernel
theorem d165_736 : decode (pB 165) 736 = .ok (.iload_n 3, 1) := by decide +kernel
theorem d165_737 : decode (pB 165) 737 = .ok (.iconst 1, 1) := by decide +kernel
theorem d165_738 : decode (pB 165) 738 = .ok (.iadd, 1) := by decide +kernel
theorem d165_739 : decode (pB 165) 739 = .ok (.iaload, 1) := by decide +kernel
theorem d165_740 : decode (pB 165) 740 = .ok (.invokevirtual 116, 3) := by decide +kernel
theorem d165_743 : decode (pB 165) 743 = .ok (.aload_n 2, 1) := by decide +kernel
theorem d165_744 : decode (pB 165) 744 = .ok (.aload_n 0, 1) := by decide +kernel
theorem d165_745 : decode (pB 165) 745 = .ok (.iload_n 3, 1) := by decide +kernel
theorem d165_746 : decode (pB 165) 746 = .ok (.iconst 1, 1) := by decide +kernel
theorem d165_747 : decode (pB 165) 747 = .ok (.iadd, 1) := by decide +kernel
theorem d165_748 : decode (pB 165) 748 = .ok (.iaload, 1) := by decide +kernel
theorem d165_749 : decode (pB 165) 749 = .ok (.invokevirtual 119, 3) := by decide +kernel
theorem d165_752 : decode (pB 165) 752 = .ok (.if_icmp .eq 28, 3) := by decide +kernel
theorem d165_755 : decode (pB 165) 755 = .ok (.iconst 0, 1) := by decide +kernel
theorem d165_756 : decode (pB 165) 756 = .ok (.ireturn, 1) := by decide +kernel
theorem d165_757 : decode (pB 165) 757 = .ok (.aload_n 1, 1) := by decide +kernel
theorem d165_758 : decode (pB 165) 758 = .ok (.aload_n 0, 1) := by decide +kernel
theorem d165_759 : decode (pB 165) 759 = .ok (.iload_n 3, 1) := by decide +kernel
theorem d165_760 : decode (pB 165) 760 = .ok (.iconst 1, 1) := by decide +kernel
theorem d165_761 : decode (pB 165) 761 = .ok (.iadd, 1) := by decide +kernel
theorem d165_762 : decode (pB 165) 762 = .ok (.iaload, 1) := by decide +kernel
theorem d165_763 : decode (pB 165) 763 = .ok (.invokevirtual 120, 3) := by decide +kernel
theorem d165_766 : decode (pB 165) 766 = .ok (.aload_n 2, 1) := by decide +kernel
theorem d165_767 : decode (pB 165) 767 = .ok (.aload_n 0, 1) := by decide +kernel
theorem d165_768 : decode (pB 165) 768 = .ok (.iload_n 3, 1) := by decide +kernel
theorem d165_769 : decode (pB 165) 769 = .ok (.iconst 1, 1) := by decide +kernel
theorem d165_770 : decode (pB 165) 770 = .ok (.iadd, 1) := by decide +kernel
theorem d165_771 : decode (pB 165) 771 = .ok (.iaload, 1) := by decide +kernel
theorem d165_772 : decode (pB 165) 772 = .ok (.invokevirtual 123, 3) := by decide +kernel
theorem d165_775 : decode (pB 165) 775 = .ok (.if_icmp .eq 5, 3) := by decide +kernel
theorem d165_778 : decode (pB 165) 778 = .ok (.iconst 0, 1) := by decide +kernel
theorem d165_779 : decode (pB 165) 779 = .ok (.ireturn, 1) := by decide +kernel
theorem d165_780 : decode (pB 165) 780 = .ok (.iinc 3 4, 3) := by decide +kernel
theorem d165_783 : decode (pB 165) 783 = .ok (.goto (-765), 3) := by decide +kernel
theorem d165_786 : decode (pB 165) 786 = .ok (.iconst 1, 1) := by decide +kernel
theorem d165_787 : decode (pB 165) 787 = .ok (.ireturn, 1) := by decide +kernel
theorem st1_165_1 : p_st1 165 1 = true := by decide +kernel
theorem st1_165_2 : p_st1 165 2 = true := by decide +kernel
theorem st1_165_3 : p_st1 165 3 = true := by decide +kernel
/-- RL.law -/
def t165_0 : List (Nat × pO) := [(0, o_new 4 [.null, .null, .int 0, .null, .null, .null, .null, .null] 3), (3, o_dupr 4), (4, o_invI 47 0 7), (7, o_astore 1 8), (8, o_new 5 [.int 0, .null, .null, .int 0, .null, .null, .null, .int 0, .int 0, .int 0, .null, .int 0, .null, .null, .int 0, .null, .null, .null] 11), (11, o_dupr 12), (12, o_invI 95 0 15), (15, o_astore 2 16), (16, o_push (.int (nI 0)) 17), (17, o_istore 3 18), (18, o_iload 3 19), (19, o_aload 0 20), (20, o_alen 21), (21, o_push (.int (nI 4)) 22), (22, o_isub 23), (23, o_icgt 786 26), (26, o_aload 0 27), (27, o_iload 3 28), (28, o_iald 29), (29, o_push (.int (nI 31)) 31), (31, o_iand 32), (32, o_switch [((nI 0), 152), ((nI 1), 185), ((nI 2), 198), ((nI 3), 231), ((nI 4), 254), ((nI 5), 287), ((nI 6), 330), ((nI 7), 353), ((nI 8), 376), ((nI 9), 389), ((nI 10), 402), ((nI 11), 435), ((nI 12), 468), ((nI 13), 501), ((nI 14), 524), ((nI 15), 547), ((nI 16), 580), ((nI 17), 593), ((nI 18), 616), ((nI 19), 629), ((nI 20), 682), ((nI 21), 695), ((nI 22), 708), ((nI 23), 721), ((nI 24), 734), ((nI 25), 757)] 780), (152, o_aload 1 153), (153, o_aload 0 154), (154, o_iload 3 155), (155, o_push (.int (nI 1)) 156), (156, o_iadd 157), (157, o_iald 158), (158, o_aload 0 159), (159, o_iload 3 160), (160, o_push (.int (nI 2)) 161), (161, o_iadd 162), (162, o_iald 163), (163, o_invV 4 48 2 166), (166, o_aload 2 167), (167, o_aload 0 168), (168, o_iload 3 169), (169, o_push (.int (nI 1)) 170), (170, o_iadd 171), (171, o_iald 172)]
theorem ok165_0 : ∀ q ∈ t165_0, p_Z 165 q := List.forall_mem_cons.mpr ⟨⟨s_new d165_0 rfl inp4 tyX4_ok rfl ⟨rfl, by simp⟩ wd_69 wd_70 wd_60, tl_new _ _ _⟩, List.forall_mem_cons.mpr ⟨⟨s_dupr d165_3, tl_dupr _⟩, List.forall_mem_cons.mpr ⟨⟨q_invI_47 d165_4 wd_71, tl_invI _ _ _⟩, List.forall_mem_cons.mpr ⟨⟨s_astore_n d165_7 rfl st1_165_1, tl_astore _ _⟩, List.forall_mem_cons.mpr ⟨⟨s_new d165_8 rfl inp5 tyX5_ok rfl ⟨rfl, by simp⟩ wd_610 wd_611 wd_65, tl_new _ _ _⟩, List.forall_mem_cons.mpr ⟨⟨s_dupr d165_11, tl_dupr _⟩, List.forall_mem_cons.mpr ⟨⟨q_invI_95 d165_12 wd_612, tl_invI _ _ _⟩, List.forall_mem_cons.mpr ⟨⟨s_astore_n d165_15 rfl st1_165_2, tl_astore _ _⟩, List.forall_mem_cons.mpr ⟨⟨s_iconst d165_16 rfl, tl_push _ _⟩, List.forall_mem_cons.mpr ⟨⟨s_istore_n d165_17 rfl st1_165_3, tl_istore _ _⟩, List.forall_mem_cons.mpr ⟨⟨s_iload_n d165_18 rfl, tl_iload _ _⟩, List.forall_mem_cons.mpr ⟨⟨s_aload_n d165_19 rfl, tl_aload _ _⟩, List.forall_mem_cons.mpr ⟨⟨s_alen d165_20, tl_alen _⟩, List.forall_mem_cons.mpr ⟨⟨s_iconst d165_21 rfl, tl_push _ _⟩, List.forall_mem_cons.mpr ⟨⟨s_isub d165_22, tl_isub _⟩, List.forall_mem_cons.mpr ⟨⟨s_icgt d165_23 rfl, tl_icgt _ _⟩, List.forall_mem_cons.mpr ⟨⟨s_aload_n d165_26 rfl, tl_aload _ _⟩, List.forall_mem_cons.mpr ⟨⟨s_iload_n d165_27 rfl, tl_iload _ _⟩, List.forall_mem_cons.mpr ⟨⟨s_iald d165_28, tl_iald _⟩, List.forall_mem_cons.mpr ⟨⟨s_bipush d165_29 rfl, tl_push _ _⟩, List.forall_mem_cons.mpr ⟨⟨s_iand d165_31, tl_iand _⟩, List.forall_mem_cons.mpr ⟨⟨s_table d165_32 rfl (by decide +kernel) (by decide +kernel), tl_switch _ _⟩, List.forall_mem_cons.mpr ⟨⟨s_aload_n d165_152 rfl, tl_aload _ _⟩, List.forall_mem_cons.mpr ⟨⟨s_aload_n d165_153 rfl, tl_aload _ _⟩, List.forall_mem_cons.mpr ⟨⟨s_iload_n d165_154 rfl, tl_iload _ _⟩, List.forall_mem_cons.mpr ⟨⟨s_iconst d165_155 rfl, tl_push _ _⟩, List.forall_mem_cons.mpr ⟨⟨s_iadd d165_156, tl_iadd _⟩, List.forall_mem_cons.mpr ⟨⟨s_iald d165_157, tl_iald _⟩, List.forall_mem_cons.mpr ⟨⟨s_aload_n d165_158 rfl, tl_aload _ _⟩, List.forall_mem_cons.mpr ⟨⟨s_iload_n d165_159 rfl, tl_iload _ _⟩, List.forall_mem_cons.mpr ⟨⟨s_iconst d165_160 rfl, tl_push _ _⟩, List.forall_mem_cons.mpr ⟨⟨s_iadd d165_161, tl_iadd _⟩, List.forall_mem_cons.mpr ⟨⟨s_iald d165_162, tl_iald _⟩, List.forall_mem_cons.mpr ⟨⟨q_invV_48 d165_163 wd_237, tl_invV _ _ _ _⟩, List.forall_mem_cons.mpr ⟨⟨s_aload_n d165_166 rfl, tl_aload _ _⟩, List.forall_mem_cons.mpr ⟨⟨s_aload_n d165_167 rfl, tl_aload _ _⟩, List.forall_mem_cons.mpr ⟨⟨s_iload_n d165_168 rfl, tl_iload _ _⟩, List.forall_mem_cons.mpr ⟨⟨s_iconst d165_169 rfl, tl_push _ _⟩, List.forall_mem_cons.mpr ⟨⟨s_iadd d165_170, tl_iadd _⟩, List.forall_mem_cons.mpr ⟨⟨s_iald d165_171, tl_iald _⟩, fun _ h => absurd h List.not_mem_nil⟩⟩⟩⟩⟩⟩⟩⟩⟩⟩⟩⟩⟩⟩⟩⟩⟩⟩⟩⟩⟩⟩⟩⟩⟩⟩⟩⟩⟩⟩⟩⟩⟩⟩⟩⟩⟩⟩⟩⟩
/-- RL.law -/
def t165_1 : List (Nat × pO) := [(172, o_aload 0 173), (173, o_iload 3 174), (174, o_push (.int (nI 2)) 175), (175, o_iadd 176), (176, o_iald 177), (177, o_invV 5 114 2 180), (180, o_iceq 780 183), (183, o_push (.int (nI 0)) 184), (184, o_zret), (185, o_aload 1 186), (186, o_invV 4 49 0 189), (189, o_aload 2 190), (190, o_invV 5 116 0 193), (193, o_iceq 780 196), (196, o_push (.int (nI 0)) 197), (197, o_zret), (198, o_aload 1 199), (199, o_aload 0 200), (200, o_iload 3 201), (201, o_push (.int (nI 1)) 202), (202, o_iadd 203), (203, o_iald 204), (204, o_aload 0 205), (205, o_iload 3 206), (206, o_push (.int (nI 2)) 207), (207, o_iadd 208), (208, o_iald 209), (209, o_invV 4 50 2 212), (212, o_aload 2 213), (213, o_aload 0 214), (214, o_iload 3 215), (215, o_push (.int (nI 1)) 216), (216, o_iadd 217), (217, o_iald 218), (218, o_aload 0 219), (219, o_iload 3 220), (220, o_push (.int (nI 2)) 221), (221, o_iadd 222), (222, o_iald 223), (223, o_invV 5 118 2 226)]
theorem ok165_1 : ∀ q ∈ t165_1, p_Z 165 q := List.forall_mem_cons.mpr ⟨⟨s_aload_n d165_172 rfl, tl_aload _ _⟩, List.forall_mem_cons.mpr ⟨⟨s_iload_n d165_173 rfl, tl_iload _ _⟩, List.forall_mem_cons.mpr ⟨⟨s_iconst d165_174 rfl, tl_push _ _⟩, List.forall_mem_cons.mpr ⟨⟨s_iadd d165_175, tl_iadd _⟩, List.forall_mem_cons.mpr ⟨⟨s_iald d165_176, tl_iald _⟩, List.forall_mem_cons.mpr ⟨⟨q_invV_114 d165_177 wd_671, tl_invV _ _ _ _⟩, List.forall_mem_cons.mpr ⟨⟨s_iceq d165_180 rfl, tl_iceq _ _⟩, List.forall_mem_cons.mpr ⟨⟨s_iconst d165_183 rfl, tl_push _ _⟩, List.forall_mem_cons.mpr ⟨⟨s_zret d165_184 rfl, tl_zret⟩, List.forall_mem_cons.mpr ⟨⟨s_aload_n d165_185 rfl, tl_aload _ _⟩, List.forall_mem_cons.mpr ⟨⟨q_invV_49 d165_186 wd_294, tl_invV _ _ _ _⟩, List.forall_mem_cons.mpr ⟨⟨s_aload_n d165_189 rfl, tl_aload _ _⟩, List.forall_mem_cons.mpr ⟨⟨q_invV_116 d165_190 wd_686, tl_invV _ _ _ _⟩, List.forall_mem_cons.mpr ⟨⟨s_iceq d165_193 rfl, tl_iceq _ _⟩, List.forall_mem_cons.mpr ⟨⟨s_iconst d165_196 rfl, tl_push _ _⟩, List.forall_mem_cons.mpr ⟨⟨s_zret d165_197 rfl, tl_zret⟩, List.forall_mem_cons.mpr ⟨⟨s_aload_n d165_198 rfl, tl_aload _ _⟩, List.forall_mem_cons.mpr ⟨⟨s_aload_n d165_199 rfl, tl_aload _ _⟩, List.forall_mem_cons.mpr ⟨⟨s_iload_n d165_200 rfl, tl_iload _ _⟩, List.forall_mem_cons.mpr ⟨⟨s_iconst d165_201 rfl, tl_push _ _⟩, List.forall_mem_cons.mpr ⟨⟨s_iadd d165_202, tl_iadd _⟩, List.forall_mem_cons.mpr ⟨⟨s_iald d165_203, tl_iald _⟩, List.forall_mem_cons.mpr ⟨⟨s_aload_n d165_204 rfl, tl_aload _ _⟩, List.forall_mem_cons.mpr ⟨⟨s_iload_n d165_205 rfl, tl_iload _ _⟩, List.forall_mem_cons.mpr ⟨⟨s_iconst d165_206 rfl, tl_push _ _⟩, List.forall_mem_cons.mpr ⟨⟨s_iadd d165_207, tl_iadd _⟩, List.forall_mem_cons.mpr ⟨⟨s_iald d165_208, tl_iald _⟩, List.forall_mem_cons.mpr ⟨⟨q_invV_50 d165_209 wd_302, tl_invV _ _ _ _⟩, List.forall_mem_cons.mpr ⟨⟨s_aload_n d165_212 rfl, tl_aload _ _⟩, List.forall_mem_cons.mpr ⟨⟨s_aload_n d165_213 rfl, tl_aload _ _⟩, List.forall_mem_cons.mpr ⟨⟨s_iload_n d165_214 rfl, tl_iload _ _⟩, List.forall_mem_cons.mpr ⟨⟨s_iconst d165_215 rfl, tl_push _ _⟩, List.forall_mem_cons.mpr ⟨⟨s_iadd d165_216, tl_iadd _⟩, List.forall_mem_cons.mpr ⟨⟨s_iald d165_217, tl_iald _⟩, List.forall_mem_cons.mpr ⟨⟨s_aload_n d165_218 rfl, tl_aload _ _⟩, List.forall_mem_cons.mpr ⟨⟨s_iload_n d165_219 rfl, tl_iload _ _⟩, List.forall_mem_cons.mpr ⟨⟨s_iconst d165_220 rfl, tl_push _ _⟩, List.forall_mem_cons.mpr ⟨⟨s_iadd d165_221, tl_iadd _⟩, List.forall_mem_cons.mpr ⟨⟨s_iald d165_222, tl_iald _⟩, List.forall_mem_cons.mpr ⟨⟨q_invV_118 d165_223 wd_694, tl_invV _ _ _ _⟩, fun _ h => absurd h List.not_mem_nil⟩⟩⟩⟩⟩⟩⟩⟩⟩⟩⟩⟩⟩⟩⟩⟩⟩⟩⟩⟩⟩⟩⟩⟩⟩⟩⟩⟩⟩⟩⟩⟩⟩⟩⟩⟩⟩⟩⟩⟩
/-- RL.law -/
def t165_2 : List (Nat × pO) := [(226, o_iceq 780 229), (229, o_push (.int (nI 0)) 230), (230, o_zret), (231, o_aload 1 232), (232, o_aload 0 233), (233, o_iload 3 234), (234, o_push (.int (nI 1)) 235), (235, o_iadd 236), (236, o_iald 237), (237, o_invV 4 51 1 240), (240, o_aload 2 241), (241, o_aload 0 242), (242, o_iload 3 243), (243, o_push (.int (nI 1)) 244), (244, o_iadd 245), (245, o_iald 246), (246, o_invV 5 120 1 249), (249, o_iceq 780 252), (252, o_push (.int (nI 0)) 253), (253, o_zret), (254, o_aload 1 255), (255, o_aload 0 256), (256, o_iload 3 257), (257, o_push (.int (nI 1)) 258), (258, o_iadd 259), (259, o_iald 260), (260, o_aload 0 261), (261, o_iload 3 262), (262, o_push (.int (nI 2)) 263), (263, o_iadd 264), (264, o_iald 265), (265, o_invV 4 52 2 268), (268, o_aload 2 269), (269, o_aload 0 270), (270, o_iload 3 271), (271, o_push (.int (nI 1)) 272), (272, o_iadd 273), (273, o_iald 274), (274, o_aload 0 275), (275, o_iload 3 276)]
theorem ok165_2 : ∀ q ∈ t165_2, p_Z 165 q := List.forall_mem_cons.mpr ⟨⟨s_iceq d165_226 rfl, tl_iceq _ _⟩, List.forall_mem_cons.mpr ⟨⟨s_iconst d165_229 rfl, tl_push _ _⟩, List.forall_mem_cons.mpr ⟨⟨s_zret d165_230 rfl, tl_zret⟩, List.forall_mem_cons.mpr ⟨⟨s_aload_n d165_231 rfl, tl_aload _ _⟩, List.forall_mem_cons.mpr ⟨⟨s_aload_n d165_232 rfl, tl_aload _ _⟩, List.forall_mem_cons.mpr ⟨⟨s_iload_n d165_233 rfl, tl_iload _ _⟩, List.forall_mem_cons.mpr ⟨⟨s_iconst d165_234 rfl, tl_push _ _⟩, List.forall_mem_cons.mpr ⟨⟨s_iadd d165_235, tl_iadd _⟩, List.forall_mem_cons.mpr ⟨⟨s_iald d165_236, tl_iald _⟩, List.forall_mem_cons.mpr ⟨⟨q_invV_51 d165_237 wd_322, tl_invV _ _ _ _⟩, List.forall_mem_cons.mpr ⟨⟨s_aload_n d165_240 rfl, tl_aload _ _⟩, List.forall_mem_cons.mpr ⟨⟨s_aload_n d165_241 rfl, tl_aload _ _⟩, List.forall_mem_cons.mpr ⟨⟨s_iload_n d165_242 rfl, tl_iload _ _⟩, List.forall_mem_cons.mpr ⟨⟨s_iconst d165_243 rfl, tl_push _ _⟩, List.forall_mem_cons.mpr ⟨⟨s_iadd d165_244, tl_iadd _⟩, List.forall_mem_cons.mpr ⟨⟨s_iald d165_245, tl_iald _⟩, List.forall_mem_cons.mpr ⟨⟨q_invV_120 d165_246 wd_714, tl_invV _ _ _ _⟩, List.forall_mem_cons.mpr ⟨⟨s_iceq d165_249 rfl, tl_iceq _ _⟩, List.forall_mem_cons.mpr ⟨⟨s_iconst d165_252 rfl, tl_push _ _⟩, List.forall_mem_cons.mpr ⟨⟨s_zret d165_253 rfl, tl_zret⟩, List.forall_mem_cons.mpr ⟨⟨s_aload_n d165_254 rfl, tl_aload _ _⟩, List.forall_mem_cons.mpr ⟨⟨s_aload_n d165_255 rfl, tl_aload _ _⟩, List.forall_mem_cons.mpr ⟨⟨s_iload_n d165_256 rfl, tl_iload _ _⟩, List.forall_mem_cons.mpr ⟨⟨s_iconst d165_257 rfl, tl_push _ _⟩, List.forall_mem_cons.mpr ⟨⟨s_iadd d165_258, tl_iadd _⟩, List.forall_mem_cons.mpr ⟨⟨s_iald d165_259, tl_iald _⟩, List.forall_mem_cons.mpr ⟨⟨s_aload_n d165_260 rfl, tl_aload _ _⟩, List.forall_mem_cons.mpr ⟨⟨s_iload_n d165_261 rfl, tl_iload _ _⟩, List.forall_mem_cons.mpr ⟨⟨s_iconst d165_262 rfl, tl_push _ _⟩, List.forall_mem_cons.mpr ⟨⟨s_iadd d165_263, tl_iadd _⟩, List.forall_mem_cons.mpr ⟨⟨s_iald d165_264, tl_iald _⟩, List.forall_mem_cons.mpr ⟨⟨q_invV_52 d165_265 wd_330, tl_invV _ _ _ _⟩, List.forall_mem_cons.mpr ⟨⟨s_aload_n d165_268 rfl, tl_aload _ _⟩, List.forall_mem_cons.mpr ⟨⟨s_aload_n d165_269 rfl, tl_aload _ _⟩, List.forall_mem_cons.mpr ⟨⟨s_iload_n d165_270 rfl, tl_iload _ _⟩, List.forall_mem_cons.mpr ⟨⟨s_iconst d165_271 rfl, tl_push _ _⟩, List.forall_mem_cons.mpr ⟨⟨s_iadd d165_272, tl_iadd _⟩, List.forall_mem_cons.mpr ⟨⟨s_iald d165_273, tl_iald _⟩, List.forall_mem_cons.mpr ⟨⟨s_aload_n d165_274 rfl, tl_aload _ _⟩, List.forall_mem_cons.mpr ⟨⟨s_iload_n d165_275 rfl, tl_iload _ _⟩, fun _ h => absurd h List.not_mem_nil⟩⟩⟩⟩⟩⟩⟩⟩⟩⟩⟩⟩⟩⟩⟩⟩⟩⟩⟩⟩⟩⟩⟩⟩⟩⟩⟩⟩⟩⟩⟩⟩⟩⟩⟩⟩⟩⟩⟩⟩
/-- RL.law -/
def t165_3 : List (Nat × pO) := [(276, o_push (.int (nI 2)) 277), (277, o_iadd 278), (278, o_iald 279), (279, o_invV 5 122 2 282), (282, o_iceq 780 285), (285, o_push (.int (nI 0)) 286), (286, o_zret), (287, o_aload 1 288), (288, o_aload 0 289), (289, o_iload 3 290), (290, o_push (.int (nI 1)) 291), (291, o_iadd 292), (292, o_iald 293), (293, o_aload 0 294), (294, o_iload 3 295), (295, o_push (.int (nI 2)) 296), (296, o_iadd 297), (297, o_iald 298), (298, o_aload 0 299), (299, o_iload 3 300), (300, o_push (.int (nI 3)) 301), (301, o_iadd 302), (302, o_iald 303), (303, o_invV 4 53 3 306), (306, o_aload 2 307), (307, o_aload 0 308), (308, o_iload 3 309), (309, o_push (.int (nI 1)) 310), (310, o_iadd 311), (311, o_iald 312), (312, o_aload 0 313), (313, o_iload 3 314), (314, o_push (.int (nI 2)) 315), (315, o_iadd 316), (316, o_iald 317), (317, o_aload 0 318), (318, o_iload 3 319), (319, o_push (.int (nI 3)) 320), (320, o_iadd 321), (321, o_iald 322)]
theorem ok165_3 : ∀ q ∈ t165_3, p_Z 165 q := List.forall_mem_cons.mpr ⟨⟨s_iconst d165_276 rfl, tl_push _ _⟩, List.forall_mem_cons.mpr ⟨⟨s_iadd d165_277, tl_iadd _⟩, List.forall_mem_cons.mpr ⟨⟨s_iald d165_278, tl_iald _⟩, List.forall_mem_cons.mpr ⟨⟨q_invV_122 d165_279 wd_722, tl_invV _ _ _ _⟩, List.forall_mem_cons.mpr ⟨⟨s_iceq d165_282 rfl, tl_iceq _ _⟩, List.forall_mem_cons.mpr ⟨⟨s_iconst d165_285 rfl, tl_push _ _⟩, List.forall_mem_cons.mpr ⟨⟨s_zret d165_286 rfl, tl_zret⟩, List.forall_mem_cons.mpr ⟨⟨s_aload_n d165_287 rfl, tl_aload _ _⟩, List.forall_mem_cons.mpr ⟨⟨s_aload_n d165_288 rfl, tl_aload _ _⟩, List.forall_mem_cons.mpr ⟨⟨s_iload_n d165_289 rfl, tl_iload _ _⟩, List.forall_mem_cons.mpr ⟨⟨s_iconst d165_290 rfl, tl_push _ _⟩, List.forall_mem_cons.mpr ⟨⟨s_iadd d165_291, tl_iadd _⟩, List.forall_mem_cons.mpr ⟨⟨s_iald d165_292, tl_iald _⟩, List.forall_mem_cons.mpr ⟨⟨s_aload_n d165_293 rfl, tl_aload _ _⟩, List.forall_mem_cons.mpr ⟨⟨s_iload_n d165_294 rfl, tl_iload _ _⟩, List.forall_mem_cons.mpr ⟨⟨s_iconst d165_295 rfl, tl_push _ _⟩, List.forall_mem_cons.mpr ⟨⟨s_iadd d165_296, tl_iadd _⟩, List.forall_mem_cons.mpr ⟨⟨s_iald d165_297, tl_iald _⟩, List.forall_mem_cons.mpr ⟨⟨s_aload_n d165_298 rfl, tl_aload _ _⟩, List.forall_mem_cons.mpr ⟨⟨s_iload_n d165_299 rfl, tl_iload _ _⟩, List.forall_mem_cons.mpr ⟨⟨s_iconst d165_300 rfl, tl_push _ _⟩, List.forall_mem_cons.mpr ⟨⟨s_iadd d165_301, tl_iadd _⟩, List.forall_mem_cons.mpr ⟨⟨s_iald d165_302, tl_iald _⟩, List.forall_mem_cons.mpr ⟨⟨q_invV_53 d165_303 wd_361, tl_invV _ _ _ _⟩, List.forall_mem_cons.mpr ⟨⟨s_aload_n d165_306 rfl, tl_aload _ _⟩, List.forall_mem_cons.mpr ⟨⟨s_aload_n d165_307 rfl, tl_aload _ _⟩, List.forall_mem_cons.mpr ⟨⟨s_iload_n d165_308 rfl, tl_iload _ _⟩, List.forall_mem_cons.mpr ⟨⟨s_iconst d165_309 rfl, tl_push _ _⟩, List.forall_mem_cons.mpr ⟨⟨s_iadd d165_310, tl_iadd _⟩, List.forall_mem_cons.mpr ⟨⟨s_iald d165_311, tl_iald _⟩, List.forall_mem_cons.mpr ⟨⟨s_aload_n d165_312 rfl, tl_aload _ _⟩, List.forall_mem_cons.mpr ⟨⟨s_iload_n d165_313 rfl, tl_iload _ _⟩, List.forall_mem_cons.mpr ⟨⟨s_iconst d165_314 rfl, tl_push _ _⟩, List.forall_mem_cons.mpr ⟨⟨s_iadd d165_315, tl_iadd _⟩, List.forall_mem_cons.mpr ⟨⟨s_iald d165_316, tl_iald _⟩, List.forall_mem_cons.mpr ⟨⟨s_aload_n d165_317 rfl, tl_aload _ _⟩, List.forall_mem_cons.mpr ⟨⟨s_iload_n d165_318 rfl, tl_iload _ _⟩, List.forall_mem_cons.mpr ⟨⟨s_iconst d165_319 rfl, tl_push _ _⟩, List.forall_mem_cons.mpr ⟨⟨s_iadd d165_320, tl_iadd _⟩, List.forall_mem_cons.mpr ⟨⟨s_iald d165_321, tl_iald _⟩, fun _ h => absurd h List.not_mem_nil⟩⟩⟩⟩⟩⟩⟩⟩⟩⟩⟩⟩⟩⟩⟩⟩⟩⟩⟩⟩⟩⟩⟩⟩⟩⟩⟩⟩⟩⟩⟩⟩⟩⟩⟩⟩⟩⟩⟩⟩
/-- RL.law -/
def t165_4 : List (Nat × pO) := [(322, o_invV 5 125 3 325), (325, o_iceq 780 328), (328, o_push (.int (nI 0)) 329), (329, o_zret), (330, o_aload 1 331), (331, o_aload 0 332), (332, o_iload 3 333), (333, o_push (.int (nI 1)) 334), (334, o_iadd 335), (335, o_iald 336), (336, o_invV 4 54 1 339), (339, o_aload 2 340), (340, o_aload 0 341), (341, o_iload 3 342), (342, o_push (.int (nI 1)) 343), (343, o_iadd 344), (344, o_iald 345), (345, o_invV 5 129 1 348), (348, o_iceq 780 351), (351, o_push (.int (nI 0)) 352), (352, o_zret), (353, o_aload 1 354), (354, o_aload 0 355), (355, o_iload 3 356), (356, o_push (.int (nI 1)) 357), (357, o_iadd 358), (358, o_iald 359), (359, o_invV 4 55 1 362), (362, o_aload 2 363), (363, o_aload 0 364), (364, o_iload 3 365), (365, o_push (.int (nI 1)) 366), (366, o_iadd 367), (367, o_iald 368), (368, o_invV 5 130 1 371), (371, o_iceq 780 374), (374, o_push (.int (nI 0)) 375), (375, o_zret), (376, o_aload 1 377), (377, o_invV 4 56 0 380)]
theorem ok165_4 : ∀ q ∈ t165_4, p_Z 165 q := List.forall_mem_cons.mpr ⟨⟨q_invV_125 d165_322 wd_730, tl_invV _ _ _ _⟩, List.forall_mem_cons.mpr ⟨⟨s_iceq d165_325 rfl, tl_iceq _ _⟩, List.forall_mem_cons.mpr ⟨⟨s_iconst d165_328 rfl, tl_push _ _⟩, List.forall_mem_cons.mpr ⟨⟨s_zret d165_329 rfl, tl_zret⟩, List.forall_mem_cons.mpr ⟨⟨s_aload_n d165_330 rfl, tl_aload _ _⟩, List.forall_mem_cons.mpr ⟨⟨s_aload_n d165_331 rfl, tl_aload _ _⟩, List.forall_mem_cons.mpr ⟨⟨s_iload_n d165_332 rfl, tl_iload _ _⟩, List.forall_mem_cons.mpr ⟨⟨s_iconst d165_333 rfl, tl_push _ _⟩, List.forall_mem_cons.mpr ⟨⟨s_iadd d165_334, tl_iadd _⟩, List.forall_mem_cons.mpr ⟨⟨s_iald d165_335, tl_iald _⟩, List.forall_mem_cons.mpr ⟨⟨q_invV_54 d165_336 wd_377, tl_invV _ _ _ _⟩, List.forall_mem_cons.mpr ⟨⟨s_aload_n d165_339 rfl, tl_aload _ _⟩, List.forall_mem_cons.mpr ⟨⟨s_aload_n d165_340 rfl, tl_aload _ _⟩, List.forall_mem_cons.mpr ⟨⟨s_iload_n d165_341 rfl, tl_iload _ _⟩, List.forall_mem_cons.mpr ⟨⟨s_iconst d165_342 rfl, tl_push _ _⟩, List.forall_mem_cons.mpr ⟨⟨s_iadd d165_343, tl_iadd _⟩, List.forall_mem_cons.mpr ⟨⟨s_iald d165_344, tl_iald _⟩, List.forall_mem_cons.mpr ⟨⟨q_invV_129 d165_345 wd_746, tl_invV _ _ _ _⟩, List.forall_mem_cons.mpr ⟨⟨s_iceq d165_348 rfl, tl_iceq _ _⟩, List.forall_mem_cons.mpr ⟨⟨s_iconst d165_351 rfl, tl_push _ _⟩, List.forall_mem_cons.mpr ⟨⟨s_zret d165_352 rfl, tl_zret⟩, List.forall_mem_cons.mpr ⟨⟨s_aload_n d165_353 rfl, tl_aload _ _⟩, List.forall_mem_cons.mpr ⟨⟨s_aload_n d165_354 rfl, tl_aload _ _⟩, List.forall_mem_cons.mpr ⟨⟨s_iload_n d165_355 rfl, tl_iload _ _⟩, List.forall_mem_cons.mpr ⟨⟨s_iconst d165_356 rfl, tl_push _ _⟩, List.forall_mem_cons.mpr ⟨⟨s_iadd d165_357, tl_iadd _⟩, List.forall_mem_cons.mpr ⟨⟨s_iald d165_358, tl_iald _⟩, List.forall_mem_cons.mpr ⟨⟨q_invV_55 d165_359 wd_422, tl_invV _ _ _ _⟩, List.forall_mem_cons.mpr ⟨⟨s_aload_n d165_362 rfl, tl_aload _ _⟩, List.forall_mem_cons.mpr ⟨⟨s_aload_n d165_363 rfl, tl_aload _ _⟩, List.forall_mem_cons.mpr ⟨⟨s_iload_n d165_364 rfl, tl_iload _ _⟩, List.forall_mem_cons.mpr ⟨⟨s_iconst d165_365 rfl, tl_push _ _⟩, List.forall_mem_cons.mpr ⟨⟨s_iadd d165_366, tl_iadd _⟩, List.forall_mem_cons.mpr ⟨⟨s_iald d165_367, tl_iald _⟩, List.forall_mem_cons.mpr ⟨⟨q_invV_130 d165_368 wd_790, tl_invV _ _ _ _⟩, List.forall_mem_cons.mpr ⟨⟨s_iceq d165_371 rfl, tl_iceq _ _⟩, List.forall_mem_cons.mpr ⟨⟨s_iconst d165_374 rfl, tl_push _ _⟩, List.forall_mem_cons.mpr ⟨⟨s_zret d165_375 rfl, tl_zret⟩, List.forall_mem_cons.mpr ⟨⟨s_aload_n d165_376 rfl, tl_aload _ _⟩, List.forall_mem_cons.mpr ⟨⟨q_invV_56 d165_377 wd_430, tl_invV _ _ _ _⟩, fun _ h => absurd h List.not_mem_nil⟩⟩⟩⟩⟩⟩⟩⟩⟩⟩⟩⟩⟩⟩⟩⟩⟩⟩⟩⟩⟩⟩⟩⟩⟩⟩⟩⟩⟩⟩⟩⟩⟩⟩⟩⟩⟩⟩⟩⟩
/-- RL.law -/
def t165_5 : List (Nat × pO) := [(380, o_aload 2 381), (381, o_invV 5 132 0 384), (384, o_iceq 780 387), (387, o_push (.int (nI 0)) 388), (388, o_zret), (389, o_aload 1 390), (390, o_invV 4 57 0 393), (393, o_aload 2 394), (394, o_invV 5 134 0 397), (397, o_iceq 780 400), (400, o_push (.int (nI 0)) 401), (401, o_zret), (402, o_aload 1 403), (403, o_aload 0 404), (404, o_iload 3 405), (405, o_push (.int (nI 1)) 406), (406, o_iadd 407), (407, o_iald 408), (408, o_aload 0 409), (409, o_iload 3 410), (410, o_push (.int (nI 2)) 411), (411, o_iadd 412), (412, o_iald 413), (413, o_invV 4 58 2 416), (416, o_aload 2 417), (417, o_aload 0 418), (418, o_iload 3 419), (419, o_push (.int (nI 1)) 420), (420, o_iadd 421), (421, o_iald 422), (422, o_aload 0 423), (423, o_iload 3 424), (424, o_push (.int (nI 2)) 425), (425, o_iadd 426), (426, o_iald 427), (427, o_invV 5 138 2 430), (430, o_iceq 780 433), (433, o_push (.int (nI 0)) 434), (434, o_zret), (435, o_aload 1 436)]
theorem ok165_5 : ∀ q ∈ t165_5, p_Z 165 q := List.forall_mem_cons.mpr ⟨⟨s_aload_n d165_380 rfl, tl_aload _ _⟩, List.forall_mem_cons.mpr ⟨⟨q_invV_132 d165_381 wd_794, tl_invV _ _ _ _⟩, List.forall_mem_cons.mpr ⟨⟨s_iceq d165_384 rfl, tl_iceq _ _⟩, List.forall_mem_cons.mpr ⟨⟨s_iconst d165_387 rfl, tl_push _ _⟩, List.forall_mem_cons.mpr ⟨⟨s_zret d165_388 rfl, tl_zret⟩, List.forall_mem_cons.mpr ⟨⟨s_aload_n d165_389 rfl, tl_aload _ _⟩, List.forall_mem_cons.mpr ⟨⟨q_invV_57 d165_390 wd_438, tl_invV _ _ _ _⟩, List.forall_mem_cons.mpr ⟨⟨s_aload_n d165_393 rfl, tl_aload _ _⟩, List.forall_mem_cons.mpr ⟨⟨q_invV_134 d165_394 wd_802, tl_invV _ _ _ _⟩, List.forall_mem_cons.mpr ⟨⟨s_iceq d165_397 rfl, tl_iceq _ _⟩, List.forall_mem_cons.mpr ⟨⟨s_iconst d165_400 rfl, tl_push _ _⟩, List.forall_mem_cons.mpr ⟨⟨s_zret d165_401 rfl, tl_zret⟩, List.forall_mem_cons.mpr ⟨⟨s_aload_n d165_402 rfl, tl_aload _ _⟩, List.forall_mem_cons.mpr ⟨⟨s_aload_n d165_403 rfl, tl_aload _ _⟩, List.forall_mem_cons.mpr ⟨⟨s_iload_n d165_404 rfl, tl_iload _ _⟩, List.forall_mem_cons.mpr ⟨⟨s_iconst d165_405 rfl, tl_push _ _⟩, List.forall_mem_cons.mpr ⟨⟨s_iadd d165_406, tl_iadd _⟩, List.forall_mem_cons.mpr ⟨⟨s_iald d165_407, tl_iald _⟩, List.forall_mem_cons.mpr ⟨⟨s_aload_n d165_408 rfl, tl_aload _ _⟩, List.forall_mem_cons.mpr ⟨⟨s_iload_n d165_409 rfl, tl_iload _ _⟩, List.forall_mem_cons.mpr ⟨⟨s_iconst d165_410 rfl, tl_push _ _⟩, List.forall_mem_cons.mpr ⟨⟨s_iadd d165_411, tl_iadd _⟩, List.forall_mem_cons.mpr ⟨⟨s_iald d165_412, tl_iald _⟩, List.forall_mem_cons.mpr ⟨⟨q_invV_58 d165_413 wd_455, tl_invV _ _ _ _⟩, List.forall_mem_cons.mpr ⟨⟨s_aload_n d165_416 rfl, tl_aload _ _⟩, List.forall_mem_cons.mpr ⟨⟨s_aload_n d165_417 rfl, tl_aload _ _⟩, List.forall_mem_cons.mpr ⟨⟨s_iload_n d165_418 rfl, tl_iload _ _⟩, List.forall_mem_cons.mpr ⟨⟨s_iconst d165_419 rfl, tl_push _ _⟩, List.forall_mem_cons.mpr ⟨⟨s_iadd d165_420, tl_iadd _⟩, List.forall_mem_cons.mpr ⟨⟨s_iald d165_421, tl_iald _⟩, List.forall_mem_cons.mpr ⟨⟨s_aload_n d165_422 rfl, tl_aload _ _⟩, List.forall_mem_cons.mpr ⟨⟨s_iload_n d165_423 rfl, tl_iload _ _⟩, List.forall_mem_cons.mpr ⟨⟨s_iconst d165_424 rfl, tl_push _ _⟩, List.forall_mem_cons.mpr ⟨⟨s_iadd d165_425, tl_iadd _⟩, List.forall_mem_cons.mpr ⟨⟨s_iald d165_426, tl_iald _⟩, List.forall_mem_cons.mpr ⟨⟨q_invV_138 d165_427 wd_810, tl_invV _ _ _ _⟩, List.forall_mem_cons.mpr ⟨⟨s_iceq d165_430 rfl, tl_iceq _ _⟩, List.forall_mem_cons.mpr ⟨⟨s_iconst d165_433 rfl, tl_push _ _⟩, List.forall_mem_cons.mpr ⟨⟨s_zret d165_434 rfl, tl_zret⟩, List.forall_mem_cons.mpr ⟨⟨s_aload_n d165_435 rfl, tl_aload _ _⟩, fun _ h => absurd h List.not_mem_nil⟩⟩⟩⟩⟩⟩⟩⟩⟩⟩⟩⟩⟩⟩⟩⟩⟩⟩⟩⟩⟩⟩⟩⟩⟩⟩⟩⟩⟩⟩⟩⟩⟩⟩⟩⟩⟩⟩⟩⟩
/-- RL.law -/
def t165_6 : List (Nat × pO) := [(436, o_aload 0 437), (437, o_iload 3 438), (438, o_push (.int (nI 1)) 439), (439, o_iadd 440), (440, o_iald 441), (441, o_aload 0 442), (442, o_iload 3 443), (443, o_push (.int (nI 2)) 444), (444, o_iadd 445), (445, o_iald 446), (446, o_invV 4 59 2 449), (449, o_aload 2 450), (450, o_aload 0 451), (451, o_iload 3 452), (452, o_push (.int (nI 1)) 453), (453, o_iadd 454), (454, o_iald 455), (455, o_aload 0 456), (456, o_iload 3 457), (457, o_push (.int (nI 2)) 458), (458, o_iadd 459), (459, o_iald 460), (460, o_invV 5 139 2 463), (463, o_iceq 780 466), (466, o_push (.int (nI 0)) 467), (467, o_zret), (468, o_aload 1 469), (469, o_aload 0 470), (470, o_iload 3 471), (471, o_push (.int (nI 1)) 472), (472, o_iadd 473), (473, o_iald 474), (474, o_aload 0 475), (475, o_iload 3 476), (476, o_push (.int (nI 2)) 477), (477, o_iadd 478), (478, o_iald 479), (479, o_invV 4 60 2 482), (482, o_aload 2 483), (483, o_aload 0 484)]
theorem ok165_6 : ∀ q ∈ t165_6, p_Z 165 q := List.forall_mem_cons.mpr ⟨⟨s_aload_n d165_436 rfl, tl_aload _ _⟩, List.forall_mem_cons.mpr ⟨⟨s_iload_n d165_437 rfl, tl_iload _ _⟩, List.forall_mem_cons.mpr ⟨⟨s_iconst d165_438 rfl, tl_push _ _⟩, List.forall_mem_cons.mpr ⟨⟨s_iadd d165_439, tl_iadd _⟩, List.forall_mem_cons.mpr ⟨⟨s_iald d165_440, tl_iald _⟩, List.forall_mem_cons.mpr ⟨⟨s_aload_n d165_441 rfl, tl_aload _ _⟩, List.forall_mem_cons.mpr ⟨⟨s_iload_n d165_442 rfl, tl_iload _ _⟩, List.forall_mem_cons.mpr ⟨⟨s_iconst d165_443 rfl, tl_push _ _⟩, List.forall_mem_cons.mpr ⟨⟨s_iadd d165_444, tl_iadd _⟩, List.forall_mem_cons.mpr ⟨⟨s_iald d165_445, tl_iald _⟩, List.forall_mem_cons.mpr ⟨⟨q_invV_59 d165_446 wd_473, tl_invV _ _ _ _⟩, List.forall_mem_cons.mpr ⟨⟨s_aload_n d165_449 rfl, tl_aload _ _⟩, List.forall_mem_cons.mpr ⟨⟨s_aload_n d165_450 rfl, tl_aload _ _⟩, List.forall_mem_cons.mpr ⟨⟨s_iload_n d165_451 rfl, tl_iload _ _⟩, List.forall_mem_cons.mpr ⟨⟨s_iconst d165_452 rfl, tl_push _ _⟩, List.forall_mem_cons.mpr ⟨⟨s_iadd d165_453, tl_iadd _⟩, List.forall_mem_cons.mpr ⟨⟨s_iald d165_454, tl_iald _⟩, List.forall_mem_cons.mpr ⟨⟨s_aload_n d165_455 rfl, tl_aload _ _⟩, List.forall_mem_cons.mpr ⟨⟨s_iload_n d165_456 rfl, tl_iload _ _⟩, List.forall_mem_cons.mpr ⟨⟨s_iconst d165_457 rfl, tl_push _ _⟩, List.forall_mem_cons.mpr ⟨⟨s_iadd d165_458, tl_iadd _⟩, List.forall_mem_cons.mpr ⟨⟨s_iald d165_459, tl_iald _⟩, List.forall_mem_cons.mpr ⟨⟨q_invV_139 d165_460 wd_834, tl_invV _ _ _ _⟩, List.forall_mem_cons.mpr ⟨⟨s_iceq d165_463 rfl, tl_iceq _ _⟩, List.forall_mem_cons.mpr ⟨⟨s_iconst d165_466 rfl, tl_push _ _⟩, List.forall_mem_cons.mpr ⟨⟨s_zret d165_467 rfl, tl_zret⟩, List.forall_mem_cons.mpr ⟨⟨s_aload_n d165_468 rfl, tl_aload _ _⟩, List.forall_mem_cons.mpr ⟨⟨s_aload_n d165_469 rfl, tl_aload _ _⟩, List.forall_mem_cons.mpr ⟨⟨s_iload_n d165_470 rfl, tl_iload _ _⟩, List.forall_mem_cons.mpr ⟨⟨s_iconst d165_471 rfl, tl_push _ _⟩, List.forall_mem_cons.mpr ⟨⟨s_iadd d165_472, tl_iadd _⟩, List.forall_mem_cons.mpr ⟨⟨s_iald d165_473, tl_iald _⟩, List.forall_mem_cons.mpr ⟨⟨s_aload_n d165_474 rfl, tl_aload _ _⟩, List.forall_mem_cons.mpr ⟨⟨s_iload_n d165_475 rfl, tl_iload _ _⟩, List.forall_mem_cons.mpr ⟨⟨s_iconst d165_476 rfl, tl_push _ _⟩, List.forall_mem_cons.mpr ⟨⟨s_iadd d165_477, tl_iadd _⟩, List.forall_mem_cons.mpr ⟨⟨s_iald d165_478, tl_iald _⟩, List.forall_mem_cons.mpr ⟨⟨q_invV_60 d165_479 wd_478, tl_invV _ _ _ _⟩, List.forall_mem_cons.mpr ⟨⟨s_aload_n d165_482 rfl, tl_aload _ _⟩, List.forall_mem_cons.mpr ⟨⟨s_aload_n d165_483 rfl, tl_aload _ _⟩, fun _ h => absurd h List.not_mem_nil⟩⟩⟩⟩⟩⟩⟩⟩⟩⟩⟩⟩⟩⟩⟩⟩⟩⟩⟩⟩⟩⟩⟩⟩⟩⟩⟩⟩⟩⟩⟩⟩⟩⟩⟩⟩⟩⟩⟩⟩
/-- RL.law -/
def t165_7 : List (Nat × pO) := [(484, o_iload 3 485), (485, o_push (.int (nI 1)) 486), (486, o_iadd 487), (487, o_iald 488), (488, o_aload 0 489), (489, o_iload 3 490), (490, o_push (.int (nI 2)) 491), (491, o_iadd 492), (492, o_iald 493), (493, o_invV 5 140 2 496), (496, o_iceq 780 499), (499, o_push (.int (nI 0)) 500), (500, o_zret), (501, o_aload 1 502), (502, o_aload 0 503), (503, o_iload 3 504), (504, o_push (.int (nI 1)) 505), (505, o_iadd 506), (506, o_iald 507), (507, o_invV 4 61 1 510), (510, o_aload 2 511), (511, o_aload 0 512), (512, o_iload 3 513), (513, o_push (.int (nI 1)) 514), (514, o_iadd 515), (515, o_iald 516), (516, o_invV 5 141 1 519), (519, o_iceq 780 522), (522, o_push (.int (nI 0)) 523), (523, o_zret), (524, o_aload 1 525), (525, o_aload 0 526), (526, o_iload 3 527), (527, o_push (.int (nI 1)) 528), (528, o_iadd 529), (529, o_iald 530), (530, o_invV 4 62 1 533), (533, o_aload 2 534), (534, o_aload 0 535), (535, o_iload 3 536)]
theorem ok165_7 : ∀ q ∈ t165_7, p_Z 165 q := List.forall_mem_cons.mpr ⟨⟨s_iload_n d165_484 rfl, tl_iload _ _⟩, List.forall_mem_cons.mpr ⟨⟨s_iconst d165_485 rfl, tl_push _ _⟩, List.forall_mem_cons.mpr ⟨⟨s_iadd d165_486, tl_iadd _⟩, List.forall_mem_cons.mpr ⟨⟨s_iald d165_487, tl_iald _⟩, List.forall_mem_cons.mpr ⟨⟨s_aload_n d165_488 rfl, tl_aload _ _⟩, List.forall_mem_cons.mpr ⟨⟨s_iload_n d165_489 rfl, tl_iload _ _⟩, List.forall_mem_cons.mpr ⟨⟨s_iconst d165_490 rfl, tl_push _ _⟩, List.forall_mem_cons.mpr ⟨⟨s_iadd d165_491, tl_iadd _⟩, List.forall_mem_cons.mpr ⟨⟨s_iald d165_492, tl_iald _⟩, List.forall_mem_cons.mpr ⟨⟨q_invV_140 d165_493 wd_838, tl_invV _ _ _ _⟩, List.forall_mem_cons.mpr ⟨⟨s_iceq d165_496 rfl, tl_iceq _ _⟩, List.forall_mem_cons.mpr ⟨⟨s_iconst d165_499 rfl, tl_push _ _⟩, List.forall_mem_cons.mpr ⟨⟨s_zret d165_500 rfl, tl_zret⟩, List.forall_mem_cons.mpr ⟨⟨s_aload_n d165_501 rfl, tl_aload _ _⟩, List.forall_mem_cons.mpr ⟨⟨s_aload_n d165_502 rfl, tl_aload _ _⟩, List.forall_mem_cons.mpr ⟨⟨s_iload_n d165_503 rfl, tl_iload _ _⟩, List.forall_mem_cons.mpr ⟨⟨s_iconst d165_504 rfl, tl_push _ _⟩, List.forall_mem_cons.mpr ⟨⟨s_iadd d165_505, tl_iadd _⟩, List.forall_mem_cons.mpr ⟨⟨s_iald d165_506, tl_iald _⟩, List.forall_mem_cons.mpr ⟨⟨q_invV_61 d165_507 wd_483, tl_invV _ _ _ _⟩, List.forall_mem_cons.mpr ⟨⟨s_aload_n d165_510 rfl, tl_aload _ _⟩, List.forall_mem_cons.mpr ⟨⟨s_aload_n d165_511 rfl, tl_aload _ _⟩, List.forall_mem_cons.mpr ⟨⟨s_iload_n d165_512 rfl, tl_iload _ _⟩, List.forall_mem_cons.mpr ⟨⟨s_iconst d165_513 rfl, tl_push _ _⟩, List.forall_mem_cons.mpr ⟨⟨s_iadd d165_514, tl_iadd _⟩, List.forall_mem_cons.mpr ⟨⟨s_iald d165_515, tl_iald _⟩, List.forall_mem_cons.mpr ⟨⟨q_invV_141 d165_516 wd_842, tl_invV _ _ _ _⟩, List.forall_mem_cons.mpr ⟨⟨s_iceq d165_519 rfl, tl_iceq _ _⟩, List.forall_mem_cons.mpr ⟨⟨s_iconst d165_522 rfl, tl_push _ _⟩, List.forall_mem_cons.mpr ⟨⟨s_zret d165_523 rfl, tl_zret⟩, List.forall_mem_cons.mpr ⟨⟨s_aload_n d165_524 rfl, tl_aload _ _⟩, List.forall_mem_cons.mpr ⟨⟨s_aload_n d165_525 rfl, tl_aload _ _⟩, List.forall_mem_cons.mpr ⟨⟨s_iload_n d165_526 rfl, tl_iload _ _⟩, List.forall_mem_cons.mpr ⟨⟨s_iconst d165_527 rfl, tl_push _ _⟩, List.forall_mem_cons.mpr ⟨⟨s_iadd d165_528, tl_iadd _⟩, List.forall_mem_cons.mpr ⟨⟨s_iald d165_529, tl_iald _⟩, List.forall_mem_cons.mpr ⟨⟨q_invV_62 d165_530 wd_487, tl_invV _ _ _ _⟩, List.forall_mem_cons.mpr ⟨⟨s_aload_n d165_533 rfl, tl_aload _ _⟩, List.forall_mem_cons.mpr ⟨⟨s_aload_n d165_534 rfl, tl_aload _ _⟩, List.forall_mem_cons.mpr ⟨⟨s_iload_n d165_535 rfl, tl_iload _ _⟩, fun _ h => absurd h List.not_mem_nil⟩⟩⟩⟩⟩⟩⟩⟩⟩⟩⟩⟩⟩⟩⟩⟩⟩⟩⟩⟩⟩⟩⟩⟩⟩⟩⟩⟩⟩⟩⟩⟩⟩⟩⟩⟩⟩⟩⟩⟩
/-- RL.law -/
def t165_8 : List (Nat × pO) := [(536, o_push (.int (nI 1)) 537), (537, o_iadd 538), (538, o_iald 539), (539, o_invV 5 143 1 542), (542, o_iceq 780 545), (545, o_push (.int (nI 0)) 546), (546, o_zret), (547, o_aload 1 548), (548, o_aload 0 549), (549, o_iload 3 550), (550, o_push (.int (nI 1)) 551), (551, o_iadd 552), (552, o_iald 553), (553, o_aload 0 554), (554, o_iload 3 555), (555, o_push (.int (nI 2)) 556), (556, o_iadd 557), (557, o_iald 558), (558, o_invV 4 63 2 561), (561, o_aload 2 562), (562, o_aload 0 563), (563, o_iload 3 564), (564, o_push (.int (nI 1)) 565), (565, o_iadd 566), (566, o_iald 567), (567, o_aload 0 568), (568, o_iload 3 569), (569, o_push (.int (nI 2)) 570), (570, o_iadd 571), (571, o_iald 572), (572, o_invV 5 144 2 575), (575, o_iceq 780 578), (578, o_push (.int (nI 0)) 579), (579, o_zret), (580, o_aload 1 581), (581, o_invV 4 64 0 584), (584, o_aload 2 585), (585, o_invV 5 145 0 588), (588, o_iceq 780 591), (591, o_push (.int (nI 0)) 592)]
theorem ok165_8 : ∀ q ∈ t165_8, p_Z 165 q := List.forall_mem_cons.mpr ⟨⟨s_iconst d165_536 rfl, tl_push _ _⟩, List.forall_mem_cons.mpr ⟨⟨s_iadd d165_537, tl_iadd _⟩, List.forall_mem_cons.mpr ⟨⟨s_iald d165_538, tl_iald _⟩, List.forall_mem_cons.mpr ⟨⟨q_invV_143 d165_539 wd_846, tl_invV _ _ _ _⟩, List.forall_mem_cons.mpr ⟨⟨s_iceq d165_542 rfl, tl_iceq _ _⟩, List.forall_mem_cons.mpr ⟨⟨s_iconst d165_545 rfl, tl_push _ _⟩, List.forall_mem_cons.mpr ⟨⟨s_zret d165_546 rfl, tl_zret⟩, List.forall_mem_cons.mpr ⟨⟨s_aload_n d165_547 rfl, tl_aload _ _⟩, List.forall_mem_cons.mpr ⟨⟨s_aload_n d165_548 rfl, tl_aload _ _⟩, List.forall_mem_cons.mpr ⟨⟨s_iload_n d165_549 rfl, tl_iload _ _⟩, List.forall_mem_cons.mpr ⟨⟨s_iconst d165_550 rfl, tl_push _ _⟩, List.forall_mem_cons.mpr ⟨⟨s_iadd d165_551, tl_iadd _⟩, List.forall_mem_cons.mpr ⟨⟨s_iald d165_552, tl_iald _⟩, List.forall_mem_cons.mpr ⟨⟨s_aload_n d165_553 rfl, tl_aload _ _⟩, List.forall_mem_cons.mpr ⟨⟨s_iload_n d165_554 rfl, tl_iload _ _⟩, List.forall_mem_cons.mpr ⟨⟨s_iconst d165_555 rfl, tl_push _ _⟩, List.forall_mem_cons.mpr ⟨⟨s_iadd d165_556, tl_iadd _⟩, List.forall_mem_cons.mpr ⟨⟨s_iald d165_557, tl_iald _⟩, List.forall_mem_cons.mpr ⟨⟨q_invV_63 d165_558 wd_504, tl_invV _ _ _ _⟩, List.forall_mem_cons.mpr ⟨⟨s_aload_n d165_561 rfl, tl_aload _ _⟩, List.forall_mem_cons.mpr ⟨⟨s_aload_n d165_562 rfl, tl_aload _ _⟩, List.forall_mem_cons.mpr ⟨⟨s_iload_n d165_563 rfl, tl_iload _ _⟩, List.forall_mem_cons.mpr ⟨⟨s_iconst d165_564 rfl, tl_push _ _⟩, List.forall_mem_cons.mpr ⟨⟨s_iadd d165_565, tl_iadd _⟩, List.forall_mem_cons.mpr ⟨⟨s_iald d165_566, tl_iald _⟩, List.forall_mem_cons.mpr ⟨⟨s_aload_n d165_567 rfl, tl_aload _ _⟩, List.forall_mem_cons.mpr ⟨⟨s_iload_n d165_568 rfl, tl_iload _ _⟩, List.forall_mem_cons.mpr ⟨⟨s_iconst d165_569 rfl, tl_push _ _⟩, List.forall_mem_cons.mpr ⟨⟨s_iadd d165_570, tl_iadd _⟩, List.forall_mem_cons.mpr ⟨⟨s_iald d165_571, tl_iald _⟩, List.forall_mem_cons.mpr ⟨⟨q_invV_144 d165_572 wd_862, tl_invV _ _ _ _⟩, List.forall_mem_cons.mpr ⟨⟨s_iceq d165_575 rfl, tl_iceq _ _⟩, List.forall_mem_cons.mpr ⟨⟨s_iconst d165_578 rfl, tl_push _ _⟩, List.forall_mem_cons.mpr ⟨⟨s_zret d165_579 rfl, tl_zret⟩, List.forall_mem_cons.mpr ⟨⟨s_aload_n d165_580 rfl, tl_aload _ _⟩, List.forall_mem_cons.mpr ⟨⟨q_invV_64 d165_581 wd_508, tl_invV _ _ _ _⟩, List.forall_mem_cons.mpr ⟨⟨s_aload_n d165_584 rfl, tl_aload _ _⟩, List.forall_mem_cons.mpr ⟨⟨q_invV_145 d165_585 wd_866, tl_invV _ _ _ _⟩, List.forall_mem_cons.mpr ⟨⟨s_iceq d165_588 rfl, tl_iceq _ _⟩, List.forall_mem_cons.mpr ⟨⟨s_iconst d165_591 rfl, tl_push _ _⟩, fun _ h => absurd h List.not_mem_nil⟩⟩⟩⟩⟩⟩⟩⟩⟩⟩⟩⟩⟩⟩⟩⟩⟩⟩⟩⟩⟩⟩⟩⟩⟩⟩⟩⟩⟩⟩⟩⟩⟩⟩⟩⟩⟩⟩⟩⟩
/-- RL.law -/
def t165_9 : List (Nat × pO) := [(592, o_zret), (593, o_aload 1 594), (594, o_aload 0 595), (595, o_iload 3 596), (596, o_push (.int (nI 1)) 597), (597, o_iadd 598), (598, o_iald 599), (599, o_invV 4 65 1 602), (602, o_aload 2 603), (603, o_aload 0 604), (604, o_iload 3 605), (605, o_push (.int (nI 1)) 606), (606, o_iadd 607), (607, o_iald 608), (608, o_invV 5 146 1 611), (611, o_iceq 780 614), (614, o_push (.int (nI 0)) 615), (615, o_zret), (616, o_aload 1 617), (617, o_invV 4 66 0 620), (620, o_aload 2 621), (621, o_invV 5 149 0 624), (624, o_iceq 780 627), (627, o_push (.int (nI 0)) 628), (628, o_zret), (629, o_aload 1 630), (630, o_aload 0 631), (631, o_iload 3 632), (632, o_push (.int (nI 1)) 633), (633, o_iadd 634), (634, o_iald 635), (635, o_i2l 636), (636, o_push (.int (nI 32)) 638), (638, o_lshl 639), (639, o_aload 0 640), (640, o_iload 3 641), (641, o_push (.int (nI 2)) 642), (642, o_iadd 643), (643, o_iald 644), (644, o_i2l 645)]
theorem ok165_9 : ∀ q ∈ t165_9, p_Z 165 q := List.forall_mem_cons.mpr ⟨⟨s_zret d165_592 rfl, tl_zret⟩, List.forall_mem_cons.mpr ⟨⟨s_aload_n d165_593 rfl, tl_aload _ _⟩, List.forall_mem_cons.mpr ⟨⟨s_aload_n d165_594 rfl, tl_aload _ _⟩, List.forall_mem_cons.mpr ⟨⟨s_iload_n d165_595 rfl, tl_iload _ _⟩, List.forall_mem_cons.mpr ⟨⟨s_iconst d165_596 rfl, tl_push _ _⟩, List.forall_mem_cons.mpr ⟨⟨s_iadd d165_597, tl_iadd _⟩, List.forall_mem_cons.mpr ⟨⟨s_iald d165_598, tl_iald _⟩, List.forall_mem_cons.mpr ⟨⟨q_invV_65 d165_599 wd_512, tl_invV _ _ _ _⟩, List.forall_mem_cons.mpr ⟨⟨s_aload_n d165_602 rfl, tl_aload _ _⟩, List.forall_mem_cons.mpr ⟨⟨s_aload_n d165_603 rfl, tl_aload _ _⟩, List.forall_mem_cons.mpr ⟨⟨s_iload_n d165_604 rfl, tl_iload _ _⟩, List.forall_mem_cons.mpr ⟨⟨s_iconst d165_605 rfl, tl_push _ _⟩, List.forall_mem_cons.mpr ⟨⟨s_iadd d165_606, tl_iadd _⟩, List.forall_mem_cons.mpr ⟨⟨s_iald d165_607, tl_iald _⟩, List.forall_mem_cons.mpr ⟨⟨q_invV_146 d165_608 wd_870, tl_invV _ _ _ _⟩, List.forall_mem_cons.mpr ⟨⟨s_iceq d165_611 rfl, tl_iceq _ _⟩, List.forall_mem_cons.mpr ⟨⟨s_iconst d165_614 rfl, tl_push _ _⟩, List.forall_mem_cons.mpr ⟨⟨s_zret d165_615 rfl, tl_zret⟩, List.forall_mem_cons.mpr ⟨⟨s_aload_n d165_616 rfl, tl_aload _ _⟩, List.forall_mem_cons.mpr ⟨⟨q_invV_66 d165_617 wd_520, tl_invV _ _ _ _⟩, List.forall_mem_cons.mpr ⟨⟨s_aload_n d165_620 rfl, tl_aload _ _⟩, List.forall_mem_cons.mpr ⟨⟨q_invV_149 d165_621 wd_874, tl_invV _ _ _ _⟩, List.forall_mem_cons.mpr ⟨⟨s_iceq d165_624 rfl, tl_iceq _ _⟩, List.forall_mem_cons.mpr ⟨⟨s_iconst d165_627 rfl, tl_push _ _⟩, List.forall_mem_cons.mpr ⟨⟨s_zret d165_628 rfl, tl_zret⟩, List.forall_mem_cons.mpr ⟨⟨s_aload_n d165_629 rfl, tl_aload _ _⟩, List.forall_mem_cons.mpr ⟨⟨s_aload_n d165_630 rfl, tl_aload _ _⟩, List.forall_mem_cons.mpr ⟨⟨s_iload_n d165_631 rfl, tl_iload _ _⟩, List.forall_mem_cons.mpr ⟨⟨s_iconst d165_632 rfl, tl_push _ _⟩, List.forall_mem_cons.mpr ⟨⟨s_iadd d165_633, tl_iadd _⟩, List.forall_mem_cons.mpr ⟨⟨s_iald d165_634, tl_iald _⟩, List.forall_mem_cons.mpr ⟨⟨s_i2l d165_635, tl_i2l _⟩, List.forall_mem_cons.mpr ⟨⟨s_bipush d165_636 rfl, tl_push _ _⟩, List.forall_mem_cons.mpr ⟨⟨s_lshl d165_638, tl_lshl _⟩, List.forall_mem_cons.mpr ⟨⟨s_aload_n d165_639 rfl, tl_aload _ _⟩, List.forall_mem_cons.mpr ⟨⟨s_iload_n d165_640 rfl, tl_iload _ _⟩, List.forall_mem_cons.mpr ⟨⟨s_iconst d165_641 rfl, tl_push _ _⟩, List.forall_mem_cons.mpr ⟨⟨s_iadd d165_642, tl_iadd _⟩, List.forall_mem_cons.mpr ⟨⟨s_iald d165_643, tl_iald _⟩, List.forall_mem_cons.mpr ⟨⟨s_i2l d165_644, tl_i2l _⟩, fun _ h => absurd h List.not_mem_nil⟩⟩⟩⟩⟩⟩⟩⟩⟩⟩⟩⟩⟩⟩⟩⟩⟩⟩⟩⟩⟩⟩⟩⟩⟩⟩⟩⟩⟩⟩⟩⟩⟩⟩⟩⟩⟩⟩⟩⟩
/-- RL.law -/
def t165_10 : List (Nat × pO) := [(645, o_push (.long (4294967295 : Int64)) 648), (648, o_land 649), (649, o_lor 650), (650, o_invV 4 67 1 653), (653, o_aload 2 654), (654, o_aload 0 655), (655, o_iload 3 656), (656, o_push (.int (nI 1)) 657), (657, o_iadd 658), (658, o_iald 659), (659, o_i2l 660), (660, o_push (.int (nI 32)) 662), (662, o_lshl 663), (663, o_aload 0 664), (664, o_iload 3 665), (665, o_push (.int (nI 2)) 666), (666, o_iadd 667), (667, o_iald 668), (668, o_i2l 669), (669, o_push (.long (4294967295 : Int64)) 672), (672, o_land 673), (673, o_lor 674), (674, o_invV 5 150 1 677), (677, o_iceq 780 680), (680, o_push (.int (nI 0)) 681), (681, o_zret), (682, o_aload 1 683), (683, o_invV 4 68 0 686), (686, o_aload 2 687), (687, o_invV 5 151 0 690), (690, o_iceq 780 693), (693, o_push (.int (nI 0)) 694), (694, o_zret), (695, o_aload 1 696), (696, o_invV 4 69 0 699), (699, o_aload 2 700), (700, o_invV 5 157 0 703), (703, o_iceq 780 706), (706, o_push (.int (nI 0)) 707), (707, o_zret)]
theorem ok165_10 : ∀ q ∈ t165_10, p_Z 165 q := List.forall_mem_cons.mpr ⟨⟨s_ldc2 wd_943 d165_645, tl_push _ _⟩, List.forall_mem_cons.mpr ⟨⟨s_land d165_648, tl_land _⟩, List.forall_mem_cons.mpr ⟨⟨s_lor d165_649, tl_lor _⟩, List.forall_mem_cons.mpr ⟨⟨q_invV_67 d165_650 wd_535, tl_invV _ _ _ _⟩, List.forall_mem_cons.mpr ⟨⟨s_aload_n d165_653 rfl, tl_aload _ _⟩, List.forall_mem_cons.mpr ⟨⟨s_aload_n d165_654 rfl, tl_aload _ _⟩, List.forall_mem_cons.mpr ⟨⟨s_iload_n d165_655 rfl, tl_iload _ _⟩, List.forall_mem_cons.mpr ⟨⟨s_iconst d165_656 rfl, tl_push _ _⟩, List.forall_mem_cons.mpr ⟨⟨s_iadd d165_657, tl_iadd _⟩, List.forall_mem_cons.mpr ⟨⟨s_iald d165_658, tl_iald _⟩, List.forall_mem_cons.mpr ⟨⟨s_i2l d165_659, tl_i2l _⟩, List.forall_mem_cons.mpr ⟨⟨s_bipush d165_660 rfl, tl_push _ _⟩, List.forall_mem_cons.mpr ⟨⟨s_lshl d165_662, tl_lshl _⟩, List.forall_mem_cons.mpr ⟨⟨s_aload_n d165_663 rfl, tl_aload _ _⟩, List.forall_mem_cons.mpr ⟨⟨s_iload_n d165_664 rfl, tl_iload _ _⟩, List.forall_mem_cons.mpr ⟨⟨s_iconst d165_665 rfl, tl_push _ _⟩, List.forall_mem_cons.mpr ⟨⟨s_iadd d165_666, tl_iadd _⟩, List.forall_mem_cons.mpr ⟨⟨s_iald d165_667, tl_iald _⟩, List.forall_mem_cons.mpr ⟨⟨s_i2l d165_668, tl_i2l _⟩, List.forall_mem_cons.mpr ⟨⟨s_ldc2 wd_943 d165_669, tl_push _ _⟩, List.forall_mem_cons.mpr ⟨⟨s_land d165_672, tl_land _⟩, List.forall_mem_cons.mpr ⟨⟨s_lor d165_673, tl_lor _⟩, List.forall_mem_cons.mpr ⟨⟨q_invV_150 d165_674 wd_886, tl_invV _ _ _ _⟩, List.forall_mem_cons.mpr ⟨⟨s_iceq d165_677 rfl, tl_iceq _ _⟩, List.forall_mem_cons.mpr ⟨⟨s_iconst d165_680 rfl, tl_push _ _⟩, List.forall_mem_cons.mpr ⟨⟨s_zret d165_681 rfl, tl_zret⟩, List.forall_mem_cons.mpr ⟨⟨s_aload_n d165_682 rfl, tl_aload _ _⟩, List.forall_mem_cons.mpr ⟨⟨q_invV_68 d165_683 wd_543, tl_invV _ _ _ _⟩, List.forall_mem_cons.mpr ⟨⟨s_aload_n d165_686 rfl, tl_aload _ _⟩, List.forall_mem_cons.mpr ⟨⟨q_invV_151 d165_687 wd_891, tl_invV _ _ _ _⟩, List.forall_mem_cons.mpr ⟨⟨s_iceq d165_690 rfl, tl_iceq _ _⟩, List.forall_mem_cons.mpr ⟨⟨s_iconst d165_693 rfl, tl_push _ _⟩, List.forall_mem_cons.mpr ⟨⟨s_zret d165_694 rfl, tl_zret⟩, List.forall_mem_cons.mpr ⟨⟨s_aload_n d165_695 rfl, tl_aload _ _⟩, List.forall_mem_cons.mpr ⟨⟨q_invV_69 d165_696 wd_547, tl_invV _ _ _ _⟩, List.forall_mem_cons.mpr ⟨⟨s_aload_n d165_699 rfl, tl_aload _ _⟩, List.forall_mem_cons.mpr ⟨⟨q_invV_157 d165_700 wd_895, tl_invV _ _ _ _⟩, List.forall_mem_cons.mpr ⟨⟨s_iceq d165_703 rfl, tl_iceq _ _⟩, List.forall_mem_cons.mpr ⟨⟨s_iconst d165_706 rfl, tl_push _ _⟩, List.forall_mem_cons.mpr ⟨⟨s_zret d165_707 rfl, tl_zret⟩, fun _ h => absurd h List.not_mem_nil⟩⟩⟩⟩⟩⟩⟩⟩⟩⟩⟩⟩⟩⟩⟩⟩⟩⟩⟩⟩⟩⟩⟩⟩⟩⟩⟩⟩⟩⟩⟩⟩⟩⟩⟩⟩⟩⟩⟩⟩
/-- RL.law -/
def t165_11 : List (Nat × pO) := [(708, o_aload 1 709), (709, o_invV 4 70 0 712), (712, o_aload 2 713), (713, o_invV 5 160 0 716), (716, o_iceq 780 719), (719, o_push (.int (nI 0)) 720), (720, o_zret), (721, o_aload 1 722), (722, o_invV 4 71 0 725), (725, o_aload 2 726), (726, o_invV 5 161 0 729), (729, o_iceq 780 732), (732, o_push (.int (nI 0)) 733), (733, o_zret), (734, o_aload 1 735), (735, o_aload 0 736), (736, o_iload 3 737), (737, o_push (.int (nI 1)) 738), (738, o_iadd 739), (739, o_iald 740), (740, o_invV 4 72 1 743), (743, o_aload 2 744), (744, o_aload 0 745), (745, o_iload 3 746), (746, o_push (.int (nI 1)) 747), (747, o_iadd 748), (748, o_iald 749), (749, o_invV 5 162 1 752), (752, o_iceq 780 755), (755, o_push (.int (nI 0)) 756), (756, o_zret), (757, o_aload 1 758), (758, o_aload 0 759), (759, o_iload 3 760), (760, o_push (.int (nI 1)) 761), (761, o_iadd 762), (762, o_iald 763), (763, o_invV 4 73 1 766), (766, o_aload 2 767), (767, o_aload 0 768)]
theorem ok165_11 : ∀ q ∈ t165_11, p_Z 165 q := List.forall_mem_cons.mpr ⟨⟨s_aload_n d165_708 rfl, tl_aload _ _⟩, List.forall_mem_cons.mpr ⟨⟨q_invV_70 d165_709 wd_587, tl_invV _ _ _ _⟩, List.forall_mem_cons.mpr ⟨⟨s_aload_n d165_712 rfl, tl_aload _ _⟩, List.forall_mem_cons.mpr ⟨⟨q_invV_160 d165_713 wd_919, tl_invV _ _ _ _⟩, List.forall_mem_cons.mpr ⟨⟨s_iceq d165_716 rfl, tl_iceq _ _⟩, List.forall_mem_cons.mpr ⟨⟨s_iconst d165_719 rfl, tl_push _ _⟩, List.forall_mem_cons.mpr ⟨⟨s_zret d165_720 rfl, tl_zret⟩, List.forall_mem_cons.mpr ⟨⟨s_aload_n d165_721 rfl, tl_aload _ _⟩, List.forall_mem_cons.mpr ⟨⟨q_invV_71 d165_722 wd_598, tl_invV _ _ _ _⟩, List.forall_mem_cons.mpr ⟨⟨s_aload_n d165_725 rfl, tl_aload _ _⟩, List.forall_mem_cons.mpr ⟨⟨q_invV_161 d165_726 wd_931, tl_invV _ _ _ _⟩, List.forall_mem_cons.mpr ⟨⟨s_iceq d165_729 rfl, tl_iceq _ _⟩, List.forall_mem_cons.mpr ⟨⟨s_iconst d165_732 rfl, tl_push _ _⟩, List.forall_mem_cons.mpr ⟨⟨s_zret d165_733 rfl, tl_zret⟩, List.forall_mem_cons.mpr ⟨⟨s_aload_n d165_734 rfl, tl_aload _ _⟩, List.forall_mem_cons.mpr ⟨⟨s_aload_n d165_735 rfl, tl_aload _ _⟩, List.forall_mem_cons.mpr ⟨⟨s_iload_n d165_736 rfl, tl_iload _ _⟩, List.forall_mem_cons.mpr ⟨⟨s_iconst d165_737 rfl, tl_push _ _⟩, List.forall_mem_cons.mpr ⟨⟨s_iadd d165_738, tl_iadd _⟩, List.forall_mem_cons.mpr ⟨⟨s_iald d165_739, tl_iald _⟩, List.forall_mem_cons.mpr ⟨⟨q_invV_72 d165_740 wd_602, tl_invV _ _ _ _⟩, List.forall_mem_cons.mpr ⟨⟨s_aload_n d165_743 rfl, tl_aload _ _⟩, List.forall_mem_cons.mpr ⟨⟨s_aload_n d165_744 rfl, tl_aload _ _⟩, List.forall_mem_cons.mpr ⟨⟨s_iload_n d165_745 rfl, tl_iload _ _⟩, List.forall_mem_cons.mpr ⟨⟨s_iconst d165_746 rfl, tl_push _ _⟩, List.forall_mem_cons.mpr ⟨⟨s_iadd d165_747, tl_iadd _⟩, List.forall_mem_cons.mpr ⟨⟨s_iald d165_748, tl_iald _⟩, List.forall_mem_cons.mpr ⟨⟨q_invV_162 d165_749 wd_935, tl_invV _ _ _ _⟩, List.forall_mem_cons.mpr ⟨⟨s_iceq d165_752 rfl, tl_iceq _ _⟩, List.forall_mem_cons.mpr ⟨⟨s_iconst d165_755 rfl, tl_push _ _⟩, List.forall_mem_cons.mpr ⟨⟨s_zret d165_756 rfl, tl_zret⟩, List.forall_mem_cons.mpr ⟨⟨s_aload_n d165_757 rfl, tl_aload _ _⟩, List.forall_mem_cons.mpr ⟨⟨s_aload_n d165_758 rfl, tl_aload _ _⟩, List.forall_mem_cons.mpr ⟨⟨s_iload_n d165_759 rfl, tl_iload _ _⟩, List.forall_mem_cons.mpr ⟨⟨s_iconst d165_760 rfl, tl_push _ _⟩, List.forall_mem_cons.mpr ⟨⟨s_iadd d165_761, tl_iadd _⟩, List.forall_mem_cons.mpr ⟨⟨s_iald d165_762, tl_iald _⟩, List.forall_mem_cons.mpr ⟨⟨q_invV_73 d165_763 wd_606, tl_invV _ _ _ _⟩, List.forall_mem_cons.mpr ⟨⟨s_aload_n d165_766 rfl, tl_aload _ _⟩, List.forall_mem_cons.mpr ⟨⟨s_aload_n d165_767 rfl, tl_aload _ _⟩, fun _ h => absurd h List.not_mem_nil⟩⟩⟩⟩⟩⟩⟩⟩⟩⟩⟩⟩⟩⟩⟩⟩⟩⟩⟩⟩⟩⟩⟩⟩⟩⟩⟩⟩⟩⟩⟩⟩⟩⟩⟩⟩⟩⟩⟩⟩
/-- RL.law -/
def t165_12 : List (Nat × pO) := [(768, o_iload 3 769), (769, o_push (.int (nI 1)) 770), (770, o_iadd 771), (771, o_iald 772), (772, o_invV 5 163 1 775), (775, o_iceq 780 778), (778, o_push (.int (nI 0)) 779), (779, o_zret), (780, o_iinc 3 (nI 4) 783), (783, o_goto 18), (786, o_push (.int (nI 1)) 787), (787, o_zret)]
theorem ok165_12 : ∀ q ∈ t165_12, p_Z 165 q := List.forall_mem_cons.mpr ⟨⟨s_iload_n d165_768 rfl, tl_iload _ _⟩, List.forall_mem_cons.mpr ⟨⟨s_iconst d165_769 rfl, tl_push _ _⟩, List.forall_mem_cons.mpr ⟨⟨s_iadd d165_770, tl_iadd _⟩, List.forall_mem_cons.mpr ⟨⟨s_iald d165_771, tl_iald _⟩, List.forall_mem_cons.mpr ⟨⟨q_invV_163 d165_772 wd_939, tl_invV _ _ _ _⟩, List.forall_mem_cons.mpr ⟨⟨s_iceq d165_775 rfl, tl_iceq _ _⟩, List.forall_mem_cons.mpr ⟨⟨s_iconst d165_778 rfl, tl_push _ _⟩, List.forall_mem_cons.mpr ⟨⟨s_zret d165_779 rfl, tl_zret⟩, List.forall_mem_cons.mpr ⟨⟨s_iinc d165_780 rfl st1_165_3, tl_iinc _ _ _⟩, List.forall_mem_cons.mpr ⟨⟨s_goto d165_783 rfl, tl_goto _⟩, List.forall_mem_cons.mpr ⟨⟨s_iconst d165_786 rfl, tl_push _ _⟩, List.forall_mem_cons.mpr ⟨⟨s_zret d165_787 rfl, tl_zret⟩, fun _ h => absurd h List.not_mem_nil⟩⟩⟩⟩⟩⟩⟩⟩⟩⟩⟩⟩
def t165 : List (Nat × pO) := t165_0 ++ (t165_1 ++ (t165_2 ++ (t165_3 ++ (t165_4 ++ (t165_5 ++ (t165_6 ++ (t165_7 ++ (t165_8 ++ (t165_9 ++ (t165_10 ++ (t165_11 ++ (t165_12))))))))))))
theorem ok165 : ∀ q ∈ t165, p_Z 165 q := List.forall_mem_append.mpr ⟨ok165_0, List.forall_mem_append.mpr ⟨ok165_1, List.forall_mem_append.mpr ⟨ok165_2, List.forall_mem_append.mpr ⟨ok165_3, List.forall_mem_append.mpr ⟨ok165_4, List.forall_mem_append.mpr ⟨ok165_5, List.forall_mem_append.mpr ⟨ok165_6, List.forall_mem_append.mpr ⟨ok165_7, List.forall_mem_append.mpr ⟨ok165_8, List.forall_mem_append.mpr ⟨ok165_9, List.forall_mem_append.mpr ⟨ok165_10, List.forall_mem_append.mpr ⟨ok165_11, ok165_12⟩⟩⟩⟩⟩⟩⟩⟩⟩⟩⟩⟩
