/-! ===== printed by program: the law: its table, case by case ===== -/
def tA_0 : TB := [(0, .new 8, 3, 0), (3, .dup, 1, 0), (4, .invokespecial 113, 3, 0), (7, .astore_n 1, 1, 0), (8, .new 114, 3, 0), (11, .dup, 1, 0), (12, .invokespecial 116, 3, 0), (15, .astore_n 2, 1, 0), (16, .iconst 1, 1, 0), (17, .newarray .long, 2, 0), (19, .astore_n 3, 1, 0), (20, .iconst 1, 1, 0), (21, .newarray .double, 2, 0), (23, .astore 4, 2, 0), (25, .iconst 0, 1, 0), (26, .istore 5, 2, 0), (28, .iload 5, 2, 0), (30, .aload_n 0, 1, 0), (31, .arraylength, 1, 0), (32, .iconst 5, 1, 0), (33, .isub, 1, 0), (34, .if_icmp .gt 2049, 3, 2083), (37, .aload_n 0, 1, 0), (38, .iload 5, 2, 0), (40, .iaload, 1, 0), (41, .bipush 31, 2, 0), (43, .iand, 1, 0), (44, .tableswitch 2033 0 30 #[140, 232, 300, 368, 436, 504, 607, 675, 743, 811, 903, 947, 1027, 1095, 1163, 1231, 1311, 1379, 1392, 1448, 1461, 1517, 1597, 1641, 1709, 1765, 1830, 1888, 1932, 1976, 1989], 140, 0), (2077, .iinc 5 5, 3, 0), (2080, .goto (-2052), 3, 28), (2083, .iconst 1, 1, 0), (2084, .ireturn, 1, 0)]
theorem tA_0_ok : tbOk code tA_0 = true := by decide +kernel
theorem kA_0 : lkp tA_0 0 = some (.new 8, 0) := rfl
theorem kA_3 : lkp tA_0 3 = some (.dup, 0) := rfl
theorem kA_4 : lkp tA_0 4 = some (.invokespecial 113, 0) := rfl
theorem kA_7 : lkp tA_0 7 = some (.astore_n 1, 0) := rfl
theorem kA_8 : lkp tA_0 8 = some (.new 114, 0) := rfl
theorem kA_11 : lkp tA_0 11 = some (.dup, 0) := rfl
theorem kA_12 : lkp tA_0 12 = some (.invokespecial 116, 0) := rfl
theorem kA_15 : lkp tA_0 15 = some (.astore_n 2, 0) := rfl
theorem kA_16 : lkp tA_0 16 = some (.iconst 1, 0) := rfl
theorem kA_17 : lkp tA_0 17 = some (.newarray .long, 0) := rfl
theorem kA_19 : lkp tA_0 19 = some (.astore_n 3, 0) := rfl
theorem kA_20 : lkp tA_0 20 = some (.iconst 1, 0) := rfl
theorem kA_21 : lkp tA_0 21 = some (.newarray .double, 0) := rfl
theorem kA_23 : lkp tA_0 23 = some (.astore 4, 0) := rfl
theorem kA_25 : lkp tA_0 25 = some (.iconst 0, 0) := rfl
theorem kA_26 : lkp tA_0 26 = some (.istore 5, 0) := rfl
theorem kA_28 : lkp tA_0 28 = some (.iload 5, 0) := rfl
theorem kA_30 : lkp tA_0 30 = some (.aload_n 0, 0) := rfl
theorem kA_31 : lkp tA_0 31 = some (.arraylength, 0) := rfl
theorem kA_32 : lkp tA_0 32 = some (.iconst 5, 0) := rfl
theorem kA_33 : lkp tA_0 33 = some (.isub, 0) := rfl
theorem kA_34 : lkp tA_0 34 = some (.if_icmp .gt 2049, 2083) := rfl
theorem kA_37 : lkp tA_0 37 = some (.aload_n 0, 0) := rfl
theorem kA_38 : lkp tA_0 38 = some (.iload 5, 0) := rfl
theorem kA_40 : lkp tA_0 40 = some (.iaload, 0) := rfl
theorem kA_41 : lkp tA_0 41 = some (.bipush 31, 0) := rfl
theorem kA_43 : lkp tA_0 43 = some (.iand, 0) := rfl
theorem kA_44 : lkp tA_0 44 = some (.tableswitch 2033 0 30 #[140, 232, 300, 368, 436, 504, 607, 675, 743, 811, 903, 947, 1027, 1095, 1163, 1231, 1311, 1379, 1392, 1448, 1461, 1517, 1597, 1641, 1709, 1765, 1830, 1888, 1932, 1976, 1989], 0) := rfl
theorem kA_2077 : lkp tA_0 2077 = some (.iinc 5 5, 0) := rfl
theorem kA_2080 : lkp tA_0 2080 = some (.goto (-2052), 28) := rfl
theorem kA_2083 : lkp tA_0 2083 = some (.iconst 1, 0) := rfl
theorem kA_2084 : lkp tA_0 2084 = some (.ireturn, 0) := rfl
def tA_c0 : TB := [(184, .aload_n 1, 1, 0), (185, .aload_n 0, 1, 0), (186, .iload 5, 2, 0), (188, .iconst 1, 1, 0), (189, .iadd, 1, 0), (190, .iaload, 1, 0), (191, .aload_n 0, 1, 0), (192, .iload 5, 2, 0), (194, .iconst 2, 1, 0), (195, .iadd, 1, 0), (196, .iaload, 1, 0), (197, .aload_n 0, 1, 0), (198, .iload 5, 2, 0), (200, .iconst 3, 1, 0), (201, .iadd, 1, 0), (202, .iaload, 1, 0), (203, .aload_n 0, 1, 0), (204, .iload 5, 2, 0), (206, .iconst 4, 1, 0), (207, .iadd, 1, 0), (208, .iaload, 1, 0), (209, .aload_n 3, 1, 0), (210, .invokestatic 117, 3, 0), (213, .istore 6, 2, 0), (215, .aload_n 2, 1, 0), (216, .aload_n 0, 1, 0), (217, .iload 5, 2, 0), (219, .iconst 1, 1, 0), (220, .iadd, 1, 0), (221, .iaload, 1, 0), (222, .aload_n 0, 1, 0), (223, .iload 5, 2, 0), (225, .iconst 2, 1, 0), (226, .iadd, 1, 0), (227, .iaload, 1, 0), (228, .aload_n 0, 1, 0), (229, .iload 5, 2, 0), (231, .iconst 3, 1, 0), (232, .iadd, 1, 0), (233, .iaload, 1, 0), (234, .aload_n 0, 1, 0), (235, .iload 5, 2, 0), (237, .iconst 4, 1, 0), (238, .iadd, 1, 0), (239, .iaload, 1, 0), (240, .invokevirtual 122, 3, 0), (243, .istore 7, 2, 0), (245, .aload_n 2, 1, 0), (246, .invokevirtual 123, 3, 0), (249, .iload 6, 2, 0), (251, .if_icmp .eq 5, 3, 256), (254, .iconst 0, 1, 0), (255, .ireturn, 1, 0), (256, .iload 6, 2, 0), (258, .ifCond .ne 15, 3, 273), (261, .aload_n 3, 1, 0), (262, .iconst 0, 1, 0), (263, .laload, 1, 0), (264, .iload 7, 2, 0), (266, .i2l, 1, 0), (267, .lcmp, 1, 0), (268, .ifCond .eq 5, 3, 273), (271, .iconst 0, 1, 0), (272, .ireturn, 1, 0), (273, .goto 1804, 3, 2077)]
theorem tA_c0_ok : tbOk code tA_c0 = true := by decide +kernel
theorem kA_184 : lkp tA_c0 184 = some (.aload_n 1, 0) := rfl
theorem kA_185 : lkp tA_c0 185 = some (.aload_n 0, 0) := rfl
theorem kA_186 : lkp tA_c0 186 = some (.iload 5, 0) := rfl
theorem kA_188 : lkp tA_c0 188 = some (.iconst 1, 0) := rfl
theorem kA_189 : lkp tA_c0 189 = some (.iadd, 0) := rfl
theorem kA_190 : lkp tA_c0 190 = some (.iaload, 0) := rfl
theorem kA_191 : lkp tA_c0 191 = some (.aload_n 0, 0) := rfl
theorem kA_192 : lkp tA_c0 192 = some (.iload 5, 0) := rfl
theorem kA_194 : lkp tA_c0 194 = some (.iconst 2, 0) := rfl
theorem kA_195 : lkp tA_c0 195 = some (.iadd, 0) := rfl
theorem kA_196 : lkp tA_c0 196 = some (.iaload, 0) := rfl
theorem kA_197 : lkp tA_c0 197 = some (.aload_n 0, 0) := rfl
theorem kA_198 : lkp tA_c0 198 = some (.iload 5, 0) := rfl
theorem kA_200 : lkp tA_c0 200 = some (.iconst 3, 0) := rfl
theorem kA_201 : lkp tA_c0 201 = some (.iadd, 0) := rfl
theorem kA_202 : lkp tA_c0 202 = some (.iaload, 0) := rfl
theorem kA_203 : lkp tA_c0 203 = some (.aload_n 0, 0) := rfl
theorem kA_204 : lkp tA_c0 204 = some (.iload 5, 0) := rfl
theorem kA_206 : lkp tA_c0 206 = some (.iconst 4, 0) := rfl
theorem kA_207 : lkp tA_c0 207 = some (.iadd, 0) := rfl
theorem kA_208 : lkp tA_c0 208 = some (.iaload, 0) := rfl
theorem kA_209 : lkp tA_c0 209 = some (.aload_n 3, 0) := rfl
theorem kA_210 : lkp tA_c0 210 = some (.invokestatic 117, 0) := rfl
theorem kA_213 : lkp tA_c0 213 = some (.istore 6, 0) := rfl
theorem kA_215 : lkp tA_c0 215 = some (.aload_n 2, 0) := rfl
theorem kA_216 : lkp tA_c0 216 = some (.aload_n 0, 0) := rfl
theorem kA_217 : lkp tA_c0 217 = some (.iload 5, 0) := rfl
theorem kA_219 : lkp tA_c0 219 = some (.iconst 1, 0) := rfl
theorem kA_220 : lkp tA_c0 220 = some (.iadd, 0) := rfl
theorem kA_221 : lkp tA_c0 221 = some (.iaload, 0) := rfl
theorem kA_222 : lkp tA_c0 222 = some (.aload_n 0, 0) := rfl
theorem kA_223 : lkp tA_c0 223 = some (.iload 5, 0) := rfl
theorem kA_225 : lkp tA_c0 225 = some (.iconst 2, 0) := rfl
theorem kA_226 : lkp tA_c0 226 = some (.iadd, 0) := rfl
theorem kA_227 : lkp tA_c0 227 = some (.iaload, 0) := rfl
theorem kA_228 : lkp tA_c0 228 = some (.aload_n 0, 0) := rfl
theorem kA_229 : lkp tA_c0 229 = some (.iload 5, 0) := rfl
theorem kA_231 : lkp tA_c0 231 = some (.iconst 3, 0) := rfl
theorem kA_232 : lkp tA_c0 232 = some (.iadd, 0) := rfl
theorem kA_233 : lkp tA_c0 233 = some (.iaload, 0) := rfl
theorem kA_234 : lkp tA_c0 234 = some (.aload_n 0, 0) := rfl
theorem kA_235 : lkp tA_c0 235 = some (.iload 5, 0) := rfl
theorem kA_237 : lkp tA_c0 237 = some (.iconst 4, 0) := rfl
theorem kA_238 : lkp tA_c0 238 = some (.iadd, 0) := rfl
theorem kA_239 : lkp tA_c0 239 = some (.iaload, 0) := rfl
theorem kA_240 : lkp tA_c0 240 = some (.invokevirtual 122, 0) := rfl
theorem kA_243 : lkp tA_c0 243 = some (.istore 7, 0) := rfl
theorem kA_245 : lkp tA_c0 245 = some (.aload_n 2, 0) := rfl
theorem kA_246 : lkp tA_c0 246 = some (.invokevirtual 123, 0) := rfl
theorem kA_249 : lkp tA_c0 249 = some (.iload 6, 0) := rfl
theorem kA_251 : lkp tA_c0 251 = some (.if_icmp .eq 5, 256) := rfl
theorem kA_254 : lkp tA_c0 254 = some (.iconst 0, 0) := rfl
theorem kA_255 : lkp tA_c0 255 = some (.ireturn, 0) := rfl
theorem kA_256 : lkp tA_c0 256 = some (.iload 6, 0) := rfl
theorem kA_258 : lkp tA_c0 258 = some (.ifCond .ne 15, 273) := rfl
theorem kA_261 : lkp tA_c0 261 = some (.aload_n 3, 0) := rfl
theorem kA_262 : lkp tA_c0 262 = some (.iconst 0, 0) := rfl
theorem kA_263 : lkp tA_c0 263 = some (.laload, 0) := rfl
theorem kA_264 : lkp tA_c0 264 = some (.iload 7, 0) := rfl
theorem kA_266 : lkp tA_c0 266 = some (.i2l, 0) := rfl
theorem kA_267 : lkp tA_c0 267 = some (.lcmp, 0) := rfl
theorem kA_268 : lkp tA_c0 268 = some (.ifCond .eq 5, 273) := rfl
theorem kA_271 : lkp tA_c0 271 = some (.iconst 0, 0) := rfl
theorem kA_272 : lkp tA_c0 272 = some (.ireturn, 0) := rfl
theorem kA_273 : lkp tA_c0 273 = some (.goto 1804, 2077) := rfl
def tA_c1 : TB := [(276, .aload_n 1, 1, 0), (277, .aload_n 0, 1, 0), (278, .iload 5, 2, 0), (280, .iconst 1, 1, 0), (281, .iadd, 1, 0), (282, .iaload, 1, 0), (283, .aload_n 0, 1, 0), (284, .iload 5, 2, 0), (286, .iconst 2, 1, 0), (287, .iadd, 1, 0), (288, .iaload, 1, 0), (289, .aload_n 3, 1, 0), (290, .invokestatic 126, 3, 0), (293, .istore 6, 2, 0), (295, .aload_n 2, 1, 0), (296, .aload_n 0, 1, 0), (297, .iload 5, 2, 0), (299, .iconst 1, 1, 0), (300, .iadd, 1, 0), (301, .iaload, 1, 0), (302, .aload_n 0, 1, 0), (303, .iload 5, 2, 0), (305, .iconst 2, 1, 0), (306, .iadd, 1, 0), (307, .iaload, 1, 0), (308, .invokevirtual 129, 3, 0), (311, .istore 7, 2, 0), (313, .aload_n 2, 1, 0), (314, .invokevirtual 123, 3, 0), (317, .iload 6, 2, 0), (319, .if_icmp .eq 5, 3, 324), (322, .iconst 0, 1, 0), (323, .ireturn, 1, 0), (324, .iload 6, 2, 0), (326, .ifCond .ne 15, 3, 341), (329, .aload_n 3, 1, 0), (330, .iconst 0, 1, 0), (331, .laload, 1, 0), (332, .iload 7, 2, 0), (334, .i2l, 1, 0), (335, .lcmp, 1, 0), (336, .ifCond .eq 5, 3, 341), (339, .iconst 0, 1, 0), (340, .ireturn, 1, 0), (341, .goto 1736, 3, 2077)]
theorem tA_c1_ok : tbOk code tA_c1 = true := by decide +kernel
theorem kA_276 : lkp tA_c1 276 = some (.aload_n 1, 0) := rfl
theorem kA_277 : lkp tA_c1 277 = some (.aload_n 0, 0) := rfl
theorem kA_278 : lkp tA_c1 278 = some (.iload 5, 0) := rfl
theorem kA_280 : lkp tA_c1 280 = some (.iconst 1, 0) := rfl
theorem kA_281 : lkp tA_c1 281 = some (.iadd, 0) := rfl
theorem kA_282 : lkp tA_c1 282 = some (.iaload, 0) := rfl
theorem kA_283 : lkp tA_c1 283 = some (.aload_n 0, 0) := rfl
theorem kA_284 : lkp tA_c1 284 = some (.iload 5, 0) := rfl
theorem kA_286 : lkp tA_c1 286 = some (.iconst 2, 0) := rfl
theorem kA_287 : lkp tA_c1 287 = some (.iadd, 0) := rfl
theorem kA_288 : lkp tA_c1 288 = some (.iaload, 0) := rfl
theorem kA_289 : lkp tA_c1 289 = some (.aload_n 3, 0) := rfl
theorem kA_290 : lkp tA_c1 290 = some (.invokestatic 126, 0) := rfl
theorem kA_293 : lkp tA_c1 293 = some (.istore 6, 0) := rfl
theorem kA_295 : lkp tA_c1 295 = some (.aload_n 2, 0) := rfl
theorem kA_296 : lkp tA_c1 296 = some (.aload_n 0, 0) := rfl
theorem kA_297 : lkp tA_c1 297 = some (.iload 5, 0) := rfl
theorem kA_299 : lkp tA_c1 299 = some (.iconst 1, 0) := rfl
theorem kA_300 : lkp tA_c1 300 = some (.iadd, 0) := rfl
theorem kA_301 : lkp tA_c1 301 = some (.iaload, 0) := rfl
theorem kA_302 : lkp tA_c1 302 = some (.aload_n 0, 0) := rfl
theorem kA_303 : lkp tA_c1 303 = some (.iload 5, 0) := rfl
theorem kA_305 : lkp tA_c1 305 = some (.iconst 2, 0) := rfl
theorem kA_306 : lkp tA_c1 306 = some (.iadd, 0) := rfl
theorem kA_307 : lkp tA_c1 307 = some (.iaload, 0) := rfl
theorem kA_308 : lkp tA_c1 308 = some (.invokevirtual 129, 0) := rfl
theorem kA_311 : lkp tA_c1 311 = some (.istore 7, 0) := rfl
theorem kA_313 : lkp tA_c1 313 = some (.aload_n 2, 0) := rfl
theorem kA_314 : lkp tA_c1 314 = some (.invokevirtual 123, 0) := rfl
theorem kA_317 : lkp tA_c1 317 = some (.iload 6, 0) := rfl
theorem kA_319 : lkp tA_c1 319 = some (.if_icmp .eq 5, 324) := rfl
theorem kA_322 : lkp tA_c1 322 = some (.iconst 0, 0) := rfl
theorem kA_323 : lkp tA_c1 323 = some (.ireturn, 0) := rfl
theorem kA_324 : lkp tA_c1 324 = some (.iload 6, 0) := rfl
theorem kA_326 : lkp tA_c1 326 = some (.ifCond .ne 15, 341) := rfl
theorem kA_329 : lkp tA_c1 329 = some (.aload_n 3, 0) := rfl
theorem kA_330 : lkp tA_c1 330 = some (.iconst 0, 0) := rfl
theorem kA_331 : lkp tA_c1 331 = some (.laload, 0) := rfl
theorem kA_332 : lkp tA_c1 332 = some (.iload 7, 0) := rfl
theorem kA_334 : lkp tA_c1 334 = some (.i2l, 0) := rfl
theorem kA_335 : lkp tA_c1 335 = some (.lcmp, 0) := rfl
theorem kA_336 : lkp tA_c1 336 = some (.ifCond .eq 5, 341) := rfl
theorem kA_339 : lkp tA_c1 339 = some (.iconst 0, 0) := rfl
theorem kA_340 : lkp tA_c1 340 = some (.ireturn, 0) := rfl
theorem kA_341 : lkp tA_c1 341 = some (.goto 1736, 2077) := rfl
def tA_c2 : TB := [(344, .aload_n 1, 1, 0), (345, .aload_n 0, 1, 0), (346, .iload 5, 2, 0), (348, .iconst 1, 1, 0), (349, .iadd, 1, 0), (350, .iaload, 1, 0), (351, .aload_n 0, 1, 0), (352, .iload 5, 2, 0), (354, .iconst 2, 1, 0), (355, .iadd, 1, 0), (356, .iaload, 1, 0), (357, .aload_n 3, 1, 0), (358, .invokestatic 130, 3, 0), (361, .istore 6, 2, 0), (363, .aload_n 2, 1, 0), (364, .aload_n 0, 1, 0), (365, .iload 5, 2, 0), (367, .iconst 1, 1, 0), (368, .iadd, 1, 0), (369, .iaload, 1, 0), (370, .aload_n 0, 1, 0), (371, .iload 5, 2, 0), (373, .iconst 2, 1, 0), (374, .iadd, 1, 0), (375, .iaload, 1, 0), (376, .invokevirtual 132, 3, 0), (379, .istore 7, 2, 0), (381, .aload_n 2, 1, 0), (382, .invokevirtual 123, 3, 0), (385, .iload 6, 2, 0), (387, .if_icmp .eq 5, 3, 392), (390, .iconst 0, 1, 0), (391, .ireturn, 1, 0), (392, .iload 6, 2, 0), (394, .ifCond .ne 15, 3, 409), (397, .aload_n 3, 1, 0), (398, .iconst 0, 1, 0), (399, .laload, 1, 0), (400, .iload 7, 2, 0), (402, .i2l, 1, 0), (403, .lcmp, 1, 0), (404, .ifCond .eq 5, 3, 409), (407, .iconst 0, 1, 0), (408, .ireturn, 1, 0), (409, .goto 1668, 3, 2077)]
theorem tA_c2_ok : tbOk code tA_c2 = true := by decide +kernel
theorem kA_344 : lkp tA_c2 344 = some (.aload_n 1, 0) := rfl
theorem kA_345 : lkp tA_c2 345 = some (.aload_n 0, 0) := rfl
theorem kA_346 : lkp tA_c2 346 = some (.iload 5, 0) := rfl
theorem kA_348 : lkp tA_c2 348 = some (.iconst 1, 0) := rfl
theorem kA_349 : lkp tA_c2 349 = some (.iadd, 0) := rfl
theorem kA_350 : lkp tA_c2 350 = some (.iaload, 0) := rfl
theorem kA_351 : lkp tA_c2 351 = some (.aload_n 0, 0) := rfl
theorem kA_352 : lkp tA_c2 352 = some (.iload 5, 0) := rfl
theorem kA_354 : lkp tA_c2 354 = some (.iconst 2, 0) := rfl
theorem kA_355 : lkp tA_c2 355 = some (.iadd, 0) := rfl
theorem kA_356 : lkp tA_c2 356 = some (.iaload, 0) := rfl
theorem kA_357 : lkp tA_c2 357 = some (.aload_n 3, 0) := rfl
theorem kA_358 : lkp tA_c2 358 = some (.invokestatic 130, 0) := rfl
theorem kA_361 : lkp tA_c2 361 = some (.istore 6, 0) := rfl
theorem kA_363 : lkp tA_c2 363 = some (.aload_n 2, 0) := rfl
theorem kA_364 : lkp tA_c2 364 = some (.aload_n 0, 0) := rfl
theorem kA_365 : lkp tA_c2 365 = some (.iload 5, 0) := rfl
theorem kA_367 : lkp tA_c2 367 = some (.iconst 1, 0) := rfl
theorem kA_368 : lkp tA_c2 368 = some (.iadd, 0) := rfl
theorem kA_369 : lkp tA_c2 369 = some (.iaload, 0) := rfl
theorem kA_370 : lkp tA_c2 370 = some (.aload_n 0, 0) := rfl
theorem kA_371 : lkp tA_c2 371 = some (.iload 5, 0) := rfl
theorem kA_373 : lkp tA_c2 373 = some (.iconst 2, 0) := rfl
theorem kA_374 : lkp tA_c2 374 = some (.iadd, 0) := rfl
theorem kA_375 : lkp tA_c2 375 = some (.iaload, 0) := rfl
theorem kA_376 : lkp tA_c2 376 = some (.invokevirtual 132, 0) := rfl
theorem kA_379 : lkp tA_c2 379 = some (.istore 7, 0) := rfl
theorem kA_381 : lkp tA_c2 381 = some (.aload_n 2, 0) := rfl
theorem kA_382 : lkp tA_c2 382 = some (.invokevirtual 123, 0) := rfl
theorem kA_385 : lkp tA_c2 385 = some (.iload 6, 0) := rfl
theorem kA_387 : lkp tA_c2 387 = some (.if_icmp .eq 5, 392) := rfl
theorem kA_390 : lkp tA_c2 390 = some (.iconst 0, 0) := rfl
theorem kA_391 : lkp tA_c2 391 = some (.ireturn, 0) := rfl
theorem kA_392 : lkp tA_c2 392 = some (.iload 6, 0) := rfl
theorem kA_394 : lkp tA_c2 394 = some (.ifCond .ne 15, 409) := rfl
theorem kA_397 : lkp tA_c2 397 = some (.aload_n 3, 0) := rfl
theorem kA_398 : lkp tA_c2 398 = some (.iconst 0, 0) := rfl
theorem kA_399 : lkp tA_c2 399 = some (.laload, 0) := rfl
theorem kA_400 : lkp tA_c2 400 = some (.iload 7, 0) := rfl
theorem kA_402 : lkp tA_c2 402 = some (.i2l, 0) := rfl
theorem kA_403 : lkp tA_c2 403 = some (.lcmp, 0) := rfl
theorem kA_404 : lkp tA_c2 404 = some (.ifCond .eq 5, 409) := rfl
theorem kA_407 : lkp tA_c2 407 = some (.iconst 0, 0) := rfl
theorem kA_408 : lkp tA_c2 408 = some (.ireturn, 0) := rfl
theorem kA_409 : lkp tA_c2 409 = some (.goto 1668, 2077) := rfl
def tA_c3 : TB := [(412, .aload_n 1, 1, 0), (413, .aload_n 0, 1, 0), (414, .iload 5, 2, 0), (416, .iconst 1, 1, 0), (417, .iadd, 1, 0), (418, .iaload, 1, 0), (419, .aload_n 0, 1, 0), (420, .iload 5, 2, 0), (422, .iconst 2, 1, 0), (423, .iadd, 1, 0), (424, .iaload, 1, 0), (425, .aload_n 3, 1, 0), (426, .invokestatic 133, 3, 0), (429, .istore 6, 2, 0), (431, .aload_n 2, 1, 0), (432, .aload_n 0, 1, 0), (433, .iload 5, 2, 0), (435, .iconst 1, 1, 0), (436, .iadd, 1, 0), (437, .iaload, 1, 0), (438, .aload_n 0, 1, 0), (439, .iload 5, 2, 0), (441, .iconst 2, 1, 0), (442, .iadd, 1, 0), (443, .iaload, 1, 0), (444, .invokevirtual 135, 3, 0), (447, .istore 7, 2, 0), (449, .aload_n 2, 1, 0), (450, .invokevirtual 123, 3, 0), (453, .iload 6, 2, 0), (455, .if_icmp .eq 5, 3, 460), (458, .iconst 0, 1, 0), (459, .ireturn, 1, 0), (460, .iload 6, 2, 0), (462, .ifCond .ne 15, 3, 477), (465, .aload_n 3, 1, 0), (466, .iconst 0, 1, 0), (467, .laload, 1, 0), (468, .iload 7, 2, 0), (470, .i2l, 1, 0), (471, .lcmp, 1, 0), (472, .ifCond .eq 5, 3, 477), (475, .iconst 0, 1, 0), (476, .ireturn, 1, 0), (477, .goto 1600, 3, 2077)]
theorem tA_c3_ok : tbOk code tA_c3 = true := by decide +kernel
theorem kA_412 : lkp tA_c3 412 = some (.aload_n 1, 0) := rfl
theorem kA_413 : lkp tA_c3 413 = some (.aload_n 0, 0) := rfl
theorem kA_414 : lkp tA_c3 414 = some (.iload 5, 0) := rfl
theorem kA_416 : lkp tA_c3 416 = some (.iconst 1, 0) := rfl
theorem kA_417 : lkp tA_c3 417 = some (.iadd, 0) := rfl
theorem kA_418 : lkp tA_c3 418 = some (.iaload, 0) := rfl
theorem kA_419 : lkp tA_c3 419 = some (.aload_n 0, 0) := rfl
theorem kA_420 : lkp tA_c3 420 = some (.iload 5, 0) := rfl
theorem kA_422 : lkp tA_c3 422 = some (.iconst 2, 0) := rfl
theorem kA_423 : lkp tA_c3 423 = some (.iadd, 0) := rfl
theorem kA_424 : lkp tA_c3 424 = some (.iaload, 0) := rfl
theorem kA_425 : lkp tA_c3 425 = some (.aload_n 3, 0) := rfl
theorem kA_426 : lkp tA_c3 426 = some (.invokestatic 133, 0) := rfl
theorem kA_429 : lkp tA_c3 429 = some (.istore 6, 0) := rfl
theorem kA_431 : lkp tA_c3 431 = some (.aload_n 2, 0) := rfl
theorem kA_432 : lkp tA_c3 432 = some (.aload_n 0, 0) := rfl
theorem kA_433 : lkp tA_c3 433 = some (.iload 5, 0) := rfl
theorem kA_435 : lkp tA_c3 435 = some (.iconst 1, 0) := rfl
theorem kA_436 : lkp tA_c3 436 = some (.iadd, 0) := rfl
theorem kA_437 : lkp tA_c3 437 = some (.iaload, 0) := rfl
theorem kA_438 : lkp tA_c3 438 = some (.aload_n 0, 0) := rfl
theorem kA_439 : lkp tA_c3 439 = some (.iload 5, 0) := rfl
theorem kA_441 : lkp tA_c3 441 = some (.iconst 2, 0) := rfl
theorem kA_442 : lkp tA_c3 442 = some (.iadd, 0) := rfl
theorem kA_443 : lkp tA_c3 443 = some (.iaload, 0) := rfl
theorem kA_444 : lkp tA_c3 444 = some (.invokevirtual 135, 0) := rfl
theorem kA_447 : lkp tA_c3 447 = some (.istore 7, 0) := rfl
theorem kA_449 : lkp tA_c3 449 = some (.aload_n 2, 0) := rfl
theorem kA_450 : lkp tA_c3 450 = some (.invokevirtual 123, 0) := rfl
theorem kA_453 : lkp tA_c3 453 = some (.iload 6, 0) := rfl
theorem kA_455 : lkp tA_c3 455 = some (.if_icmp .eq 5, 460) := rfl
theorem kA_458 : lkp tA_c3 458 = some (.iconst 0, 0) := rfl
theorem kA_459 : lkp tA_c3 459 = some (.ireturn, 0) := rfl
theorem kA_460 : lkp tA_c3 460 = some (.iload 6, 0) := rfl
theorem kA_462 : lkp tA_c3 462 = some (.ifCond .ne 15, 477) := rfl
theorem kA_465 : lkp tA_c3 465 = some (.aload_n 3, 0) := rfl
theorem kA_466 : lkp tA_c3 466 = some (.iconst 0, 0) := rfl
theorem kA_467 : lkp tA_c3 467 = some (.laload, 0) := rfl
theorem kA_468 : lkp tA_c3 468 = some (.iload 7, 0) := rfl
theorem kA_470 : lkp tA_c3 470 = some (.i2l, 0) := rfl
theorem kA_471 : lkp tA_c3 471 = some (.lcmp, 0) := rfl
theorem kA_472 : lkp tA_c3 472 = some (.ifCond .eq 5, 477) := rfl
theorem kA_475 : lkp tA_c3 475 = some (.iconst 0, 0) := rfl
theorem kA_476 : lkp tA_c3 476 = some (.ireturn, 0) := rfl
theorem kA_477 : lkp tA_c3 477 = some (.goto 1600, 2077) := rfl
def tA_c4 : TB := [(480, .aload_n 1, 1, 0), (481, .aload_n 0, 1, 0), (482, .iload 5, 2, 0), (484, .iconst 1, 1, 0), (485, .iadd, 1, 0), (486, .iaload, 1, 0), (487, .aload_n 0, 1, 0), (488, .iload 5, 2, 0), (490, .iconst 2, 1, 0), (491, .iadd, 1, 0), (492, .iaload, 1, 0), (493, .aload_n 3, 1, 0), (494, .invokestatic 136, 3, 0), (497, .istore 6, 2, 0), (499, .aload_n 2, 1, 0), (500, .aload_n 0, 1, 0), (501, .iload 5, 2, 0), (503, .iconst 1, 1, 0), (504, .iadd, 1, 0), (505, .iaload, 1, 0), (506, .aload_n 0, 1, 0), (507, .iload 5, 2, 0), (509, .iconst 2, 1, 0), (510, .iadd, 1, 0), (511, .iaload, 1, 0), (512, .invokevirtual 138, 3, 0), (515, .istore 7, 2, 0), (517, .aload_n 2, 1, 0), (518, .invokevirtual 123, 3, 0), (521, .iload 6, 2, 0), (523, .if_icmp .eq 5, 3, 528), (526, .iconst 0, 1, 0), (527, .ireturn, 1, 0), (528, .iload 6, 2, 0), (530, .ifCond .ne 15, 3, 545), (533, .aload_n 3, 1, 0), (534, .iconst 0, 1, 0), (535, .laload, 1, 0), (536, .iload 7, 2, 0), (538, .i2l, 1, 0), (539, .lcmp, 1, 0), (540, .ifCond .eq 5, 3, 545), (543, .iconst 0, 1, 0), (544, .ireturn, 1, 0), (545, .goto 1532, 3, 2077)]
theorem tA_c4_ok : tbOk code tA_c4 = true := by decide +kernel
theorem kA_480 : lkp tA_c4 480 = some (.aload_n 1, 0) := rfl
theorem kA_481 : lkp tA_c4 481 = some (.aload_n 0, 0) := rfl
theorem kA_482 : lkp tA_c4 482 = some (.iload 5, 0) := rfl
theorem kA_484 : lkp tA_c4 484 = some (.iconst 1, 0) := rfl
theorem kA_485 : lkp tA_c4 485 = some (.iadd, 0) := rfl
theorem kA_486 : lkp tA_c4 486 = some (.iaload, 0) := rfl
theorem kA_487 : lkp tA_c4 487 = some (.aload_n 0, 0) := rfl
theorem kA_488 : lkp tA_c4 488 = some (.iload 5, 0) := rfl
theorem kA_490 : lkp tA_c4 490 = some (.iconst 2, 0) := rfl
theorem kA_491 : lkp tA_c4 491 = some (.iadd, 0) := rfl
theorem kA_492 : lkp tA_c4 492 = some (.iaload, 0) := rfl
theorem kA_493 : lkp tA_c4 493 = some (.aload_n 3, 0) := rfl
theorem kA_494 : lkp tA_c4 494 = some (.invokestatic 136, 0) := rfl
theorem kA_497 : lkp tA_c4 497 = some (.istore 6, 0) := rfl
theorem kA_499 : lkp tA_c4 499 = some (.aload_n 2, 0) := rfl
theorem kA_500 : lkp tA_c4 500 = some (.aload_n 0, 0) := rfl
theorem kA_501 : lkp tA_c4 501 = some (.iload 5, 0) := rfl
theorem kA_503 : lkp tA_c4 503 = some (.iconst 1, 0) := rfl
theorem kA_504 : lkp tA_c4 504 = some (.iadd, 0) := rfl
theorem kA_505 : lkp tA_c4 505 = some (.iaload, 0) := rfl
theorem kA_506 : lkp tA_c4 506 = some (.aload_n 0, 0) := rfl
theorem kA_507 : lkp tA_c4 507 = some (.iload 5, 0) := rfl
theorem kA_509 : lkp tA_c4 509 = some (.iconst 2, 0) := rfl
theorem kA_510 : lkp tA_c4 510 = some (.iadd, 0) := rfl
theorem kA_511 : lkp tA_c4 511 = some (.iaload, 0) := rfl
theorem kA_512 : lkp tA_c4 512 = some (.invokevirtual 138, 0) := rfl
theorem kA_515 : lkp tA_c4 515 = some (.istore 7, 0) := rfl
theorem kA_517 : lkp tA_c4 517 = some (.aload_n 2, 0) := rfl
theorem kA_518 : lkp tA_c4 518 = some (.invokevirtual 123, 0) := rfl
theorem kA_521 : lkp tA_c4 521 = some (.iload 6, 0) := rfl
theorem kA_523 : lkp tA_c4 523 = some (.if_icmp .eq 5, 528) := rfl
theorem kA_526 : lkp tA_c4 526 = some (.iconst 0, 0) := rfl
theorem kA_527 : lkp tA_c4 527 = some (.ireturn, 0) := rfl
theorem kA_528 : lkp tA_c4 528 = some (.iload 6, 0) := rfl
theorem kA_530 : lkp tA_c4 530 = some (.ifCond .ne 15, 545) := rfl
theorem kA_533 : lkp tA_c4 533 = some (.aload_n 3, 0) := rfl
theorem kA_534 : lkp tA_c4 534 = some (.iconst 0, 0) := rfl
theorem kA_535 : lkp tA_c4 535 = some (.laload, 0) := rfl
theorem kA_536 : lkp tA_c4 536 = some (.iload 7, 0) := rfl
theorem kA_538 : lkp tA_c4 538 = some (.i2l, 0) := rfl
theorem kA_539 : lkp tA_c4 539 = some (.lcmp, 0) := rfl
theorem kA_540 : lkp tA_c4 540 = some (.ifCond .eq 5, 545) := rfl
theorem kA_543 : lkp tA_c4 543 = some (.iconst 0, 0) := rfl
theorem kA_544 : lkp tA_c4 544 = some (.ireturn, 0) := rfl
theorem kA_545 : lkp tA_c4 545 = some (.goto 1532, 2077) := rfl
def tA_c5 : TB := [(548, .aload_n 1, 1, 0), (549, .aload_n 0, 1, 0), (550, .iload 5, 2, 0), (552, .iconst 1, 1, 0), (553, .iadd, 1, 0), (554, .iaload, 1, 0), (555, .aload_n 0, 1, 0), (556, .iload 5, 2, 0), (558, .iconst 2, 1, 0), (559, .iadd, 1, 0), (560, .iaload, 1, 0), (561, .aload_n 0, 1, 0), (562, .iload 5, 2, 0), (564, .iconst 3, 1, 0), (565, .iadd, 1, 0), (566, .iaload, 1, 0), (567, .ifCond .eq 7, 3, 574), (570, .iconst 1, 1, 0), (571, .goto 4, 3, 575), (574, .iconst 0, 1, 0), (575, .aload_n 3, 1, 0), (576, .invokestatic 139, 3, 0), (579, .istore 6, 2, 0), (581, .aload_n 2, 1, 0), (582, .aload_n 0, 1, 0), (583, .iload 5, 2, 0), (585, .iconst 1, 1, 0), (586, .iadd, 1, 0), (587, .iaload, 1, 0), (588, .aload_n 0, 1, 0), (589, .iload 5, 2, 0), (591, .iconst 2, 1, 0), (592, .iadd, 1, 0), (593, .iaload, 1, 0), (594, .aload_n 0, 1, 0), (595, .iload 5, 2, 0), (597, .iconst 3, 1, 0), (598, .iadd, 1, 0), (599, .iaload, 1, 0), (600, .ifCond .eq 7, 3, 607), (603, .iconst 1, 1, 0), (604, .goto 4, 3, 608), (607, .iconst 0, 1, 0), (608, .invokevirtual 142, 3, 0), (611, .istore 7, 2, 0), (613, .aload_n 2, 1, 0), (614, .invokevirtual 123, 3, 0), (617, .iload 6, 2, 0), (619, .if_icmp .eq 5, 3, 624), (622, .iconst 0, 1, 0), (623, .ireturn, 1, 0), (624, .iload 6, 2, 0), (626, .ifCond .ne 22, 3, 648), (629, .aload_n 3, 1, 0), (630, .iconst 0, 1, 0), (631, .laload, 1, 0), (632, .iload 7, 2, 0), (634, .ifCond .eq 7, 3, 641), (637, .lconst 1, 1, 0), (638, .goto 4, 3, 642), (641, .lconst 0, 1, 0), (642, .lcmp, 1, 0), (643, .ifCond .eq 5, 3, 648), (646, .iconst 0, 1, 0), (647, .ireturn, 1, 0), (648, .goto 1429, 3, 2077)]
theorem tA_c5_ok : tbOk code tA_c5 = true := by decide +kernel
theorem kA_548 : lkp tA_c5 548 = some (.aload_n 1, 0) := rfl
theorem kA_549 : lkp tA_c5 549 = some (.aload_n 0, 0) := rfl
theorem kA_550 : lkp tA_c5 550 = some (.iload 5, 0) := rfl
theorem kA_552 : lkp tA_c5 552 = some (.iconst 1, 0) := rfl
theorem kA_553 : lkp tA_c5 553 = some (.iadd, 0) := rfl
theorem kA_554 : lkp tA_c5 554 = some (.iaload, 0) := rfl
theorem kA_555 : lkp tA_c5 555 = some (.aload_n 0, 0) := rfl
theorem kA_556 : lkp tA_c5 556 = some (.iload 5, 0) := rfl
theorem kA_558 : lkp tA_c5 558 = some (.iconst 2, 0) := rfl
theorem kA_559 : lkp tA_c5 559 = some (.iadd, 0) := rfl
theorem kA_560 : lkp tA_c5 560 = some (.iaload, 0) := rfl
theorem kA_561 : lkp tA_c5 561 = some (.aload_n 0, 0) := rfl
theorem kA_562 : lkp tA_c5 562 = some (.iload 5, 0) := rfl
theorem kA_564 : lkp tA_c5 564 = some (.iconst 3, 0) := rfl
theorem kA_565 : lkp tA_c5 565 = some (.iadd, 0) := rfl
theorem kA_566 : lkp tA_c5 566 = some (.iaload, 0) := rfl
theorem kA_567 : lkp tA_c5 567 = some (.ifCond .eq 7, 574) := rfl
theorem kA_570 : lkp tA_c5 570 = some (.iconst 1, 0) := rfl
theorem kA_571 : lkp tA_c5 571 = some (.goto 4, 575) := rfl
theorem kA_574 : lkp tA_c5 574 = some (.iconst 0, 0) := rfl
theorem kA_575 : lkp tA_c5 575 = some (.aload_n 3, 0) := rfl
theorem kA_576 : lkp tA_c5 576 = some (.invokestatic 139, 0) := rfl
theorem kA_579 : lkp tA_c5 579 = some (.istore 6, 0) := rfl
theorem kA_581 : lkp tA_c5 581 = some (.aload_n 2, 0) := rfl
theorem kA_582 : lkp tA_c5 582 = some (.aload_n 0, 0) := rfl
theorem kA_583 : lkp tA_c5 583 = some (.iload 5, 0) := rfl
theorem kA_585 : lkp tA_c5 585 = some (.iconst 1, 0) := rfl
theorem kA_586 : lkp tA_c5 586 = some (.iadd, 0) := rfl
theorem kA_587 : lkp tA_c5 587 = some (.iaload, 0) := rfl
theorem kA_588 : lkp tA_c5 588 = some (.aload_n 0, 0) := rfl
theorem kA_589 : lkp tA_c5 589 = some (.iload 5, 0) := rfl
theorem kA_591 : lkp tA_c5 591 = some (.iconst 2, 0) := rfl
theorem kA_592 : lkp tA_c5 592 = some (.iadd, 0) := rfl
theorem kA_593 : lkp tA_c5 593 = some (.iaload, 0) := rfl
theorem kA_594 : lkp tA_c5 594 = some (.aload_n 0, 0) := rfl
theorem kA_595 : lkp tA_c5 595 = some (.iload 5, 0) := rfl
theorem kA_597 : lkp tA_c5 597 = some (.iconst 3, 0) := rfl
theorem kA_598 : lkp tA_c5 598 = some (.iadd, 0) := rfl
theorem kA_599 : lkp tA_c5 599 = some (.iaload, 0) := rfl
theorem kA_600 : lkp tA_c5 600 = some (.ifCond .eq 7, 607) := rfl
theorem kA_603 : lkp tA_c5 603 = some (.iconst 1, 0) := rfl
theorem kA_604 : lkp tA_c5 604 = some (.goto 4, 608) := rfl
theorem kA_607 : lkp tA_c5 607 = some (.iconst 0, 0) := rfl
theorem kA_608 : lkp tA_c5 608 = some (.invokevirtual 142, 0) := rfl
theorem kA_611 : lkp tA_c5 611 = some (.istore 7, 0) := rfl
theorem kA_613 : lkp tA_c5 613 = some (.aload_n 2, 0) := rfl
theorem kA_614 : lkp tA_c5 614 = some (.invokevirtual 123, 0) := rfl
theorem kA_617 : lkp tA_c5 617 = some (.iload 6, 0) := rfl
theorem kA_619 : lkp tA_c5 619 = some (.if_icmp .eq 5, 624) := rfl
theorem kA_622 : lkp tA_c5 622 = some (.iconst 0, 0) := rfl
theorem kA_623 : lkp tA_c5 623 = some (.ireturn, 0) := rfl
theorem kA_624 : lkp tA_c5 624 = some (.iload 6, 0) := rfl
theorem kA_626 : lkp tA_c5 626 = some (.ifCond .ne 22, 648) := rfl
theorem kA_629 : lkp tA_c5 629 = some (.aload_n 3, 0) := rfl
theorem kA_630 : lkp tA_c5 630 = some (.iconst 0, 0) := rfl
theorem kA_631 : lkp tA_c5 631 = some (.laload, 0) := rfl
theorem kA_632 : lkp tA_c5 632 = some (.iload 7, 0) := rfl
theorem kA_634 : lkp tA_c5 634 = some (.ifCond .eq 7, 641) := rfl
theorem kA_637 : lkp tA_c5 637 = some (.lconst 1, 0) := rfl
theorem kA_638 : lkp tA_c5 638 = some (.goto 4, 642) := rfl
theorem kA_641 : lkp tA_c5 641 = some (.lconst 0, 0) := rfl
theorem kA_642 : lkp tA_c5 642 = some (.lcmp, 0) := rfl
theorem kA_643 : lkp tA_c5 643 = some (.ifCond .eq 5, 648) := rfl
theorem kA_646 : lkp tA_c5 646 = some (.iconst 0, 0) := rfl
theorem kA_647 : lkp tA_c5 647 = some (.ireturn, 0) := rfl
theorem kA_648 : lkp tA_c5 648 = some (.goto 1429, 2077) := rfl
def tA_c6 : TB := [(651, .aload_n 1, 1, 0), (652, .aload_n 0, 1, 0), (653, .iload 5, 2, 0), (655, .iconst 1, 1, 0), (656, .iadd, 1, 0), (657, .iaload, 1, 0), (658, .aload_n 0, 1, 0), (659, .iload 5, 2, 0), (661, .iconst 2, 1, 0), (662, .iadd, 1, 0), (663, .iaload, 1, 0), (664, .aload_n 3, 1, 0), (665, .invokestatic 143, 3, 0), (668, .istore 6, 2, 0), (670, .aload_n 2, 1, 0), (671, .aload_n 0, 1, 0), (672, .iload 5, 2, 0), (674, .iconst 1, 1, 0), (675, .iadd, 1, 0), (676, .iaload, 1, 0), (677, .aload_n 0, 1, 0), (678, .iload 5, 2, 0), (680, .iconst 2, 1, 0), (681, .iadd, 1, 0), (682, .iaload, 1, 0), (683, .invokevirtual 145, 3, 0), (686, .istore 7, 2, 0), (688, .aload_n 2, 1, 0), (689, .invokevirtual 123, 3, 0), (692, .iload 6, 2, 0), (694, .if_icmp .eq 5, 3, 699), (697, .iconst 0, 1, 0), (698, .ireturn, 1, 0), (699, .iload 6, 2, 0), (701, .ifCond .ne 15, 3, 716), (704, .aload_n 3, 1, 0), (705, .iconst 0, 1, 0), (706, .laload, 1, 0), (707, .iload 7, 2, 0), (709, .i2l, 1, 0), (710, .lcmp, 1, 0), (711, .ifCond .eq 5, 3, 716), (714, .iconst 0, 1, 0), (715, .ireturn, 1, 0), (716, .goto 1361, 3, 2077)]
theorem tA_c6_ok : tbOk code tA_c6 = true := by decide +kernel
theorem kA_651 : lkp tA_c6 651 = some (.aload_n 1, 0) := rfl
theorem kA_652 : lkp tA_c6 652 = some (.aload_n 0, 0) := rfl
theorem kA_653 : lkp tA_c6 653 = some (.iload 5, 0) := rfl
theorem kA_655 : lkp tA_c6 655 = some (.iconst 1, 0) := rfl
theorem kA_656 : lkp tA_c6 656 = some (.iadd, 0) := rfl
theorem kA_657 : lkp tA_c6 657 = some (.iaload, 0) := rfl
theorem kA_658 : lkp tA_c6 658 = some (.aload_n 0, 0) := rfl
theorem kA_659 : lkp tA_c6 659 = some (.iload 5, 0) := rfl
theorem kA_661 : lkp tA_c6 661 = some (.iconst 2, 0) := rfl
theorem kA_662 : lkp tA_c6 662 = some (.iadd, 0) := rfl
theorem kA_663 : lkp tA_c6 663 = some (.iaload, 0) := rfl
theorem kA_664 : lkp tA_c6 664 = some (.aload_n 3, 0) := rfl
theorem kA_665 : lkp tA_c6 665 = some (.invokestatic 143, 0) := rfl
theorem kA_668 : lkp tA_c6 668 = some (.istore 6, 0) := rfl
theorem kA_670 : lkp tA_c6 670 = some (.aload_n 2, 0) := rfl
theorem kA_671 : lkp tA_c6 671 = some (.aload_n 0, 0) := rfl
theorem kA_672 : lkp tA_c6 672 = some (.iload 5, 0) := rfl
theorem kA_674 : lkp tA_c6 674 = some (.iconst 1, 0) := rfl
theorem kA_675 : lkp tA_c6 675 = some (.iadd, 0) := rfl
theorem kA_676 : lkp tA_c6 676 = some (.iaload, 0) := rfl
theorem kA_677 : lkp tA_c6 677 = some (.aload_n 0, 0) := rfl
theorem kA_678 : lkp tA_c6 678 = some (.iload 5, 0) := rfl
theorem kA_680 : lkp tA_c6 680 = some (.iconst 2, 0) := rfl
theorem kA_681 : lkp tA_c6 681 = some (.iadd, 0) := rfl
theorem kA_682 : lkp tA_c6 682 = some (.iaload, 0) := rfl
theorem kA_683 : lkp tA_c6 683 = some (.invokevirtual 145, 0) := rfl
theorem kA_686 : lkp tA_c6 686 = some (.istore 7, 0) := rfl
theorem kA_688 : lkp tA_c6 688 = some (.aload_n 2, 0) := rfl
theorem kA_689 : lkp tA_c6 689 = some (.invokevirtual 123, 0) := rfl
theorem kA_692 : lkp tA_c6 692 = some (.iload 6, 0) := rfl
theorem kA_694 : lkp tA_c6 694 = some (.if_icmp .eq 5, 699) := rfl
theorem kA_697 : lkp tA_c6 697 = some (.iconst 0, 0) := rfl
theorem kA_698 : lkp tA_c6 698 = some (.ireturn, 0) := rfl
theorem kA_699 : lkp tA_c6 699 = some (.iload 6, 0) := rfl
theorem kA_701 : lkp tA_c6 701 = some (.ifCond .ne 15, 716) := rfl
theorem kA_704 : lkp tA_c6 704 = some (.aload_n 3, 0) := rfl
theorem kA_705 : lkp tA_c6 705 = some (.iconst 0, 0) := rfl
theorem kA_706 : lkp tA_c6 706 = some (.laload, 0) := rfl
theorem kA_707 : lkp tA_c6 707 = some (.iload 7, 0) := rfl
theorem kA_709 : lkp tA_c6 709 = some (.i2l, 0) := rfl
theorem kA_710 : lkp tA_c6 710 = some (.lcmp, 0) := rfl
theorem kA_711 : lkp tA_c6 711 = some (.ifCond .eq 5, 716) := rfl
theorem kA_714 : lkp tA_c6 714 = some (.iconst 0, 0) := rfl
theorem kA_715 : lkp tA_c6 715 = some (.ireturn, 0) := rfl
theorem kA_716 : lkp tA_c6 716 = some (.goto 1361, 2077) := rfl
def tA_c7 : TB := [(719, .aload_n 1, 1, 0), (720, .aload_n 0, 1, 0), (721, .iload 5, 2, 0), (723, .iconst 1, 1, 0), (724, .iadd, 1, 0), (725, .iaload, 1, 0), (726, .aload_n 0, 1, 0), (727, .iload 5, 2, 0), (729, .iconst 2, 1, 0), (730, .iadd, 1, 0), (731, .iaload, 1, 0), (732, .aload_n 3, 1, 0), (733, .invokestatic 146, 3, 0), (736, .istore 6, 2, 0), (738, .aload_n 2, 1, 0), (739, .aload_n 0, 1, 0), (740, .iload 5, 2, 0), (742, .iconst 1, 1, 0), (743, .iadd, 1, 0), (744, .iaload, 1, 0), (745, .aload_n 0, 1, 0), (746, .iload 5, 2, 0), (748, .iconst 2, 1, 0), (749, .iadd, 1, 0), (750, .iaload, 1, 0), (751, .invokevirtual 148, 3, 0), (754, .istore 7, 2, 0), (756, .aload_n 2, 1, 0), (757, .invokevirtual 123, 3, 0), (760, .iload 6, 2, 0), (762, .if_icmp .eq 5, 3, 767), (765, .iconst 0, 1, 0), (766, .ireturn, 1, 0), (767, .iload 6, 2, 0), (769, .ifCond .ne 15, 3, 784), (772, .aload_n 3, 1, 0), (773, .iconst 0, 1, 0), (774, .laload, 1, 0), (775, .iload 7, 2, 0), (777, .i2l, 1, 0), (778, .lcmp, 1, 0), (779, .ifCond .eq 5, 3, 784), (782, .iconst 0, 1, 0), (783, .ireturn, 1, 0), (784, .goto 1293, 3, 2077)]
theorem tA_c7_ok : tbOk code tA_c7 = true := by decide +kernel
theorem kA_719 : lkp tA_c7 719 = some (.aload_n 1, 0) := rfl
theorem kA_720 : lkp tA_c7 720 = some (.aload_n 0, 0) := rfl
theorem kA_721 : lkp tA_c7 721 = some (.iload 5, 0) := rfl
theorem kA_723 : lkp tA_c7 723 = some (.iconst 1, 0) := rfl
theorem kA_724 : lkp tA_c7 724 = some (.iadd, 0) := rfl
theorem kA_725 : lkp tA_c7 725 = some (.iaload, 0) := rfl
theorem kA_726 : lkp tA_c7 726 = some (.aload_n 0, 0) := rfl
theorem kA_727 : lkp tA_c7 727 = some (.iload 5, 0) := rfl
theorem kA_729 : lkp tA_c7 729 = some (.iconst 2, 0) := rfl
theorem kA_730 : lkp tA_c7 730 = some (.iadd, 0) := rfl
theorem kA_731 : lkp tA_c7 731 = some (.iaload, 0) := rfl
theorem kA_732 : lkp tA_c7 732 = some (.aload_n 3, 0) := rfl
theorem kA_733 : lkp tA_c7 733 = some (.invokestatic 146, 0) := rfl
theorem kA_736 : lkp tA_c7 736 = some (.istore 6, 0) := rfl
theorem kA_738 : lkp tA_c7 738 = some (.aload_n 2, 0) := rfl
theorem kA_739 : lkp tA_c7 739 = some (.aload_n 0, 0) := rfl
theorem kA_740 : lkp tA_c7 740 = some (.iload 5, 0) := rfl
theorem kA_742 : lkp tA_c7 742 = some (.iconst 1, 0) := rfl
theorem kA_743 : lkp tA_c7 743 = some (.iadd, 0) := rfl
theorem kA_744 : lkp tA_c7 744 = some (.iaload, 0) := rfl
theorem kA_745 : lkp tA_c7 745 = some (.aload_n 0, 0) := rfl
theorem kA_746 : lkp tA_c7 746 = some (.iload 5, 0) := rfl
theorem kA_748 : lkp tA_c7 748 = some (.iconst 2, 0) := rfl
theorem kA_749 : lkp tA_c7 749 = some (.iadd, 0) := rfl
theorem kA_750 : lkp tA_c7 750 = some (.iaload, 0) := rfl
theorem kA_751 : lkp tA_c7 751 = some (.invokevirtual 148, 0) := rfl
theorem kA_754 : lkp tA_c7 754 = some (.istore 7, 0) := rfl
theorem kA_756 : lkp tA_c7 756 = some (.aload_n 2, 0) := rfl
theorem kA_757 : lkp tA_c7 757 = some (.invokevirtual 123, 0) := rfl
theorem kA_760 : lkp tA_c7 760 = some (.iload 6, 0) := rfl
theorem kA_762 : lkp tA_c7 762 = some (.if_icmp .eq 5, 767) := rfl
theorem kA_765 : lkp tA_c7 765 = some (.iconst 0, 0) := rfl
theorem kA_766 : lkp tA_c7 766 = some (.ireturn, 0) := rfl
theorem kA_767 : lkp tA_c7 767 = some (.iload 6, 0) := rfl
theorem kA_769 : lkp tA_c7 769 = some (.ifCond .ne 15, 784) := rfl
theorem kA_772 : lkp tA_c7 772 = some (.aload_n 3, 0) := rfl
theorem kA_773 : lkp tA_c7 773 = some (.iconst 0, 0) := rfl
theorem kA_774 : lkp tA_c7 774 = some (.laload, 0) := rfl
theorem kA_775 : lkp tA_c7 775 = some (.iload 7, 0) := rfl
theorem kA_777 : lkp tA_c7 777 = some (.i2l, 0) := rfl
theorem kA_778 : lkp tA_c7 778 = some (.lcmp, 0) := rfl
theorem kA_779 : lkp tA_c7 779 = some (.ifCond .eq 5, 784) := rfl
theorem kA_782 : lkp tA_c7 782 = some (.iconst 0, 0) := rfl
theorem kA_783 : lkp tA_c7 783 = some (.ireturn, 0) := rfl
theorem kA_784 : lkp tA_c7 784 = some (.goto 1293, 2077) := rfl
def tA_c8 : TB := [(787, .aload_n 1, 1, 0), (788, .aload_n 0, 1, 0), (789, .iload 5, 2, 0), (791, .iconst 1, 1, 0), (792, .iadd, 1, 0), (793, .iaload, 1, 0), (794, .aload_n 0, 1, 0), (795, .iload 5, 2, 0), (797, .iconst 2, 1, 0), (798, .iadd, 1, 0), (799, .iaload, 1, 0), (800, .aload_n 3, 1, 0), (801, .invokestatic 149, 3, 0), (804, .istore 6, 2, 0), (806, .aload_n 2, 1, 0), (807, .aload_n 0, 1, 0), (808, .iload 5, 2, 0), (810, .iconst 1, 1, 0), (811, .iadd, 1, 0), (812, .iaload, 1, 0), (813, .aload_n 0, 1, 0), (814, .iload 5, 2, 0), (816, .iconst 2, 1, 0), (817, .iadd, 1, 0), (818, .iaload, 1, 0), (819, .invokevirtual 151, 3, 0), (822, .istore 7, 2, 0), (824, .aload_n 2, 1, 0), (825, .invokevirtual 123, 3, 0), (828, .iload 6, 2, 0), (830, .if_icmp .eq 5, 3, 835), (833, .iconst 0, 1, 0), (834, .ireturn, 1, 0), (835, .iload 6, 2, 0), (837, .ifCond .ne 15, 3, 852), (840, .aload_n 3, 1, 0), (841, .iconst 0, 1, 0), (842, .laload, 1, 0), (843, .iload 7, 2, 0), (845, .i2l, 1, 0), (846, .lcmp, 1, 0), (847, .ifCond .eq 5, 3, 852), (850, .iconst 0, 1, 0), (851, .ireturn, 1, 0), (852, .goto 1225, 3, 2077)]
theorem tA_c8_ok : tbOk code tA_c8 = true := by decide +kernel
theorem kA_787 : lkp tA_c8 787 = some (.aload_n 1, 0) := rfl
theorem kA_788 : lkp tA_c8 788 = some (.aload_n 0, 0) := rfl
theorem kA_789 : lkp tA_c8 789 = some (.iload 5, 0) := rfl
theorem kA_791 : lkp tA_c8 791 = some (.iconst 1, 0) := rfl
theorem kA_792 : lkp tA_c8 792 = some (.iadd, 0) := rfl
theorem kA_793 : lkp tA_c8 793 = some (.iaload, 0) := rfl
theorem kA_794 : lkp tA_c8 794 = some (.aload_n 0, 0) := rfl
theorem kA_795 : lkp tA_c8 795 = some (.iload 5, 0) := rfl
theorem kA_797 : lkp tA_c8 797 = some (.iconst 2, 0) := rfl
theorem kA_798 : lkp tA_c8 798 = some (.iadd, 0) := rfl
theorem kA_799 : lkp tA_c8 799 = some (.iaload, 0) := rfl
theorem kA_800 : lkp tA_c8 800 = some (.aload_n 3, 0) := rfl
theorem kA_801 : lkp tA_c8 801 = some (.invokestatic 149, 0) := rfl
theorem kA_804 : lkp tA_c8 804 = some (.istore 6, 0) := rfl
theorem kA_806 : lkp tA_c8 806 = some (.aload_n 2, 0) := rfl
theorem kA_807 : lkp tA_c8 807 = some (.aload_n 0, 0) := rfl
theorem kA_808 : lkp tA_c8 808 = some (.iload 5, 0) := rfl
theorem kA_810 : lkp tA_c8 810 = some (.iconst 1, 0) := rfl
theorem kA_811 : lkp tA_c8 811 = some (.iadd, 0) := rfl
theorem kA_812 : lkp tA_c8 812 = some (.iaload, 0) := rfl
theorem kA_813 : lkp tA_c8 813 = some (.aload_n 0, 0) := rfl
theorem kA_814 : lkp tA_c8 814 = some (.iload 5, 0) := rfl
theorem kA_816 : lkp tA_c8 816 = some (.iconst 2, 0) := rfl
theorem kA_817 : lkp tA_c8 817 = some (.iadd, 0) := rfl
theorem kA_818 : lkp tA_c8 818 = some (.iaload, 0) := rfl
theorem kA_819 : lkp tA_c8 819 = some (.invokevirtual 151, 0) := rfl
theorem kA_822 : lkp tA_c8 822 = some (.istore 7, 0) := rfl
theorem kA_824 : lkp tA_c8 824 = some (.aload_n 2, 0) := rfl
theorem kA_825 : lkp tA_c8 825 = some (.invokevirtual 123, 0) := rfl
theorem kA_828 : lkp tA_c8 828 = some (.iload 6, 0) := rfl
theorem kA_830 : lkp tA_c8 830 = some (.if_icmp .eq 5, 835) := rfl
theorem kA_833 : lkp tA_c8 833 = some (.iconst 0, 0) := rfl
theorem kA_834 : lkp tA_c8 834 = some (.ireturn, 0) := rfl
theorem kA_835 : lkp tA_c8 835 = some (.iload 6, 0) := rfl
theorem kA_837 : lkp tA_c8 837 = some (.ifCond .ne 15, 852) := rfl
theorem kA_840 : lkp tA_c8 840 = some (.aload_n 3, 0) := rfl
theorem kA_841 : lkp tA_c8 841 = some (.iconst 0, 0) := rfl
theorem kA_842 : lkp tA_c8 842 = some (.laload, 0) := rfl
theorem kA_843 : lkp tA_c8 843 = some (.iload 7, 0) := rfl
theorem kA_845 : lkp tA_c8 845 = some (.i2l, 0) := rfl
theorem kA_846 : lkp tA_c8 846 = some (.lcmp, 0) := rfl
theorem kA_847 : lkp tA_c8 847 = some (.ifCond .eq 5, 852) := rfl
theorem kA_850 : lkp tA_c8 850 = some (.iconst 0, 0) := rfl
theorem kA_851 : lkp tA_c8 851 = some (.ireturn, 0) := rfl
theorem kA_852 : lkp tA_c8 852 = some (.goto 1225, 2077) := rfl
def tA_c9 : TB := [(855, .aload_n 1, 1, 0), (856, .aload_n 0, 1, 0), (857, .iload 5, 2, 0), (859, .iconst 1, 1, 0), (860, .iadd, 1, 0), (861, .iaload, 1, 0), (862, .aload_n 0, 1, 0), (863, .iload 5, 2, 0), (865, .iconst 2, 1, 0), (866, .iadd, 1, 0), (867, .iaload, 1, 0), (868, .aload_n 0, 1, 0), (869, .iload 5, 2, 0), (871, .iconst 3, 1, 0), (872, .iadd, 1, 0), (873, .iaload, 1, 0), (874, .aload_n 0, 1, 0), (875, .iload 5, 2, 0), (877, .iconst 4, 1, 0), (878, .iadd, 1, 0), (879, .iaload, 1, 0), (880, .aload_n 3, 1, 0), (881, .invokestatic 152, 3, 0), (884, .istore 6, 2, 0), (886, .aload_n 2, 1, 0), (887, .aload_n 0, 1, 0), (888, .iload 5, 2, 0), (890, .iconst 1, 1, 0), (891, .iadd, 1, 0), (892, .iaload, 1, 0), (893, .aload_n 0, 1, 0), (894, .iload 5, 2, 0), (896, .iconst 2, 1, 0), (897, .iadd, 1, 0), (898, .iaload, 1, 0), (899, .aload_n 0, 1, 0), (900, .iload 5, 2, 0), (902, .iconst 3, 1, 0), (903, .iadd, 1, 0), (904, .iaload, 1, 0), (905, .aload_n 0, 1, 0), (906, .iload 5, 2, 0), (908, .iconst 4, 1, 0), (909, .iadd, 1, 0), (910, .iaload, 1, 0), (911, .invokevirtual 154, 3, 0), (914, .istore 7, 2, 0), (916, .aload_n 2, 1, 0), (917, .invokevirtual 123, 3, 0), (920, .iload 6, 2, 0), (922, .if_icmp .eq 5, 3, 927), (925, .iconst 0, 1, 0), (926, .ireturn, 1, 0), (927, .iload 6, 2, 0), (929, .ifCond .ne 15, 3, 944), (932, .aload_n 3, 1, 0), (933, .iconst 0, 1, 0), (934, .laload, 1, 0), (935, .iload 7, 2, 0), (937, .i2l, 1, 0), (938, .lcmp, 1, 0), (939, .ifCond .eq 5, 3, 944), (942, .iconst 0, 1, 0), (943, .ireturn, 1, 0), (944, .goto 1133, 3, 2077)]
theorem tA_c9_ok : tbOk code tA_c9 = true := by decide +kernel
theorem kA_855 : lkp tA_c9 855 = some (.aload_n 1, 0) := rfl
theorem kA_856 : lkp tA_c9 856 = some (.aload_n 0, 0) := rfl
theorem kA_857 : lkp tA_c9 857 = some (.iload 5, 0) := rfl
theorem kA_859 : lkp tA_c9 859 = some (.iconst 1, 0) := rfl
theorem kA_860 : lkp tA_c9 860 = some (.iadd, 0) := rfl
theorem kA_861 : lkp tA_c9 861 = some (.iaload, 0) := rfl
theorem kA_862 : lkp tA_c9 862 = some (.aload_n 0, 0) := rfl
theorem kA_863 : lkp tA_c9 863 = some (.iload 5, 0) := rfl
theorem kA_865 : lkp tA_c9 865 = some (.iconst 2, 0) := rfl
theorem kA_866 : lkp tA_c9 866 = some (.iadd, 0) := rfl
theorem kA_867 : lkp tA_c9 867 = some (.iaload, 0) := rfl
theorem kA_868 : lkp tA_c9 868 = some (.aload_n 0, 0) := rfl
theorem kA_869 : lkp tA_c9 869 = some (.iload 5, 0) := rfl
theorem kA_871 : lkp tA_c9 871 = some (.iconst 3, 0) := rfl
theorem kA_872 : lkp tA_c9 872 = some (.iadd, 0) := rfl
theorem kA_873 : lkp tA_c9 873 = some (.iaload, 0) := rfl
theorem kA_874 : lkp tA_c9 874 = some (.aload_n 0, 0) := rfl
theorem kA_875 : lkp tA_c9 875 = some (.iload 5, 0) := rfl
theorem kA_877 : lkp tA_c9 877 = some (.iconst 4, 0) := rfl
theorem kA_878 : lkp tA_c9 878 = some (.iadd, 0) := rfl
theorem kA_879 : lkp tA_c9 879 = some (.iaload, 0) := rfl
theorem kA_880 : lkp tA_c9 880 = some (.aload_n 3, 0) := rfl
theorem kA_881 : lkp tA_c9 881 = some (.invokestatic 152, 0) := rfl
theorem kA_884 : lkp tA_c9 884 = some (.istore 6, 0) := rfl
theorem kA_886 : lkp tA_c9 886 = some (.aload_n 2, 0) := rfl
theorem kA_887 : lkp tA_c9 887 = some (.aload_n 0, 0) := rfl
theorem kA_888 : lkp tA_c9 888 = some (.iload 5, 0) := rfl
theorem kA_890 : lkp tA_c9 890 = some (.iconst 1, 0) := rfl
theorem kA_891 : lkp tA_c9 891 = some (.iadd, 0) := rfl
theorem kA_892 : lkp tA_c9 892 = some (.iaload, 0) := rfl
theorem kA_893 : lkp tA_c9 893 = some (.aload_n 0, 0) := rfl
theorem kA_894 : lkp tA_c9 894 = some (.iload 5, 0) := rfl
theorem kA_896 : lkp tA_c9 896 = some (.iconst 2, 0) := rfl
theorem kA_897 : lkp tA_c9 897 = some (.iadd, 0) := rfl
theorem kA_898 : lkp tA_c9 898 = some (.iaload, 0) := rfl
theorem kA_899 : lkp tA_c9 899 = some (.aload_n 0, 0) := rfl
theorem kA_900 : lkp tA_c9 900 = some (.iload 5, 0) := rfl
theorem kA_902 : lkp tA_c9 902 = some (.iconst 3, 0) := rfl
theorem kA_903 : lkp tA_c9 903 = some (.iadd, 0) := rfl
theorem kA_904 : lkp tA_c9 904 = some (.iaload, 0) := rfl
theorem kA_905 : lkp tA_c9 905 = some (.aload_n 0, 0) := rfl
theorem kA_906 : lkp tA_c9 906 = some (.iload 5, 0) := rfl
theorem kA_908 : lkp tA_c9 908 = some (.iconst 4, 0) := rfl
theorem kA_909 : lkp tA_c9 909 = some (.iadd, 0) := rfl
theorem kA_910 : lkp tA_c9 910 = some (.iaload, 0) := rfl
theorem kA_911 : lkp tA_c9 911 = some (.invokevirtual 154, 0) := rfl
theorem kA_914 : lkp tA_c9 914 = some (.istore 7, 0) := rfl
theorem kA_916 : lkp tA_c9 916 = some (.aload_n 2, 0) := rfl
theorem kA_917 : lkp tA_c9 917 = some (.invokevirtual 123, 0) := rfl
theorem kA_920 : lkp tA_c9 920 = some (.iload 6, 0) := rfl
theorem kA_922 : lkp tA_c9 922 = some (.if_icmp .eq 5, 927) := rfl
theorem kA_925 : lkp tA_c9 925 = some (.iconst 0, 0) := rfl
theorem kA_926 : lkp tA_c9 926 = some (.ireturn, 0) := rfl
theorem kA_927 : lkp tA_c9 927 = some (.iload 6, 0) := rfl
theorem kA_929 : lkp tA_c9 929 = some (.ifCond .ne 15, 944) := rfl
theorem kA_932 : lkp tA_c9 932 = some (.aload_n 3, 0) := rfl
theorem kA_933 : lkp tA_c9 933 = some (.iconst 0, 0) := rfl
theorem kA_934 : lkp tA_c9 934 = some (.laload, 0) := rfl
theorem kA_935 : lkp tA_c9 935 = some (.iload 7, 0) := rfl
theorem kA_937 : lkp tA_c9 937 = some (.i2l, 0) := rfl
theorem kA_938 : lkp tA_c9 938 = some (.lcmp, 0) := rfl
theorem kA_939 : lkp tA_c9 939 = some (.ifCond .eq 5, 944) := rfl
theorem kA_942 : lkp tA_c9 942 = some (.iconst 0, 0) := rfl
theorem kA_943 : lkp tA_c9 943 = some (.ireturn, 0) := rfl
theorem kA_944 : lkp tA_c9 944 = some (.goto 1133, 2077) := rfl
def tA_c10 : TB := [(947, .aload_n 1, 1, 0), (948, .aload_n 3, 1, 0), (949, .invokestatic 155, 3, 0), (952, .istore 6, 2, 0), (954, .aload_n 2, 1, 0), (955, .invokevirtual 158, 3, 0), (958, .istore 7, 2, 0), (960, .aload_n 2, 1, 0), (961, .invokevirtual 123, 3, 0), (964, .iload 6, 2, 0), (966, .if_icmp .eq 5, 3, 971), (969, .iconst 0, 1, 0), (970, .ireturn, 1, 0), (971, .iload 6, 2, 0), (973, .ifCond .ne 15, 3, 988), (976, .aload_n 3, 1, 0), (977, .iconst 0, 1, 0), (978, .laload, 1, 0), (979, .iload 7, 2, 0), (981, .i2l, 1, 0), (982, .lcmp, 1, 0), (983, .ifCond .eq 5, 3, 988), (986, .iconst 0, 1, 0), (987, .ireturn, 1, 0), (988, .goto 1089, 3, 2077)]
theorem tA_c10_ok : tbOk code tA_c10 = true := by decide +kernel
theorem kA_947 : lkp tA_c10 947 = some (.aload_n 1, 0) := rfl
theorem kA_948 : lkp tA_c10 948 = some (.aload_n 3, 0) := rfl
theorem kA_949 : lkp tA_c10 949 = some (.invokestatic 155, 0) := rfl
theorem kA_952 : lkp tA_c10 952 = some (.istore 6, 0) := rfl
theorem kA_954 : lkp tA_c10 954 = some (.aload_n 2, 0) := rfl
theorem kA_955 : lkp tA_c10 955 = some (.invokevirtual 158, 0) := rfl
theorem kA_958 : lkp tA_c10 958 = some (.istore 7, 0) := rfl
theorem kA_960 : lkp tA_c10 960 = some (.aload_n 2, 0) := rfl
theorem kA_961 : lkp tA_c10 961 = some (.invokevirtual 123, 0) := rfl
theorem kA_964 : lkp tA_c10 964 = some (.iload 6, 0) := rfl
theorem kA_966 : lkp tA_c10 966 = some (.if_icmp .eq 5, 971) := rfl
theorem kA_969 : lkp tA_c10 969 = some (.iconst 0, 0) := rfl
theorem kA_970 : lkp tA_c10 970 = some (.ireturn, 0) := rfl
theorem kA_971 : lkp tA_c10 971 = some (.iload 6, 0) := rfl
theorem kA_973 : lkp tA_c10 973 = some (.ifCond .ne 15, 988) := rfl
theorem kA_976 : lkp tA_c10 976 = some (.aload_n 3, 0) := rfl
theorem kA_977 : lkp tA_c10 977 = some (.iconst 0, 0) := rfl
theorem kA_978 : lkp tA_c10 978 = some (.laload, 0) := rfl
theorem kA_979 : lkp tA_c10 979 = some (.iload 7, 0) := rfl
theorem kA_981 : lkp tA_c10 981 = some (.i2l, 0) := rfl
theorem kA_982 : lkp tA_c10 982 = some (.lcmp, 0) := rfl
theorem kA_983 : lkp tA_c10 983 = some (.ifCond .eq 5, 988) := rfl
theorem kA_986 : lkp tA_c10 986 = some (.iconst 0, 0) := rfl
theorem kA_987 : lkp tA_c10 987 = some (.ireturn, 0) := rfl
theorem kA_988 : lkp tA_c10 988 = some (.goto 1089, 2077) := rfl
def tA_c11 : TB := [(991, .aload_n 1, 1, 0), (992, .aload_n 0, 1, 0), (993, .iload 5, 2, 0), (995, .iconst 1, 1, 0), (996, .iadd, 1, 0), (997, .iaload, 1, 0), (998, .aload_n 0, 1, 0), (999, .iload 5, 2, 0), (1001, .iconst 2, 1, 0), (1002, .iadd, 1, 0), (1003, .iaload, 1, 0), (1004, .aload_n 0, 1, 0), (1005, .iload 5, 2, 0), (1007, .iconst 3, 1, 0), (1008, .iadd, 1, 0), (1009, .iaload, 1, 0), (1010, .aload_n 3, 1, 0), (1011, .invokestatic 159, 3, 0), (1014, .istore 6, 2, 0), (1016, .aload_n 2, 1, 0), (1017, .aload_n 0, 1, 0), (1018, .iload 5, 2, 0), (1020, .iconst 1, 1, 0), (1021, .iadd, 1, 0), (1022, .iaload, 1, 0), (1023, .aload_n 0, 1, 0), (1024, .iload 5, 2, 0), (1026, .iconst 2, 1, 0), (1027, .iadd, 1, 0), (1028, .iaload, 1, 0), (1029, .aload_n 0, 1, 0), (1030, .iload 5, 2, 0), (1032, .iconst 3, 1, 0), (1033, .iadd, 1, 0), (1034, .iaload, 1, 0), (1035, .invokevirtual 162, 3, 0), (1038, .istore 7, 2, 0), (1040, .aload_n 2, 1, 0), (1041, .invokevirtual 123, 3, 0), (1044, .iload 6, 2, 0), (1046, .if_icmp .eq 5, 3, 1051), (1049, .iconst 0, 1, 0), (1050, .ireturn, 1, 0), (1051, .iload 6, 2, 0), (1053, .ifCond .ne 15, 3, 1068), (1056, .aload_n 3, 1, 0), (1057, .iconst 0, 1, 0), (1058, .laload, 1, 0), (1059, .iload 7, 2, 0), (1061, .i2l, 1, 0), (1062, .lcmp, 1, 0), (1063, .ifCond .eq 5, 3, 1068), (1066, .iconst 0, 1, 0), (1067, .ireturn, 1, 0), (1068, .goto 1009, 3, 2077)]
theorem tA_c11_ok : tbOk code tA_c11 = true := by decide +kernel
theorem kA_991 : lkp tA_c11 991 = some (.aload_n 1, 0) := rfl
theorem kA_992 : lkp tA_c11 992 = some (.aload_n 0, 0) := rfl
theorem kA_993 : lkp tA_c11 993 = some (.iload 5, 0) := rfl
theorem kA_995 : lkp tA_c11 995 = some (.iconst 1, 0) := rfl
theorem kA_996 : lkp tA_c11 996 = some (.iadd, 0) := rfl
theorem kA_997 : lkp tA_c11 997 = some (.iaload, 0) := rfl
theorem kA_998 : lkp tA_c11 998 = some (.aload_n 0, 0) := rfl
theorem kA_999 : lkp tA_c11 999 = some (.iload 5, 0) := rfl
theorem kA_1001 : lkp tA_c11 1001 = some (.iconst 2, 0) := rfl
theorem kA_1002 : lkp tA_c11 1002 = some (.iadd, 0) := rfl
theorem kA_1003 : lkp tA_c11 1003 = some (.iaload, 0) := rfl
theorem kA_1004 : lkp tA_c11 1004 = some (.aload_n 0, 0) := rfl
theorem kA_1005 : lkp tA_c11 1005 = some (.iload 5, 0) := rfl
theorem kA_1007 : lkp tA_c11 1007 = some (.iconst 3, 0) := rfl
theorem kA_1008 : lkp tA_c11 1008 = some (.iadd, 0) := rfl
theorem kA_1009 : lkp tA_c11 1009 = some (.iaload, 0) := rfl
theorem kA_1010 : lkp tA_c11 1010 = some (.aload_n 3, 0) := rfl
theorem kA_1011 : lkp tA_c11 1011 = some (.invokestatic 159, 0) := rfl
theorem kA_1014 : lkp tA_c11 1014 = some (.istore 6, 0) := rfl
theorem kA_1016 : lkp tA_c11 1016 = some (.aload_n 2, 0) := rfl
theorem kA_1017 : lkp tA_c11 1017 = some (.aload_n 0, 0) := rfl
theorem kA_1018 : lkp tA_c11 1018 = some (.iload 5, 0) := rfl
theorem kA_1020 : lkp tA_c11 1020 = some (.iconst 1, 0) := rfl
theorem kA_1021 : lkp tA_c11 1021 = some (.iadd, 0) := rfl
theorem kA_1022 : lkp tA_c11 1022 = some (.iaload, 0) := rfl
theorem kA_1023 : lkp tA_c11 1023 = some (.aload_n 0, 0) := rfl
theorem kA_1024 : lkp tA_c11 1024 = some (.iload 5, 0) := rfl
theorem kA_1026 : lkp tA_c11 1026 = some (.iconst 2, 0) := rfl
theorem kA_1027 : lkp tA_c11 1027 = some (.iadd, 0) := rfl
theorem kA_1028 : lkp tA_c11 1028 = some (.iaload, 0) := rfl
theorem kA_1029 : lkp tA_c11 1029 = some (.aload_n 0, 0) := rfl
theorem kA_1030 : lkp tA_c11 1030 = some (.iload 5, 0) := rfl
theorem kA_1032 : lkp tA_c11 1032 = some (.iconst 3, 0) := rfl
theorem kA_1033 : lkp tA_c11 1033 = some (.iadd, 0) := rfl
theorem kA_1034 : lkp tA_c11 1034 = some (.iaload, 0) := rfl
theorem kA_1035 : lkp tA_c11 1035 = some (.invokevirtual 162, 0) := rfl
theorem kA_1038 : lkp tA_c11 1038 = some (.istore 7, 0) := rfl
theorem kA_1040 : lkp tA_c11 1040 = some (.aload_n 2, 0) := rfl
theorem kA_1041 : lkp tA_c11 1041 = some (.invokevirtual 123, 0) := rfl
theorem kA_1044 : lkp tA_c11 1044 = some (.iload 6, 0) := rfl
theorem kA_1046 : lkp tA_c11 1046 = some (.if_icmp .eq 5, 1051) := rfl
theorem kA_1049 : lkp tA_c11 1049 = some (.iconst 0, 0) := rfl
theorem kA_1050 : lkp tA_c11 1050 = some (.ireturn, 0) := rfl
theorem kA_1051 : lkp tA_c11 1051 = some (.iload 6, 0) := rfl
theorem kA_1053 : lkp tA_c11 1053 = some (.ifCond .ne 15, 1068) := rfl
theorem kA_1056 : lkp tA_c11 1056 = some (.aload_n 3, 0) := rfl
theorem kA_1057 : lkp tA_c11 1057 = some (.iconst 0, 0) := rfl
theorem kA_1058 : lkp tA_c11 1058 = some (.laload, 0) := rfl
theorem kA_1059 : lkp tA_c11 1059 = some (.iload 7, 0) := rfl
theorem kA_1061 : lkp tA_c11 1061 = some (.i2l, 0) := rfl
theorem kA_1062 : lkp tA_c11 1062 = some (.lcmp, 0) := rfl
theorem kA_1063 : lkp tA_c11 1063 = some (.ifCond .eq 5, 1068) := rfl
theorem kA_1066 : lkp tA_c11 1066 = some (.iconst 0, 0) := rfl
theorem kA_1067 : lkp tA_c11 1067 = some (.ireturn, 0) := rfl
theorem kA_1068 : lkp tA_c11 1068 = some (.goto 1009, 2077) := rfl
def tA_c12 : TB := [(1071, .aload_n 1, 1, 0), (1072, .aload_n 0, 1, 0), (1073, .iload 5, 2, 0), (1075, .iconst 1, 1, 0), (1076, .iadd, 1, 0), (1077, .iaload, 1, 0), (1078, .aload_n 0, 1, 0), (1079, .iload 5, 2, 0), (1081, .iconst 2, 1, 0), (1082, .iadd, 1, 0), (1083, .iaload, 1, 0), (1084, .aload_n 3, 1, 0), (1085, .invokestatic 163, 3, 0), (1088, .istore 6, 2, 0), (1090, .aload_n 2, 1, 0), (1091, .aload_n 0, 1, 0), (1092, .iload 5, 2, 0), (1094, .iconst 1, 1, 0), (1095, .iadd, 1, 0), (1096, .iaload, 1, 0), (1097, .aload_n 0, 1, 0), (1098, .iload 5, 2, 0), (1100, .iconst 2, 1, 0), (1101, .iadd, 1, 0), (1102, .iaload, 1, 0), (1103, .invokevirtual 165, 3, 0), (1106, .istore 7, 2, 0), (1108, .aload_n 2, 1, 0), (1109, .invokevirtual 123, 3, 0), (1112, .iload 6, 2, 0), (1114, .if_icmp .eq 5, 3, 1119), (1117, .iconst 0, 1, 0), (1118, .ireturn, 1, 0), (1119, .iload 6, 2, 0), (1121, .ifCond .ne 15, 3, 1136), (1124, .aload_n 3, 1, 0), (1125, .iconst 0, 1, 0), (1126, .laload, 1, 0), (1127, .iload 7, 2, 0), (1129, .i2l, 1, 0), (1130, .lcmp, 1, 0), (1131, .ifCond .eq 5, 3, 1136), (1134, .iconst 0, 1, 0), (1135, .ireturn, 1, 0), (1136, .goto 941, 3, 2077)]
theorem tA_c12_ok : tbOk code tA_c12 = true := by decide +kernel
theorem kA_1071 : lkp tA_c12 1071 = some (.aload_n 1, 0) := rfl
theorem kA_1072 : lkp tA_c12 1072 = some (.aload_n 0, 0) := rfl
theorem kA_1073 : lkp tA_c12 1073 = some (.iload 5, 0) := rfl
theorem kA_1075 : lkp tA_c12 1075 = some (.iconst 1, 0) := rfl
theorem kA_1076 : lkp tA_c12 1076 = some (.iadd, 0) := rfl
theorem kA_1077 : lkp tA_c12 1077 = some (.iaload, 0) := rfl
theorem kA_1078 : lkp tA_c12 1078 = some (.aload_n 0, 0) := rfl
theorem kA_1079 : lkp tA_c12 1079 = some (.iload 5, 0) := rfl
theorem kA_1081 : lkp tA_c12 1081 = some (.iconst 2, 0) := rfl
theorem kA_1082 : lkp tA_c12 1082 = some (.iadd, 0) := rfl
theorem kA_1083 : lkp tA_c12 1083 = some (.iaload, 0) := rfl
theorem kA_1084 : lkp tA_c12 1084 = some (.aload_n 3, 0) := rfl
theorem kA_1085 : lkp tA_c12 1085 = some (.invokestatic 163, 0) := rfl
theorem kA_1088 : lkp tA_c12 1088 = some (.istore 6, 0) := rfl
theorem kA_1090 : lkp tA_c12 1090 = some (.aload_n 2, 0) := rfl
theorem kA_1091 : lkp tA_c12 1091 = some (.aload_n 0, 0) := rfl
theorem kA_1092 : lkp tA_c12 1092 = some (.iload 5, 0) := rfl
theorem kA_1094 : lkp tA_c12 1094 = some (.iconst 1, 0) := rfl
theorem kA_1095 : lkp tA_c12 1095 = some (.iadd, 0) := rfl
theorem kA_1096 : lkp tA_c12 1096 = some (.iaload, 0) := rfl
theorem kA_1097 : lkp tA_c12 1097 = some (.aload_n 0, 0) := rfl
theorem kA_1098 : lkp tA_c12 1098 = some (.iload 5, 0) := rfl
theorem kA_1100 : lkp tA_c12 1100 = some (.iconst 2, 0) := rfl
theorem kA_1101 : lkp tA_c12 1101 = some (.iadd, 0) := rfl
theorem kA_1102 : lkp tA_c12 1102 = some (.iaload, 0) := rfl
theorem kA_1103 : lkp tA_c12 1103 = some (.invokevirtual 165, 0) := rfl
theorem kA_1106 : lkp tA_c12 1106 = some (.istore 7, 0) := rfl
theorem kA_1108 : lkp tA_c12 1108 = some (.aload_n 2, 0) := rfl
theorem kA_1109 : lkp tA_c12 1109 = some (.invokevirtual 123, 0) := rfl
theorem kA_1112 : lkp tA_c12 1112 = some (.iload 6, 0) := rfl
theorem kA_1114 : lkp tA_c12 1114 = some (.if_icmp .eq 5, 1119) := rfl
theorem kA_1117 : lkp tA_c12 1117 = some (.iconst 0, 0) := rfl
theorem kA_1118 : lkp tA_c12 1118 = some (.ireturn, 0) := rfl
theorem kA_1119 : lkp tA_c12 1119 = some (.iload 6, 0) := rfl
theorem kA_1121 : lkp tA_c12 1121 = some (.ifCond .ne 15, 1136) := rfl
theorem kA_1124 : lkp tA_c12 1124 = some (.aload_n 3, 0) := rfl
theorem kA_1125 : lkp tA_c12 1125 = some (.iconst 0, 0) := rfl
theorem kA_1126 : lkp tA_c12 1126 = some (.laload, 0) := rfl
theorem kA_1127 : lkp tA_c12 1127 = some (.iload 7, 0) := rfl
theorem kA_1129 : lkp tA_c12 1129 = some (.i2l, 0) := rfl
theorem kA_1130 : lkp tA_c12 1130 = some (.lcmp, 0) := rfl
theorem kA_1131 : lkp tA_c12 1131 = some (.ifCond .eq 5, 1136) := rfl
theorem kA_1134 : lkp tA_c12 1134 = some (.iconst 0, 0) := rfl
theorem kA_1135 : lkp tA_c12 1135 = some (.ireturn, 0) := rfl
theorem kA_1136 : lkp tA_c12 1136 = some (.goto 941, 2077) := rfl
def tA_c13 : TB := [(1139, .aload_n 1, 1, 0), (1140, .aload_n 0, 1, 0), (1141, .iload 5, 2, 0), (1143, .iconst 1, 1, 0), (1144, .iadd, 1, 0), (1145, .iaload, 1, 0), (1146, .aload_n 0, 1, 0), (1147, .iload 5, 2, 0), (1149, .iconst 2, 1, 0), (1150, .iadd, 1, 0), (1151, .iaload, 1, 0), (1152, .aload_n 3, 1, 0), (1153, .invokestatic 166, 3, 0), (1156, .istore 6, 2, 0), (1158, .aload_n 2, 1, 0), (1159, .aload_n 0, 1, 0), (1160, .iload 5, 2, 0), (1162, .iconst 1, 1, 0), (1163, .iadd, 1, 0), (1164, .iaload, 1, 0), (1165, .aload_n 0, 1, 0), (1166, .iload 5, 2, 0), (1168, .iconst 2, 1, 0), (1169, .iadd, 1, 0), (1170, .iaload, 1, 0), (1171, .invokevirtual 168, 3, 0), (1174, .istore 7, 2, 0), (1176, .aload_n 2, 1, 0), (1177, .invokevirtual 123, 3, 0), (1180, .iload 6, 2, 0), (1182, .if_icmp .eq 5, 3, 1187), (1185, .iconst 0, 1, 0), (1186, .ireturn, 1, 0), (1187, .iload 6, 2, 0), (1189, .ifCond .ne 15, 3, 1204), (1192, .aload_n 3, 1, 0), (1193, .iconst 0, 1, 0), (1194, .laload, 1, 0), (1195, .iload 7, 2, 0), (1197, .i2l, 1, 0), (1198, .lcmp, 1, 0), (1199, .ifCond .eq 5, 3, 1204), (1202, .iconst 0, 1, 0), (1203, .ireturn, 1, 0), (1204, .goto 873, 3, 2077)]
theorem tA_c13_ok : tbOk code tA_c13 = true := by decide +kernel
theorem kA_1139 : lkp tA_c13 1139 = some (.aload_n 1, 0) := rfl
theorem kA_1140 : lkp tA_c13 1140 = some (.aload_n 0, 0) := rfl
theorem kA_1141 : lkp tA_c13 1141 = some (.iload 5, 0) := rfl
theorem kA_1143 : lkp tA_c13 1143 = some (.iconst 1, 0) := rfl
theorem kA_1144 : lkp tA_c13 1144 = some (.iadd, 0) := rfl
theorem kA_1145 : lkp tA_c13 1145 = some (.iaload, 0) := rfl
theorem kA_1146 : lkp tA_c13 1146 = some (.aload_n 0, 0) := rfl
theorem kA_1147 : lkp tA_c13 1147 = some (.iload 5, 0) := rfl
theorem kA_1149 : lkp tA_c13 1149 = some (.iconst 2, 0) := rfl
theorem kA_1150 : lkp tA_c13 1150 = some (.iadd, 0) := rfl
theorem kA_1151 : lkp tA_c13 1151 = some (.iaload, 0) := rfl
theorem kA_1152 : lkp tA_c13 1152 = some (.aload_n 3, 0) := rfl
theorem kA_1153 : lkp tA_c13 1153 = some (.invokestatic 166, 0) := rfl
theorem kA_1156 : lkp tA_c13 1156 = some (.istore 6, 0) := rfl
theorem kA_1158 : lkp tA_c13 1158 = some (.aload_n 2, 0) := rfl
theorem kA_1159 : lkp tA_c13 1159 = some (.aload_n 0, 0) := rfl
theorem kA_1160 : lkp tA_c13 1160 = some (.iload 5, 0) := rfl
theorem kA_1162 : lkp tA_c13 1162 = some (.iconst 1, 0) := rfl
theorem kA_1163 : lkp tA_c13 1163 = some (.iadd, 0) := rfl
theorem kA_1164 : lkp tA_c13 1164 = some (.iaload, 0) := rfl
theorem kA_1165 : lkp tA_c13 1165 = some (.aload_n 0, 0) := rfl
theorem kA_1166 : lkp tA_c13 1166 = some (.iload 5, 0) := rfl
theorem kA_1168 : lkp tA_c13 1168 = some (.iconst 2, 0) := rfl
theorem kA_1169 : lkp tA_c13 1169 = some (.iadd, 0) := rfl
theorem kA_1170 : lkp tA_c13 1170 = some (.iaload, 0) := rfl
theorem kA_1171 : lkp tA_c13 1171 = some (.invokevirtual 168, 0) := rfl
theorem kA_1174 : lkp tA_c13 1174 = some (.istore 7, 0) := rfl
theorem kA_1176 : lkp tA_c13 1176 = some (.aload_n 2, 0) := rfl
theorem kA_1177 : lkp tA_c13 1177 = some (.invokevirtual 123, 0) := rfl
theorem kA_1180 : lkp tA_c13 1180 = some (.iload 6, 0) := rfl
theorem kA_1182 : lkp tA_c13 1182 = some (.if_icmp .eq 5, 1187) := rfl
theorem kA_1185 : lkp tA_c13 1185 = some (.iconst 0, 0) := rfl
theorem kA_1186 : lkp tA_c13 1186 = some (.ireturn, 0) := rfl
theorem kA_1187 : lkp tA_c13 1187 = some (.iload 6, 0) := rfl
theorem kA_1189 : lkp tA_c13 1189 = some (.ifCond .ne 15, 1204) := rfl
theorem kA_1192 : lkp tA_c13 1192 = some (.aload_n 3, 0) := rfl
theorem kA_1193 : lkp tA_c13 1193 = some (.iconst 0, 0) := rfl
theorem kA_1194 : lkp tA_c13 1194 = some (.laload, 0) := rfl
theorem kA_1195 : lkp tA_c13 1195 = some (.iload 7, 0) := rfl
theorem kA_1197 : lkp tA_c13 1197 = some (.i2l, 0) := rfl
theorem kA_1198 : lkp tA_c13 1198 = some (.lcmp, 0) := rfl
theorem kA_1199 : lkp tA_c13 1199 = some (.ifCond .eq 5, 1204) := rfl
theorem kA_1202 : lkp tA_c13 1202 = some (.iconst 0, 0) := rfl
theorem kA_1203 : lkp tA_c13 1203 = some (.ireturn, 0) := rfl
theorem kA_1204 : lkp tA_c13 1204 = some (.goto 873, 2077) := rfl
def tA_c14 : TB := [(1207, .aload_n 1, 1, 0), (1208, .aload_n 0, 1, 0), (1209, .iload 5, 2, 0), (1211, .iconst 1, 1, 0), (1212, .iadd, 1, 0), (1213, .iaload, 1, 0), (1214, .aload_n 0, 1, 0), (1215, .iload 5, 2, 0), (1217, .iconst 2, 1, 0), (1218, .iadd, 1, 0), (1219, .iaload, 1, 0), (1220, .aload_n 3, 1, 0), (1221, .invokestatic 169, 3, 0), (1224, .istore 6, 2, 0), (1226, .aload_n 2, 1, 0), (1227, .aload_n 0, 1, 0), (1228, .iload 5, 2, 0), (1230, .iconst 1, 1, 0), (1231, .iadd, 1, 0), (1232, .iaload, 1, 0), (1233, .aload_n 0, 1, 0), (1234, .iload 5, 2, 0), (1236, .iconst 2, 1, 0), (1237, .iadd, 1, 0), (1238, .iaload, 1, 0), (1239, .invokevirtual 171, 3, 0), (1242, .istore 7, 2, 0), (1244, .aload_n 2, 1, 0), (1245, .invokevirtual 123, 3, 0), (1248, .iload 6, 2, 0), (1250, .if_icmp .eq 5, 3, 1255), (1253, .iconst 0, 1, 0), (1254, .ireturn, 1, 0), (1255, .iload 6, 2, 0), (1257, .ifCond .ne 15, 3, 1272), (1260, .aload_n 3, 1, 0), (1261, .iconst 0, 1, 0), (1262, .laload, 1, 0), (1263, .iload 7, 2, 0), (1265, .i2l, 1, 0), (1266, .lcmp, 1, 0), (1267, .ifCond .eq 5, 3, 1272), (1270, .iconst 0, 1, 0), (1271, .ireturn, 1, 0), (1272, .goto 805, 3, 2077)]
theorem tA_c14_ok : tbOk code tA_c14 = true := by decide +kernel
theorem kA_1207 : lkp tA_c14 1207 = some (.aload_n 1, 0) := rfl
theorem kA_1208 : lkp tA_c14 1208 = some (.aload_n 0, 0) := rfl
theorem kA_1209 : lkp tA_c14 1209 = some (.iload 5, 0) := rfl
theorem kA_1211 : lkp tA_c14 1211 = some (.iconst 1, 0) := rfl
theorem kA_1212 : lkp tA_c14 1212 = some (.iadd, 0) := rfl
theorem kA_1213 : lkp tA_c14 1213 = some (.iaload, 0) := rfl
theorem kA_1214 : lkp tA_c14 1214 = some (.aload_n 0, 0) := rfl
theorem kA_1215 : lkp tA_c14 1215 = some (.iload 5, 0) := rfl
theorem kA_1217 : lkp tA_c14 1217 = some (.iconst 2, 0) := rfl
theorem kA_1218 : lkp tA_c14 1218 = some (.iadd, 0) := rfl
theorem kA_1219 : lkp tA_c14 1219 = some (.iaload, 0) := rfl
theorem kA_1220 : lkp tA_c14 1220 = some (.aload_n 3, 0) := rfl
theorem kA_1221 : lkp tA_c14 1221 = some (.invokestatic 169, 0) := rfl
theorem kA_1224 : lkp tA_c14 1224 = some (.istore 6, 0) := rfl
theorem kA_1226 : lkp tA_c14 1226 = some (.aload_n 2, 0) := rfl
theorem kA_1227 : lkp tA_c14 1227 = some (.aload_n 0, 0) := rfl
theorem kA_1228 : lkp tA_c14 1228 = some (.iload 5, 0) := rfl
theorem kA_1230 : lkp tA_c14 1230 = some (.iconst 1, 0) := rfl
theorem kA_1231 : lkp tA_c14 1231 = some (.iadd, 0) := rfl
theorem kA_1232 : lkp tA_c14 1232 = some (.iaload, 0) := rfl
theorem kA_1233 : lkp tA_c14 1233 = some (.aload_n 0, 0) := rfl
theorem kA_1234 : lkp tA_c14 1234 = some (.iload 5, 0) := rfl
theorem kA_1236 : lkp tA_c14 1236 = some (.iconst 2, 0) := rfl
theorem kA_1237 : lkp tA_c14 1237 = some (.iadd, 0) := rfl
theorem kA_1238 : lkp tA_c14 1238 = some (.iaload, 0) := rfl
theorem kA_1239 : lkp tA_c14 1239 = some (.invokevirtual 171, 0) := rfl
theorem kA_1242 : lkp tA_c14 1242 = some (.istore 7, 0) := rfl
theorem kA_1244 : lkp tA_c14 1244 = some (.aload_n 2, 0) := rfl
theorem kA_1245 : lkp tA_c14 1245 = some (.invokevirtual 123, 0) := rfl
theorem kA_1248 : lkp tA_c14 1248 = some (.iload 6, 0) := rfl
theorem kA_1250 : lkp tA_c14 1250 = some (.if_icmp .eq 5, 1255) := rfl
theorem kA_1253 : lkp tA_c14 1253 = some (.iconst 0, 0) := rfl
theorem kA_1254 : lkp tA_c14 1254 = some (.ireturn, 0) := rfl
theorem kA_1255 : lkp tA_c14 1255 = some (.iload 6, 0) := rfl
theorem kA_1257 : lkp tA_c14 1257 = some (.ifCond .ne 15, 1272) := rfl
theorem kA_1260 : lkp tA_c14 1260 = some (.aload_n 3, 0) := rfl
theorem kA_1261 : lkp tA_c14 1261 = some (.iconst 0, 0) := rfl
theorem kA_1262 : lkp tA_c14 1262 = some (.laload, 0) := rfl
theorem kA_1263 : lkp tA_c14 1263 = some (.iload 7, 0) := rfl
theorem kA_1265 : lkp tA_c14 1265 = some (.i2l, 0) := rfl
theorem kA_1266 : lkp tA_c14 1266 = some (.lcmp, 0) := rfl
theorem kA_1267 : lkp tA_c14 1267 = some (.ifCond .eq 5, 1272) := rfl
theorem kA_1270 : lkp tA_c14 1270 = some (.iconst 0, 0) := rfl
theorem kA_1271 : lkp tA_c14 1271 = some (.ireturn, 0) := rfl
theorem kA_1272 : lkp tA_c14 1272 = some (.goto 805, 2077) := rfl
def tA_c15 : TB := [(1275, .aload_n 1, 1, 0), (1276, .aload_n 0, 1, 0), (1277, .iload 5, 2, 0), (1279, .iconst 1, 1, 0), (1280, .iadd, 1, 0), (1281, .iaload, 1, 0), (1282, .aload_n 0, 1, 0), (1283, .iload 5, 2, 0), (1285, .iconst 2, 1, 0), (1286, .iadd, 1, 0), (1287, .iaload, 1, 0), (1288, .aload_n 0, 1, 0), (1289, .iload 5, 2, 0), (1291, .iconst 3, 1, 0), (1292, .iadd, 1, 0), (1293, .iaload, 1, 0), (1294, .aload_n 3, 1, 0), (1295, .invokestatic 172, 3, 0), (1298, .istore 6, 2, 0), (1300, .aload_n 2, 1, 0), (1301, .aload_n 0, 1, 0), (1302, .iload 5, 2, 0), (1304, .iconst 1, 1, 0), (1305, .iadd, 1, 0), (1306, .iaload, 1, 0), (1307, .aload_n 0, 1, 0), (1308, .iload 5, 2, 0), (1310, .iconst 2, 1, 0), (1311, .iadd, 1, 0), (1312, .iaload, 1, 0), (1313, .aload_n 0, 1, 0), (1314, .iload 5, 2, 0), (1316, .iconst 3, 1, 0), (1317, .iadd, 1, 0), (1318, .iaload, 1, 0), (1319, .invokevirtual 174, 3, 0), (1322, .istore 7, 2, 0), (1324, .aload_n 2, 1, 0), (1325, .invokevirtual 123, 3, 0), (1328, .iload 6, 2, 0), (1330, .if_icmp .eq 5, 3, 1335), (1333, .iconst 0, 1, 0), (1334, .ireturn, 1, 0), (1335, .iload 6, 2, 0), (1337, .ifCond .ne 15, 3, 1352), (1340, .aload_n 3, 1, 0), (1341, .iconst 0, 1, 0), (1342, .laload, 1, 0), (1343, .iload 7, 2, 0), (1345, .i2l, 1, 0), (1346, .lcmp, 1, 0), (1347, .ifCond .eq 5, 3, 1352), (1350, .iconst 0, 1, 0), (1351, .ireturn, 1, 0), (1352, .goto 725, 3, 2077)]
theorem tA_c15_ok : tbOk code tA_c15 = true := by decide +kernel
theorem kA_1275 : lkp tA_c15 1275 = some (.aload_n 1, 0) := rfl
theorem kA_1276 : lkp tA_c15 1276 = some (.aload_n 0, 0) := rfl
theorem kA_1277 : lkp tA_c15 1277 = some (.iload 5, 0) := rfl
theorem kA_1279 : lkp tA_c15 1279 = some (.iconst 1, 0) := rfl
theorem kA_1280 : lkp tA_c15 1280 = some (.iadd, 0) := rfl
theorem kA_1281 : lkp tA_c15 1281 = some (.iaload, 0) := rfl
theorem kA_1282 : lkp tA_c15 1282 = some (.aload_n 0, 0) := rfl
theorem kA_1283 : lkp tA_c15 1283 = some (.iload 5, 0) := rfl
theorem kA_1285 : lkp tA_c15 1285 = some (.iconst 2, 0) := rfl
theorem kA_1286 : lkp tA_c15 1286 = some (.iadd, 0) := rfl
theorem kA_1287 : lkp tA_c15 1287 = some (.iaload, 0) := rfl
theorem kA_1288 : lkp tA_c15 1288 = some (.aload_n 0, 0) := rfl
theorem kA_1289 : lkp tA_c15 1289 = some (.iload 5, 0) := rfl
theorem kA_1291 : lkp tA_c15 1291 = some (.iconst 3, 0) := rfl
theorem kA_1292 : lkp tA_c15 1292 = some (.iadd, 0) := rfl
theorem kA_1293 : lkp tA_c15 1293 = some (.iaload, 0) := rfl
theorem kA_1294 : lkp tA_c15 1294 = some (.aload_n 3, 0) := rfl
theorem kA_1295 : lkp tA_c15 1295 = some (.invokestatic 172, 0) := rfl
theorem kA_1298 : lkp tA_c15 1298 = some (.istore 6, 0) := rfl
theorem kA_1300 : lkp tA_c15 1300 = some (.aload_n 2, 0) := rfl
theorem kA_1301 : lkp tA_c15 1301 = some (.aload_n 0, 0) := rfl
theorem kA_1302 : lkp tA_c15 1302 = some (.iload 5, 0) := rfl
theorem kA_1304 : lkp tA_c15 1304 = some (.iconst 1, 0) := rfl
theorem kA_1305 : lkp tA_c15 1305 = some (.iadd, 0) := rfl
theorem kA_1306 : lkp tA_c15 1306 = some (.iaload, 0) := rfl
theorem kA_1307 : lkp tA_c15 1307 = some (.aload_n 0, 0) := rfl
theorem kA_1308 : lkp tA_c15 1308 = some (.iload 5, 0) := rfl
theorem kA_1310 : lkp tA_c15 1310 = some (.iconst 2, 0) := rfl
theorem kA_1311 : lkp tA_c15 1311 = some (.iadd, 0) := rfl
theorem kA_1312 : lkp tA_c15 1312 = some (.iaload, 0) := rfl
theorem kA_1313 : lkp tA_c15 1313 = some (.aload_n 0, 0) := rfl
theorem kA_1314 : lkp tA_c15 1314 = some (.iload 5, 0) := rfl
theorem kA_1316 : lkp tA_c15 1316 = some (.iconst 3, 0) := rfl
theorem kA_1317 : lkp tA_c15 1317 = some (.iadd, 0) := rfl
theorem kA_1318 : lkp tA_c15 1318 = some (.iaload, 0) := rfl
theorem kA_1319 : lkp tA_c15 1319 = some (.invokevirtual 174, 0) := rfl
theorem kA_1322 : lkp tA_c15 1322 = some (.istore 7, 0) := rfl
theorem kA_1324 : lkp tA_c15 1324 = some (.aload_n 2, 0) := rfl
theorem kA_1325 : lkp tA_c15 1325 = some (.invokevirtual 123, 0) := rfl
theorem kA_1328 : lkp tA_c15 1328 = some (.iload 6, 0) := rfl
theorem kA_1330 : lkp tA_c15 1330 = some (.if_icmp .eq 5, 1335) := rfl
theorem kA_1333 : lkp tA_c15 1333 = some (.iconst 0, 0) := rfl
theorem kA_1334 : lkp tA_c15 1334 = some (.ireturn, 0) := rfl
theorem kA_1335 : lkp tA_c15 1335 = some (.iload 6, 0) := rfl
theorem kA_1337 : lkp tA_c15 1337 = some (.ifCond .ne 15, 1352) := rfl
theorem kA_1340 : lkp tA_c15 1340 = some (.aload_n 3, 0) := rfl
theorem kA_1341 : lkp tA_c15 1341 = some (.iconst 0, 0) := rfl
theorem kA_1342 : lkp tA_c15 1342 = some (.laload, 0) := rfl
theorem kA_1343 : lkp tA_c15 1343 = some (.iload 7, 0) := rfl
theorem kA_1345 : lkp tA_c15 1345 = some (.i2l, 0) := rfl
theorem kA_1346 : lkp tA_c15 1346 = some (.lcmp, 0) := rfl
theorem kA_1347 : lkp tA_c15 1347 = some (.ifCond .eq 5, 1352) := rfl
theorem kA_1350 : lkp tA_c15 1350 = some (.iconst 0, 0) := rfl
theorem kA_1351 : lkp tA_c15 1351 = some (.ireturn, 0) := rfl
theorem kA_1352 : lkp tA_c15 1352 = some (.goto 725, 2077) := rfl
def tA_c16 : TB := [(1355, .aload_n 1, 1, 0), (1356, .aload_n 0, 1, 0), (1357, .iload 5, 2, 0), (1359, .iconst 1, 1, 0), (1360, .iadd, 1, 0), (1361, .iaload, 1, 0), (1362, .aload_n 0, 1, 0), (1363, .iload 5, 2, 0), (1365, .iconst 2, 1, 0), (1366, .iadd, 1, 0), (1367, .iaload, 1, 0), (1368, .aload_n 3, 1, 0), (1369, .invokestatic 175, 3, 0), (1372, .istore 6, 2, 0), (1374, .aload_n 2, 1, 0), (1375, .aload_n 0, 1, 0), (1376, .iload 5, 2, 0), (1378, .iconst 1, 1, 0), (1379, .iadd, 1, 0), (1380, .iaload, 1, 0), (1381, .aload_n 0, 1, 0), (1382, .iload 5, 2, 0), (1384, .iconst 2, 1, 0), (1385, .iadd, 1, 0), (1386, .iaload, 1, 0), (1387, .invokevirtual 177, 3, 0), (1390, .istore 7, 2, 0), (1392, .aload_n 2, 1, 0), (1393, .invokevirtual 123, 3, 0), (1396, .iload 6, 2, 0), (1398, .if_icmp .eq 5, 3, 1403), (1401, .iconst 0, 1, 0), (1402, .ireturn, 1, 0), (1403, .iload 6, 2, 0), (1405, .ifCond .ne 15, 3, 1420), (1408, .aload_n 3, 1, 0), (1409, .iconst 0, 1, 0), (1410, .laload, 1, 0), (1411, .iload 7, 2, 0), (1413, .i2l, 1, 0), (1414, .lcmp, 1, 0), (1415, .ifCond .eq 5, 3, 1420), (1418, .iconst 0, 1, 0), (1419, .ireturn, 1, 0), (1420, .goto 657, 3, 2077)]
theorem tA_c16_ok : tbOk code tA_c16 = true := by decide +kernel
theorem kA_1355 : lkp tA_c16 1355 = some (.aload_n 1, 0) := rfl
theorem kA_1356 : lkp tA_c16 1356 = some (.aload_n 0, 0) := rfl
theorem kA_1357 : lkp tA_c16 1357 = some (.iload 5, 0) := rfl
theorem kA_1359 : lkp tA_c16 1359 = some (.iconst 1, 0) := rfl
theorem kA_1360 : lkp tA_c16 1360 = some (.iadd, 0) := rfl
theorem kA_1361 : lkp tA_c16 1361 = some (.iaload, 0) := rfl
theorem kA_1362 : lkp tA_c16 1362 = some (.aload_n 0, 0) := rfl
theorem kA_1363 : lkp tA_c16 1363 = some (.iload 5, 0) := rfl
theorem kA_1365 : lkp tA_c16 1365 = some (.iconst 2, 0) := rfl
theorem kA_1366 : lkp tA_c16 1366 = some (.iadd, 0) := rfl
theorem kA_1367 : lkp tA_c16 1367 = some (.iaload, 0) := rfl
theorem kA_1368 : lkp tA_c16 1368 = some (.aload_n 3, 0) := rfl
theorem kA_1369 : lkp tA_c16 1369 = some (.invokestatic 175, 0) := rfl
theorem kA_1372 : lkp tA_c16 1372 = some (.istore 6, 0) := rfl
theorem kA_1374 : lkp tA_c16 1374 = some (.aload_n 2, 0) := rfl
theorem kA_1375 : lkp tA_c16 1375 = some (.aload_n 0, 0) := rfl
theorem kA_1376 : lkp tA_c16 1376 = some (.iload 5, 0) := rfl
theorem kA_1378 : lkp tA_c16 1378 = some (.iconst 1, 0) := rfl
theorem kA_1379 : lkp tA_c16 1379 = some (.iadd, 0) := rfl
theorem kA_1380 : lkp tA_c16 1380 = some (.iaload, 0) := rfl
theorem kA_1381 : lkp tA_c16 1381 = some (.aload_n 0, 0) := rfl
theorem kA_1382 : lkp tA_c16 1382 = some (.iload 5, 0) := rfl
theorem kA_1384 : lkp tA_c16 1384 = some (.iconst 2, 0) := rfl
theorem kA_1385 : lkp tA_c16 1385 = some (.iadd, 0) := rfl
theorem kA_1386 : lkp tA_c16 1386 = some (.iaload, 0) := rfl
theorem kA_1387 : lkp tA_c16 1387 = some (.invokevirtual 177, 0) := rfl
theorem kA_1390 : lkp tA_c16 1390 = some (.istore 7, 0) := rfl
theorem kA_1392 : lkp tA_c16 1392 = some (.aload_n 2, 0) := rfl
theorem kA_1393 : lkp tA_c16 1393 = some (.invokevirtual 123, 0) := rfl
theorem kA_1396 : lkp tA_c16 1396 = some (.iload 6, 0) := rfl
theorem kA_1398 : lkp tA_c16 1398 = some (.if_icmp .eq 5, 1403) := rfl
theorem kA_1401 : lkp tA_c16 1401 = some (.iconst 0, 0) := rfl
theorem kA_1402 : lkp tA_c16 1402 = some (.ireturn, 0) := rfl
theorem kA_1403 : lkp tA_c16 1403 = some (.iload 6, 0) := rfl
theorem kA_1405 : lkp tA_c16 1405 = some (.ifCond .ne 15, 1420) := rfl
theorem kA_1408 : lkp tA_c16 1408 = some (.aload_n 3, 0) := rfl
theorem kA_1409 : lkp tA_c16 1409 = some (.iconst 0, 0) := rfl
theorem kA_1410 : lkp tA_c16 1410 = some (.laload, 0) := rfl
theorem kA_1411 : lkp tA_c16 1411 = some (.iload 7, 0) := rfl
theorem kA_1413 : lkp tA_c16 1413 = some (.i2l, 0) := rfl
theorem kA_1414 : lkp tA_c16 1414 = some (.lcmp, 0) := rfl
theorem kA_1415 : lkp tA_c16 1415 = some (.ifCond .eq 5, 1420) := rfl
theorem kA_1418 : lkp tA_c16 1418 = some (.iconst 0, 0) := rfl
theorem kA_1419 : lkp tA_c16 1419 = some (.ireturn, 0) := rfl
theorem kA_1420 : lkp tA_c16 1420 = some (.goto 657, 2077) := rfl
def tA_c17 : TB := [(1423, .aload_n 1, 1, 0), (1424, .invokevirtual 178, 3, 0), (1427, .aload_n 2, 1, 0), (1428, .invokevirtual 181, 3, 0), (1431, .if_icmp .eq 646, 3, 2077), (1434, .iconst 0, 1, 0), (1435, .ireturn, 1, 0)]
theorem tA_c17_ok : tbOk code tA_c17 = true := by decide +kernel
theorem kA_1423 : lkp tA_c17 1423 = some (.aload_n 1, 0) := rfl
theorem kA_1424 : lkp tA_c17 1424 = some (.invokevirtual 178, 0) := rfl
theorem kA_1427 : lkp tA_c17 1427 = some (.aload_n 2, 0) := rfl
theorem kA_1428 : lkp tA_c17 1428 = some (.invokevirtual 181, 0) := rfl
theorem kA_1431 : lkp tA_c17 1431 = some (.if_icmp .eq 646, 2077) := rfl
theorem kA_1434 : lkp tA_c17 1434 = some (.iconst 0, 0) := rfl
theorem kA_1435 : lkp tA_c17 1435 = some (.ireturn, 0) := rfl
def tA_c18 : TB := [(1436, .aload_n 1, 1, 0), (1437, .aload_n 0, 1, 0), (1438, .iload 5, 2, 0), (1440, .iconst 1, 1, 0), (1441, .iadd, 1, 0), (1442, .iaload, 1, 0), (1443, .aload_n 3, 1, 0), (1444, .invokestatic 182, 3, 0), (1447, .istore 6, 2, 0), (1449, .aload_n 2, 1, 0), (1450, .aload_n 0, 1, 0), (1451, .iload 5, 2, 0), (1453, .iconst 1, 1, 0), (1454, .iadd, 1, 0), (1455, .iaload, 1, 0), (1456, .invokevirtual 185, 3, 0), (1459, .istore 7, 2, 0), (1461, .aload_n 2, 1, 0), (1462, .invokevirtual 123, 3, 0), (1465, .iload 6, 2, 0), (1467, .if_icmp .eq 5, 3, 1472), (1470, .iconst 0, 1, 0), (1471, .ireturn, 1, 0), (1472, .iload 6, 2, 0), (1474, .ifCond .ne 15, 3, 1489), (1477, .aload_n 3, 1, 0), (1478, .iconst 0, 1, 0), (1479, .laload, 1, 0), (1480, .iload 7, 2, 0), (1482, .i2l, 1, 0), (1483, .lcmp, 1, 0), (1484, .ifCond .eq 5, 3, 1489), (1487, .iconst 0, 1, 0), (1488, .ireturn, 1, 0), (1489, .goto 588, 3, 2077)]
theorem tA_c18_ok : tbOk code tA_c18 = true := by decide +kernel
theorem kA_1436 : lkp tA_c18 1436 = some (.aload_n 1, 0) := rfl
theorem kA_1437 : lkp tA_c18 1437 = some (.aload_n 0, 0) := rfl
theorem kA_1438 : lkp tA_c18 1438 = some (.iload 5, 0) := rfl
theorem kA_1440 : lkp tA_c18 1440 = some (.iconst 1, 0) := rfl
theorem kA_1441 : lkp tA_c18 1441 = some (.iadd, 0) := rfl
theorem kA_1442 : lkp tA_c18 1442 = some (.iaload, 0) := rfl
theorem kA_1443 : lkp tA_c18 1443 = some (.aload_n 3, 0) := rfl
theorem kA_1444 : lkp tA_c18 1444 = some (.invokestatic 182, 0) := rfl
theorem kA_1447 : lkp tA_c18 1447 = some (.istore 6, 0) := rfl
theorem kA_1449 : lkp tA_c18 1449 = some (.aload_n 2, 0) := rfl
theorem kA_1450 : lkp tA_c18 1450 = some (.aload_n 0, 0) := rfl
theorem kA_1451 : lkp tA_c18 1451 = some (.iload 5, 0) := rfl
theorem kA_1453 : lkp tA_c18 1453 = some (.iconst 1, 0) := rfl
theorem kA_1454 : lkp tA_c18 1454 = some (.iadd, 0) := rfl
theorem kA_1455 : lkp tA_c18 1455 = some (.iaload, 0) := rfl
theorem kA_1456 : lkp tA_c18 1456 = some (.invokevirtual 185, 0) := rfl
theorem kA_1459 : lkp tA_c18 1459 = some (.istore 7, 0) := rfl
theorem kA_1461 : lkp tA_c18 1461 = some (.aload_n 2, 0) := rfl
theorem kA_1462 : lkp tA_c18 1462 = some (.invokevirtual 123, 0) := rfl
theorem kA_1465 : lkp tA_c18 1465 = some (.iload 6, 0) := rfl
theorem kA_1467 : lkp tA_c18 1467 = some (.if_icmp .eq 5, 1472) := rfl
theorem kA_1470 : lkp tA_c18 1470 = some (.iconst 0, 0) := rfl
theorem kA_1471 : lkp tA_c18 1471 = some (.ireturn, 0) := rfl
theorem kA_1472 : lkp tA_c18 1472 = some (.iload 6, 0) := rfl
theorem kA_1474 : lkp tA_c18 1474 = some (.ifCond .ne 15, 1489) := rfl
theorem kA_1477 : lkp tA_c18 1477 = some (.aload_n 3, 0) := rfl
theorem kA_1478 : lkp tA_c18 1478 = some (.iconst 0, 0) := rfl
theorem kA_1479 : lkp tA_c18 1479 = some (.laload, 0) := rfl
theorem kA_1480 : lkp tA_c18 1480 = some (.iload 7, 0) := rfl
theorem kA_1482 : lkp tA_c18 1482 = some (.i2l, 0) := rfl
theorem kA_1483 : lkp tA_c18 1483 = some (.lcmp, 0) := rfl
theorem kA_1484 : lkp tA_c18 1484 = some (.ifCond .eq 5, 1489) := rfl
theorem kA_1487 : lkp tA_c18 1487 = some (.iconst 0, 0) := rfl
theorem kA_1488 : lkp tA_c18 1488 = some (.ireturn, 0) := rfl
theorem kA_1489 : lkp tA_c18 1489 = some (.goto 588, 2077) := rfl
def tA_c19 : TB := [(1492, .aload_n 1, 1, 0), (1493, .invokevirtual 186, 3, 0), (1496, .aload_n 2, 1, 0), (1497, .invokevirtual 189, 3, 0), (1500, .if_icmp .eq 577, 3, 2077), (1503, .iconst 0, 1, 0), (1504, .ireturn, 1, 0)]
theorem tA_c19_ok : tbOk code tA_c19 = true := by decide +kernel
theorem kA_1492 : lkp tA_c19 1492 = some (.aload_n 1, 0) := rfl
theorem kA_1493 : lkp tA_c19 1493 = some (.invokevirtual 186, 0) := rfl
theorem kA_1496 : lkp tA_c19 1496 = some (.aload_n 2, 0) := rfl
theorem kA_1497 : lkp tA_c19 1497 = some (.invokevirtual 189, 0) := rfl
theorem kA_1500 : lkp tA_c19 1500 = some (.if_icmp .eq 577, 2077) := rfl
theorem kA_1503 : lkp tA_c19 1503 = some (.iconst 0, 0) := rfl
theorem kA_1504 : lkp tA_c19 1504 = some (.ireturn, 0) := rfl
def tA_c20 : TB := [(1505, .aload_n 1, 1, 0), (1506, .aload_n 0, 1, 0), (1507, .iload 5, 2, 0), (1509, .iconst 1, 1, 0), (1510, .iadd, 1, 0), (1511, .iaload, 1, 0), (1512, .aload_n 3, 1, 0), (1513, .invokestatic 190, 3, 0), (1516, .istore 6, 2, 0), (1518, .aload_n 2, 1, 0), (1519, .aload_n 0, 1, 0), (1520, .iload 5, 2, 0), (1522, .iconst 1, 1, 0), (1523, .iadd, 1, 0), (1524, .iaload, 1, 0), (1525, .invokevirtual 192, 3, 0), (1528, .istore 7, 2, 0), (1530, .aload_n 2, 1, 0), (1531, .invokevirtual 123, 3, 0), (1534, .iload 6, 2, 0), (1536, .if_icmp .eq 5, 3, 1541), (1539, .iconst 0, 1, 0), (1540, .ireturn, 1, 0), (1541, .iload 6, 2, 0), (1543, .ifCond .ne 15, 3, 1558), (1546, .aload_n 3, 1, 0), (1547, .iconst 0, 1, 0), (1548, .laload, 1, 0), (1549, .iload 7, 2, 0), (1551, .i2l, 1, 0), (1552, .lcmp, 1, 0), (1553, .ifCond .eq 5, 3, 1558), (1556, .iconst 0, 1, 0), (1557, .ireturn, 1, 0), (1558, .goto 519, 3, 2077)]
theorem tA_c20_ok : tbOk code tA_c20 = true := by decide +kernel
theorem kA_1505 : lkp tA_c20 1505 = some (.aload_n 1, 0) := rfl
theorem kA_1506 : lkp tA_c20 1506 = some (.aload_n 0, 0) := rfl
theorem kA_1507 : lkp tA_c20 1507 = some (.iload 5, 0) := rfl
theorem kA_1509 : lkp tA_c20 1509 = some (.iconst 1, 0) := rfl
theorem kA_1510 : lkp tA_c20 1510 = some (.iadd, 0) := rfl
theorem kA_1511 : lkp tA_c20 1511 = some (.iaload, 0) := rfl
theorem kA_1512 : lkp tA_c20 1512 = some (.aload_n 3, 0) := rfl
theorem kA_1513 : lkp tA_c20 1513 = some (.invokestatic 190, 0) := rfl
theorem kA_1516 : lkp tA_c20 1516 = some (.istore 6, 0) := rfl
theorem kA_1518 : lkp tA_c20 1518 = some (.aload_n 2, 0) := rfl
theorem kA_1519 : lkp tA_c20 1519 = some (.aload_n 0, 0) := rfl
theorem kA_1520 : lkp tA_c20 1520 = some (.iload 5, 0) := rfl
theorem kA_1522 : lkp tA_c20 1522 = some (.iconst 1, 0) := rfl
theorem kA_1523 : lkp tA_c20 1523 = some (.iadd, 0) := rfl
theorem kA_1524 : lkp tA_c20 1524 = some (.iaload, 0) := rfl
theorem kA_1525 : lkp tA_c20 1525 = some (.invokevirtual 192, 0) := rfl
theorem kA_1528 : lkp tA_c20 1528 = some (.istore 7, 0) := rfl
theorem kA_1530 : lkp tA_c20 1530 = some (.aload_n 2, 0) := rfl
theorem kA_1531 : lkp tA_c20 1531 = some (.invokevirtual 123, 0) := rfl
theorem kA_1534 : lkp tA_c20 1534 = some (.iload 6, 0) := rfl
theorem kA_1536 : lkp tA_c20 1536 = some (.if_icmp .eq 5, 1541) := rfl
theorem kA_1539 : lkp tA_c20 1539 = some (.iconst 0, 0) := rfl
theorem kA_1540 : lkp tA_c20 1540 = some (.ireturn, 0) := rfl
theorem kA_1541 : lkp tA_c20 1541 = some (.iload 6, 0) := rfl
theorem kA_1543 : lkp tA_c20 1543 = some (.ifCond .ne 15, 1558) := rfl
theorem kA_1546 : lkp tA_c20 1546 = some (.aload_n 3, 0) := rfl
theorem kA_1547 : lkp tA_c20 1547 = some (.iconst 0, 0) := rfl
theorem kA_1548 : lkp tA_c20 1548 = some (.laload, 0) := rfl
theorem kA_1549 : lkp tA_c20 1549 = some (.iload 7, 0) := rfl
theorem kA_1551 : lkp tA_c20 1551 = some (.i2l, 0) := rfl
theorem kA_1552 : lkp tA_c20 1552 = some (.lcmp, 0) := rfl
theorem kA_1553 : lkp tA_c20 1553 = some (.ifCond .eq 5, 1558) := rfl
theorem kA_1556 : lkp tA_c20 1556 = some (.iconst 0, 0) := rfl
theorem kA_1557 : lkp tA_c20 1557 = some (.ireturn, 0) := rfl
theorem kA_1558 : lkp tA_c20 1558 = some (.goto 519, 2077) := rfl
def tA_c21 : TB := [(1561, .aload_n 1, 1, 0), (1562, .aload_n 0, 1, 0), (1563, .iload 5, 2, 0), (1565, .iconst 1, 1, 0), (1566, .iadd, 1, 0), (1567, .iaload, 1, 0), (1568, .aload_n 0, 1, 0), (1569, .iload 5, 2, 0), (1571, .iconst 2, 1, 0), (1572, .iadd, 1, 0), (1573, .iaload, 1, 0), (1574, .aload_n 0, 1, 0), (1575, .iload 5, 2, 0), (1577, .iconst 3, 1, 0), (1578, .iadd, 1, 0), (1579, .iaload, 1, 0), (1580, .aload_n 3, 1, 0), (1581, .invokestatic 193, 3, 0), (1584, .istore 6, 2, 0), (1586, .aload_n 2, 1, 0), (1587, .aload_n 0, 1, 0), (1588, .iload 5, 2, 0), (1590, .iconst 1, 1, 0), (1591, .iadd, 1, 0), (1592, .iaload, 1, 0), (1593, .aload_n 0, 1, 0), (1594, .iload 5, 2, 0), (1596, .iconst 2, 1, 0), (1597, .iadd, 1, 0), (1598, .iaload, 1, 0), (1599, .aload_n 0, 1, 0), (1600, .iload 5, 2, 0), (1602, .iconst 3, 1, 0), (1603, .iadd, 1, 0), (1604, .iaload, 1, 0), (1605, .invokevirtual 195, 3, 0), (1608, .istore 7, 2, 0), (1610, .aload_n 2, 1, 0), (1611, .invokevirtual 123, 3, 0), (1614, .iload 6, 2, 0), (1616, .if_icmp .eq 5, 3, 1621), (1619, .iconst 0, 1, 0), (1620, .ireturn, 1, 0), (1621, .iload 6, 2, 0), (1623, .ifCond .ne 15, 3, 1638), (1626, .aload_n 3, 1, 0), (1627, .iconst 0, 1, 0), (1628, .laload, 1, 0), (1629, .iload 7, 2, 0), (1631, .i2l, 1, 0), (1632, .lcmp, 1, 0), (1633, .ifCond .eq 5, 3, 1638), (1636, .iconst 0, 1, 0), (1637, .ireturn, 1, 0), (1638, .goto 439, 3, 2077)]
theorem tA_c21_ok : tbOk code tA_c21 = true := by decide +kernel
theorem kA_1561 : lkp tA_c21 1561 = some (.aload_n 1, 0) := rfl
theorem kA_1562 : lkp tA_c21 1562 = some (.aload_n 0, 0) := rfl
theorem kA_1563 : lkp tA_c21 1563 = some (.iload 5, 0) := rfl
theorem kA_1565 : lkp tA_c21 1565 = some (.iconst 1, 0) := rfl
theorem kA_1566 : lkp tA_c21 1566 = some (.iadd, 0) := rfl
theorem kA_1567 : lkp tA_c21 1567 = some (.iaload, 0) := rfl
theorem kA_1568 : lkp tA_c21 1568 = some (.aload_n 0, 0) := rfl
theorem kA_1569 : lkp tA_c21 1569 = some (.iload 5, 0) := rfl
theorem kA_1571 : lkp tA_c21 1571 = some (.iconst 2, 0) := rfl
theorem kA_1572 : lkp tA_c21 1572 = some (.iadd, 0) := rfl
theorem kA_1573 : lkp tA_c21 1573 = some (.iaload, 0) := rfl
theorem kA_1574 : lkp tA_c21 1574 = some (.aload_n 0, 0) := rfl
theorem kA_1575 : lkp tA_c21 1575 = some (.iload 5, 0) := rfl
theorem kA_1577 : lkp tA_c21 1577 = some (.iconst 3, 0) := rfl
theorem kA_1578 : lkp tA_c21 1578 = some (.iadd, 0) := rfl
theorem kA_1579 : lkp tA_c21 1579 = some (.iaload, 0) := rfl
theorem kA_1580 : lkp tA_c21 1580 = some (.aload_n 3, 0) := rfl
theorem kA_1581 : lkp tA_c21 1581 = some (.invokestatic 193, 0) := rfl
theorem kA_1584 : lkp tA_c21 1584 = some (.istore 6, 0) := rfl
theorem kA_1586 : lkp tA_c21 1586 = some (.aload_n 2, 0) := rfl
theorem kA_1587 : lkp tA_c21 1587 = some (.aload_n 0, 0) := rfl
theorem kA_1588 : lkp tA_c21 1588 = some (.iload 5, 0) := rfl
theorem kA_1590 : lkp tA_c21 1590 = some (.iconst 1, 0) := rfl
theorem kA_1591 : lkp tA_c21 1591 = some (.iadd, 0) := rfl
theorem kA_1592 : lkp tA_c21 1592 = some (.iaload, 0) := rfl
theorem kA_1593 : lkp tA_c21 1593 = some (.aload_n 0, 0) := rfl
theorem kA_1594 : lkp tA_c21 1594 = some (.iload 5, 0) := rfl
theorem kA_1596 : lkp tA_c21 1596 = some (.iconst 2, 0) := rfl
theorem kA_1597 : lkp tA_c21 1597 = some (.iadd, 0) := rfl
theorem kA_1598 : lkp tA_c21 1598 = some (.iaload, 0) := rfl
theorem kA_1599 : lkp tA_c21 1599 = some (.aload_n 0, 0) := rfl
theorem kA_1600 : lkp tA_c21 1600 = some (.iload 5, 0) := rfl
theorem kA_1602 : lkp tA_c21 1602 = some (.iconst 3, 0) := rfl
theorem kA_1603 : lkp tA_c21 1603 = some (.iadd, 0) := rfl
theorem kA_1604 : lkp tA_c21 1604 = some (.iaload, 0) := rfl
theorem kA_1605 : lkp tA_c21 1605 = some (.invokevirtual 195, 0) := rfl
theorem kA_1608 : lkp tA_c21 1608 = some (.istore 7, 0) := rfl
theorem kA_1610 : lkp tA_c21 1610 = some (.aload_n 2, 0) := rfl
theorem kA_1611 : lkp tA_c21 1611 = some (.invokevirtual 123, 0) := rfl
theorem kA_1614 : lkp tA_c21 1614 = some (.iload 6, 0) := rfl
theorem kA_1616 : lkp tA_c21 1616 = some (.if_icmp .eq 5, 1621) := rfl
theorem kA_1619 : lkp tA_c21 1619 = some (.iconst 0, 0) := rfl
theorem kA_1620 : lkp tA_c21 1620 = some (.ireturn, 0) := rfl
theorem kA_1621 : lkp tA_c21 1621 = some (.iload 6, 0) := rfl
theorem kA_1623 : lkp tA_c21 1623 = some (.ifCond .ne 15, 1638) := rfl
theorem kA_1626 : lkp tA_c21 1626 = some (.aload_n 3, 0) := rfl
theorem kA_1627 : lkp tA_c21 1627 = some (.iconst 0, 0) := rfl
theorem kA_1628 : lkp tA_c21 1628 = some (.laload, 0) := rfl
theorem kA_1629 : lkp tA_c21 1629 = some (.iload 7, 0) := rfl
theorem kA_1631 : lkp tA_c21 1631 = some (.i2l, 0) := rfl
theorem kA_1632 : lkp tA_c21 1632 = some (.lcmp, 0) := rfl
theorem kA_1633 : lkp tA_c21 1633 = some (.ifCond .eq 5, 1638) := rfl
theorem kA_1636 : lkp tA_c21 1636 = some (.iconst 0, 0) := rfl
theorem kA_1637 : lkp tA_c21 1637 = some (.ireturn, 0) := rfl
theorem kA_1638 : lkp tA_c21 1638 = some (.goto 439, 2077) := rfl
def tA_c22 : TB := [(1641, .aload_n 1, 1, 0), (1642, .aload_n 3, 1, 0), (1643, .invokestatic 196, 3, 0), (1646, .istore 6, 2, 0), (1648, .aload_n 2, 1, 0), (1649, .invokevirtual 198, 3, 0), (1652, .istore 7, 2, 0), (1654, .aload_n 2, 1, 0), (1655, .invokevirtual 123, 3, 0), (1658, .iload 6, 2, 0), (1660, .if_icmp .eq 5, 3, 1665), (1663, .iconst 0, 1, 0), (1664, .ireturn, 1, 0), (1665, .iload 6, 2, 0), (1667, .ifCond .ne 15, 3, 1682), (1670, .aload_n 3, 1, 0), (1671, .iconst 0, 1, 0), (1672, .laload, 1, 0), (1673, .iload 7, 2, 0), (1675, .i2l, 1, 0), (1676, .lcmp, 1, 0), (1677, .ifCond .eq 5, 3, 1682), (1680, .iconst 0, 1, 0), (1681, .ireturn, 1, 0), (1682, .goto 395, 3, 2077)]
theorem tA_c22_ok : tbOk code tA_c22 = true := by decide +kernel
theorem kA_1641 : lkp tA_c22 1641 = some (.aload_n 1, 0) := rfl
theorem kA_1642 : lkp tA_c22 1642 = some (.aload_n 3, 0) := rfl
theorem kA_1643 : lkp tA_c22 1643 = some (.invokestatic 196, 0) := rfl
theorem kA_1646 : lkp tA_c22 1646 = some (.istore 6, 0) := rfl
theorem kA_1648 : lkp tA_c22 1648 = some (.aload_n 2, 0) := rfl
theorem kA_1649 : lkp tA_c22 1649 = some (.invokevirtual 198, 0) := rfl
theorem kA_1652 : lkp tA_c22 1652 = some (.istore 7, 0) := rfl
theorem kA_1654 : lkp tA_c22 1654 = some (.aload_n 2, 0) := rfl
theorem kA_1655 : lkp tA_c22 1655 = some (.invokevirtual 123, 0) := rfl
theorem kA_1658 : lkp tA_c22 1658 = some (.iload 6, 0) := rfl
theorem kA_1660 : lkp tA_c22 1660 = some (.if_icmp .eq 5, 1665) := rfl
theorem kA_1663 : lkp tA_c22 1663 = some (.iconst 0, 0) := rfl
theorem kA_1664 : lkp tA_c22 1664 = some (.ireturn, 0) := rfl
theorem kA_1665 : lkp tA_c22 1665 = some (.iload 6, 0) := rfl
theorem kA_1667 : lkp tA_c22 1667 = some (.ifCond .ne 15, 1682) := rfl
theorem kA_1670 : lkp tA_c22 1670 = some (.aload_n 3, 0) := rfl
theorem kA_1671 : lkp tA_c22 1671 = some (.iconst 0, 0) := rfl
theorem kA_1672 : lkp tA_c22 1672 = some (.laload, 0) := rfl
theorem kA_1673 : lkp tA_c22 1673 = some (.iload 7, 0) := rfl
theorem kA_1675 : lkp tA_c22 1675 = some (.i2l, 0) := rfl
theorem kA_1676 : lkp tA_c22 1676 = some (.lcmp, 0) := rfl
theorem kA_1677 : lkp tA_c22 1677 = some (.ifCond .eq 5, 1682) := rfl
theorem kA_1680 : lkp tA_c22 1680 = some (.iconst 0, 0) := rfl
theorem kA_1681 : lkp tA_c22 1681 = some (.ireturn, 0) := rfl
theorem kA_1682 : lkp tA_c22 1682 = some (.goto 395, 2077) := rfl
def tA_c23 : TB := [(1685, .aload_n 1, 1, 0), (1686, .aload_n 0, 1, 0), (1687, .iload 5, 2, 0), (1689, .iconst 1, 1, 0), (1690, .iadd, 1, 0), (1691, .iaload, 1, 0), (1692, .aload_n 0, 1, 0), (1693, .iload 5, 2, 0), (1695, .iconst 2, 1, 0), (1696, .iadd, 1, 0), (1697, .iaload, 1, 0), (1698, .aload_n 3, 1, 0), (1699, .invokestatic 199, 3, 0), (1702, .istore 6, 2, 0), (1704, .aload_n 2, 1, 0), (1705, .aload_n 0, 1, 0), (1706, .iload 5, 2, 0), (1708, .iconst 1, 1, 0), (1709, .iadd, 1, 0), (1710, .iaload, 1, 0), (1711, .aload_n 0, 1, 0), (1712, .iload 5, 2, 0), (1714, .iconst 2, 1, 0), (1715, .iadd, 1, 0), (1716, .iaload, 1, 0), (1717, .invokevirtual 201, 3, 0), (1720, .istore 7, 2, 0), (1722, .aload_n 2, 1, 0), (1723, .invokevirtual 123, 3, 0), (1726, .iload 6, 2, 0), (1728, .if_icmp .eq 5, 3, 1733), (1731, .iconst 0, 1, 0), (1732, .ireturn, 1, 0), (1733, .iload 6, 2, 0), (1735, .ifCond .ne 15, 3, 1750), (1738, .aload_n 3, 1, 0), (1739, .iconst 0, 1, 0), (1740, .laload, 1, 0), (1741, .iload 7, 2, 0), (1743, .i2l, 1, 0), (1744, .lcmp, 1, 0), (1745, .ifCond .eq 5, 3, 1750), (1748, .iconst 0, 1, 0), (1749, .ireturn, 1, 0), (1750, .goto 327, 3, 2077)]
theorem tA_c23_ok : tbOk code tA_c23 = true := by decide +kernel
theorem kA_1685 : lkp tA_c23 1685 = some (.aload_n 1, 0) := rfl
theorem kA_1686 : lkp tA_c23 1686 = some (.aload_n 0, 0) := rfl
theorem kA_1687 : lkp tA_c23 1687 = some (.iload 5, 0) := rfl
theorem kA_1689 : lkp tA_c23 1689 = some (.iconst 1, 0) := rfl
theorem kA_1690 : lkp tA_c23 1690 = some (.iadd, 0) := rfl
theorem kA_1691 : lkp tA_c23 1691 = some (.iaload, 0) := rfl
theorem kA_1692 : lkp tA_c23 1692 = some (.aload_n 0, 0) := rfl
theorem kA_1693 : lkp tA_c23 1693 = some (.iload 5, 0) := rfl
theorem kA_1695 : lkp tA_c23 1695 = some (.iconst 2, 0) := rfl
theorem kA_1696 : lkp tA_c23 1696 = some (.iadd, 0) := rfl
theorem kA_1697 : lkp tA_c23 1697 = some (.iaload, 0) := rfl
theorem kA_1698 : lkp tA_c23 1698 = some (.aload_n 3, 0) := rfl
theorem kA_1699 : lkp tA_c23 1699 = some (.invokestatic 199, 0) := rfl
theorem kA_1702 : lkp tA_c23 1702 = some (.istore 6, 0) := rfl
theorem kA_1704 : lkp tA_c23 1704 = some (.aload_n 2, 0) := rfl
theorem kA_1705 : lkp tA_c23 1705 = some (.aload_n 0, 0) := rfl
theorem kA_1706 : lkp tA_c23 1706 = some (.iload 5, 0) := rfl
theorem kA_1708 : lkp tA_c23 1708 = some (.iconst 1, 0) := rfl
theorem kA_1709 : lkp tA_c23 1709 = some (.iadd, 0) := rfl
theorem kA_1710 : lkp tA_c23 1710 = some (.iaload, 0) := rfl
theorem kA_1711 : lkp tA_c23 1711 = some (.aload_n 0, 0) := rfl
theorem kA_1712 : lkp tA_c23 1712 = some (.iload 5, 0) := rfl
theorem kA_1714 : lkp tA_c23 1714 = some (.iconst 2, 0) := rfl
theorem kA_1715 : lkp tA_c23 1715 = some (.iadd, 0) := rfl
theorem kA_1716 : lkp tA_c23 1716 = some (.iaload, 0) := rfl
theorem kA_1717 : lkp tA_c23 1717 = some (.invokevirtual 201, 0) := rfl
theorem kA_1720 : lkp tA_c23 1720 = some (.istore 7, 0) := rfl
theorem kA_1722 : lkp tA_c23 1722 = some (.aload_n 2, 0) := rfl
theorem kA_1723 : lkp tA_c23 1723 = some (.invokevirtual 123, 0) := rfl
theorem kA_1726 : lkp tA_c23 1726 = some (.iload 6, 0) := rfl
theorem kA_1728 : lkp tA_c23 1728 = some (.if_icmp .eq 5, 1733) := rfl
theorem kA_1731 : lkp tA_c23 1731 = some (.iconst 0, 0) := rfl
theorem kA_1732 : lkp tA_c23 1732 = some (.ireturn, 0) := rfl
theorem kA_1733 : lkp tA_c23 1733 = some (.iload 6, 0) := rfl
theorem kA_1735 : lkp tA_c23 1735 = some (.ifCond .ne 15, 1750) := rfl
theorem kA_1738 : lkp tA_c23 1738 = some (.aload_n 3, 0) := rfl
theorem kA_1739 : lkp tA_c23 1739 = some (.iconst 0, 0) := rfl
theorem kA_1740 : lkp tA_c23 1740 = some (.laload, 0) := rfl
theorem kA_1741 : lkp tA_c23 1741 = some (.iload 7, 0) := rfl
theorem kA_1743 : lkp tA_c23 1743 = some (.i2l, 0) := rfl
theorem kA_1744 : lkp tA_c23 1744 = some (.lcmp, 0) := rfl
theorem kA_1745 : lkp tA_c23 1745 = some (.ifCond .eq 5, 1750) := rfl
theorem kA_1748 : lkp tA_c23 1748 = some (.iconst 0, 0) := rfl
theorem kA_1749 : lkp tA_c23 1749 = some (.ireturn, 0) := rfl
theorem kA_1750 : lkp tA_c23 1750 = some (.goto 327, 2077) := rfl
def tA_c24 : TB := [(1753, .aload_n 1, 1, 0), (1754, .aload_n 0, 1, 0), (1755, .iload 5, 2, 0), (1757, .iconst 1, 1, 0), (1758, .iadd, 1, 0), (1759, .iaload, 1, 0), (1760, .aload_n 3, 1, 0), (1761, .invokestatic 202, 3, 0), (1764, .istore 6, 2, 0), (1766, .aload_n 2, 1, 0), (1767, .aload_n 0, 1, 0), (1768, .iload 5, 2, 0), (1770, .iconst 1, 1, 0), (1771, .iadd, 1, 0), (1772, .iaload, 1, 0), (1773, .invokevirtual 204, 3, 0), (1776, .istore 7, 2, 0), (1778, .aload_n 2, 1, 0), (1779, .invokevirtual 123, 3, 0), (1782, .iload 6, 2, 0), (1784, .if_icmp .eq 5, 3, 1789), (1787, .iconst 0, 1, 0), (1788, .ireturn, 1, 0), (1789, .iload 6, 2, 0), (1791, .ifCond .ne 15, 3, 1806), (1794, .aload_n 3, 1, 0), (1795, .iconst 0, 1, 0), (1796, .laload, 1, 0), (1797, .iload 7, 2, 0), (1799, .i2l, 1, 0), (1800, .lcmp, 1, 0), (1801, .ifCond .eq 5, 3, 1806), (1804, .iconst 0, 1, 0), (1805, .ireturn, 1, 0), (1806, .goto 271, 3, 2077)]
theorem tA_c24_ok : tbOk code tA_c24 = true := by decide +kernel
theorem kA_1753 : lkp tA_c24 1753 = some (.aload_n 1, 0) := rfl
theorem kA_1754 : lkp tA_c24 1754 = some (.aload_n 0, 0) := rfl
theorem kA_1755 : lkp tA_c24 1755 = some (.iload 5, 0) := rfl
theorem kA_1757 : lkp tA_c24 1757 = some (.iconst 1, 0) := rfl
theorem kA_1758 : lkp tA_c24 1758 = some (.iadd, 0) := rfl
theorem kA_1759 : lkp tA_c24 1759 = some (.iaload, 0) := rfl
theorem kA_1760 : lkp tA_c24 1760 = some (.aload_n 3, 0) := rfl
theorem kA_1761 : lkp tA_c24 1761 = some (.invokestatic 202, 0) := rfl
theorem kA_1764 : lkp tA_c24 1764 = some (.istore 6, 0) := rfl
theorem kA_1766 : lkp tA_c24 1766 = some (.aload_n 2, 0) := rfl
theorem kA_1767 : lkp tA_c24 1767 = some (.aload_n 0, 0) := rfl
theorem kA_1768 : lkp tA_c24 1768 = some (.iload 5, 0) := rfl
theorem kA_1770 : lkp tA_c24 1770 = some (.iconst 1, 0) := rfl
theorem kA_1771 : lkp tA_c24 1771 = some (.iadd, 0) := rfl
theorem kA_1772 : lkp tA_c24 1772 = some (.iaload, 0) := rfl
theorem kA_1773 : lkp tA_c24 1773 = some (.invokevirtual 204, 0) := rfl
theorem kA_1776 : lkp tA_c24 1776 = some (.istore 7, 0) := rfl
theorem kA_1778 : lkp tA_c24 1778 = some (.aload_n 2, 0) := rfl
theorem kA_1779 : lkp tA_c24 1779 = some (.invokevirtual 123, 0) := rfl
theorem kA_1782 : lkp tA_c24 1782 = some (.iload 6, 0) := rfl
theorem kA_1784 : lkp tA_c24 1784 = some (.if_icmp .eq 5, 1789) := rfl
theorem kA_1787 : lkp tA_c24 1787 = some (.iconst 0, 0) := rfl
theorem kA_1788 : lkp tA_c24 1788 = some (.ireturn, 0) := rfl
theorem kA_1789 : lkp tA_c24 1789 = some (.iload 6, 0) := rfl
theorem kA_1791 : lkp tA_c24 1791 = some (.ifCond .ne 15, 1806) := rfl
theorem kA_1794 : lkp tA_c24 1794 = some (.aload_n 3, 0) := rfl
theorem kA_1795 : lkp tA_c24 1795 = some (.iconst 0, 0) := rfl
theorem kA_1796 : lkp tA_c24 1796 = some (.laload, 0) := rfl
theorem kA_1797 : lkp tA_c24 1797 = some (.iload 7, 0) := rfl
theorem kA_1799 : lkp tA_c24 1799 = some (.i2l, 0) := rfl
theorem kA_1800 : lkp tA_c24 1800 = some (.lcmp, 0) := rfl
theorem kA_1801 : lkp tA_c24 1801 = some (.ifCond .eq 5, 1806) := rfl
theorem kA_1804 : lkp tA_c24 1804 = some (.iconst 0, 0) := rfl
theorem kA_1805 : lkp tA_c24 1805 = some (.ireturn, 0) := rfl
theorem kA_1806 : lkp tA_c24 1806 = some (.goto 271, 2077) := rfl
def tA_c25 : TB := [(1809, .aload_n 1, 1, 0), (1810, .aload 4, 2, 0), (1812, .invokestatic 205, 3, 0), (1815, .istore 6, 2, 0), (1817, .aload_n 2, 1, 0), (1818, .invokevirtual 208, 3, 0), (1821, .dstore 7, 2, 0), (1823, .aload_n 2, 1, 0), (1824, .invokevirtual 123, 3, 0), (1827, .iload 6, 2, 0), (1829, .if_icmp .eq 5, 3, 1834), (1832, .iconst 0, 1, 0), (1833, .ireturn, 1, 0), (1834, .iload 6, 2, 0), (1836, .ifCond .ne 35, 3, 1871), (1839, .aload 4, 2, 0), (1841, .iconst 0, 1, 0), (1842, .daload, 1, 0), (1843, .dload 7, 2, 0), (1845, .dcmp .l, 1, 0), (1846, .ifCond .eq 25, 3, 1871), (1849, .aload 4, 2, 0), (1851, .iconst 0, 1, 0), (1852, .daload, 1, 0), (1853, .aload 4, 2, 0), (1855, .iconst 0, 1, 0), (1856, .daload, 1, 0), (1857, .dcmp .l, 1, 0), (1858, .ifCond .eq 11, 3, 1869), (1861, .dload 7, 2, 0), (1863, .dload 7, 2, 0), (1865, .dcmp .l, 1, 0), (1866, .ifCond .ne 5, 3, 1871), (1869, .iconst 0, 1, 0), (1870, .ireturn, 1, 0), (1871, .goto 206, 3, 2077)]
theorem tA_c25_ok : tbOk code tA_c25 = true := by decide +kernel
theorem kA_1809 : lkp tA_c25 1809 = some (.aload_n 1, 0) := rfl
theorem kA_1810 : lkp tA_c25 1810 = some (.aload 4, 0) := rfl
theorem kA_1812 : lkp tA_c25 1812 = some (.invokestatic 205, 0) := rfl
theorem kA_1815 : lkp tA_c25 1815 = some (.istore 6, 0) := rfl
theorem kA_1817 : lkp tA_c25 1817 = some (.aload_n 2, 0) := rfl
theorem kA_1818 : lkp tA_c25 1818 = some (.invokevirtual 208, 0) := rfl
theorem kA_1821 : lkp tA_c25 1821 = some (.dstore 7, 0) := rfl
theorem kA_1823 : lkp tA_c25 1823 = some (.aload_n 2, 0) := rfl
theorem kA_1824 : lkp tA_c25 1824 = some (.invokevirtual 123, 0) := rfl
theorem kA_1827 : lkp tA_c25 1827 = some (.iload 6, 0) := rfl
theorem kA_1829 : lkp tA_c25 1829 = some (.if_icmp .eq 5, 1834) := rfl
theorem kA_1832 : lkp tA_c25 1832 = some (.iconst 0, 0) := rfl
theorem kA_1833 : lkp tA_c25 1833 = some (.ireturn, 0) := rfl
theorem kA_1834 : lkp tA_c25 1834 = some (.iload 6, 0) := rfl
theorem kA_1836 : lkp tA_c25 1836 = some (.ifCond .ne 35, 1871) := rfl
theorem kA_1839 : lkp tA_c25 1839 = some (.aload 4, 0) := rfl
theorem kA_1841 : lkp tA_c25 1841 = some (.iconst 0, 0) := rfl
theorem kA_1842 : lkp tA_c25 1842 = some (.daload, 0) := rfl
theorem kA_1843 : lkp tA_c25 1843 = some (.dload 7, 0) := rfl
theorem kA_1845 : lkp tA_c25 1845 = some (.dcmp .l, 0) := rfl
theorem kA_1846 : lkp tA_c25 1846 = some (.ifCond .eq 25, 1871) := rfl
theorem kA_1849 : lkp tA_c25 1849 = some (.aload 4, 0) := rfl
theorem kA_1851 : lkp tA_c25 1851 = some (.iconst 0, 0) := rfl
theorem kA_1852 : lkp tA_c25 1852 = some (.daload, 0) := rfl
theorem kA_1853 : lkp tA_c25 1853 = some (.aload 4, 0) := rfl
theorem kA_1855 : lkp tA_c25 1855 = some (.iconst 0, 0) := rfl
theorem kA_1856 : lkp tA_c25 1856 = some (.daload, 0) := rfl
theorem kA_1857 : lkp tA_c25 1857 = some (.dcmp .l, 0) := rfl
theorem kA_1858 : lkp tA_c25 1858 = some (.ifCond .eq 11, 1869) := rfl
theorem kA_1861 : lkp tA_c25 1861 = some (.dload 7, 0) := rfl
theorem kA_1863 : lkp tA_c25 1863 = some (.dload 7, 0) := rfl
theorem kA_1865 : lkp tA_c25 1865 = some (.dcmp .l, 0) := rfl
theorem kA_1866 : lkp tA_c25 1866 = some (.ifCond .ne 5, 1871) := rfl
theorem kA_1869 : lkp tA_c25 1869 = some (.iconst 0, 0) := rfl
theorem kA_1870 : lkp tA_c25 1870 = some (.ireturn, 0) := rfl
theorem kA_1871 : lkp tA_c25 1871 = some (.goto 206, 2077) := rfl
def tA_c26 : TB := [(1874, .aload_n 1, 1, 0), (1875, .aload_n 0, 1, 0), (1876, .iload 5, 2, 0), (1878, .iconst 1, 1, 0), (1879, .iadd, 1, 0), (1880, .iaload, 1, 0), (1881, .i2c, 1, 0), (1882, .aload_n 3, 1, 0), (1883, .invokestatic 209, 3, 0), (1886, .istore 6, 2, 0), (1888, .aload_n 2, 1, 0), (1889, .aload_n 0, 1, 0), (1890, .iload 5, 2, 0), (1892, .iconst 1, 1, 0), (1893, .iadd, 1, 0), (1894, .iaload, 1, 0), (1895, .i2c, 1, 0), (1896, .invokevirtual 212, 3, 0), (1899, .istore 7, 2, 0), (1901, .aload_n 2, 1, 0), (1902, .invokevirtual 123, 3, 0), (1905, .iload 6, 2, 0), (1907, .if_icmp .eq 5, 3, 1912), (1910, .iconst 0, 1, 0), (1911, .ireturn, 1, 0), (1912, .iload 6, 2, 0), (1914, .ifCond .ne 15, 3, 1929), (1917, .aload_n 3, 1, 0), (1918, .iconst 0, 1, 0), (1919, .laload, 1, 0), (1920, .iload 7, 2, 0), (1922, .i2l, 1, 0), (1923, .lcmp, 1, 0), (1924, .ifCond .eq 5, 3, 1929), (1927, .iconst 0, 1, 0), (1928, .ireturn, 1, 0), (1929, .goto 148, 3, 2077)]
theorem tA_c26_ok : tbOk code tA_c26 = true := by decide +kernel
theorem kA_1874 : lkp tA_c26 1874 = some (.aload_n 1, 0) := rfl
theorem kA_1875 : lkp tA_c26 1875 = some (.aload_n 0, 0) := rfl
theorem kA_1876 : lkp tA_c26 1876 = some (.iload 5, 0) := rfl
theorem kA_1878 : lkp tA_c26 1878 = some (.iconst 1, 0) := rfl
theorem kA_1879 : lkp tA_c26 1879 = some (.iadd, 0) := rfl
theorem kA_1880 : lkp tA_c26 1880 = some (.iaload, 0) := rfl
theorem kA_1881 : lkp tA_c26 1881 = some (.i2c, 0) := rfl
theorem kA_1882 : lkp tA_c26 1882 = some (.aload_n 3, 0) := rfl
theorem kA_1883 : lkp tA_c26 1883 = some (.invokestatic 209, 0) := rfl
theorem kA_1886 : lkp tA_c26 1886 = some (.istore 6, 0) := rfl
theorem kA_1888 : lkp tA_c26 1888 = some (.aload_n 2, 0) := rfl
theorem kA_1889 : lkp tA_c26 1889 = some (.aload_n 0, 0) := rfl
theorem kA_1890 : lkp tA_c26 1890 = some (.iload 5, 0) := rfl
theorem kA_1892 : lkp tA_c26 1892 = some (.iconst 1, 0) := rfl
theorem kA_1893 : lkp tA_c26 1893 = some (.iadd, 0) := rfl
theorem kA_1894 : lkp tA_c26 1894 = some (.iaload, 0) := rfl
theorem kA_1895 : lkp tA_c26 1895 = some (.i2c, 0) := rfl
theorem kA_1896 : lkp tA_c26 1896 = some (.invokevirtual 212, 0) := rfl
theorem kA_1899 : lkp tA_c26 1899 = some (.istore 7, 0) := rfl
theorem kA_1901 : lkp tA_c26 1901 = some (.aload_n 2, 0) := rfl
theorem kA_1902 : lkp tA_c26 1902 = some (.invokevirtual 123, 0) := rfl
theorem kA_1905 : lkp tA_c26 1905 = some (.iload 6, 0) := rfl
theorem kA_1907 : lkp tA_c26 1907 = some (.if_icmp .eq 5, 1912) := rfl
theorem kA_1910 : lkp tA_c26 1910 = some (.iconst 0, 0) := rfl
theorem kA_1911 : lkp tA_c26 1911 = some (.ireturn, 0) := rfl
theorem kA_1912 : lkp tA_c26 1912 = some (.iload 6, 0) := rfl
theorem kA_1914 : lkp tA_c26 1914 = some (.ifCond .ne 15, 1929) := rfl
theorem kA_1917 : lkp tA_c26 1917 = some (.aload_n 3, 0) := rfl
theorem kA_1918 : lkp tA_c26 1918 = some (.iconst 0, 0) := rfl
theorem kA_1919 : lkp tA_c26 1919 = some (.laload, 0) := rfl
theorem kA_1920 : lkp tA_c26 1920 = some (.iload 7, 0) := rfl
theorem kA_1922 : lkp tA_c26 1922 = some (.i2l, 0) := rfl
theorem kA_1923 : lkp tA_c26 1923 = some (.lcmp, 0) := rfl
theorem kA_1924 : lkp tA_c26 1924 = some (.ifCond .eq 5, 1929) := rfl
theorem kA_1927 : lkp tA_c26 1927 = some (.iconst 0, 0) := rfl
theorem kA_1928 : lkp tA_c26 1928 = some (.ireturn, 0) := rfl
theorem kA_1929 : lkp tA_c26 1929 = some (.goto 148, 2077) := rfl
def tA_c27 : TB := [(1932, .aload_n 1, 1, 0), (1933, .aload_n 3, 1, 0), (1934, .invokestatic 213, 3, 0), (1937, .istore 6, 2, 0), (1939, .aload_n 2, 1, 0), (1940, .invokevirtual 215, 3, 0), (1943, .istore 7, 2, 0), (1945, .aload_n 2, 1, 0), (1946, .invokevirtual 123, 3, 0), (1949, .iload 6, 2, 0), (1951, .if_icmp .eq 5, 3, 1956), (1954, .iconst 0, 1, 0), (1955, .ireturn, 1, 0), (1956, .iload 6, 2, 0), (1958, .ifCond .ne 15, 3, 1973), (1961, .aload_n 3, 1, 0), (1962, .iconst 0, 1, 0), (1963, .laload, 1, 0), (1964, .iload 7, 2, 0), (1966, .i2l, 1, 0), (1967, .lcmp, 1, 0), (1968, .ifCond .eq 5, 3, 1973), (1971, .iconst 0, 1, 0), (1972, .ireturn, 1, 0), (1973, .goto 104, 3, 2077)]
theorem tA_c27_ok : tbOk code tA_c27 = true := by decide +kernel
theorem kA_1932 : lkp tA_c27 1932 = some (.aload_n 1, 0) := rfl
theorem kA_1933 : lkp tA_c27 1933 = some (.aload_n 3, 0) := rfl
theorem kA_1934 : lkp tA_c27 1934 = some (.invokestatic 213, 0) := rfl
theorem kA_1937 : lkp tA_c27 1937 = some (.istore 6, 0) := rfl
theorem kA_1939 : lkp tA_c27 1939 = some (.aload_n 2, 0) := rfl
theorem kA_1940 : lkp tA_c27 1940 = some (.invokevirtual 215, 0) := rfl
theorem kA_1943 : lkp tA_c27 1943 = some (.istore 7, 0) := rfl
theorem kA_1945 : lkp tA_c27 1945 = some (.aload_n 2, 0) := rfl
theorem kA_1946 : lkp tA_c27 1946 = some (.invokevirtual 123, 0) := rfl
theorem kA_1949 : lkp tA_c27 1949 = some (.iload 6, 0) := rfl
theorem kA_1951 : lkp tA_c27 1951 = some (.if_icmp .eq 5, 1956) := rfl
theorem kA_1954 : lkp tA_c27 1954 = some (.iconst 0, 0) := rfl
theorem kA_1955 : lkp tA_c27 1955 = some (.ireturn, 0) := rfl
theorem kA_1956 : lkp tA_c27 1956 = some (.iload 6, 0) := rfl
theorem kA_1958 : lkp tA_c27 1958 = some (.ifCond .ne 15, 1973) := rfl
theorem kA_1961 : lkp tA_c27 1961 = some (.aload_n 3, 0) := rfl
theorem kA_1962 : lkp tA_c27 1962 = some (.iconst 0, 0) := rfl
theorem kA_1963 : lkp tA_c27 1963 = some (.laload, 0) := rfl
theorem kA_1964 : lkp tA_c27 1964 = some (.iload 7, 0) := rfl
theorem kA_1966 : lkp tA_c27 1966 = some (.i2l, 0) := rfl
theorem kA_1967 : lkp tA_c27 1967 = some (.lcmp, 0) := rfl
theorem kA_1968 : lkp tA_c27 1968 = some (.ifCond .eq 5, 1973) := rfl
theorem kA_1971 : lkp tA_c27 1971 = some (.iconst 0, 0) := rfl
theorem kA_1972 : lkp tA_c27 1972 = some (.ireturn, 0) := rfl
theorem kA_1973 : lkp tA_c27 1973 = some (.goto 104, 2077) := rfl
def tA_c28 : TB := [(1976, .aload_n 1, 1, 0), (1977, .aload_n 3, 1, 0), (1978, .invokestatic 216, 3, 0), (1981, .istore 6, 2, 0), (1983, .aload_n 2, 1, 0), (1984, .invokevirtual 218, 3, 0), (1987, .istore 7, 2, 0), (1989, .aload_n 2, 1, 0), (1990, .invokevirtual 123, 3, 0), (1993, .iload 6, 2, 0), (1995, .if_icmp .eq 5, 3, 2000), (1998, .iconst 0, 1, 0), (1999, .ireturn, 1, 0), (2000, .iload 6, 2, 0), (2002, .ifCond .ne 15, 3, 2017), (2005, .aload_n 3, 1, 0), (2006, .iconst 0, 1, 0), (2007, .laload, 1, 0), (2008, .iload 7, 2, 0), (2010, .i2l, 1, 0), (2011, .lcmp, 1, 0), (2012, .ifCond .eq 5, 3, 2017), (2015, .iconst 0, 1, 0), (2016, .ireturn, 1, 0), (2017, .goto 60, 3, 2077)]
theorem tA_c28_ok : tbOk code tA_c28 = true := by decide +kernel
theorem kA_1976 : lkp tA_c28 1976 = some (.aload_n 1, 0) := rfl
theorem kA_1977 : lkp tA_c28 1977 = some (.aload_n 3, 0) := rfl
theorem kA_1978 : lkp tA_c28 1978 = some (.invokestatic 216, 0) := rfl
theorem kA_1981 : lkp tA_c28 1981 = some (.istore 6, 0) := rfl
theorem kA_1983 : lkp tA_c28 1983 = some (.aload_n 2, 0) := rfl
theorem kA_1984 : lkp tA_c28 1984 = some (.invokevirtual 218, 0) := rfl
theorem kA_1987 : lkp tA_c28 1987 = some (.istore 7, 0) := rfl
theorem kA_1989 : lkp tA_c28 1989 = some (.aload_n 2, 0) := rfl
theorem kA_1990 : lkp tA_c28 1990 = some (.invokevirtual 123, 0) := rfl
theorem kA_1993 : lkp tA_c28 1993 = some (.iload 6, 0) := rfl
theorem kA_1995 : lkp tA_c28 1995 = some (.if_icmp .eq 5, 2000) := rfl
theorem kA_1998 : lkp tA_c28 1998 = some (.iconst 0, 0) := rfl
theorem kA_1999 : lkp tA_c28 1999 = some (.ireturn, 0) := rfl
theorem kA_2000 : lkp tA_c28 2000 = some (.iload 6, 0) := rfl
theorem kA_2002 : lkp tA_c28 2002 = some (.ifCond .ne 15, 2017) := rfl
theorem kA_2005 : lkp tA_c28 2005 = some (.aload_n 3, 0) := rfl
theorem kA_2006 : lkp tA_c28 2006 = some (.iconst 0, 0) := rfl
theorem kA_2007 : lkp tA_c28 2007 = some (.laload, 0) := rfl
theorem kA_2008 : lkp tA_c28 2008 = some (.iload 7, 0) := rfl
theorem kA_2010 : lkp tA_c28 2010 = some (.i2l, 0) := rfl
theorem kA_2011 : lkp tA_c28 2011 = some (.lcmp, 0) := rfl
theorem kA_2012 : lkp tA_c28 2012 = some (.ifCond .eq 5, 2017) := rfl
theorem kA_2015 : lkp tA_c28 2015 = some (.iconst 0, 0) := rfl
theorem kA_2016 : lkp tA_c28 2016 = some (.ireturn, 0) := rfl
theorem kA_2017 : lkp tA_c28 2017 = some (.goto 60, 2077) := rfl
def tA_c29 : TB := [(2020, .aload_n 1, 1, 0), (2021, .invokevirtual 219, 3, 0), (2024, .aload_n 2, 1, 0), (2025, .invokevirtual 222, 3, 0), (2028, .if_icmp .eq 49, 3, 2077), (2031, .iconst 0, 1, 0), (2032, .ireturn, 1, 0)]
theorem tA_c29_ok : tbOk code tA_c29 = true := by decide +kernel
theorem kA_2020 : lkp tA_c29 2020 = some (.aload_n 1, 0) := rfl
theorem kA_2021 : lkp tA_c29 2021 = some (.invokevirtual 219, 0) := rfl
theorem kA_2024 : lkp tA_c29 2024 = some (.aload_n 2, 0) := rfl
theorem kA_2025 : lkp tA_c29 2025 = some (.invokevirtual 222, 0) := rfl
theorem kA_2028 : lkp tA_c29 2028 = some (.if_icmp .eq 49, 2077) := rfl
theorem kA_2031 : lkp tA_c29 2031 = some (.iconst 0, 0) := rfl
theorem kA_2032 : lkp tA_c29 2032 = some (.ireturn, 0) := rfl
def tA_c30 : TB := [(2033, .aload_n 1, 1, 0), (2034, .aload_n 3, 1, 0), (2035, .invokestatic 223, 3, 0), (2038, .istore 6, 2, 0), (2040, .aload_n 2, 1, 0), (2041, .invokevirtual 225, 3, 0), (2044, .istore 7, 2, 0), (2046, .aload_n 2, 1, 0), (2047, .invokevirtual 123, 3, 0), (2050, .iload 6, 2, 0), (2052, .if_icmp .eq 5, 3, 2057), (2055, .iconst 0, 1, 0), (2056, .ireturn, 1, 0), (2057, .iload 6, 2, 0), (2059, .ifCond .ne 15, 3, 2074), (2062, .aload_n 3, 1, 0), (2063, .iconst 0, 1, 0), (2064, .laload, 1, 0), (2065, .iload 7, 2, 0), (2067, .i2l, 1, 0), (2068, .lcmp, 1, 0), (2069, .ifCond .eq 5, 3, 2074), (2072, .iconst 0, 1, 0), (2073, .ireturn, 1, 0), (2074, .goto 3, 3, 2077)]
theorem tA_c30_ok : tbOk code tA_c30 = true := by decide +kernel
theorem kA_2033 : lkp tA_c30 2033 = some (.aload_n 1, 0) := rfl
theorem kA_2034 : lkp tA_c30 2034 = some (.aload_n 3, 0) := rfl
theorem kA_2035 : lkp tA_c30 2035 = some (.invokestatic 223, 0) := rfl
theorem kA_2038 : lkp tA_c30 2038 = some (.istore 6, 0) := rfl
theorem kA_2040 : lkp tA_c30 2040 = some (.aload_n 2, 0) := rfl
theorem kA_2041 : lkp tA_c30 2041 = some (.invokevirtual 225, 0) := rfl
theorem kA_2044 : lkp tA_c30 2044 = some (.istore 7, 0) := rfl
theorem kA_2046 : lkp tA_c30 2046 = some (.aload_n 2, 0) := rfl
theorem kA_2047 : lkp tA_c30 2047 = some (.invokevirtual 123, 0) := rfl
theorem kA_2050 : lkp tA_c30 2050 = some (.iload 6, 0) := rfl
theorem kA_2052 : lkp tA_c30 2052 = some (.if_icmp .eq 5, 2057) := rfl
theorem kA_2055 : lkp tA_c30 2055 = some (.iconst 0, 0) := rfl
theorem kA_2056 : lkp tA_c30 2056 = some (.ireturn, 0) := rfl
theorem kA_2057 : lkp tA_c30 2057 = some (.iload 6, 0) := rfl
theorem kA_2059 : lkp tA_c30 2059 = some (.ifCond .ne 15, 2074) := rfl
theorem kA_2062 : lkp tA_c30 2062 = some (.aload_n 3, 0) := rfl
theorem kA_2063 : lkp tA_c30 2063 = some (.iconst 0, 0) := rfl
theorem kA_2064 : lkp tA_c30 2064 = some (.laload, 0) := rfl
theorem kA_2065 : lkp tA_c30 2065 = some (.iload 7, 0) := rfl
theorem kA_2067 : lkp tA_c30 2067 = some (.i2l, 0) := rfl
theorem kA_2068 : lkp tA_c30 2068 = some (.lcmp, 0) := rfl
theorem kA_2069 : lkp tA_c30 2069 = some (.ifCond .eq 5, 2074) := rfl
theorem kA_2072 : lkp tA_c30 2072 = some (.iconst 0, 0) := rfl
theorem kA_2073 : lkp tA_c30 2073 = some (.ireturn, 0) := rfl
theorem kA_2074 : lkp tA_c30 2074 = some (.goto 3, 2077) := rfl
