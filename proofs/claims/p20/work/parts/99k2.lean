/-! ===== the law's loop ===== -/
def zm_19 : za_MI := (yX11_fault, prog_1_method_6_code, 1, (some FieldType.int), 11, 0, 0, [], za_i19)
theorem zm_19_t : za_MT 19 = some zm_19 := rfl
def zm_22 : za_MI := (yX11_exam, prog_1_method_19_code, 5, (some FieldType.int), 11, 0, 0, [], za_i22)
theorem zm_22_t : za_MT 22 = some zm_22 := rfl
def zm_100 : za_MI := (yL_count, method_4_code, 4, (some FieldType.int), 13, 1, 6, [(0, 9, 12, 18)], za_i100)
theorem zm_100_t : za_MT 100 = some zm_100 := rfl
def zm_120 : za_MI := (yL_explained, method_11_code, 4, (some FieldType.int), 13, 1, 6, [(0, 16, 19, 18)], za_i120)
theorem zm_120_t : za_MT 120 = some zm_120 := rfl
def zm_122 : za_MI := (yL_where, method_12_code, 5, (some FieldType.int), 13, 2, 12, [(0, 9, 12, 18)], za_i122)
theorem zm_122_t : za_MT 122 = some zm_122 := rfl
def zm_132 : za_MI := (yL_pilot, method_13_code, 5, (some FieldType.int), 13, 2, 12, [(0, 10, 13, 18)], za_i132)
theorem zm_132_t : za_MT 132 = some zm_132 := rfl
def zm_135 : za_MI := (yL_sails, method_14_code, 6, (some FieldType.int), 13, 3, 18, [(0, 12, 15, 18), (0, 12, 19, 13)], za_i135)
theorem zm_135_t : za_MT 135 = some zm_135 := rfl
def zm_137 : za_MI := (yL_study, method_15_code, 4, (some FieldType.int), 13, 1, 6, [(0, 9, 12, 18)], za_i137)
theorem zm_137_t : za_MT 137 = some zm_137 := rfl
def zm_150 : za_MI := (yL_studied, method_16_code, 4, (some FieldType.int), 13, 1, 6, [(0, 9, 12, 18)], za_i150)
theorem zm_150_t : za_MT 150 = some zm_150 := rfl
def zm_155 : za_MI := (yL_chart, method_18_code, 4, (some FieldType.int), 13, 1, 6, [(0, 8, 11, 18)], za_i155)
theorem zm_155_t : za_MT 155 = some zm_155 := rfl
def zm_157 : za_MI := (yL_hand, method_19_code, 5, (some FieldType.int), 13, 2, 12, [(0, 9, 12, 18)], za_i157)
theorem zm_157_t : za_MT 157 = some zm_157 := rfl
def zm_162 : za_MI := (yL_copied, method_20_code, 6, (some FieldType.int), 13, 4, 24, [(0, 12, 15, 18), (0, 12, 19, 13)], za_i162)
theorem zm_162_t : za_MT 162 = some zm_162 := rfl
def zm_205 : za_MI := (yX12_fault, prog_14_method_43_code, 1, (some FieldType.int), 12, 0, 0, [], za_i205)
theorem zm_205_t : za_MT 205 = some zm_205 := rfl
def zm_206 : za_MI := (yX12_count, prog_14_method_44_code, 2, (some FieldType.int), 12, 0, 0, [], za_i206)
theorem zm_206_t : za_MT 206 = some zm_206 := rfl
def zm_224 : za_MI := (yX12_explained, prog_14_method_62_code, 4, (some FieldType.boolean), 12, 0, 0, [], za_i224)
theorem zm_224_t : za_MT 224 = some zm_224 := rfl
def zm_225 : za_MI := (yX12_where, prog_14_method_64_code, 8, (some FieldType.long), 12, 0, 0, [], za_i225)
theorem zm_225_t : za_MT 225 = some zm_225 := rfl
def zm_227 : za_MI := (yX12_pilot, prog_14_method_65_code, 3, (some FieldType.int), 12, 0, 0, [], za_i227)
theorem zm_227_t : za_MT 227 = some zm_227 := rfl
def zm_229 : za_MI := (yX12_sails, prog_14_method_72_code, 4, (some FieldType.int), 12, 0, 0, [], za_i229)
theorem zm_229_t : za_MT 229 = some zm_229 := rfl
def zm_236 : za_MI := (yX12_exam, prog_14_method_73_code, 3, (some FieldType.int), 12, 0, 0, [], za_i236)
theorem zm_236_t : za_MT 236 = some zm_236 := rfl
def zm_237 : za_MI := (yX12_study, prog_14_method_77_code, 3, (some FieldType.int), 12, 0, 0, [], za_i237)
theorem zm_237_t : za_MT 237 = some zm_237 := rfl
def zm_242 : za_MI := (yX12_studied, prog_14_method_78_code, 2, (some FieldType.int), 12, 0, 0, [], za_i242)
theorem zm_242_t : za_MT 242 = some zm_242 := rfl
def zm_244 : za_MI := (yX12_chart, prog_14_method_80_code, 9, (some FieldType.long), 12, 0, 0, [], za_i244)
theorem zm_244_t : za_MT 244 = some zm_244 := rfl
def zm_245 : za_MI := (yX12_hand, prog_14_method_82_code, 13, (some FieldType.long), 12, 0, 0, [], za_i245)
theorem zm_245_t : za_MT 245 = some zm_245 := rfl
def zm_247 : za_MI := (yX12_copied, prog_14_method_84_code, 9, (some FieldType.int), 12, 0, 0, [], za_i247)
theorem zm_247_t : za_MT 247 = some zm_247 := rfl
def zm_251 : za_MI := (yX12_thrown, prog_14_method_2_code, 1, (some FieldType.int), 12, 0, 0, [], za_i251)
set_option maxRecDepth 8000 in
theorem zm_251_t : za_MT 251 = some zm_251 := rfl
theorem zv_add {i : Int32} {k : Int} (hk : (Int32.ofInt k).toInt = k) (h : -2147483648 ≤ i.toInt + k ∧ i.toInt + k ≤ 2147483647) : (i + Int32.ofInt k).toInt = i.toInt + k := by
  rw [zq_add (by rw [hk]; exact h.1) (by rw [hk]; exact h.2), hk]
theorem zv_i23 : za_fe (za_is zL) 23 = some (.iload 4) := by decide +kernel
theorem zv_i25 : za_fe (za_is zL) 25 = some (.aload_n 0) := by decide +kernel
theorem zv_i26 : za_fe (za_is zL) 26 = some (.arraylength) := by decide +kernel
theorem zv_i27 : za_fe (za_is zL) 27 = some (.bipush 6) := by decide +kernel
theorem zv_i29 : za_fe (za_is zL) 29 = some (.isub) := by decide +kernel
theorem zv_i30 : za_fe (za_is zL) 30 = some (.if_icmp .gt 1000) := by decide +kernel
theorem zv_i33 : za_fe (za_is zL) 33 = some (.aload_n 0) := by decide +kernel
theorem zv_i34 : za_fe (za_is zL) 34 = some (.iload 4) := by decide +kernel
theorem zv_i36 : za_fe (za_is zL) 36 = some (.iaload) := by decide +kernel
theorem zv_i37 : za_fe (za_is zL) 37 = some (.bipush 31) := by decide +kernel
theorem zv_i39 : za_fe (za_is zL) 39 = some (.iand) := by decide +kernel
theorem zv_i40 : za_fe (za_is zL) 40 = some (.tableswitch 984 0 23 #[112, 185, 213, 226, 254, 294, 334, 386, 438, 490, 503, 543, 571, 611, 651, 703, 716, 744, 772, 840, 868, 908, 960, 971]) := by decide +kernel
theorem zv_i152 : za_fe (za_is zL) 152 = some (.aload_n 1) := by decide +kernel
theorem zv_i153 : za_fe (za_is zL) 153 = some (.aload_n 0) := by decide +kernel
theorem zv_i154 : za_fe (za_is zL) 154 = some (.iload 4) := by decide +kernel
theorem zv_i156 : za_fe (za_is zL) 156 = some (.iconst 1) := by decide +kernel
theorem zv_i157 : za_fe (za_is zL) 157 = some (.iadd) := by decide +kernel
theorem zv_i158 : za_fe (za_is zL) 158 = some (.iaload) := by decide +kernel
theorem zv_i159 : za_fe (za_is zL) 159 = some (.aload_n 0) := by decide +kernel
theorem zv_i160 : za_fe (za_is zL) 160 = some (.iload 4) := by decide +kernel
theorem zv_i162 : za_fe (za_is zL) 162 = some (.iconst 2) := by decide +kernel
theorem zv_i163 : za_fe (za_is zL) 163 = some (.iadd) := by decide +kernel
theorem zv_i164 : za_fe (za_is zL) 164 = some (.iaload) := by decide +kernel
theorem zv_i165 : za_fe (za_is zL) 165 = some (.aload_n 0) := by decide +kernel
theorem zv_i166 : za_fe (za_is zL) 166 = some (.iload 4) := by decide +kernel
theorem zv_i168 : za_fe (za_is zL) 168 = some (.iconst 3) := by decide +kernel
theorem zv_i169 : za_fe (za_is zL) 169 = some (.iadd) := by decide +kernel
theorem zv_i170 : za_fe (za_is zL) 170 = some (.iaload) := by decide +kernel
theorem zv_i171 : za_fe (za_is zL) 171 = some (.aload_n 0) := by decide +kernel
theorem zv_i172 : za_fe (za_is zL) 172 = some (.iload 4) := by decide +kernel
theorem zv_i174 : za_fe (za_is zL) 174 = some (.iconst 4) := by decide +kernel
theorem zv_i175 : za_fe (za_is zL) 175 = some (.iadd) := by decide +kernel
theorem zv_i176 : za_fe (za_is zL) 176 = some (.iaload) := by decide +kernel
theorem zv_i177 : za_fe (za_is zL) 177 = some (.aload_n 0) := by decide +kernel
theorem zv_i178 : za_fe (za_is zL) 178 = some (.iload 4) := by decide +kernel
theorem zv_i180 : za_fe (za_is zL) 180 = some (.iconst 5) := by decide +kernel
theorem zv_i181 : za_fe (za_is zL) 181 = some (.iadd) := by decide +kernel
theorem zv_i182 : za_fe (za_is zL) 182 = some (.iaload) := by decide +kernel
theorem zv_i183 : za_fe (za_is zL) 183 = some (.invokevirtual 77) := by decide +kernel
theorem zv_i186 : za_fe (za_is zL) 186 = some (.pop) := by decide +kernel
theorem zv_i187 : za_fe (za_is zL) 187 = some (.aload_n 2) := by decide +kernel
theorem zv_i188 : za_fe (za_is zL) 188 = some (.aload_n 0) := by decide +kernel
theorem zv_i189 : za_fe (za_is zL) 189 = some (.iload 4) := by decide +kernel
theorem zv_i191 : za_fe (za_is zL) 191 = some (.iconst 1) := by decide +kernel
theorem zv_i192 : za_fe (za_is zL) 192 = some (.iadd) := by decide +kernel
theorem zv_i193 : za_fe (za_is zL) 193 = some (.iaload) := by decide +kernel
theorem zv_i194 : za_fe (za_is zL) 194 = some (.aload_n 0) := by decide +kernel
theorem zv_i195 : za_fe (za_is zL) 195 = some (.iload 4) := by decide +kernel
theorem zv_i197 : za_fe (za_is zL) 197 = some (.iconst 2) := by decide +kernel
theorem zv_i198 : za_fe (za_is zL) 198 = some (.iadd) := by decide +kernel
theorem zv_i199 : za_fe (za_is zL) 199 = some (.iaload) := by decide +kernel
theorem zv_i200 : za_fe (za_is zL) 200 = some (.aload_n 0) := by decide +kernel
theorem zv_i201 : za_fe (za_is zL) 201 = some (.iload 4) := by decide +kernel
theorem zv_i203 : za_fe (za_is zL) 203 = some (.iconst 3) := by decide +kernel
theorem zv_i204 : za_fe (za_is zL) 204 = some (.iadd) := by decide +kernel
theorem zv_i205 : za_fe (za_is zL) 205 = some (.iaload) := by decide +kernel
theorem zv_i206 : za_fe (za_is zL) 206 = some (.aload_n 0) := by decide +kernel
theorem zv_i207 : za_fe (za_is zL) 207 = some (.iload 4) := by decide +kernel
theorem zv_i209 : za_fe (za_is zL) 209 = some (.iconst 4) := by decide +kernel
theorem zv_i210 : za_fe (za_is zL) 210 = some (.iadd) := by decide +kernel
theorem zv_i211 : za_fe (za_is zL) 211 = some (.iaload) := by decide +kernel
theorem zv_i212 : za_fe (za_is zL) 212 = some (.aload_n 0) := by decide +kernel
theorem zv_i213 : za_fe (za_is zL) 213 = some (.iload 4) := by decide +kernel
theorem zv_i215 : za_fe (za_is zL) 215 = some (.iconst 5) := by decide +kernel
theorem zv_i216 : za_fe (za_is zL) 216 = some (.iadd) := by decide +kernel
theorem zv_i217 : za_fe (za_is zL) 217 = some (.iaload) := by decide +kernel
theorem zv_i218 : za_fe (za_is zL) 218 = some (.invokevirtual 81) := by decide +kernel
theorem zv_i221 : za_fe (za_is zL) 221 = some (.pop) := by decide +kernel
theorem zv_i222 : za_fe (za_is zL) 222 = some (.goto 802) := by decide +kernel
theorem zv_i225 : za_fe (za_is zL) 225 = some (.aload_n 1) := by decide +kernel
theorem zv_i226 : za_fe (za_is zL) 226 = some (.aload_n 0) := by decide +kernel
theorem zv_i227 : za_fe (za_is zL) 227 = some (.iload 4) := by decide +kernel
theorem zv_i229 : za_fe (za_is zL) 229 = some (.iconst 1) := by decide +kernel
theorem zv_i230 : za_fe (za_is zL) 230 = some (.iadd) := by decide +kernel
theorem zv_i231 : za_fe (za_is zL) 231 = some (.iaload) := by decide +kernel
theorem zv_i232 : za_fe (za_is zL) 232 = some (.aload_n 3) := by decide +kernel
theorem zv_i233 : za_fe (za_is zL) 233 = some (.invokestatic 82) := by decide +kernel
theorem zv_i236 : za_fe (za_is zL) 236 = some (.istore 5) := by decide +kernel
theorem zv_i238 : za_fe (za_is zL) 238 = some (.aload_n 2) := by decide +kernel
theorem zv_i239 : za_fe (za_is zL) 239 = some (.aload_n 0) := by decide +kernel
theorem zv_i240 : za_fe (za_is zL) 240 = some (.iload 4) := by decide +kernel
theorem zv_i242 : za_fe (za_is zL) 242 = some (.iconst 1) := by decide +kernel
theorem zv_i243 : za_fe (za_is zL) 243 = some (.iadd) := by decide +kernel
theorem zv_i244 : za_fe (za_is zL) 244 = some (.iaload) := by decide +kernel
theorem zv_i245 : za_fe (za_is zL) 245 = some (.invokevirtual 87) := by decide +kernel
theorem zv_i248 : za_fe (za_is zL) 248 = some (.istore 6) := by decide +kernel
theorem zv_i250 : za_fe (za_is zL) 250 = some (.goto 774) := by decide +kernel
theorem zv_i253 : za_fe (za_is zL) 253 = some (.aload_n 1) := by decide +kernel
theorem zv_i254 : za_fe (za_is zL) 254 = some (.invokevirtual 88) := by decide +kernel
theorem zv_i257 : za_fe (za_is zL) 257 = some (.pop) := by decide +kernel
theorem zv_i258 : za_fe (za_is zL) 258 = some (.aload_n 2) := by decide +kernel
theorem zv_i259 : za_fe (za_is zL) 259 = some (.invokevirtual 92) := by decide +kernel
theorem zv_i262 : za_fe (za_is zL) 262 = some (.pop) := by decide +kernel
theorem zv_i263 : za_fe (za_is zL) 263 = some (.goto 761) := by decide +kernel
theorem zv_i266 : za_fe (za_is zL) 266 = some (.aload_n 1) := by decide +kernel
theorem zv_i267 : za_fe (za_is zL) 267 = some (.aload_n 0) := by decide +kernel
theorem zv_i268 : za_fe (za_is zL) 268 = some (.iload 4) := by decide +kernel
theorem zv_i270 : za_fe (za_is zL) 270 = some (.iconst 1) := by decide +kernel
theorem zv_i271 : za_fe (za_is zL) 271 = some (.iadd) := by decide +kernel
theorem zv_i272 : za_fe (za_is zL) 272 = some (.iaload) := by decide +kernel
theorem zv_i273 : za_fe (za_is zL) 273 = some (.aload_n 3) := by decide +kernel
theorem zv_i274 : za_fe (za_is zL) 274 = some (.invokestatic 93) := by decide +kernel
theorem zv_i277 : za_fe (za_is zL) 277 = some (.istore 5) := by decide +kernel
theorem zv_i279 : za_fe (za_is zL) 279 = some (.aload_n 2) := by decide +kernel
theorem zv_i280 : za_fe (za_is zL) 280 = some (.aload_n 0) := by decide +kernel
theorem zv_i281 : za_fe (za_is zL) 281 = some (.iload 4) := by decide +kernel
theorem zv_i283 : za_fe (za_is zL) 283 = some (.iconst 1) := by decide +kernel
theorem zv_i284 : za_fe (za_is zL) 284 = some (.iadd) := by decide +kernel
theorem zv_i285 : za_fe (za_is zL) 285 = some (.iaload) := by decide +kernel
theorem zv_i286 : za_fe (za_is zL) 286 = some (.invokevirtual 95) := by decide +kernel
theorem zv_i289 : za_fe (za_is zL) 289 = some (.istore 6) := by decide +kernel
theorem zv_i291 : za_fe (za_is zL) 291 = some (.goto 733) := by decide +kernel
theorem zv_i294 : za_fe (za_is zL) 294 = some (.aload_n 1) := by decide +kernel
theorem zv_i295 : za_fe (za_is zL) 295 = some (.aload_n 0) := by decide +kernel
theorem zv_i296 : za_fe (za_is zL) 296 = some (.iload 4) := by decide +kernel
theorem zv_i298 : za_fe (za_is zL) 298 = some (.iconst 1) := by decide +kernel
theorem zv_i299 : za_fe (za_is zL) 299 = some (.iadd) := by decide +kernel
theorem zv_i300 : za_fe (za_is zL) 300 = some (.iaload) := by decide +kernel
theorem zv_i301 : za_fe (za_is zL) 301 = some (.aload_n 0) := by decide +kernel
theorem zv_i302 : za_fe (za_is zL) 302 = some (.iload 4) := by decide +kernel
theorem zv_i304 : za_fe (za_is zL) 304 = some (.iconst 2) := by decide +kernel
theorem zv_i305 : za_fe (za_is zL) 305 = some (.iadd) := by decide +kernel
theorem zv_i306 : za_fe (za_is zL) 306 = some (.iaload) := by decide +kernel
theorem zv_i307 : za_fe (za_is zL) 307 = some (.aload_n 3) := by decide +kernel
theorem zv_i308 : za_fe (za_is zL) 308 = some (.invokestatic 96) := by decide +kernel
theorem zv_i311 : za_fe (za_is zL) 311 = some (.istore 5) := by decide +kernel
theorem zv_i313 : za_fe (za_is zL) 313 = some (.aload_n 2) := by decide +kernel
theorem zv_i314 : za_fe (za_is zL) 314 = some (.aload_n 0) := by decide +kernel
theorem zv_i315 : za_fe (za_is zL) 315 = some (.iload 4) := by decide +kernel
theorem zv_i317 : za_fe (za_is zL) 317 = some (.iconst 1) := by decide +kernel
theorem zv_i318 : za_fe (za_is zL) 318 = some (.iadd) := by decide +kernel
theorem zv_i319 : za_fe (za_is zL) 319 = some (.iaload) := by decide +kernel
theorem zv_i320 : za_fe (za_is zL) 320 = some (.aload_n 0) := by decide +kernel
theorem zv_i321 : za_fe (za_is zL) 321 = some (.iload 4) := by decide +kernel
theorem zv_i323 : za_fe (za_is zL) 323 = some (.iconst 2) := by decide +kernel
theorem zv_i324 : za_fe (za_is zL) 324 = some (.iadd) := by decide +kernel
theorem zv_i325 : za_fe (za_is zL) 325 = some (.iaload) := by decide +kernel
theorem zv_i326 : za_fe (za_is zL) 326 = some (.invokevirtual 99) := by decide +kernel
theorem zv_i329 : za_fe (za_is zL) 329 = some (.istore 6) := by decide +kernel
theorem zv_i331 : za_fe (za_is zL) 331 = some (.goto 693) := by decide +kernel
theorem zv_i334 : za_fe (za_is zL) 334 = some (.aload_n 1) := by decide +kernel
theorem zv_i335 : za_fe (za_is zL) 335 = some (.aload_n 0) := by decide +kernel
theorem zv_i336 : za_fe (za_is zL) 336 = some (.iload 4) := by decide +kernel
theorem zv_i338 : za_fe (za_is zL) 338 = some (.iconst 1) := by decide +kernel
theorem zv_i339 : za_fe (za_is zL) 339 = some (.iadd) := by decide +kernel
theorem zv_i340 : za_fe (za_is zL) 340 = some (.iaload) := by decide +kernel
theorem zv_i341 : za_fe (za_is zL) 341 = some (.aload_n 0) := by decide +kernel
theorem zv_i342 : za_fe (za_is zL) 342 = some (.iload 4) := by decide +kernel
theorem zv_i344 : za_fe (za_is zL) 344 = some (.iconst 2) := by decide +kernel
theorem zv_i345 : za_fe (za_is zL) 345 = some (.iadd) := by decide +kernel
theorem zv_i346 : za_fe (za_is zL) 346 = some (.iaload) := by decide +kernel
theorem zv_i347 : za_fe (za_is zL) 347 = some (.aload_n 3) := by decide +kernel
theorem zv_i348 : za_fe (za_is zL) 348 = some (.invokestatic 100) := by decide +kernel
theorem zv_i351 : za_fe (za_is zL) 351 = some (.istore 5) := by decide +kernel
theorem zv_i353 : za_fe (za_is zL) 353 = some (.aload_n 2) := by decide +kernel
theorem zv_i354 : za_fe (za_is zL) 354 = some (.aload_n 0) := by decide +kernel
theorem zv_i355 : za_fe (za_is zL) 355 = some (.iload 4) := by decide +kernel
theorem zv_i357 : za_fe (za_is zL) 357 = some (.iconst 1) := by decide +kernel
theorem zv_i358 : za_fe (za_is zL) 358 = some (.iadd) := by decide +kernel
theorem zv_i359 : za_fe (za_is zL) 359 = some (.iaload) := by decide +kernel
theorem zv_i360 : za_fe (za_is zL) 360 = some (.aload_n 0) := by decide +kernel
theorem zv_i361 : za_fe (za_is zL) 361 = some (.iload 4) := by decide +kernel
theorem zv_i363 : za_fe (za_is zL) 363 = some (.iconst 2) := by decide +kernel
theorem zv_i364 : za_fe (za_is zL) 364 = some (.iadd) := by decide +kernel
theorem zv_i365 : za_fe (za_is zL) 365 = some (.iaload) := by decide +kernel
theorem zv_i366 : za_fe (za_is zL) 366 = some (.invokevirtual 102) := by decide +kernel
theorem zv_i369 : za_fe (za_is zL) 369 = some (.istore 6) := by decide +kernel
theorem zv_i371 : za_fe (za_is zL) 371 = some (.goto 653) := by decide +kernel
theorem zv_i374 : za_fe (za_is zL) 374 = some (.aload_n 1) := by decide +kernel
theorem zv_i375 : za_fe (za_is zL) 375 = some (.aload_n 0) := by decide +kernel
theorem zv_i376 : za_fe (za_is zL) 376 = some (.iload 4) := by decide +kernel
theorem zv_i378 : za_fe (za_is zL) 378 = some (.iconst 1) := by decide +kernel
theorem zv_i379 : za_fe (za_is zL) 379 = some (.iadd) := by decide +kernel
theorem zv_i380 : za_fe (za_is zL) 380 = some (.iaload) := by decide +kernel
theorem zv_i381 : za_fe (za_is zL) 381 = some (.aload_n 0) := by decide +kernel
theorem zv_i382 : za_fe (za_is zL) 382 = some (.iload 4) := by decide +kernel
theorem zv_i384 : za_fe (za_is zL) 384 = some (.iconst 2) := by decide +kernel
theorem zv_i385 : za_fe (za_is zL) 385 = some (.iadd) := by decide +kernel
theorem zv_i386 : za_fe (za_is zL) 386 = some (.iaload) := by decide +kernel
theorem zv_i387 : za_fe (za_is zL) 387 = some (.aload_n 0) := by decide +kernel
theorem zv_i388 : za_fe (za_is zL) 388 = some (.iload 4) := by decide +kernel
theorem zv_i390 : za_fe (za_is zL) 390 = some (.iconst 3) := by decide +kernel
theorem zv_i391 : za_fe (za_is zL) 391 = some (.iadd) := by decide +kernel
theorem zv_i392 : za_fe (za_is zL) 392 = some (.iaload) := by decide +kernel
theorem zv_i393 : za_fe (za_is zL) 393 = some (.aload_n 3) := by decide +kernel
theorem zv_i394 : za_fe (za_is zL) 394 = some (.invokestatic 103) := by decide +kernel
theorem zv_i397 : za_fe (za_is zL) 397 = some (.istore 5) := by decide +kernel
theorem zv_i399 : za_fe (za_is zL) 399 = some (.aload_n 2) := by decide +kernel
theorem zv_i400 : za_fe (za_is zL) 400 = some (.aload_n 0) := by decide +kernel
theorem zv_i401 : za_fe (za_is zL) 401 = some (.iload 4) := by decide +kernel
theorem zv_i403 : za_fe (za_is zL) 403 = some (.iconst 1) := by decide +kernel
theorem zv_i404 : za_fe (za_is zL) 404 = some (.iadd) := by decide +kernel
theorem zv_i405 : za_fe (za_is zL) 405 = some (.iaload) := by decide +kernel
theorem zv_i406 : za_fe (za_is zL) 406 = some (.aload_n 0) := by decide +kernel
theorem zv_i407 : za_fe (za_is zL) 407 = some (.iload 4) := by decide +kernel
theorem zv_i409 : za_fe (za_is zL) 409 = some (.iconst 2) := by decide +kernel
theorem zv_i410 : za_fe (za_is zL) 410 = some (.iadd) := by decide +kernel
theorem zv_i411 : za_fe (za_is zL) 411 = some (.iaload) := by decide +kernel
theorem zv_i412 : za_fe (za_is zL) 412 = some (.aload_n 0) := by decide +kernel
theorem zv_i413 : za_fe (za_is zL) 413 = some (.iload 4) := by decide +kernel
theorem zv_i415 : za_fe (za_is zL) 415 = some (.iconst 3) := by decide +kernel
theorem zv_i416 : za_fe (za_is zL) 416 = some (.iadd) := by decide +kernel
theorem zv_i417 : za_fe (za_is zL) 417 = some (.iaload) := by decide +kernel
theorem zv_i418 : za_fe (za_is zL) 418 = some (.invokevirtual 106) := by decide +kernel
theorem zv_i421 : za_fe (za_is zL) 421 = some (.istore 6) := by decide +kernel
theorem zv_i423 : za_fe (za_is zL) 423 = some (.goto 601) := by decide +kernel
theorem zv_i426 : za_fe (za_is zL) 426 = some (.aload_n 1) := by decide +kernel
theorem zv_i427 : za_fe (za_is zL) 427 = some (.aload_n 0) := by decide +kernel
theorem zv_i428 : za_fe (za_is zL) 428 = some (.iload 4) := by decide +kernel
theorem zv_i430 : za_fe (za_is zL) 430 = some (.iconst 1) := by decide +kernel
theorem zv_i431 : za_fe (za_is zL) 431 = some (.iadd) := by decide +kernel
theorem zv_i432 : za_fe (za_is zL) 432 = some (.iaload) := by decide +kernel
theorem zv_i433 : za_fe (za_is zL) 433 = some (.aload_n 0) := by decide +kernel
theorem zv_i434 : za_fe (za_is zL) 434 = some (.iload 4) := by decide +kernel
theorem zv_i436 : za_fe (za_is zL) 436 = some (.iconst 2) := by decide +kernel
theorem zv_i437 : za_fe (za_is zL) 437 = some (.iadd) := by decide +kernel
theorem zv_i438 : za_fe (za_is zL) 438 = some (.iaload) := by decide +kernel
theorem zv_i439 : za_fe (za_is zL) 439 = some (.aload_n 0) := by decide +kernel
theorem zv_i440 : za_fe (za_is zL) 440 = some (.iload 4) := by decide +kernel
theorem zv_i442 : za_fe (za_is zL) 442 = some (.iconst 3) := by decide +kernel
theorem zv_i443 : za_fe (za_is zL) 443 = some (.iadd) := by decide +kernel
theorem zv_i444 : za_fe (za_is zL) 444 = some (.iaload) := by decide +kernel
theorem zv_i445 : za_fe (za_is zL) 445 = some (.aload_n 3) := by decide +kernel
theorem zv_i446 : za_fe (za_is zL) 446 = some (.invokestatic 107) := by decide +kernel
theorem zv_i449 : za_fe (za_is zL) 449 = some (.istore 5) := by decide +kernel
theorem zv_i451 : za_fe (za_is zL) 451 = some (.aload_n 2) := by decide +kernel
theorem zv_i452 : za_fe (za_is zL) 452 = some (.aload_n 0) := by decide +kernel
theorem zv_i453 : za_fe (za_is zL) 453 = some (.iload 4) := by decide +kernel
theorem zv_i455 : za_fe (za_is zL) 455 = some (.iconst 1) := by decide +kernel
theorem zv_i456 : za_fe (za_is zL) 456 = some (.iadd) := by decide +kernel
theorem zv_i457 : za_fe (za_is zL) 457 = some (.iaload) := by decide +kernel
theorem zv_i458 : za_fe (za_is zL) 458 = some (.aload_n 0) := by decide +kernel
theorem zv_i459 : za_fe (za_is zL) 459 = some (.iload 4) := by decide +kernel
theorem zv_i461 : za_fe (za_is zL) 461 = some (.iconst 2) := by decide +kernel
theorem zv_i462 : za_fe (za_is zL) 462 = some (.iadd) := by decide +kernel
theorem zv_i463 : za_fe (za_is zL) 463 = some (.iaload) := by decide +kernel
theorem zv_i464 : za_fe (za_is zL) 464 = some (.aload_n 0) := by decide +kernel
theorem zv_i465 : za_fe (za_is zL) 465 = some (.iload 4) := by decide +kernel
theorem zv_i467 : za_fe (za_is zL) 467 = some (.iconst 3) := by decide +kernel
theorem zv_i468 : za_fe (za_is zL) 468 = some (.iadd) := by decide +kernel
theorem zv_i469 : za_fe (za_is zL) 469 = some (.iaload) := by decide +kernel
theorem zv_i470 : za_fe (za_is zL) 470 = some (.invokevirtual 109) := by decide +kernel
theorem zv_i473 : za_fe (za_is zL) 473 = some (.istore 6) := by decide +kernel
theorem zv_i475 : za_fe (za_is zL) 475 = some (.goto 549) := by decide +kernel
theorem zv_i478 : za_fe (za_is zL) 478 = some (.aload_n 1) := by decide +kernel
theorem zv_i479 : za_fe (za_is zL) 479 = some (.aload_n 0) := by decide +kernel
theorem zv_i480 : za_fe (za_is zL) 480 = some (.iload 4) := by decide +kernel
theorem zv_i482 : za_fe (za_is zL) 482 = some (.iconst 1) := by decide +kernel
theorem zv_i483 : za_fe (za_is zL) 483 = some (.iadd) := by decide +kernel
theorem zv_i484 : za_fe (za_is zL) 484 = some (.iaload) := by decide +kernel
theorem zv_i485 : za_fe (za_is zL) 485 = some (.aload_n 0) := by decide +kernel
theorem zv_i486 : za_fe (za_is zL) 486 = some (.iload 4) := by decide +kernel
theorem zv_i488 : za_fe (za_is zL) 488 = some (.iconst 2) := by decide +kernel
theorem zv_i489 : za_fe (za_is zL) 489 = some (.iadd) := by decide +kernel
theorem zv_i490 : za_fe (za_is zL) 490 = some (.iaload) := by decide +kernel
theorem zv_i491 : za_fe (za_is zL) 491 = some (.aload_n 0) := by decide +kernel
theorem zv_i492 : za_fe (za_is zL) 492 = some (.iload 4) := by decide +kernel
theorem zv_i494 : za_fe (za_is zL) 494 = some (.iconst 3) := by decide +kernel
theorem zv_i495 : za_fe (za_is zL) 495 = some (.iadd) := by decide +kernel
theorem zv_i496 : za_fe (za_is zL) 496 = some (.iaload) := by decide +kernel
theorem zv_i497 : za_fe (za_is zL) 497 = some (.aload_n 3) := by decide +kernel
theorem zv_i498 : za_fe (za_is zL) 498 = some (.invokestatic 110) := by decide +kernel
theorem zv_i501 : za_fe (za_is zL) 501 = some (.istore 5) := by decide +kernel
theorem zv_i503 : za_fe (za_is zL) 503 = some (.aload_n 2) := by decide +kernel
theorem zv_i504 : za_fe (za_is zL) 504 = some (.aload_n 0) := by decide +kernel
theorem zv_i505 : za_fe (za_is zL) 505 = some (.iload 4) := by decide +kernel
theorem zv_i507 : za_fe (za_is zL) 507 = some (.iconst 1) := by decide +kernel
theorem zv_i508 : za_fe (za_is zL) 508 = some (.iadd) := by decide +kernel
theorem zv_i509 : za_fe (za_is zL) 509 = some (.iaload) := by decide +kernel
theorem zv_i510 : za_fe (za_is zL) 510 = some (.aload_n 0) := by decide +kernel
theorem zv_i511 : za_fe (za_is zL) 511 = some (.iload 4) := by decide +kernel
theorem zv_i513 : za_fe (za_is zL) 513 = some (.iconst 2) := by decide +kernel
theorem zv_i514 : za_fe (za_is zL) 514 = some (.iadd) := by decide +kernel
theorem zv_i515 : za_fe (za_is zL) 515 = some (.iaload) := by decide +kernel
theorem zv_i516 : za_fe (za_is zL) 516 = some (.aload_n 0) := by decide +kernel
theorem zv_i517 : za_fe (za_is zL) 517 = some (.iload 4) := by decide +kernel
theorem zv_i519 : za_fe (za_is zL) 519 = some (.iconst 3) := by decide +kernel
theorem zv_i520 : za_fe (za_is zL) 520 = some (.iadd) := by decide +kernel
theorem zv_i521 : za_fe (za_is zL) 521 = some (.iaload) := by decide +kernel
theorem zv_i522 : za_fe (za_is zL) 522 = some (.invokevirtual 112) := by decide +kernel
theorem zv_i525 : za_fe (za_is zL) 525 = some (.istore 6) := by decide +kernel
theorem zv_i527 : za_fe (za_is zL) 527 = some (.goto 497) := by decide +kernel
theorem zv_i530 : za_fe (za_is zL) 530 = some (.aload_n 1) := by decide +kernel
theorem zv_i531 : za_fe (za_is zL) 531 = some (.invokevirtual 113) := by decide +kernel
theorem zv_i534 : za_fe (za_is zL) 534 = some (.pop) := by decide +kernel
theorem zv_i535 : za_fe (za_is zL) 535 = some (.aload_n 2) := by decide +kernel
theorem zv_i536 : za_fe (za_is zL) 536 = some (.invokevirtual 116) := by decide +kernel
theorem zv_i539 : za_fe (za_is zL) 539 = some (.pop) := by decide +kernel
theorem zv_i540 : za_fe (za_is zL) 540 = some (.goto 484) := by decide +kernel
theorem zv_i543 : za_fe (za_is zL) 543 = some (.aload_n 1) := by decide +kernel
theorem zv_i544 : za_fe (za_is zL) 544 = some (.aload_n 0) := by decide +kernel
theorem zv_i545 : za_fe (za_is zL) 545 = some (.iload 4) := by decide +kernel
theorem zv_i547 : za_fe (za_is zL) 547 = some (.iconst 1) := by decide +kernel
theorem zv_i548 : za_fe (za_is zL) 548 = some (.iadd) := by decide +kernel
theorem zv_i549 : za_fe (za_is zL) 549 = some (.iaload) := by decide +kernel
theorem zv_i550 : za_fe (za_is zL) 550 = some (.aload_n 0) := by decide +kernel
theorem zv_i551 : za_fe (za_is zL) 551 = some (.iload 4) := by decide +kernel
theorem zv_i553 : za_fe (za_is zL) 553 = some (.iconst 2) := by decide +kernel
theorem zv_i554 : za_fe (za_is zL) 554 = some (.iadd) := by decide +kernel
theorem zv_i555 : za_fe (za_is zL) 555 = some (.iaload) := by decide +kernel
theorem zv_i556 : za_fe (za_is zL) 556 = some (.aload_n 3) := by decide +kernel
theorem zv_i557 : za_fe (za_is zL) 557 = some (.invokestatic 117) := by decide +kernel
theorem zv_i560 : za_fe (za_is zL) 560 = some (.istore 5) := by decide +kernel
theorem zv_i562 : za_fe (za_is zL) 562 = some (.aload_n 2) := by decide +kernel
theorem zv_i563 : za_fe (za_is zL) 563 = some (.aload_n 0) := by decide +kernel
theorem zv_i564 : za_fe (za_is zL) 564 = some (.iload 4) := by decide +kernel
theorem zv_i566 : za_fe (za_is zL) 566 = some (.iconst 1) := by decide +kernel
theorem zv_i567 : za_fe (za_is zL) 567 = some (.iadd) := by decide +kernel
theorem zv_i568 : za_fe (za_is zL) 568 = some (.iaload) := by decide +kernel
theorem zv_i569 : za_fe (za_is zL) 569 = some (.aload_n 0) := by decide +kernel
theorem zv_i570 : za_fe (za_is zL) 570 = some (.iload 4) := by decide +kernel
theorem zv_i572 : za_fe (za_is zL) 572 = some (.iconst 2) := by decide +kernel
theorem zv_i573 : za_fe (za_is zL) 573 = some (.iadd) := by decide +kernel
theorem zv_i574 : za_fe (za_is zL) 574 = some (.iaload) := by decide +kernel
theorem zv_i575 : za_fe (za_is zL) 575 = some (.invokevirtual 119) := by decide +kernel
theorem zv_i578 : za_fe (za_is zL) 578 = some (.istore 6) := by decide +kernel
theorem zv_i580 : za_fe (za_is zL) 580 = some (.goto 444) := by decide +kernel
theorem zv_i583 : za_fe (za_is zL) 583 = some (.aload_n 1) := by decide +kernel
theorem zv_i584 : za_fe (za_is zL) 584 = some (.aload_n 0) := by decide +kernel
theorem zv_i585 : za_fe (za_is zL) 585 = some (.iload 4) := by decide +kernel
theorem zv_i587 : za_fe (za_is zL) 587 = some (.iconst 1) := by decide +kernel
theorem zv_i588 : za_fe (za_is zL) 588 = some (.iadd) := by decide +kernel
theorem zv_i589 : za_fe (za_is zL) 589 = some (.iaload) := by decide +kernel
theorem zv_i590 : za_fe (za_is zL) 590 = some (.aload_n 3) := by decide +kernel
theorem zv_i591 : za_fe (za_is zL) 591 = some (.invokestatic 120) := by decide +kernel
theorem zv_i594 : za_fe (za_is zL) 594 = some (.istore 5) := by decide +kernel
theorem zv_i596 : za_fe (za_is zL) 596 = some (.aload_n 2) := by decide +kernel
theorem zv_i597 : za_fe (za_is zL) 597 = some (.aload_n 0) := by decide +kernel
theorem zv_i598 : za_fe (za_is zL) 598 = some (.iload 4) := by decide +kernel
theorem zv_i600 : za_fe (za_is zL) 600 = some (.iconst 1) := by decide +kernel
theorem zv_i601 : za_fe (za_is zL) 601 = some (.iadd) := by decide +kernel
theorem zv_i602 : za_fe (za_is zL) 602 = some (.iaload) := by decide +kernel
theorem zv_i603 : za_fe (za_is zL) 603 = some (.invokevirtual 122) := by decide +kernel
theorem zv_i606 : za_fe (za_is zL) 606 = some (.istore 6) := by decide +kernel
theorem zv_i608 : za_fe (za_is zL) 608 = some (.goto 416) := by decide +kernel
theorem zv_i611 : za_fe (za_is zL) 611 = some (.aload_n 1) := by decide +kernel
theorem zv_i612 : za_fe (za_is zL) 612 = some (.aload_n 0) := by decide +kernel
theorem zv_i613 : za_fe (za_is zL) 613 = some (.iload 4) := by decide +kernel
theorem zv_i615 : za_fe (za_is zL) 615 = some (.iconst 1) := by decide +kernel
theorem zv_i616 : za_fe (za_is zL) 616 = some (.iadd) := by decide +kernel
theorem zv_i617 : za_fe (za_is zL) 617 = some (.iaload) := by decide +kernel
theorem zv_i618 : za_fe (za_is zL) 618 = some (.aload_n 0) := by decide +kernel
theorem zv_i619 : za_fe (za_is zL) 619 = some (.iload 4) := by decide +kernel
theorem zv_i621 : za_fe (za_is zL) 621 = some (.iconst 2) := by decide +kernel
theorem zv_i622 : za_fe (za_is zL) 622 = some (.iadd) := by decide +kernel
theorem zv_i623 : za_fe (za_is zL) 623 = some (.iaload) := by decide +kernel
theorem zv_i624 : za_fe (za_is zL) 624 = some (.aload_n 3) := by decide +kernel
theorem zv_i625 : za_fe (za_is zL) 625 = some (.invokestatic 123) := by decide +kernel
theorem zv_i628 : za_fe (za_is zL) 628 = some (.istore 5) := by decide +kernel
theorem zv_i630 : za_fe (za_is zL) 630 = some (.aload_n 2) := by decide +kernel
theorem zv_i631 : za_fe (za_is zL) 631 = some (.aload_n 0) := by decide +kernel
theorem zv_i632 : za_fe (za_is zL) 632 = some (.iload 4) := by decide +kernel
theorem zv_i634 : za_fe (za_is zL) 634 = some (.iconst 1) := by decide +kernel
theorem zv_i635 : za_fe (za_is zL) 635 = some (.iadd) := by decide +kernel
theorem zv_i636 : za_fe (za_is zL) 636 = some (.iaload) := by decide +kernel
theorem zv_i637 : za_fe (za_is zL) 637 = some (.aload_n 0) := by decide +kernel
theorem zv_i638 : za_fe (za_is zL) 638 = some (.iload 4) := by decide +kernel
theorem zv_i640 : za_fe (za_is zL) 640 = some (.iconst 2) := by decide +kernel
theorem zv_i641 : za_fe (za_is zL) 641 = some (.iadd) := by decide +kernel
theorem zv_i642 : za_fe (za_is zL) 642 = some (.iaload) := by decide +kernel
theorem zv_i643 : za_fe (za_is zL) 643 = some (.invokevirtual 125) := by decide +kernel
theorem zv_i646 : za_fe (za_is zL) 646 = some (.lstore 6) := by decide +kernel
theorem zv_i648 : za_fe (za_is zL) 648 = some (.goto 376) := by decide +kernel
theorem zv_i651 : za_fe (za_is zL) 651 = some (.aload_n 1) := by decide +kernel
theorem zv_i652 : za_fe (za_is zL) 652 = some (.aload_n 0) := by decide +kernel
theorem zv_i653 : za_fe (za_is zL) 653 = some (.iload 4) := by decide +kernel
theorem zv_i655 : za_fe (za_is zL) 655 = some (.iconst 1) := by decide +kernel
theorem zv_i656 : za_fe (za_is zL) 656 = some (.iadd) := by decide +kernel
theorem zv_i657 : za_fe (za_is zL) 657 = some (.iaload) := by decide +kernel
theorem zv_i658 : za_fe (za_is zL) 658 = some (.aload_n 0) := by decide +kernel
theorem zv_i659 : za_fe (za_is zL) 659 = some (.iload 4) := by decide +kernel
theorem zv_i661 : za_fe (za_is zL) 661 = some (.iconst 2) := by decide +kernel
theorem zv_i662 : za_fe (za_is zL) 662 = some (.iadd) := by decide +kernel
theorem zv_i663 : za_fe (za_is zL) 663 = some (.iaload) := by decide +kernel
theorem zv_i664 : za_fe (za_is zL) 664 = some (.aload_n 3) := by decide +kernel
theorem zv_i665 : za_fe (za_is zL) 665 = some (.invokestatic 126) := by decide +kernel
theorem zv_i668 : za_fe (za_is zL) 668 = some (.istore 5) := by decide +kernel
theorem zv_i670 : za_fe (za_is zL) 670 = some (.aload_n 2) := by decide +kernel
theorem zv_i671 : za_fe (za_is zL) 671 = some (.aload_n 0) := by decide +kernel
theorem zv_i672 : za_fe (za_is zL) 672 = some (.iload 4) := by decide +kernel
theorem zv_i674 : za_fe (za_is zL) 674 = some (.iconst 1) := by decide +kernel
theorem zv_i675 : za_fe (za_is zL) 675 = some (.iadd) := by decide +kernel
theorem zv_i676 : za_fe (za_is zL) 676 = some (.iaload) := by decide +kernel
theorem zv_i677 : za_fe (za_is zL) 677 = some (.aload_n 0) := by decide +kernel
theorem zv_i678 : za_fe (za_is zL) 678 = some (.iload 4) := by decide +kernel
theorem zv_i680 : za_fe (za_is zL) 680 = some (.iconst 2) := by decide +kernel
theorem zv_i681 : za_fe (za_is zL) 681 = some (.iadd) := by decide +kernel
theorem zv_i682 : za_fe (za_is zL) 682 = some (.iaload) := by decide +kernel
theorem zv_i683 : za_fe (za_is zL) 683 = some (.invokevirtual 128) := by decide +kernel
theorem zv_i686 : za_fe (za_is zL) 686 = some (.istore 6) := by decide +kernel
theorem zv_i688 : za_fe (za_is zL) 688 = some (.goto 336) := by decide +kernel
theorem zv_i691 : za_fe (za_is zL) 691 = some (.aload_n 1) := by decide +kernel
theorem zv_i692 : za_fe (za_is zL) 692 = some (.aload_n 0) := by decide +kernel
theorem zv_i693 : za_fe (za_is zL) 693 = some (.iload 4) := by decide +kernel
theorem zv_i695 : za_fe (za_is zL) 695 = some (.iconst 1) := by decide +kernel
theorem zv_i696 : za_fe (za_is zL) 696 = some (.iadd) := by decide +kernel
theorem zv_i697 : za_fe (za_is zL) 697 = some (.iaload) := by decide +kernel
theorem zv_i698 : za_fe (za_is zL) 698 = some (.aload_n 0) := by decide +kernel
theorem zv_i699 : za_fe (za_is zL) 699 = some (.iload 4) := by decide +kernel
theorem zv_i701 : za_fe (za_is zL) 701 = some (.iconst 2) := by decide +kernel
theorem zv_i702 : za_fe (za_is zL) 702 = some (.iadd) := by decide +kernel
theorem zv_i703 : za_fe (za_is zL) 703 = some (.iaload) := by decide +kernel
theorem zv_i704 : za_fe (za_is zL) 704 = some (.aload_n 0) := by decide +kernel
theorem zv_i705 : za_fe (za_is zL) 705 = some (.iload 4) := by decide +kernel
theorem zv_i707 : za_fe (za_is zL) 707 = some (.iconst 3) := by decide +kernel
theorem zv_i708 : za_fe (za_is zL) 708 = some (.iadd) := by decide +kernel
theorem zv_i709 : za_fe (za_is zL) 709 = some (.iaload) := by decide +kernel
theorem zv_i710 : za_fe (za_is zL) 710 = some (.aload_n 3) := by decide +kernel
theorem zv_i711 : za_fe (za_is zL) 711 = some (.invokestatic 129) := by decide +kernel
theorem zv_i714 : za_fe (za_is zL) 714 = some (.istore 5) := by decide +kernel
theorem zv_i716 : za_fe (za_is zL) 716 = some (.aload_n 2) := by decide +kernel
theorem zv_i717 : za_fe (za_is zL) 717 = some (.aload_n 0) := by decide +kernel
theorem zv_i718 : za_fe (za_is zL) 718 = some (.iload 4) := by decide +kernel
theorem zv_i720 : za_fe (za_is zL) 720 = some (.iconst 1) := by decide +kernel
theorem zv_i721 : za_fe (za_is zL) 721 = some (.iadd) := by decide +kernel
theorem zv_i722 : za_fe (za_is zL) 722 = some (.iaload) := by decide +kernel
theorem zv_i723 : za_fe (za_is zL) 723 = some (.aload_n 0) := by decide +kernel
theorem zv_i724 : za_fe (za_is zL) 724 = some (.iload 4) := by decide +kernel
theorem zv_i726 : za_fe (za_is zL) 726 = some (.iconst 2) := by decide +kernel
theorem zv_i727 : za_fe (za_is zL) 727 = some (.iadd) := by decide +kernel
theorem zv_i728 : za_fe (za_is zL) 728 = some (.iaload) := by decide +kernel
theorem zv_i729 : za_fe (za_is zL) 729 = some (.aload_n 0) := by decide +kernel
theorem zv_i730 : za_fe (za_is zL) 730 = some (.iload 4) := by decide +kernel
theorem zv_i732 : za_fe (za_is zL) 732 = some (.iconst 3) := by decide +kernel
theorem zv_i733 : za_fe (za_is zL) 733 = some (.iadd) := by decide +kernel
theorem zv_i734 : za_fe (za_is zL) 734 = some (.iaload) := by decide +kernel
theorem zv_i735 : za_fe (za_is zL) 735 = some (.invokevirtual 131) := by decide +kernel
theorem zv_i738 : za_fe (za_is zL) 738 = some (.istore 6) := by decide +kernel
theorem zv_i740 : za_fe (za_is zL) 740 = some (.goto 284) := by decide +kernel
theorem zv_i743 : za_fe (za_is zL) 743 = some (.aload_n 1) := by decide +kernel
theorem zv_i744 : za_fe (za_is zL) 744 = some (.invokevirtual 132) := by decide +kernel
theorem zv_i747 : za_fe (za_is zL) 747 = some (.pop) := by decide +kernel
theorem zv_i748 : za_fe (za_is zL) 748 = some (.aload_n 2) := by decide +kernel
theorem zv_i749 : za_fe (za_is zL) 749 = some (.invokevirtual 135) := by decide +kernel
theorem zv_i752 : za_fe (za_is zL) 752 = some (.pop) := by decide +kernel
theorem zv_i753 : za_fe (za_is zL) 753 = some (.goto 271) := by decide +kernel
theorem zv_i756 : za_fe (za_is zL) 756 = some (.aload_n 1) := by decide +kernel
theorem zv_i757 : za_fe (za_is zL) 757 = some (.aload_n 0) := by decide +kernel
theorem zv_i758 : za_fe (za_is zL) 758 = some (.iload 4) := by decide +kernel
theorem zv_i760 : za_fe (za_is zL) 760 = some (.iconst 1) := by decide +kernel
theorem zv_i761 : za_fe (za_is zL) 761 = some (.iadd) := by decide +kernel
theorem zv_i762 : za_fe (za_is zL) 762 = some (.iaload) := by decide +kernel
theorem zv_i763 : za_fe (za_is zL) 763 = some (.aload_n 3) := by decide +kernel
theorem zv_i764 : za_fe (za_is zL) 764 = some (.invokestatic 136) := by decide +kernel
theorem zv_i767 : za_fe (za_is zL) 767 = some (.istore 5) := by decide +kernel
theorem zv_i769 : za_fe (za_is zL) 769 = some (.aload_n 2) := by decide +kernel
theorem zv_i770 : za_fe (za_is zL) 770 = some (.aload_n 0) := by decide +kernel
theorem zv_i771 : za_fe (za_is zL) 771 = some (.iload 4) := by decide +kernel
theorem zv_i773 : za_fe (za_is zL) 773 = some (.iconst 1) := by decide +kernel
theorem zv_i774 : za_fe (za_is zL) 774 = some (.iadd) := by decide +kernel
theorem zv_i775 : za_fe (za_is zL) 775 = some (.iaload) := by decide +kernel
theorem zv_i776 : za_fe (za_is zL) 776 = some (.invokevirtual 138) := by decide +kernel
theorem zv_i779 : za_fe (za_is zL) 779 = some (.istore 6) := by decide +kernel
theorem zv_i781 : za_fe (za_is zL) 781 = some (.goto 243) := by decide +kernel
theorem zv_i784 : za_fe (za_is zL) 784 = some (.aload_n 1) := by decide +kernel
theorem zv_i785 : za_fe (za_is zL) 785 = some (.aload_n 0) := by decide +kernel
theorem zv_i786 : za_fe (za_is zL) 786 = some (.iload 4) := by decide +kernel
theorem zv_i788 : za_fe (za_is zL) 788 = some (.iconst 1) := by decide +kernel
theorem zv_i789 : za_fe (za_is zL) 789 = some (.iadd) := by decide +kernel
theorem zv_i790 : za_fe (za_is zL) 790 = some (.iaload) := by decide +kernel
theorem zv_i791 : za_fe (za_is zL) 791 = some (.aload_n 3) := by decide +kernel
theorem zv_i792 : za_fe (za_is zL) 792 = some (.invokestatic 139) := by decide +kernel
theorem zv_i795 : za_fe (za_is zL) 795 = some (.istore 5) := by decide +kernel
theorem zv_i797 : za_fe (za_is zL) 797 = some (.aload_n 2) := by decide +kernel
theorem zv_i798 : za_fe (za_is zL) 798 = some (.aload_n 0) := by decide +kernel
theorem zv_i799 : za_fe (za_is zL) 799 = some (.iload 4) := by decide +kernel
theorem zv_i801 : za_fe (za_is zL) 801 = some (.iconst 1) := by decide +kernel
theorem zv_i802 : za_fe (za_is zL) 802 = some (.iadd) := by decide +kernel
theorem zv_i803 : za_fe (za_is zL) 803 = some (.iaload) := by decide +kernel
theorem zv_i804 : za_fe (za_is zL) 804 = some (.invokevirtual 141) := by decide +kernel
theorem zv_i807 : za_fe (za_is zL) 807 = some (.istore 6) := by decide +kernel
theorem zv_i809 : za_fe (za_is zL) 809 = some (.goto 215) := by decide +kernel
theorem zv_i812 : za_fe (za_is zL) 812 = some (.aload_n 1) := by decide +kernel
theorem zv_i813 : za_fe (za_is zL) 813 = some (.aload_n 0) := by decide +kernel
theorem zv_i814 : za_fe (za_is zL) 814 = some (.iload 4) := by decide +kernel
theorem zv_i816 : za_fe (za_is zL) 816 = some (.iconst 1) := by decide +kernel
theorem zv_i817 : za_fe (za_is zL) 817 = some (.iadd) := by decide +kernel
theorem zv_i818 : za_fe (za_is zL) 818 = some (.iaload) := by decide +kernel
theorem zv_i819 : za_fe (za_is zL) 819 = some (.aload_n 0) := by decide +kernel
theorem zv_i820 : za_fe (za_is zL) 820 = some (.iload 4) := by decide +kernel
theorem zv_i822 : za_fe (za_is zL) 822 = some (.iconst 2) := by decide +kernel
theorem zv_i823 : za_fe (za_is zL) 823 = some (.iadd) := by decide +kernel
theorem zv_i824 : za_fe (za_is zL) 824 = some (.iaload) := by decide +kernel
theorem zv_i825 : za_fe (za_is zL) 825 = some (.aload_n 3) := by decide +kernel
theorem zv_i826 : za_fe (za_is zL) 826 = some (.invokestatic 142) := by decide +kernel
theorem zv_i829 : za_fe (za_is zL) 829 = some (.istore 5) := by decide +kernel
theorem zv_i831 : za_fe (za_is zL) 831 = some (.aload_n 2) := by decide +kernel
theorem zv_i832 : za_fe (za_is zL) 832 = some (.aload_n 0) := by decide +kernel
theorem zv_i833 : za_fe (za_is zL) 833 = some (.iload 4) := by decide +kernel
theorem zv_i835 : za_fe (za_is zL) 835 = some (.iconst 1) := by decide +kernel
theorem zv_i836 : za_fe (za_is zL) 836 = some (.iadd) := by decide +kernel
theorem zv_i837 : za_fe (za_is zL) 837 = some (.iaload) := by decide +kernel
theorem zv_i838 : za_fe (za_is zL) 838 = some (.aload_n 0) := by decide +kernel
theorem zv_i839 : za_fe (za_is zL) 839 = some (.iload 4) := by decide +kernel
theorem zv_i841 : za_fe (za_is zL) 841 = some (.iconst 2) := by decide +kernel
theorem zv_i842 : za_fe (za_is zL) 842 = some (.iadd) := by decide +kernel
theorem zv_i843 : za_fe (za_is zL) 843 = some (.iaload) := by decide +kernel
theorem zv_i844 : za_fe (za_is zL) 844 = some (.invokevirtual 144) := by decide +kernel
theorem zv_i847 : za_fe (za_is zL) 847 = some (.istore 6) := by decide +kernel
theorem zv_i849 : za_fe (za_is zL) 849 = some (.aload_n 2) := by decide +kernel
theorem zv_i850 : za_fe (za_is zL) 850 = some (.invokevirtual 145) := by decide +kernel
theorem zv_i853 : za_fe (za_is zL) 853 = some (.iload 5) := by decide +kernel
theorem zv_i855 : za_fe (za_is zL) 855 = some (.if_icmp .eq 5) := by decide +kernel
theorem zv_i860 : za_fe (za_is zL) 860 = some (.iload 5) := by decide +kernel
theorem zv_i862 : za_fe (za_is zL) 862 = some (.ifCond .ne 15) := by decide +kernel
theorem zv_i865 : za_fe (za_is zL) 865 = some (.aload_n 3) := by decide +kernel
theorem zv_i866 : za_fe (za_is zL) 866 = some (.iconst 0) := by decide +kernel
theorem zv_i867 : za_fe (za_is zL) 867 = some (.laload) := by decide +kernel
theorem zv_i868 : za_fe (za_is zL) 868 = some (.iload 6) := by decide +kernel
theorem zv_i870 : za_fe (za_is zL) 870 = some (.i2l) := by decide +kernel
theorem zv_i871 : za_fe (za_is zL) 871 = some (.lcmp) := by decide +kernel
theorem zv_i872 : za_fe (za_is zL) 872 = some (.ifCond .eq 5) := by decide +kernel
theorem zv_i877 : za_fe (za_is zL) 877 = some (.goto 147) := by decide +kernel
theorem zv_i880 : za_fe (za_is zL) 880 = some (.aload_n 1) := by decide +kernel
theorem zv_i881 : za_fe (za_is zL) 881 = some (.aload_n 0) := by decide +kernel
theorem zv_i882 : za_fe (za_is zL) 882 = some (.iload 4) := by decide +kernel
theorem zv_i884 : za_fe (za_is zL) 884 = some (.iconst 1) := by decide +kernel
theorem zv_i885 : za_fe (za_is zL) 885 = some (.iadd) := by decide +kernel
theorem zv_i886 : za_fe (za_is zL) 886 = some (.iaload) := by decide +kernel
theorem zv_i887 : za_fe (za_is zL) 887 = some (.aload_n 3) := by decide +kernel
theorem zv_i888 : za_fe (za_is zL) 888 = some (.invokestatic 148) := by decide +kernel
theorem zv_i891 : za_fe (za_is zL) 891 = some (.istore 5) := by decide +kernel
theorem zv_i893 : za_fe (za_is zL) 893 = some (.aload_n 2) := by decide +kernel
theorem zv_i894 : za_fe (za_is zL) 894 = some (.aload_n 0) := by decide +kernel
theorem zv_i895 : za_fe (za_is zL) 895 = some (.iload 4) := by decide +kernel
theorem zv_i897 : za_fe (za_is zL) 897 = some (.iconst 1) := by decide +kernel
theorem zv_i898 : za_fe (za_is zL) 898 = some (.iadd) := by decide +kernel
theorem zv_i899 : za_fe (za_is zL) 899 = some (.iaload) := by decide +kernel
theorem zv_i900 : za_fe (za_is zL) 900 = some (.invokevirtual 150) := by decide +kernel
theorem zv_i903 : za_fe (za_is zL) 903 = some (.lstore 6) := by decide +kernel
theorem zv_i905 : za_fe (za_is zL) 905 = some (.goto 119) := by decide +kernel
theorem zv_i908 : za_fe (za_is zL) 908 = some (.aload_n 1) := by decide +kernel
theorem zv_i909 : za_fe (za_is zL) 909 = some (.aload_n 0) := by decide +kernel
theorem zv_i910 : za_fe (za_is zL) 910 = some (.iload 4) := by decide +kernel
theorem zv_i912 : za_fe (za_is zL) 912 = some (.iconst 1) := by decide +kernel
theorem zv_i913 : za_fe (za_is zL) 913 = some (.iadd) := by decide +kernel
theorem zv_i914 : za_fe (za_is zL) 914 = some (.iaload) := by decide +kernel
theorem zv_i915 : za_fe (za_is zL) 915 = some (.aload_n 0) := by decide +kernel
theorem zv_i916 : za_fe (za_is zL) 916 = some (.iload 4) := by decide +kernel
theorem zv_i918 : za_fe (za_is zL) 918 = some (.iconst 2) := by decide +kernel
theorem zv_i919 : za_fe (za_is zL) 919 = some (.iadd) := by decide +kernel
theorem zv_i920 : za_fe (za_is zL) 920 = some (.iaload) := by decide +kernel
theorem zv_i921 : za_fe (za_is zL) 921 = some (.aload_n 3) := by decide +kernel
theorem zv_i922 : za_fe (za_is zL) 922 = some (.invokestatic 151) := by decide +kernel
theorem zv_i925 : za_fe (za_is zL) 925 = some (.istore 5) := by decide +kernel
theorem zv_i927 : za_fe (za_is zL) 927 = some (.aload_n 2) := by decide +kernel
theorem zv_i928 : za_fe (za_is zL) 928 = some (.aload_n 0) := by decide +kernel
theorem zv_i929 : za_fe (za_is zL) 929 = some (.iload 4) := by decide +kernel
theorem zv_i931 : za_fe (za_is zL) 931 = some (.iconst 1) := by decide +kernel
theorem zv_i932 : za_fe (za_is zL) 932 = some (.iadd) := by decide +kernel
theorem zv_i933 : za_fe (za_is zL) 933 = some (.iaload) := by decide +kernel
theorem zv_i934 : za_fe (za_is zL) 934 = some (.aload_n 0) := by decide +kernel
theorem zv_i935 : za_fe (za_is zL) 935 = some (.iload 4) := by decide +kernel
theorem zv_i937 : za_fe (za_is zL) 937 = some (.iconst 2) := by decide +kernel
theorem zv_i938 : za_fe (za_is zL) 938 = some (.iadd) := by decide +kernel
theorem zv_i939 : za_fe (za_is zL) 939 = some (.iaload) := by decide +kernel
theorem zv_i940 : za_fe (za_is zL) 940 = some (.invokevirtual 153) := by decide +kernel
theorem zv_i943 : za_fe (za_is zL) 943 = some (.lstore 6) := by decide +kernel
theorem zv_i945 : za_fe (za_is zL) 945 = some (.goto 79) := by decide +kernel
theorem zv_i948 : za_fe (za_is zL) 948 = some (.aload_n 1) := by decide +kernel
theorem zv_i949 : za_fe (za_is zL) 949 = some (.aload_n 0) := by decide +kernel
theorem zv_i950 : za_fe (za_is zL) 950 = some (.iload 4) := by decide +kernel
theorem zv_i952 : za_fe (za_is zL) 952 = some (.iconst 1) := by decide +kernel
theorem zv_i953 : za_fe (za_is zL) 953 = some (.iadd) := by decide +kernel
theorem zv_i954 : za_fe (za_is zL) 954 = some (.iaload) := by decide +kernel
theorem zv_i955 : za_fe (za_is zL) 955 = some (.aload_n 0) := by decide +kernel
theorem zv_i956 : za_fe (za_is zL) 956 = some (.iload 4) := by decide +kernel
theorem zv_i958 : za_fe (za_is zL) 958 = some (.iconst 2) := by decide +kernel
theorem zv_i959 : za_fe (za_is zL) 959 = some (.iadd) := by decide +kernel
theorem zv_i960 : za_fe (za_is zL) 960 = some (.iaload) := by decide +kernel
theorem zv_i961 : za_fe (za_is zL) 961 = some (.aload_n 0) := by decide +kernel
theorem zv_i962 : za_fe (za_is zL) 962 = some (.iload 4) := by decide +kernel
theorem zv_i964 : za_fe (za_is zL) 964 = some (.iconst 3) := by decide +kernel
theorem zv_i965 : za_fe (za_is zL) 965 = some (.iadd) := by decide +kernel
theorem zv_i966 : za_fe (za_is zL) 966 = some (.iaload) := by decide +kernel
theorem zv_i967 : za_fe (za_is zL) 967 = some (.aload_n 3) := by decide +kernel
theorem zv_i968 : za_fe (za_is zL) 968 = some (.invokestatic 154) := by decide +kernel
theorem zv_i971 : za_fe (za_is zL) 971 = some (.istore 5) := by decide +kernel
theorem zv_i973 : za_fe (za_is zL) 973 = some (.aload_n 2) := by decide +kernel
theorem zv_i974 : za_fe (za_is zL) 974 = some (.aload_n 0) := by decide +kernel
theorem zv_i975 : za_fe (za_is zL) 975 = some (.iload 4) := by decide +kernel
theorem zv_i977 : za_fe (za_is zL) 977 = some (.iconst 1) := by decide +kernel
theorem zv_i978 : za_fe (za_is zL) 978 = some (.iadd) := by decide +kernel
theorem zv_i979 : za_fe (za_is zL) 979 = some (.iaload) := by decide +kernel
theorem zv_i980 : za_fe (za_is zL) 980 = some (.aload_n 0) := by decide +kernel
theorem zv_i981 : za_fe (za_is zL) 981 = some (.iload 4) := by decide +kernel
theorem zv_i983 : za_fe (za_is zL) 983 = some (.iconst 2) := by decide +kernel
theorem zv_i984 : za_fe (za_is zL) 984 = some (.iadd) := by decide +kernel
theorem zv_i985 : za_fe (za_is zL) 985 = some (.iaload) := by decide +kernel
theorem zv_i986 : za_fe (za_is zL) 986 = some (.aload_n 0) := by decide +kernel
theorem zv_i987 : za_fe (za_is zL) 987 = some (.iload 4) := by decide +kernel
theorem zv_i989 : za_fe (za_is zL) 989 = some (.iconst 3) := by decide +kernel
theorem zv_i990 : za_fe (za_is zL) 990 = some (.iadd) := by decide +kernel
theorem zv_i991 : za_fe (za_is zL) 991 = some (.iaload) := by decide +kernel
theorem zv_i992 : za_fe (za_is zL) 992 = some (.invokevirtual 156) := by decide +kernel
theorem zv_i995 : za_fe (za_is zL) 995 = some (.istore 6) := by decide +kernel
theorem zv_i997 : za_fe (za_is zL) 997 = some (.goto 27) := by decide +kernel
theorem zv_i1000 : za_fe (za_is zL) 1000 = some (.aload_n 1) := by decide +kernel
theorem zv_i1001 : za_fe (za_is zL) 1001 = some (.invokevirtual 157) := by decide +kernel
theorem zv_i1004 : za_fe (za_is zL) 1004 = some (.aload_n 2) := by decide +kernel
theorem zv_i1005 : za_fe (za_is zL) 1005 = some (.invokevirtual 160) := by decide +kernel
theorem zv_i1008 : za_fe (za_is zL) 1008 = some (.goto 16) := by decide +kernel
theorem zv_i1011 : za_fe (za_is zL) 1011 = some (.aload_n 1) := by decide +kernel
theorem zv_i1012 : za_fe (za_is zL) 1012 = some (.invokevirtual 161) := by decide +kernel
theorem zv_i1015 : za_fe (za_is zL) 1015 = some (.pop) := by decide +kernel
theorem zv_i1016 : za_fe (za_is zL) 1016 = some (.aload_n 2) := by decide +kernel
theorem zv_i1017 : za_fe (za_is zL) 1017 = some (.invokevirtual 165) := by decide +kernel
theorem zv_i1020 : za_fe (za_is zL) 1020 = some (.pop) := by decide +kernel
theorem zv_i1021 : za_fe (za_is zL) 1021 = some (.goto 3) := by decide +kernel
theorem zv_i1024 : za_fe (za_is zL) 1024 = some (.iinc 4 6) := by decide +kernel
theorem zv_i1027 : za_fe (za_is zL) 1027 = some (.goto (-1004)) := by decide +kernel
theorem zv_i1030 : za_fe (za_is zL) 1030 = some (.iconst 1) := by decide +kernel
theorem zv_i1031 : za_fe (za_is zL) 1031 = some (.ireturn) := by decide +kernel
theorem yq_cmp {x y : Int64} (h : x = y) : (lg_cmp x y).toInt = 0 := by
  subst h
  unfold lg_cmp
  simp
theorem yq_thr {L : Nat} {σ : Nat → Int32} {d : Nat} {H : zp_H} (W : zw_W H) : zp_Call L σ (d + 1) 251 [.inr (.inr (some 73))] H (.inl (some (.inl (H.2.1 72 0))), H) := by
  refine zw_ex (zw_met zm_251_t rfl rfl ?_)
  refine zw_ld (n := 1) (k := 0) (f := zp_isR) (pc' := 1) rfl rfl rfl rfl rfl ?_
  refine zw_gI (q := 72) (pc' := 4) W rfl rfl rfl rfl rfl rfl ?_
  refine zw_ri rfl rfl ?_
  rfl
set_option maxRecDepth 8000 in
theorem zv_op0 {L : Nat} {σ : Nat → Int32} {d : Nat} {P : zp_X → Prop} {H : zp_H} {lv : zp_LV} {i : Int32} {c t cs sl : Nat} (hI : yJ c t H) (l0 : zp_get lv 0 = some (.inr (.inr (some 0)))) (l1 : zp_get lv 1 = some (.inr (.inr (some 1)))) (l2 : zp_get lv 2 = some (.inr (.inr (some 73)))) (l3 : zp_get lv 3 = some (.inr (.inr (some 105)))) (l4 : zp_get lv 4 = some (.inl i)) (hi : 0 ≤ i.toInt ∧ i.toInt + 6 ≤ L) (hL : L ≤ 3072) (hcs : cs + 4 ≤ 601024) (hsl : sl + 24 ≤ 7293033) (kk : ∀ (lv' : zp_LV) (H' : zp_H) (c' t' cs' sl' : Nat), yJ c' t' H' → zp_get lv' 0 = some (.inr (.inr (some 0))) → zp_get lv' 1 = some (.inr (.inr (some 1))) → zp_get lv' 2 = some (.inr (.inr (some 73))) → zp_get lv' 3 = some (.inr (.inr (some 105))) → zp_get lv' 4 = some (.inl i) → cs' ≤ cs + 4 → sl' ≤ sl + 24 → zs_Safe L σ P zL [] (d + 60) (1024, lv', [], H', (cs', sl'))) : zs_Safe L σ P zL [] (d + 60) (152, lv, [], H, (cs, sl)) := by
  have e1 : (i + Int32.ofInt 1).toInt = i.toInt + 1 := zv_add (by decide) (by omega)
  have e2 : (i + Int32.ofInt 2).toInt = i.toInt + 2 := zv_add (by decide) (by omega)
  have e3 : (i + Int32.ofInt 3).toInt = i.toInt + 3 := zv_add (by decide) (by omega)
  have e4 : (i + Int32.ofInt 4).toInt = i.toInt + 4 := zv_add (by decide) (by omega)
  have e5 : (i + Int32.ofInt 5).toInt = i.toInt + 5 := zv_add (by decide) (by omega)
  obtain ⟨H1, H2, v, u, t2, c1, c2, hv, hW1, hI2⟩ := yp_feed (L := L) (σ := σ) (d := d) (x1 := σ (i + Int32.ofInt 1).toInt.toNat) (x2 := σ (i + Int32.ofInt 2).toInt.toNat) (x3 := σ (i + Int32.ofInt 3).toInt.toNat) (x4 := σ (i + Int32.ofInt 4).toInt.toNat) (x5 := σ (i + Int32.ofInt 5).toInt.toNat) hI
  refine zw_ld (n := 1) (k := 1) (f := zp_isR) (pc' := 153) zv_i152 rfl l1 rfl rfl ?_
  refine zw_ld (n := 1) (k := 0) (f := zp_isR) (pc' := 154) zv_i153 rfl l0 rfl rfl ?_
  refine zw_ld (n := 2) (k := 4) (f := zp_isI) (pc' := 156) zv_i154 rfl l4 rfl rfl ?_
  refine zw_s (pc' := 157) zv_i156 rfl ?_
  refine zw_iadd (pc' := 158) zv_i157 rfl ?_
  refine zw_sc (pc' := 159) zv_i158 ⟨by rw [e1]; omega, by rw [e1]; omega⟩ rfl ?_
  refine zw_ld (n := 1) (k := 0) (f := zp_isR) (pc' := 160) zv_i159 rfl l0 rfl rfl ?_
  refine zw_ld (n := 2) (k := 4) (f := zp_isI) (pc' := 162) zv_i160 rfl l4 rfl rfl ?_
  refine zw_s (pc' := 163) zv_i162 rfl ?_
  refine zw_iadd (pc' := 164) zv_i163 rfl ?_
  refine zw_sc (pc' := 165) zv_i164 ⟨by rw [e2]; omega, by rw [e2]; omega⟩ rfl ?_
  refine zw_ld (n := 1) (k := 0) (f := zp_isR) (pc' := 166) zv_i165 rfl l0 rfl rfl ?_
  refine zw_ld (n := 2) (k := 4) (f := zp_isI) (pc' := 168) zv_i166 rfl l4 rfl rfl ?_
  refine zw_s (pc' := 169) zv_i168 rfl ?_
  refine zw_iadd (pc' := 170) zv_i169 rfl ?_
  refine zw_sc (pc' := 171) zv_i170 ⟨by rw [e3]; omega, by rw [e3]; omega⟩ rfl ?_
  refine zw_ld (n := 1) (k := 0) (f := zp_isR) (pc' := 172) zv_i171 rfl l0 rfl rfl ?_
  refine zw_ld (n := 2) (k := 4) (f := zp_isI) (pc' := 174) zv_i172 rfl l4 rfl rfl ?_
  refine zw_s (pc' := 175) zv_i174 rfl ?_
  refine zw_iadd (pc' := 176) zv_i175 rfl ?_
  refine zw_sc (pc' := 177) zv_i176 ⟨by rw [e4]; omega, by rw [e4]; omega⟩ rfl ?_
  refine zw_ld (n := 1) (k := 0) (f := zp_isR) (pc' := 178) zv_i177 rfl l0 rfl rfl ?_
  refine zw_ld (n := 2) (k := 4) (f := zp_isI) (pc' := 180) zv_i178 rfl l4 rfl rfl ?_
  refine zw_s (pc' := 181) zv_i180 rfl ?_
  refine zw_iadd (pc' := 182) zv_i181 rfl ?_
  refine zw_sc (pc' := 183) zv_i182 ⟨by rw [e5]; omega, by rw [e5]; omega⟩ rfl ?_
  refine zw_ct (pc' := 186) (c' := (cs + 0, sl + 0)) (zw_cv (q := 0) (Y := zm_17) hI.1.1.1.1 zv_i183 rfl zm_17_t rfl rfl) ⟨za_ble rfl, za_ble rfl, by show cs + 0 + 0 ≤ 601024; omega, by show sl + 0 + 0 ≤ 7293033; omega⟩ rfl rfl rfl rfl c1 ?_
  refine zw_s (pc' := 187) zv_i186 rfl ?_
  refine zw_ld (n := 1) (k := 2) (f := zp_isR) (pc' := 188) zv_i187 rfl l2 rfl rfl ?_
  refine zw_ld (n := 1) (k := 0) (f := zp_isR) (pc' := 189) zv_i188 rfl l0 rfl rfl ?_
  refine zw_ld (n := 2) (k := 4) (f := zp_isI) (pc' := 191) zv_i189 rfl l4 rfl rfl ?_
  refine zw_s (pc' := 192) zv_i191 rfl ?_
  refine zw_iadd (pc' := 193) zv_i192 rfl ?_
  refine zw_sc (pc' := 194) zv_i193 ⟨by rw [e1]; omega, by rw [e1]; omega⟩ rfl ?_
  refine zw_ld (n := 1) (k := 0) (f := zp_isR) (pc' := 195) zv_i194 rfl l0 rfl rfl ?_
  refine zw_ld (n := 2) (k := 4) (f := zp_isI) (pc' := 197) zv_i195 rfl l4 rfl rfl ?_
  refine zw_s (pc' := 198) zv_i197 rfl ?_
  refine zw_iadd (pc' := 199) zv_i198 rfl ?_
  refine zw_sc (pc' := 200) zv_i199 ⟨by rw [e2]; omega, by rw [e2]; omega⟩ rfl ?_
  refine zw_ld (n := 1) (k := 0) (f := zp_isR) (pc' := 201) zv_i200 rfl l0 rfl rfl ?_
  refine zw_ld (n := 2) (k := 4) (f := zp_isI) (pc' := 203) zv_i201 rfl l4 rfl rfl ?_
  refine zw_s (pc' := 204) zv_i203 rfl ?_
  refine zw_iadd (pc' := 205) zv_i204 rfl ?_
  refine zw_sc (pc' := 206) zv_i205 ⟨by rw [e3]; omega, by rw [e3]; omega⟩ rfl ?_
  refine zw_ld (n := 1) (k := 0) (f := zp_isR) (pc' := 207) zv_i206 rfl l0 rfl rfl ?_
  refine zw_ld (n := 2) (k := 4) (f := zp_isI) (pc' := 209) zv_i207 rfl l4 rfl rfl ?_
  refine zw_s (pc' := 210) zv_i209 rfl ?_
  refine zw_iadd (pc' := 211) zv_i210 rfl ?_
  refine zw_sc (pc' := 212) zv_i211 ⟨by rw [e4]; omega, by rw [e4]; omega⟩ rfl ?_
  refine zw_ld (n := 1) (k := 0) (f := zp_isR) (pc' := 213) zv_i212 rfl l0 rfl rfl ?_
  refine zw_ld (n := 2) (k := 4) (f := zp_isI) (pc' := 215) zv_i213 rfl l4 rfl rfl ?_
  refine zw_s (pc' := 216) zv_i215 rfl ?_
  refine zw_iadd (pc' := 217) zv_i216 rfl ?_
  refine zw_sc (pc' := 218) zv_i217 ⟨by rw [e5]; omega, by rw [e5]; omega⟩ rfl ?_
  refine zw_ct (pc' := 221) (c' := (cs + 0, sl + 0)) (zw_cv (q := 72) (Y := zm_167) hW1 zv_i218 rfl zm_167_t rfl rfl) ⟨za_ble rfl, za_ble rfl, by show cs + 0 + 0 ≤ 601024; omega, by show sl + 0 + 0 ≤ 7293033; omega⟩ rfl rfl rfl rfl c2 ?_
  refine zw_s (pc' := 222) zv_i221 rfl ?_
  refine zw_s (pc' := 1024) zv_i222 rfl ?_
  exact kk _ H2 c t2 _ _ hI2 l0 l1 l2 l3 l4 (by omega) (by omega)

set_option maxRecDepth 8000 in
theorem zv_op1 {L : Nat} {σ : Nat → Int32} {d : Nat} {P : zp_X → Prop} {H : zp_H} {lv : zp_LV} {i : Int32} {c t cs sl : Nat} (hI : yJ c t H) (l0 : zp_get lv 0 = some (.inr (.inr (some 0)))) (l1 : zp_get lv 1 = some (.inr (.inr (some 1)))) (l2 : zp_get lv 2 = some (.inr (.inr (some 73)))) (l3 : zp_get lv 3 = some (.inr (.inr (some 105)))) (l4 : zp_get lv 4 = some (.inl i)) (hi : 0 ≤ i.toInt ∧ i.toInt + 6 ≤ L) (hL : L ≤ 3072) (hcs : cs + 4 ≤ 601024) (hsl : sl + 24 ≤ 7293033) (kk : ∀ (lv' : zp_LV) (H' : zp_H) (c' t' cs' sl' : Nat), yJ c' t' H' → zp_get lv' 0 = some (.inr (.inr (some 0))) → zp_get lv' 1 = some (.inr (.inr (some 1))) → zp_get lv' 2 = some (.inr (.inr (some 73))) → zp_get lv' 3 = some (.inr (.inr (some 105))) → zp_get lv' 4 = some (.inl i) → cs' ≤ cs + 4 → sl' ≤ sl + 24 → zs_Safe L σ P zL [] (d + 60) (1024, lv', [], H', (cs', sl'))) : zs_Safe L σ P zL [] (d + 60) (225, lv, [], H, (cs, sl)) := by
  have e1 : (i + Int32.ofInt 1).toInt = i.toInt + 1 := zv_add (by decide) (by omega)
  have e2 : (i + Int32.ofInt 2).toInt = i.toInt + 2 := zv_add (by decide) (by omega)
  have e3 : (i + Int32.ofInt 3).toInt = i.toInt + 3 := zv_add (by decide) (by omega)
  have e4 : (i + Int32.ofInt 4).toInt = i.toInt + 4 := zv_add (by decide) (by omega)
  have e5 : (i + Int32.ofInt 5).toInt = i.toInt + 5 := zv_add (by decide) (by omega)
  obtain ⟨H1, H2, v, u, cc, t2, c1, c2, hW1, hI2, hth, hout⟩ := yp_sea (L := L) (σ := σ) (d := d) (x := σ (i + Int32.ofInt 1).toInt.toNat) hI
  refine zw_ld (n := 1) (k := 1) (f := zp_isR) (pc' := 226) zv_i225 rfl l1 rfl rfl ?_
  refine zw_ld (n := 1) (k := 0) (f := zp_isR) (pc' := 227) zv_i226 rfl l0 rfl rfl ?_
  refine zw_ld (n := 2) (k := 4) (f := zp_isI) (pc' := 229) zv_i227 rfl l4 rfl rfl ?_
  refine zw_s (pc' := 230) zv_i229 rfl ?_
  refine zw_iadd (pc' := 231) zv_i230 rfl ?_
  refine zw_sc (pc' := 232) zv_i231 ⟨by rw [e1]; omega, by rw [e1]; omega⟩ rfl ?_
  refine zw_ld (n := 1) (k := 3) (f := zp_isR) (pc' := 233) zv_i232 rfl l3 rfl rfl ?_
  refine zw_ct (pc' := 236) (c' := (cs + 1, sl + 6)) (zw_cs (Y := zm_48) zv_i233 rfl zm_48_t) ⟨za_ble rfl, za_ble rfl, by show cs + 0 + 1 ≤ 601024; omega, by show sl + 0 + 6 ≤ 7293033; omega⟩ rfl rfl rfl rfl c1 ?_
  refine zw_st (n := 2) (k := 5) (f := zp_isI) (pc' := 238) zv_i236 rfl rfl rfl rfl ?_
  refine zw_ld (n := 1) (k := 2) (f := zp_isR) (pc' := 239) zv_i238 rfl (zw_gt l2 rfl rfl) rfl rfl ?_
  refine zw_ld (n := 1) (k := 0) (f := zp_isR) (pc' := 240) zv_i239 rfl (zw_gt l0 rfl rfl) rfl rfl ?_
  refine zw_ld (n := 2) (k := 4) (f := zp_isI) (pc' := 242) zv_i240 rfl (zw_gt l4 rfl rfl) rfl rfl ?_
  refine zw_s (pc' := 243) zv_i242 rfl ?_
  refine zw_iadd (pc' := 244) zv_i243 rfl ?_
  refine zw_sc (pc' := 245) zv_i244 ⟨by rw [e1]; omega, by rw [e1]; omega⟩ rfl ?_
  refine zw_ct (pc' := 248) (c' := (cs + 1, sl + 6)) (zw_cv (q := 72) (Y := zm_169) hW1 zv_i245 rfl zm_169_t rfl rfl) ⟨za_ble rfl, za_ble rfl, by show cs + 1 + 0 ≤ 601024; omega, by show sl + 6 + 0 ≤ 7293033; omega⟩ rfl rfl rfl rfl c2 ?_
  refine zw_st (n := 2) (k := 6) (f := zp_isI) (pc' := 250) zv_i248 rfl rfl rfl rfl ?_
  refine zw_s (pc' := 1024) zv_i250 rfl ?_
  exact kk _ H2 cc t2 _ _ hI2 (zw_gt (zw_gt l0 rfl rfl) rfl rfl) (zw_gt (zw_gt l1 rfl rfl) rfl rfl) (zw_gt (zw_gt l2 rfl rfl) rfl rfl) (zw_gt (zw_gt l3 rfl rfl) rfl rfl) (zw_gt (zw_gt l4 rfl rfl) rfl rfl) (by omega) (by omega)

set_option maxRecDepth 8000 in
theorem zv_op2 {L : Nat} {σ : Nat → Int32} {d : Nat} {P : zp_X → Prop} {H : zp_H} {lv : zp_LV} {i : Int32} {c t cs sl : Nat} (hI : yJ c t H) (l0 : zp_get lv 0 = some (.inr (.inr (some 0)))) (l1 : zp_get lv 1 = some (.inr (.inr (some 1)))) (l2 : zp_get lv 2 = some (.inr (.inr (some 73)))) (l3 : zp_get lv 3 = some (.inr (.inr (some 105)))) (l4 : zp_get lv 4 = some (.inl i)) (hi : 0 ≤ i.toInt ∧ i.toInt + 6 ≤ L) (hL : L ≤ 3072) (hcs : cs + 4 ≤ 601024) (hsl : sl + 24 ≤ 7293033) (kk : ∀ (lv' : zp_LV) (H' : zp_H) (c' t' cs' sl' : Nat), yJ c' t' H' → zp_get lv' 0 = some (.inr (.inr (some 0))) → zp_get lv' 1 = some (.inr (.inr (some 1))) → zp_get lv' 2 = some (.inr (.inr (some 73))) → zp_get lv' 3 = some (.inr (.inr (some 105))) → zp_get lv' 4 = some (.inl i) → cs' ≤ cs + 4 → sl' ≤ sl + 24 → zs_Safe L σ P zL [] (d + 60) (1024, lv', [], H', (cs', sl'))) : zs_Safe L σ P zL [] (d + 60) (253, lv, [], H, (cs, sl)) := by
  have e1 : (i + Int32.ofInt 1).toInt = i.toInt + 1 := zv_add (by decide) (by omega)
  have e2 : (i + Int32.ofInt 2).toInt = i.toInt + 2 := zv_add (by decide) (by omega)
  have e3 : (i + Int32.ofInt 3).toInt = i.toInt + 3 := zv_add (by decide) (by omega)
  have e4 : (i + Int32.ofInt 4).toInt = i.toInt + 4 := zv_add (by decide) (by omega)
  have e5 : (i + Int32.ofInt 5).toInt = i.toInt + 5 := zv_add (by decide) (by omega)
  obtain ⟨H1, v, c1, hI1⟩ := yp_fault (L := L) (σ := σ) (d := d)  hI
  obtain ⟨H2, u, c2, hI2⟩ := yq_fault (L := L) (σ := σ) (d := d)  hI1
  have hW1 := hI1.1.1.1.1
  refine zw_ld (n := 1) (k := 1) (f := zp_isR) (pc' := 254) zv_i253 rfl l1 rfl rfl ?_
  refine zw_ct (pc' := 257) (c' := (cs + 0, sl + 0)) (zw_cv (q := 0) (Y := zm_19) hI.1.1.1.1 zv_i254 rfl zm_19_t rfl rfl) ⟨za_ble rfl, za_ble rfl, by show cs + 0 + 0 ≤ 601024; omega, by show sl + 0 + 0 ≤ 7293033; omega⟩ rfl rfl rfl rfl c1 ?_
  refine zw_s (pc' := 258) zv_i257 rfl ?_
  refine zw_ld (n := 1) (k := 2) (f := zp_isR) (pc' := 259) zv_i258 rfl l2 rfl rfl ?_
  refine zw_ct (pc' := 262) (c' := (cs + 0, sl + 0)) (zw_cv (q := 72) (Y := zm_205) hW1 zv_i259 rfl zm_205_t rfl rfl) ⟨za_ble rfl, za_ble rfl, by show cs + 0 + 0 ≤ 601024; omega, by show sl + 0 + 0 ≤ 7293033; omega⟩ rfl rfl rfl rfl c2 ?_
  refine zw_s (pc' := 263) zv_i262 rfl ?_
  refine zw_s (pc' := 1024) zv_i263 rfl ?_
  exact kk _ H2 c t _ _ hI2 l0 l1 l2 l3 l4 (by omega) (by omega)

set_option maxRecDepth 8000 in
theorem zv_op3 {L : Nat} {σ : Nat → Int32} {d : Nat} {P : zp_X → Prop} {H : zp_H} {lv : zp_LV} {i : Int32} {c t cs sl : Nat} (hI : yJ c t H) (l0 : zp_get lv 0 = some (.inr (.inr (some 0)))) (l1 : zp_get lv 1 = some (.inr (.inr (some 1)))) (l2 : zp_get lv 2 = some (.inr (.inr (some 73)))) (l3 : zp_get lv 3 = some (.inr (.inr (some 105)))) (l4 : zp_get lv 4 = some (.inl i)) (hi : 0 ≤ i.toInt ∧ i.toInt + 6 ≤ L) (hL : L ≤ 3072) (hcs : cs + 4 ≤ 601024) (hsl : sl + 24 ≤ 7293033) (kk : ∀ (lv' : zp_LV) (H' : zp_H) (c' t' cs' sl' : Nat), yJ c' t' H' → zp_get lv' 0 = some (.inr (.inr (some 0))) → zp_get lv' 1 = some (.inr (.inr (some 1))) → zp_get lv' 2 = some (.inr (.inr (some 73))) → zp_get lv' 3 = some (.inr (.inr (some 105))) → zp_get lv' 4 = some (.inl i) → cs' ≤ cs + 4 → sl' ≤ sl + 24 → zs_Safe L σ P zL [] (d + 60) (1024, lv', [], H', (cs', sl'))) : zs_Safe L σ P zL [] (d + 60) (266, lv, [], H, (cs, sl)) := by
  have e1 : (i + Int32.ofInt 1).toInt = i.toInt + 1 := zv_add (by decide) (by omega)
  have e2 : (i + Int32.ofInt 2).toInt = i.toInt + 2 := zv_add (by decide) (by omega)
  have e3 : (i + Int32.ofInt 3).toInt = i.toInt + 3 := zv_add (by decide) (by omega)
  have e4 : (i + Int32.ofInt 4).toInt = i.toInt + 4 := zv_add (by decide) (by omega)
  have e5 : (i + Int32.ofInt 5).toInt = i.toInt + 5 := zv_add (by decide) (by omega)
  obtain ⟨H1, v, c1, hI1⟩ := yp_count (L := L) (σ := σ) (d := d) (x1 := σ (i + Int32.ofInt 1).toInt.toNat) hI
  obtain ⟨H2, u, c2, hI2⟩ := yq_count (L := L) (σ := σ) (d := d) (x1 := σ (i + Int32.ofInt 1).toInt.toNat) hI1
  have hW1 := hI1.1.1.1.1
  refine zw_ld (n := 1) (k := 1) (f := zp_isR) (pc' := 267) zv_i266 rfl l1 rfl rfl ?_
  refine zw_ld (n := 1) (k := 0) (f := zp_isR) (pc' := 268) zv_i267 rfl l0 rfl rfl ?_
  refine zw_ld (n := 2) (k := 4) (f := zp_isI) (pc' := 270) zv_i268 rfl l4 rfl rfl ?_
  refine zw_s (pc' := 271) zv_i270 rfl ?_
  refine zw_iadd (pc' := 272) zv_i271 rfl ?_
  refine zw_sc (pc' := 273) zv_i272 ⟨by rw [e1]; omega, by rw [e1]; omega⟩ rfl ?_
  refine zw_ld (n := 1) (k := 3) (f := zp_isR) (pc' := 274) zv_i273 rfl l3 rfl rfl ?_
  refine zw_ct (pc' := 277) (c' := (cs + 1, sl + 6)) (zw_cs (Y := zm_100) zv_i274 rfl zm_100_t) ⟨za_ble rfl, za_ble rfl, by show cs + 0 + 1 ≤ 601024; omega, by show sl + 0 + 6 ≤ 7293033; omega⟩ rfl rfl rfl rfl c1 ?_
  refine zw_st (n := 2) (k := 5) (f := zp_isI) (pc' := 279) zv_i277 rfl rfl rfl rfl ?_
  refine zw_ld (n := 1) (k := 2) (f := zp_isR) (pc' := 280) zv_i279 rfl (zw_gt l2 rfl rfl) rfl rfl ?_
  refine zw_ld (n := 1) (k := 0) (f := zp_isR) (pc' := 281) zv_i280 rfl (zw_gt l0 rfl rfl) rfl rfl ?_
  refine zw_ld (n := 2) (k := 4) (f := zp_isI) (pc' := 283) zv_i281 rfl (zw_gt l4 rfl rfl) rfl rfl ?_
  refine zw_s (pc' := 284) zv_i283 rfl ?_
  refine zw_iadd (pc' := 285) zv_i284 rfl ?_
  refine zw_sc (pc' := 286) zv_i285 ⟨by rw [e1]; omega, by rw [e1]; omega⟩ rfl ?_
  refine zw_ct (pc' := 289) (c' := (cs + 1, sl + 6)) (zw_cv (q := 72) (Y := zm_206) hW1 zv_i286 rfl zm_206_t rfl rfl) ⟨za_ble rfl, za_ble rfl, by show cs + 1 + 0 ≤ 601024; omega, by show sl + 6 + 0 ≤ 7293033; omega⟩ rfl rfl rfl rfl c2 ?_
  refine zw_st (n := 2) (k := 6) (f := zp_isI) (pc' := 291) zv_i289 rfl rfl rfl rfl ?_
  refine zw_s (pc' := 1024) zv_i291 rfl ?_
  exact kk _ H2 c t _ _ hI2 (zw_gt (zw_gt l0 rfl rfl) rfl rfl) (zw_gt (zw_gt l1 rfl rfl) rfl rfl) (zw_gt (zw_gt l2 rfl rfl) rfl rfl) (zw_gt (zw_gt l3 rfl rfl) rfl rfl) (zw_gt (zw_gt l4 rfl rfl) rfl rfl) (by omega) (by omega)

set_option maxRecDepth 8000 in
theorem zv_op4 {L : Nat} {σ : Nat → Int32} {d : Nat} {P : zp_X → Prop} {H : zp_H} {lv : zp_LV} {i : Int32} {c t cs sl : Nat} (hI : yJ c t H) (l0 : zp_get lv 0 = some (.inr (.inr (some 0)))) (l1 : zp_get lv 1 = some (.inr (.inr (some 1)))) (l2 : zp_get lv 2 = some (.inr (.inr (some 73)))) (l3 : zp_get lv 3 = some (.inr (.inr (some 105)))) (l4 : zp_get lv 4 = some (.inl i)) (hi : 0 ≤ i.toInt ∧ i.toInt + 6 ≤ L) (hL : L ≤ 3072) (hcs : cs + 4 ≤ 601024) (hsl : sl + 24 ≤ 7293033) (kk : ∀ (lv' : zp_LV) (H' : zp_H) (c' t' cs' sl' : Nat), yJ c' t' H' → zp_get lv' 0 = some (.inr (.inr (some 0))) → zp_get lv' 1 = some (.inr (.inr (some 1))) → zp_get lv' 2 = some (.inr (.inr (some 73))) → zp_get lv' 3 = some (.inr (.inr (some 105))) → zp_get lv' 4 = some (.inl i) → cs' ≤ cs + 4 → sl' ≤ sl + 24 → zs_Safe L σ P zL [] (d + 60) (1024, lv', [], H', (cs', sl'))) : zs_Safe L σ P zL [] (d + 60) (294, lv, [], H, (cs, sl)) := by
  have e1 : (i + Int32.ofInt 1).toInt = i.toInt + 1 := zv_add (by decide) (by omega)
  have e2 : (i + Int32.ofInt 2).toInt = i.toInt + 2 := zv_add (by decide) (by omega)
  have e3 : (i + Int32.ofInt 3).toInt = i.toInt + 3 := zv_add (by decide) (by omega)
  have e4 : (i + Int32.ofInt 4).toInt = i.toInt + 4 := zv_add (by decide) (by omega)
  have e5 : (i + Int32.ofInt 5).toInt = i.toInt + 5 := zv_add (by decide) (by omega)
  obtain ⟨H1, v, c1, hI1⟩ := yp_cell (L := L) (σ := σ) (d := d) (x1 := σ (i + Int32.ofInt 1).toInt.toNat) (x2 := σ (i + Int32.ofInt 2).toInt.toNat) hI
  obtain ⟨H2, u, c2, hI2⟩ := yq_cell (L := L) (σ := σ) (d := d) (x1 := σ (i + Int32.ofInt 1).toInt.toNat) (x2 := σ (i + Int32.ofInt 2).toInt.toNat) hI1
  have hW1 := hI1.1.1.1.1
  refine zw_ld (n := 1) (k := 1) (f := zp_isR) (pc' := 295) zv_i294 rfl l1 rfl rfl ?_
  refine zw_ld (n := 1) (k := 0) (f := zp_isR) (pc' := 296) zv_i295 rfl l0 rfl rfl ?_
  refine zw_ld (n := 2) (k := 4) (f := zp_isI) (pc' := 298) zv_i296 rfl l4 rfl rfl ?_
  refine zw_s (pc' := 299) zv_i298 rfl ?_
  refine zw_iadd (pc' := 300) zv_i299 rfl ?_
  refine zw_sc (pc' := 301) zv_i300 ⟨by rw [e1]; omega, by rw [e1]; omega⟩ rfl ?_
  refine zw_ld (n := 1) (k := 0) (f := zp_isR) (pc' := 302) zv_i301 rfl l0 rfl rfl ?_
  refine zw_ld (n := 2) (k := 4) (f := zp_isI) (pc' := 304) zv_i302 rfl l4 rfl rfl ?_
  refine zw_s (pc' := 305) zv_i304 rfl ?_
  refine zw_iadd (pc' := 306) zv_i305 rfl ?_
  refine zw_sc (pc' := 307) zv_i306 ⟨by rw [e2]; omega, by rw [e2]; omega⟩ rfl ?_
  refine zw_ld (n := 1) (k := 3) (f := zp_isR) (pc' := 308) zv_i307 rfl l3 rfl rfl ?_
  refine zw_ct (pc' := 311) (c' := (cs + 2, sl + 12)) (zw_cs (Y := zm_102) zv_i308 rfl zm_102_t) ⟨za_ble rfl, za_ble rfl, by show cs + 0 + 2 ≤ 601024; omega, by show sl + 0 + 12 ≤ 7293033; omega⟩ rfl rfl rfl rfl c1 ?_
  refine zw_st (n := 2) (k := 5) (f := zp_isI) (pc' := 313) zv_i311 rfl rfl rfl rfl ?_
  refine zw_ld (n := 1) (k := 2) (f := zp_isR) (pc' := 314) zv_i313 rfl (zw_gt l2 rfl rfl) rfl rfl ?_
  refine zw_ld (n := 1) (k := 0) (f := zp_isR) (pc' := 315) zv_i314 rfl (zw_gt l0 rfl rfl) rfl rfl ?_
  refine zw_ld (n := 2) (k := 4) (f := zp_isI) (pc' := 317) zv_i315 rfl (zw_gt l4 rfl rfl) rfl rfl ?_
  refine zw_s (pc' := 318) zv_i317 rfl ?_
  refine zw_iadd (pc' := 319) zv_i318 rfl ?_
  refine zw_sc (pc' := 320) zv_i319 ⟨by rw [e1]; omega, by rw [e1]; omega⟩ rfl ?_
  refine zw_ld (n := 1) (k := 0) (f := zp_isR) (pc' := 321) zv_i320 rfl (zw_gt l0 rfl rfl) rfl rfl ?_
  refine zw_ld (n := 2) (k := 4) (f := zp_isI) (pc' := 323) zv_i321 rfl (zw_gt l4 rfl rfl) rfl rfl ?_
  refine zw_s (pc' := 324) zv_i323 rfl ?_
  refine zw_iadd (pc' := 325) zv_i324 rfl ?_
  refine zw_sc (pc' := 326) zv_i325 ⟨by rw [e2]; omega, by rw [e2]; omega⟩ rfl ?_
  refine zw_ct (pc' := 329) (c' := (cs + 2, sl + 12)) (zw_cv (q := 72) (Y := zm_207) hW1 zv_i326 rfl zm_207_t rfl rfl) ⟨za_ble rfl, za_ble rfl, by show cs + 2 + 0 ≤ 601024; omega, by show sl + 12 + 0 ≤ 7293033; omega⟩ rfl rfl rfl rfl c2 ?_
  refine zw_st (n := 2) (k := 6) (f := zp_isI) (pc' := 331) zv_i329 rfl rfl rfl rfl ?_
  refine zw_s (pc' := 1024) zv_i331 rfl ?_
  exact kk _ H2 c t _ _ hI2 (zw_gt (zw_gt l0 rfl rfl) rfl rfl) (zw_gt (zw_gt l1 rfl rfl) rfl rfl) (zw_gt (zw_gt l2 rfl rfl) rfl rfl) (zw_gt (zw_gt l3 rfl rfl) rfl rfl) (zw_gt (zw_gt l4 rfl rfl) rfl rfl) (by omega) (by omega)

set_option maxRecDepth 8000 in
theorem zv_op5 {L : Nat} {σ : Nat → Int32} {d : Nat} {P : zp_X → Prop} {H : zp_H} {lv : zp_LV} {i : Int32} {c t cs sl : Nat} (hI : yJ c t H) (l0 : zp_get lv 0 = some (.inr (.inr (some 0)))) (l1 : zp_get lv 1 = some (.inr (.inr (some 1)))) (l2 : zp_get lv 2 = some (.inr (.inr (some 73)))) (l3 : zp_get lv 3 = some (.inr (.inr (some 105)))) (l4 : zp_get lv 4 = some (.inl i)) (hi : 0 ≤ i.toInt ∧ i.toInt + 6 ≤ L) (hL : L ≤ 3072) (hcs : cs + 4 ≤ 601024) (hsl : sl + 24 ≤ 7293033) (kk : ∀ (lv' : zp_LV) (H' : zp_H) (c' t' cs' sl' : Nat), yJ c' t' H' → zp_get lv' 0 = some (.inr (.inr (some 0))) → zp_get lv' 1 = some (.inr (.inr (some 1))) → zp_get lv' 2 = some (.inr (.inr (some 73))) → zp_get lv' 3 = some (.inr (.inr (some 105))) → zp_get lv' 4 = some (.inl i) → cs' ≤ cs + 4 → sl' ≤ sl + 24 → zs_Safe L σ P zL [] (d + 60) (1024, lv', [], H', (cs', sl'))) : zs_Safe L σ P zL [] (d + 60) (334, lv, [], H, (cs, sl)) := by
  have e1 : (i + Int32.ofInt 1).toInt = i.toInt + 1 := zv_add (by decide) (by omega)
  have e2 : (i + Int32.ofInt 2).toInt = i.toInt + 2 := zv_add (by decide) (by omega)
  have e3 : (i + Int32.ofInt 3).toInt = i.toInt + 3 := zv_add (by decide) (by omega)
  have e4 : (i + Int32.ofInt 4).toInt = i.toInt + 4 := zv_add (by decide) (by omega)
  have e5 : (i + Int32.ofInt 5).toInt = i.toInt + 5 := zv_add (by decide) (by omega)
  obtain ⟨H1, v, c1, hI1⟩ := yp_slate (L := L) (σ := σ) (d := d) (x1 := σ (i + Int32.ofInt 1).toInt.toNat) (x2 := σ (i + Int32.ofInt 2).toInt.toNat) hI
  obtain ⟨H2, u, c2, hI2⟩ := yq_slate (L := L) (σ := σ) (d := d) (x1 := σ (i + Int32.ofInt 1).toInt.toNat) (x2 := σ (i + Int32.ofInt 2).toInt.toNat) hI1
  have hW1 := hI1.1.1.1.1
  refine zw_ld (n := 1) (k := 1) (f := zp_isR) (pc' := 335) zv_i334 rfl l1 rfl rfl ?_
  refine zw_ld (n := 1) (k := 0) (f := zp_isR) (pc' := 336) zv_i335 rfl l0 rfl rfl ?_
  refine zw_ld (n := 2) (k := 4) (f := zp_isI) (pc' := 338) zv_i336 rfl l4 rfl rfl ?_
  refine zw_s (pc' := 339) zv_i338 rfl ?_
  refine zw_iadd (pc' := 340) zv_i339 rfl ?_
  refine zw_sc (pc' := 341) zv_i340 ⟨by rw [e1]; omega, by rw [e1]; omega⟩ rfl ?_
  refine zw_ld (n := 1) (k := 0) (f := zp_isR) (pc' := 342) zv_i341 rfl l0 rfl rfl ?_
  refine zw_ld (n := 2) (k := 4) (f := zp_isI) (pc' := 344) zv_i342 rfl l4 rfl rfl ?_
  refine zw_s (pc' := 345) zv_i344 rfl ?_
  refine zw_iadd (pc' := 346) zv_i345 rfl ?_
  refine zw_sc (pc' := 347) zv_i346 ⟨by rw [e2]; omega, by rw [e2]; omega⟩ rfl ?_
  refine zw_ld (n := 1) (k := 3) (f := zp_isR) (pc' := 348) zv_i347 rfl l3 rfl rfl ?_
  refine zw_ct (pc' := 351) (c' := (cs + 2, sl + 12)) (zw_cs (Y := zm_106) zv_i348 rfl zm_106_t) ⟨za_ble rfl, za_ble rfl, by show cs + 0 + 2 ≤ 601024; omega, by show sl + 0 + 12 ≤ 7293033; omega⟩ rfl rfl rfl rfl c1 ?_
  refine zw_st (n := 2) (k := 5) (f := zp_isI) (pc' := 353) zv_i351 rfl rfl rfl rfl ?_
  refine zw_ld (n := 1) (k := 2) (f := zp_isR) (pc' := 354) zv_i353 rfl (zw_gt l2 rfl rfl) rfl rfl ?_
  refine zw_ld (n := 1) (k := 0) (f := zp_isR) (pc' := 355) zv_i354 rfl (zw_gt l0 rfl rfl) rfl rfl ?_
  refine zw_ld (n := 2) (k := 4) (f := zp_isI) (pc' := 357) zv_i355 rfl (zw_gt l4 rfl rfl) rfl rfl ?_
  refine zw_s (pc' := 358) zv_i357 rfl ?_
  refine zw_iadd (pc' := 359) zv_i358 rfl ?_
  refine zw_sc (pc' := 360) zv_i359 ⟨by rw [e1]; omega, by rw [e1]; omega⟩ rfl ?_
  refine zw_ld (n := 1) (k := 0) (f := zp_isR) (pc' := 361) zv_i360 rfl (zw_gt l0 rfl rfl) rfl rfl ?_
  refine zw_ld (n := 2) (k := 4) (f := zp_isI) (pc' := 363) zv_i361 rfl (zw_gt l4 rfl rfl) rfl rfl ?_
  refine zw_s (pc' := 364) zv_i363 rfl ?_
  refine zw_iadd (pc' := 365) zv_i364 rfl ?_
  refine zw_sc (pc' := 366) zv_i365 ⟨by rw [e2]; omega, by rw [e2]; omega⟩ rfl ?_
  refine zw_ct (pc' := 369) (c' := (cs + 2, sl + 12)) (zw_cv (q := 72) (Y := zm_209) hW1 zv_i366 rfl zm_209_t rfl rfl) ⟨za_ble rfl, za_ble rfl, by show cs + 2 + 0 ≤ 601024; omega, by show sl + 12 + 0 ≤ 7293033; omega⟩ rfl rfl rfl rfl c2 ?_
  refine zw_st (n := 2) (k := 6) (f := zp_isI) (pc' := 371) zv_i369 rfl rfl rfl rfl ?_
  refine zw_s (pc' := 1024) zv_i371 rfl ?_
  exact kk _ H2 c t _ _ hI2 (zw_gt (zw_gt l0 rfl rfl) rfl rfl) (zw_gt (zw_gt l1 rfl rfl) rfl rfl) (zw_gt (zw_gt l2 rfl rfl) rfl rfl) (zw_gt (zw_gt l3 rfl rfl) rfl rfl) (zw_gt (zw_gt l4 rfl rfl) rfl rfl) (by omega) (by omega)

set_option maxRecDepth 8000 in
theorem zv_op6 {L : Nat} {σ : Nat → Int32} {d : Nat} {P : zp_X → Prop} {H : zp_H} {lv : zp_LV} {i : Int32} {c t cs sl : Nat} (hI : yJ c t H) (l0 : zp_get lv 0 = some (.inr (.inr (some 0)))) (l1 : zp_get lv 1 = some (.inr (.inr (some 1)))) (l2 : zp_get lv 2 = some (.inr (.inr (some 73)))) (l3 : zp_get lv 3 = some (.inr (.inr (some 105)))) (l4 : zp_get lv 4 = some (.inl i)) (hi : 0 ≤ i.toInt ∧ i.toInt + 6 ≤ L) (hL : L ≤ 3072) (hcs : cs + 4 ≤ 601024) (hsl : sl + 24 ≤ 7293033) (kk : ∀ (lv' : zp_LV) (H' : zp_H) (c' t' cs' sl' : Nat), yJ c' t' H' → zp_get lv' 0 = some (.inr (.inr (some 0))) → zp_get lv' 1 = some (.inr (.inr (some 1))) → zp_get lv' 2 = some (.inr (.inr (some 73))) → zp_get lv' 3 = some (.inr (.inr (some 105))) → zp_get lv' 4 = some (.inl i) → cs' ≤ cs + 4 → sl' ≤ sl + 24 → zs_Safe L σ P zL [] (d + 60) (1024, lv', [], H', (cs', sl'))) : zs_Safe L σ P zL [] (d + 60) (374, lv, [], H, (cs, sl)) := by
  have e1 : (i + Int32.ofInt 1).toInt = i.toInt + 1 := zv_add (by decide) (by omega)
  have e2 : (i + Int32.ofInt 2).toInt = i.toInt + 2 := zv_add (by decide) (by omega)
  have e3 : (i + Int32.ofInt 3).toInt = i.toInt + 3 := zv_add (by decide) (by omega)
  have e4 : (i + Int32.ofInt 4).toInt = i.toInt + 4 := zv_add (by decide) (by omega)
  have e5 : (i + Int32.ofInt 5).toInt = i.toInt + 5 := zv_add (by decide) (by omega)
  obtain ⟨H1, v, c1, hI1⟩ := yp_mark (L := L) (σ := σ) (d := d) (x1 := σ (i + Int32.ofInt 1).toInt.toNat) (x2 := σ (i + Int32.ofInt 2).toInt.toNat) (x3 := σ (i + Int32.ofInt 3).toInt.toNat) hI
  obtain ⟨H2, u, c2, hI2⟩ := yq_mark (L := L) (σ := σ) (d := d) (x1 := σ (i + Int32.ofInt 1).toInt.toNat) (x2 := σ (i + Int32.ofInt 2).toInt.toNat) (x3 := σ (i + Int32.ofInt 3).toInt.toNat) hI1
  have hW1 := hI1.1.1.1.1
  refine zw_ld (n := 1) (k := 1) (f := zp_isR) (pc' := 375) zv_i374 rfl l1 rfl rfl ?_
  refine zw_ld (n := 1) (k := 0) (f := zp_isR) (pc' := 376) zv_i375 rfl l0 rfl rfl ?_
  refine zw_ld (n := 2) (k := 4) (f := zp_isI) (pc' := 378) zv_i376 rfl l4 rfl rfl ?_
  refine zw_s (pc' := 379) zv_i378 rfl ?_
  refine zw_iadd (pc' := 380) zv_i379 rfl ?_
  refine zw_sc (pc' := 381) zv_i380 ⟨by rw [e1]; omega, by rw [e1]; omega⟩ rfl ?_
  refine zw_ld (n := 1) (k := 0) (f := zp_isR) (pc' := 382) zv_i381 rfl l0 rfl rfl ?_
  refine zw_ld (n := 2) (k := 4) (f := zp_isI) (pc' := 384) zv_i382 rfl l4 rfl rfl ?_
  refine zw_s (pc' := 385) zv_i384 rfl ?_
  refine zw_iadd (pc' := 386) zv_i385 rfl ?_
  refine zw_sc (pc' := 387) zv_i386 ⟨by rw [e2]; omega, by rw [e2]; omega⟩ rfl ?_
  refine zw_ld (n := 1) (k := 0) (f := zp_isR) (pc' := 388) zv_i387 rfl l0 rfl rfl ?_
  refine zw_ld (n := 2) (k := 4) (f := zp_isI) (pc' := 390) zv_i388 rfl l4 rfl rfl ?_
  refine zw_s (pc' := 391) zv_i390 rfl ?_
  refine zw_iadd (pc' := 392) zv_i391 rfl ?_
  refine zw_sc (pc' := 393) zv_i392 ⟨by rw [e3]; omega, by rw [e3]; omega⟩ rfl ?_
  refine zw_ld (n := 1) (k := 3) (f := zp_isR) (pc' := 394) zv_i393 rfl l3 rfl rfl ?_
  refine zw_ct (pc' := 397) (c' := (cs + 3, sl + 18)) (zw_cs (Y := zm_109) zv_i394 rfl zm_109_t) ⟨za_ble rfl, za_ble rfl, by show cs + 0 + 3 ≤ 601024; omega, by show sl + 0 + 18 ≤ 7293033; omega⟩ rfl rfl rfl rfl c1 ?_
  refine zw_st (n := 2) (k := 5) (f := zp_isI) (pc' := 399) zv_i397 rfl rfl rfl rfl ?_
  refine zw_ld (n := 1) (k := 2) (f := zp_isR) (pc' := 400) zv_i399 rfl (zw_gt l2 rfl rfl) rfl rfl ?_
  refine zw_ld (n := 1) (k := 0) (f := zp_isR) (pc' := 401) zv_i400 rfl (zw_gt l0 rfl rfl) rfl rfl ?_
  refine zw_ld (n := 2) (k := 4) (f := zp_isI) (pc' := 403) zv_i401 rfl (zw_gt l4 rfl rfl) rfl rfl ?_
  refine zw_s (pc' := 404) zv_i403 rfl ?_
  refine zw_iadd (pc' := 405) zv_i404 rfl ?_
  refine zw_sc (pc' := 406) zv_i405 ⟨by rw [e1]; omega, by rw [e1]; omega⟩ rfl ?_
  refine zw_ld (n := 1) (k := 0) (f := zp_isR) (pc' := 407) zv_i406 rfl (zw_gt l0 rfl rfl) rfl rfl ?_
  refine zw_ld (n := 2) (k := 4) (f := zp_isI) (pc' := 409) zv_i407 rfl (zw_gt l4 rfl rfl) rfl rfl ?_
  refine zw_s (pc' := 410) zv_i409 rfl ?_
  refine zw_iadd (pc' := 411) zv_i410 rfl ?_
  refine zw_sc (pc' := 412) zv_i411 ⟨by rw [e2]; omega, by rw [e2]; omega⟩ rfl ?_
  refine zw_ld (n := 1) (k := 0) (f := zp_isR) (pc' := 413) zv_i412 rfl (zw_gt l0 rfl rfl) rfl rfl ?_
  refine zw_ld (n := 2) (k := 4) (f := zp_isI) (pc' := 415) zv_i413 rfl (zw_gt l4 rfl rfl) rfl rfl ?_
  refine zw_s (pc' := 416) zv_i415 rfl ?_
  refine zw_iadd (pc' := 417) zv_i416 rfl ?_
  refine zw_sc (pc' := 418) zv_i417 ⟨by rw [e3]; omega, by rw [e3]; omega⟩ rfl ?_
  refine zw_ct (pc' := 421) (c' := (cs + 3, sl + 18)) (zw_cv (q := 72) (Y := zm_211) hW1 zv_i418 rfl zm_211_t rfl rfl) ⟨za_ble rfl, za_ble rfl, by show cs + 3 + 0 ≤ 601024; omega, by show sl + 18 + 0 ≤ 7293033; omega⟩ rfl rfl rfl rfl c2 ?_
  refine zw_st (n := 2) (k := 6) (f := zp_isI) (pc' := 423) zv_i421 rfl rfl rfl rfl ?_
  refine zw_s (pc' := 1024) zv_i423 rfl ?_
  exact kk _ H2 c t _ _ hI2 (zw_gt (zw_gt l0 rfl rfl) rfl rfl) (zw_gt (zw_gt l1 rfl rfl) rfl rfl) (zw_gt (zw_gt l2 rfl rfl) rfl rfl) (zw_gt (zw_gt l3 rfl rfl) rfl rfl) (zw_gt (zw_gt l4 rfl rfl) rfl rfl) (by omega) (by omega)

set_option maxRecDepth 8000 in
theorem zv_op7 {L : Nat} {σ : Nat → Int32} {d : Nat} {P : zp_X → Prop} {H : zp_H} {lv : zp_LV} {i : Int32} {c t cs sl : Nat} (hI : yJ c t H) (l0 : zp_get lv 0 = some (.inr (.inr (some 0)))) (l1 : zp_get lv 1 = some (.inr (.inr (some 1)))) (l2 : zp_get lv 2 = some (.inr (.inr (some 73)))) (l3 : zp_get lv 3 = some (.inr (.inr (some 105)))) (l4 : zp_get lv 4 = some (.inl i)) (hi : 0 ≤ i.toInt ∧ i.toInt + 6 ≤ L) (hL : L ≤ 3072) (hcs : cs + 4 ≤ 601024) (hsl : sl + 24 ≤ 7293033) (kk : ∀ (lv' : zp_LV) (H' : zp_H) (c' t' cs' sl' : Nat), yJ c' t' H' → zp_get lv' 0 = some (.inr (.inr (some 0))) → zp_get lv' 1 = some (.inr (.inr (some 1))) → zp_get lv' 2 = some (.inr (.inr (some 73))) → zp_get lv' 3 = some (.inr (.inr (some 105))) → zp_get lv' 4 = some (.inl i) → cs' ≤ cs + 4 → sl' ≤ sl + 24 → zs_Safe L σ P zL [] (d + 60) (1024, lv', [], H', (cs', sl'))) : zs_Safe L σ P zL [] (d + 60) (426, lv, [], H, (cs, sl)) := by
  have e1 : (i + Int32.ofInt 1).toInt = i.toInt + 1 := zv_add (by decide) (by omega)
  have e2 : (i + Int32.ofInt 2).toInt = i.toInt + 2 := zv_add (by decide) (by omega)
  have e3 : (i + Int32.ofInt 3).toInt = i.toInt + 3 := zv_add (by decide) (by omega)
  have e4 : (i + Int32.ofInt 4).toInt = i.toInt + 4 := zv_add (by decide) (by omega)
  have e5 : (i + Int32.ofInt 5).toInt = i.toInt + 5 := zv_add (by decide) (by omega)
  obtain ⟨H1, H2, v, u, c1, c2, hW1, hI2, hth, hout⟩ := yb_write (L := L) (σ := σ) (d := d) (x1 := σ (i + Int32.ofInt 1).toInt.toNat) (x2 := σ (i + Int32.ofInt 2).toInt.toNat) (x3 := σ (i + Int32.ofInt 3).toInt.toNat) hI
  refine zw_ld (n := 1) (k := 1) (f := zp_isR) (pc' := 427) zv_i426 rfl l1 rfl rfl ?_
  refine zw_ld (n := 1) (k := 0) (f := zp_isR) (pc' := 428) zv_i427 rfl l0 rfl rfl ?_
  refine zw_ld (n := 2) (k := 4) (f := zp_isI) (pc' := 430) zv_i428 rfl l4 rfl rfl ?_
  refine zw_s (pc' := 431) zv_i430 rfl ?_
  refine zw_iadd (pc' := 432) zv_i431 rfl ?_
  refine zw_sc (pc' := 433) zv_i432 ⟨by rw [e1]; omega, by rw [e1]; omega⟩ rfl ?_
  refine zw_ld (n := 1) (k := 0) (f := zp_isR) (pc' := 434) zv_i433 rfl l0 rfl rfl ?_
  refine zw_ld (n := 2) (k := 4) (f := zp_isI) (pc' := 436) zv_i434 rfl l4 rfl rfl ?_
  refine zw_s (pc' := 437) zv_i436 rfl ?_
  refine zw_iadd (pc' := 438) zv_i437 rfl ?_
  refine zw_sc (pc' := 439) zv_i438 ⟨by rw [e2]; omega, by rw [e2]; omega⟩ rfl ?_
  refine zw_ld (n := 1) (k := 0) (f := zp_isR) (pc' := 440) zv_i439 rfl l0 rfl rfl ?_
  refine zw_ld (n := 2) (k := 4) (f := zp_isI) (pc' := 442) zv_i440 rfl l4 rfl rfl ?_
  refine zw_s (pc' := 443) zv_i442 rfl ?_
  refine zw_iadd (pc' := 444) zv_i443 rfl ?_
  refine zw_sc (pc' := 445) zv_i444 ⟨by rw [e3]; omega, by rw [e3]; omega⟩ rfl ?_
  refine zw_ld (n := 1) (k := 3) (f := zp_isR) (pc' := 446) zv_i445 rfl l3 rfl rfl ?_
  refine zw_ct (pc' := 449) (c' := (cs + 1, sl + 6)) (zw_cs (Y := zm_111) zv_i446 rfl zm_111_t) ⟨za_ble rfl, za_ble rfl, by show cs + 0 + 1 ≤ 601024; omega, by show sl + 0 + 6 ≤ 7293033; omega⟩ rfl rfl rfl rfl c1 ?_
  refine zw_st (n := 2) (k := 5) (f := zp_isI) (pc' := 451) zv_i449 rfl rfl rfl rfl ?_
  refine zw_ld (n := 1) (k := 2) (f := zp_isR) (pc' := 452) zv_i451 rfl (zw_gt l2 rfl rfl) rfl rfl ?_
  refine zw_ld (n := 1) (k := 0) (f := zp_isR) (pc' := 453) zv_i452 rfl (zw_gt l0 rfl rfl) rfl rfl ?_
  refine zw_ld (n := 2) (k := 4) (f := zp_isI) (pc' := 455) zv_i453 rfl (zw_gt l4 rfl rfl) rfl rfl ?_
  refine zw_s (pc' := 456) zv_i455 rfl ?_
  refine zw_iadd (pc' := 457) zv_i456 rfl ?_
  refine zw_sc (pc' := 458) zv_i457 ⟨by rw [e1]; omega, by rw [e1]; omega⟩ rfl ?_
  refine zw_ld (n := 1) (k := 0) (f := zp_isR) (pc' := 459) zv_i458 rfl (zw_gt l0 rfl rfl) rfl rfl ?_
  refine zw_ld (n := 2) (k := 4) (f := zp_isI) (pc' := 461) zv_i459 rfl (zw_gt l4 rfl rfl) rfl rfl ?_
  refine zw_s (pc' := 462) zv_i461 rfl ?_
  refine zw_iadd (pc' := 463) zv_i462 rfl ?_
  refine zw_sc (pc' := 464) zv_i463 ⟨by rw [e2]; omega, by rw [e2]; omega⟩ rfl ?_
  refine zw_ld (n := 1) (k := 0) (f := zp_isR) (pc' := 465) zv_i464 rfl (zw_gt l0 rfl rfl) rfl rfl ?_
  refine zw_ld (n := 2) (k := 4) (f := zp_isI) (pc' := 467) zv_i465 rfl (zw_gt l4 rfl rfl) rfl rfl ?_
  refine zw_s (pc' := 468) zv_i467 rfl ?_
  refine zw_iadd (pc' := 469) zv_i468 rfl ?_
  refine zw_sc (pc' := 470) zv_i469 ⟨by rw [e3]; omega, by rw [e3]; omega⟩ rfl ?_
  refine zw_ct (pc' := 473) (c' := (cs + 1, sl + 6)) (zw_cv (q := 72) (Y := zm_213) hW1 zv_i470 rfl zm_213_t rfl rfl) ⟨za_ble rfl, za_ble rfl, by show cs + 1 + 0 ≤ 601024; omega, by show sl + 6 + 0 ≤ 7293033; omega⟩ rfl rfl rfl rfl c2 ?_
  refine zw_st (n := 2) (k := 6) (f := zp_isI) (pc' := 475) zv_i473 rfl rfl rfl rfl ?_
  refine zw_s (pc' := 1024) zv_i475 rfl ?_
  exact kk _ H2 c t _ _ hI2 (zw_gt (zw_gt l0 rfl rfl) rfl rfl) (zw_gt (zw_gt l1 rfl rfl) rfl rfl) (zw_gt (zw_gt l2 rfl rfl) rfl rfl) (zw_gt (zw_gt l3 rfl rfl) rfl rfl) (zw_gt (zw_gt l4 rfl rfl) rfl rfl) (by omega) (by omega)

set_option maxRecDepth 8000 in
theorem zv_op8 {L : Nat} {σ : Nat → Int32} {d : Nat} {P : zp_X → Prop} {H : zp_H} {lv : zp_LV} {i : Int32} {c t cs sl : Nat} (hI : yJ c t H) (l0 : zp_get lv 0 = some (.inr (.inr (some 0)))) (l1 : zp_get lv 1 = some (.inr (.inr (some 1)))) (l2 : zp_get lv 2 = some (.inr (.inr (some 73)))) (l3 : zp_get lv 3 = some (.inr (.inr (some 105)))) (l4 : zp_get lv 4 = some (.inl i)) (hi : 0 ≤ i.toInt ∧ i.toInt + 6 ≤ L) (hL : L ≤ 3072) (hcs : cs + 4 ≤ 601024) (hsl : sl + 24 ≤ 7293033) (kk : ∀ (lv' : zp_LV) (H' : zp_H) (c' t' cs' sl' : Nat), yJ c' t' H' → zp_get lv' 0 = some (.inr (.inr (some 0))) → zp_get lv' 1 = some (.inr (.inr (some 1))) → zp_get lv' 2 = some (.inr (.inr (some 73))) → zp_get lv' 3 = some (.inr (.inr (some 105))) → zp_get lv' 4 = some (.inl i) → cs' ≤ cs + 4 → sl' ≤ sl + 24 → zs_Safe L σ P zL [] (d + 60) (1024, lv', [], H', (cs', sl'))) : zs_Safe L σ P zL [] (d + 60) (478, lv, [], H, (cs, sl)) := by
  have e1 : (i + Int32.ofInt 1).toInt = i.toInt + 1 := zv_add (by decide) (by omega)
  have e2 : (i + Int32.ofInt 2).toInt = i.toInt + 2 := zv_add (by decide) (by omega)
  have e3 : (i + Int32.ofInt 3).toInt = i.toInt + 3 := zv_add (by decide) (by omega)
  have e4 : (i + Int32.ofInt 4).toInt = i.toInt + 4 := zv_add (by decide) (by omega)
  have e5 : (i + Int32.ofInt 5).toInt = i.toInt + 5 := zv_add (by decide) (by omega)
  obtain ⟨H1, H2, v, u, c1, c2, hW1, hI2, hth, hout⟩ := yb_rub (L := L) (σ := σ) (d := d) (x1 := σ (i + Int32.ofInt 1).toInt.toNat) (x2 := σ (i + Int32.ofInt 2).toInt.toNat) (x3 := σ (i + Int32.ofInt 3).toInt.toNat) hI
  refine zw_ld (n := 1) (k := 1) (f := zp_isR) (pc' := 479) zv_i478 rfl l1 rfl rfl ?_
  refine zw_ld (n := 1) (k := 0) (f := zp_isR) (pc' := 480) zv_i479 rfl l0 rfl rfl ?_
  refine zw_ld (n := 2) (k := 4) (f := zp_isI) (pc' := 482) zv_i480 rfl l4 rfl rfl ?_
  refine zw_s (pc' := 483) zv_i482 rfl ?_
  refine zw_iadd (pc' := 484) zv_i483 rfl ?_
  refine zw_sc (pc' := 485) zv_i484 ⟨by rw [e1]; omega, by rw [e1]; omega⟩ rfl ?_
  refine zw_ld (n := 1) (k := 0) (f := zp_isR) (pc' := 486) zv_i485 rfl l0 rfl rfl ?_
  refine zw_ld (n := 2) (k := 4) (f := zp_isI) (pc' := 488) zv_i486 rfl l4 rfl rfl ?_
  refine zw_s (pc' := 489) zv_i488 rfl ?_
  refine zw_iadd (pc' := 490) zv_i489 rfl ?_
  refine zw_sc (pc' := 491) zv_i490 ⟨by rw [e2]; omega, by rw [e2]; omega⟩ rfl ?_
  refine zw_ld (n := 1) (k := 0) (f := zp_isR) (pc' := 492) zv_i491 rfl l0 rfl rfl ?_
  refine zw_ld (n := 2) (k := 4) (f := zp_isI) (pc' := 494) zv_i492 rfl l4 rfl rfl ?_
  refine zw_s (pc' := 495) zv_i494 rfl ?_
  refine zw_iadd (pc' := 496) zv_i495 rfl ?_
  refine zw_sc (pc' := 497) zv_i496 ⟨by rw [e3]; omega, by rw [e3]; omega⟩ rfl ?_
  refine zw_ld (n := 1) (k := 3) (f := zp_isR) (pc' := 498) zv_i497 rfl l3 rfl rfl ?_
  refine zw_ct (pc' := 501) (c' := (cs + 1, sl + 6)) (zw_cs (Y := zm_114) zv_i498 rfl zm_114_t) ⟨za_ble rfl, za_ble rfl, by show cs + 0 + 1 ≤ 601024; omega, by show sl + 0 + 6 ≤ 7293033; omega⟩ rfl rfl rfl rfl c1 ?_
  refine zw_st (n := 2) (k := 5) (f := zp_isI) (pc' := 503) zv_i501 rfl rfl rfl rfl ?_
  refine zw_ld (n := 1) (k := 2) (f := zp_isR) (pc' := 504) zv_i503 rfl (zw_gt l2 rfl rfl) rfl rfl ?_
  refine zw_ld (n := 1) (k := 0) (f := zp_isR) (pc' := 505) zv_i504 rfl (zw_gt l0 rfl rfl) rfl rfl ?_
  refine zw_ld (n := 2) (k := 4) (f := zp_isI) (pc' := 507) zv_i505 rfl (zw_gt l4 rfl rfl) rfl rfl ?_
  refine zw_s (pc' := 508) zv_i507 rfl ?_
  refine zw_iadd (pc' := 509) zv_i508 rfl ?_
  refine zw_sc (pc' := 510) zv_i509 ⟨by rw [e1]; omega, by rw [e1]; omega⟩ rfl ?_
  refine zw_ld (n := 1) (k := 0) (f := zp_isR) (pc' := 511) zv_i510 rfl (zw_gt l0 rfl rfl) rfl rfl ?_
  refine zw_ld (n := 2) (k := 4) (f := zp_isI) (pc' := 513) zv_i511 rfl (zw_gt l4 rfl rfl) rfl rfl ?_
  refine zw_s (pc' := 514) zv_i513 rfl ?_
  refine zw_iadd (pc' := 515) zv_i514 rfl ?_
  refine zw_sc (pc' := 516) zv_i515 ⟨by rw [e2]; omega, by rw [e2]; omega⟩ rfl ?_
  refine zw_ld (n := 1) (k := 0) (f := zp_isR) (pc' := 517) zv_i516 rfl (zw_gt l0 rfl rfl) rfl rfl ?_
  refine zw_ld (n := 2) (k := 4) (f := zp_isI) (pc' := 519) zv_i517 rfl (zw_gt l4 rfl rfl) rfl rfl ?_
  refine zw_s (pc' := 520) zv_i519 rfl ?_
  refine zw_iadd (pc' := 521) zv_i520 rfl ?_
  refine zw_sc (pc' := 522) zv_i521 ⟨by rw [e3]; omega, by rw [e3]; omega⟩ rfl ?_
  refine zw_ct (pc' := 525) (c' := (cs + 1, sl + 6)) (zw_cv (q := 72) (Y := zm_216) hW1 zv_i522 rfl zm_216_t rfl rfl) ⟨za_ble rfl, za_ble rfl, by show cs + 1 + 0 ≤ 601024; omega, by show sl + 6 + 0 ≤ 7293033; omega⟩ rfl rfl rfl rfl c2 ?_
  refine zw_st (n := 2) (k := 6) (f := zp_isI) (pc' := 527) zv_i525 rfl rfl rfl rfl ?_
  refine zw_s (pc' := 1024) zv_i527 rfl ?_
  exact kk _ H2 c t _ _ hI2 (zw_gt (zw_gt l0 rfl rfl) rfl rfl) (zw_gt (zw_gt l1 rfl rfl) rfl rfl) (zw_gt (zw_gt l2 rfl rfl) rfl rfl) (zw_gt (zw_gt l3 rfl rfl) rfl rfl) (zw_gt (zw_gt l4 rfl rfl) rfl rfl) (by omega) (by omega)

set_option maxRecDepth 8000 in
theorem zv_op9 {L : Nat} {σ : Nat → Int32} {d : Nat} {P : zp_X → Prop} {H : zp_H} {lv : zp_LV} {i : Int32} {c t cs sl : Nat} (hI : yJ c t H) (l0 : zp_get lv 0 = some (.inr (.inr (some 0)))) (l1 : zp_get lv 1 = some (.inr (.inr (some 1)))) (l2 : zp_get lv 2 = some (.inr (.inr (some 73)))) (l3 : zp_get lv 3 = some (.inr (.inr (some 105)))) (l4 : zp_get lv 4 = some (.inl i)) (hi : 0 ≤ i.toInt ∧ i.toInt + 6 ≤ L) (hL : L ≤ 3072) (hcs : cs + 4 ≤ 601024) (hsl : sl + 24 ≤ 7293033) (kk : ∀ (lv' : zp_LV) (H' : zp_H) (c' t' cs' sl' : Nat), yJ c' t' H' → zp_get lv' 0 = some (.inr (.inr (some 0))) → zp_get lv' 1 = some (.inr (.inr (some 1))) → zp_get lv' 2 = some (.inr (.inr (some 73))) → zp_get lv' 3 = some (.inr (.inr (some 105))) → zp_get lv' 4 = some (.inl i) → cs' ≤ cs + 4 → sl' ≤ sl + 24 → zs_Safe L σ P zL [] (d + 60) (1024, lv', [], H', (cs', sl'))) : zs_Safe L σ P zL [] (d + 60) (530, lv, [], H, (cs, sl)) := by
  have e1 : (i + Int32.ofInt 1).toInt = i.toInt + 1 := zv_add (by decide) (by omega)
  have e2 : (i + Int32.ofInt 2).toInt = i.toInt + 2 := zv_add (by decide) (by omega)
  have e3 : (i + Int32.ofInt 3).toInt = i.toInt + 3 := zv_add (by decide) (by omega)
  have e4 : (i + Int32.ofInt 4).toInt = i.toInt + 4 := zv_add (by decide) (by omega)
  have e5 : (i + Int32.ofInt 5).toInt = i.toInt + 5 := zv_add (by decide) (by omega)
  obtain ⟨H1, H2, v, u, c1, c2, hW1, hI2, hvu⟩ := yb_undo (L := L) (σ := σ) (d := d) hI
  refine zw_ld (n := 1) (k := 1) (f := zp_isR) (pc' := 531) zv_i530 rfl l1 rfl rfl ?_
  refine zw_ct (pc' := 534) (c' := (cs + 0, sl + 0)) (zw_cv (q := 0) (Y := zm_20) hI.1.1.1.1 zv_i531 rfl zm_20_t rfl rfl) ⟨za_ble rfl, za_ble rfl, by show cs + 0 + 0 ≤ 601024; omega, by show sl + 0 + 0 ≤ 7293033; omega⟩ rfl rfl rfl rfl c1 ?_
  refine zw_s (pc' := 535) zv_i534 rfl ?_
  refine zw_ld (n := 1) (k := 2) (f := zp_isR) (pc' := 536) zv_i535 rfl l2 rfl rfl ?_
  refine zw_ct (pc' := 539) (c' := (cs + 0, sl + 0)) (zw_cv (q := 72) (Y := zm_218) hW1 zv_i536 rfl zm_218_t rfl rfl) ⟨za_ble rfl, za_ble rfl, by show cs + 0 + 0 ≤ 601024; omega, by show sl + 0 + 0 ≤ 7293033; omega⟩ rfl rfl rfl rfl c2 ?_
  refine zw_s (pc' := 540) zv_i539 rfl ?_
  refine zw_s (pc' := 1024) zv_i540 rfl ?_
  exact kk _ H2 c t _ _ hI2 l0 l1 l2 l3 l4 (by omega) (by omega)

set_option maxRecDepth 8000 in
theorem zv_op10 {L : Nat} {σ : Nat → Int32} {d : Nat} {P : zp_X → Prop} {H : zp_H} {lv : zp_LV} {i : Int32} {c t cs sl : Nat} (hI : yJ c t H) (l0 : zp_get lv 0 = some (.inr (.inr (some 0)))) (l1 : zp_get lv 1 = some (.inr (.inr (some 1)))) (l2 : zp_get lv 2 = some (.inr (.inr (some 73)))) (l3 : zp_get lv 3 = some (.inr (.inr (some 105)))) (l4 : zp_get lv 4 = some (.inl i)) (hi : 0 ≤ i.toInt ∧ i.toInt + 6 ≤ L) (hL : L ≤ 3072) (hcs : cs + 4 ≤ 601024) (hsl : sl + 24 ≤ 7293033) (kk : ∀ (lv' : zp_LV) (H' : zp_H) (c' t' cs' sl' : Nat), yJ c' t' H' → zp_get lv' 0 = some (.inr (.inr (some 0))) → zp_get lv' 1 = some (.inr (.inr (some 1))) → zp_get lv' 2 = some (.inr (.inr (some 73))) → zp_get lv' 3 = some (.inr (.inr (some 105))) → zp_get lv' 4 = some (.inl i) → cs' ≤ cs + 4 → sl' ≤ sl + 24 → zs_Safe L σ P zL [] (d + 60) (1024, lv', [], H', (cs', sl'))) : zs_Safe L σ P zL [] (d + 60) (543, lv, [], H, (cs, sl)) := by
  have e1 : (i + Int32.ofInt 1).toInt = i.toInt + 1 := zv_add (by decide) (by omega)
  have e2 : (i + Int32.ofInt 2).toInt = i.toInt + 2 := zv_add (by decide) (by omega)
  have e3 : (i + Int32.ofInt 3).toInt = i.toInt + 3 := zv_add (by decide) (by omega)
  have e4 : (i + Int32.ofInt 4).toInt = i.toInt + 4 := zv_add (by decide) (by omega)
  have e5 : (i + Int32.ofInt 5).toInt = i.toInt + 5 := zv_add (by decide) (by omega)
  obtain ⟨H1, v, c1, hI1⟩ := yp_voyage (L := L) (σ := σ) (d := d) (x1 := σ (i + Int32.ofInt 1).toInt.toNat) (x2 := σ (i + Int32.ofInt 2).toInt.toNat) hI
  obtain ⟨H2, u, c2, hI2⟩ := yq_voyage (L := L) (σ := σ) (d := d) (x1 := σ (i + Int32.ofInt 1).toInt.toNat) (x2 := σ (i + Int32.ofInt 2).toInt.toNat) hI1
  have hW1 := hI1.1.1.1.1
  refine zw_ld (n := 1) (k := 1) (f := zp_isR) (pc' := 544) zv_i543 rfl l1 rfl rfl ?_
  refine zw_ld (n := 1) (k := 0) (f := zp_isR) (pc' := 545) zv_i544 rfl l0 rfl rfl ?_
  refine zw_ld (n := 2) (k := 4) (f := zp_isI) (pc' := 547) zv_i545 rfl l4 rfl rfl ?_
  refine zw_s (pc' := 548) zv_i547 rfl ?_
  refine zw_iadd (pc' := 549) zv_i548 rfl ?_
  refine zw_sc (pc' := 550) zv_i549 ⟨by rw [e1]; omega, by rw [e1]; omega⟩ rfl ?_
  refine zw_ld (n := 1) (k := 0) (f := zp_isR) (pc' := 551) zv_i550 rfl l0 rfl rfl ?_
  refine zw_ld (n := 2) (k := 4) (f := zp_isI) (pc' := 553) zv_i551 rfl l4 rfl rfl ?_
  refine zw_s (pc' := 554) zv_i553 rfl ?_
  refine zw_iadd (pc' := 555) zv_i554 rfl ?_
  refine zw_sc (pc' := 556) zv_i555 ⟨by rw [e2]; omega, by rw [e2]; omega⟩ rfl ?_
  refine zw_ld (n := 1) (k := 3) (f := zp_isR) (pc' := 557) zv_i556 rfl l3 rfl rfl ?_
  refine zw_ct (pc' := 560) (c' := (cs + 2, sl + 12)) (zw_cs (Y := zm_118) zv_i557 rfl zm_118_t) ⟨za_ble rfl, za_ble rfl, by show cs + 0 + 2 ≤ 601024; omega, by show sl + 0 + 12 ≤ 7293033; omega⟩ rfl rfl rfl rfl c1 ?_
  refine zw_st (n := 2) (k := 5) (f := zp_isI) (pc' := 562) zv_i560 rfl rfl rfl rfl ?_
  refine zw_ld (n := 1) (k := 2) (f := zp_isR) (pc' := 563) zv_i562 rfl (zw_gt l2 rfl rfl) rfl rfl ?_
  refine zw_ld (n := 1) (k := 0) (f := zp_isR) (pc' := 564) zv_i563 rfl (zw_gt l0 rfl rfl) rfl rfl ?_
  refine zw_ld (n := 2) (k := 4) (f := zp_isI) (pc' := 566) zv_i564 rfl (zw_gt l4 rfl rfl) rfl rfl ?_
  refine zw_s (pc' := 567) zv_i566 rfl ?_
  refine zw_iadd (pc' := 568) zv_i567 rfl ?_
  refine zw_sc (pc' := 569) zv_i568 ⟨by rw [e1]; omega, by rw [e1]; omega⟩ rfl ?_
  refine zw_ld (n := 1) (k := 0) (f := zp_isR) (pc' := 570) zv_i569 rfl (zw_gt l0 rfl rfl) rfl rfl ?_
  refine zw_ld (n := 2) (k := 4) (f := zp_isI) (pc' := 572) zv_i570 rfl (zw_gt l4 rfl rfl) rfl rfl ?_
  refine zw_s (pc' := 573) zv_i572 rfl ?_
  refine zw_iadd (pc' := 574) zv_i573 rfl ?_
  refine zw_sc (pc' := 575) zv_i574 ⟨by rw [e2]; omega, by rw [e2]; omega⟩ rfl ?_
  refine zw_ct (pc' := 578) (c' := (cs + 2, sl + 12)) (zw_cv (q := 72) (Y := zm_219) hW1 zv_i575 rfl zm_219_t rfl rfl) ⟨za_ble rfl, za_ble rfl, by show cs + 2 + 0 ≤ 601024; omega, by show sl + 12 + 0 ≤ 7293033; omega⟩ rfl rfl rfl rfl c2 ?_
  refine zw_st (n := 2) (k := 6) (f := zp_isI) (pc' := 580) zv_i578 rfl rfl rfl rfl ?_
  refine zw_s (pc' := 1024) zv_i580 rfl ?_
  exact kk _ H2 c t _ _ hI2 (zw_gt (zw_gt l0 rfl rfl) rfl rfl) (zw_gt (zw_gt l1 rfl rfl) rfl rfl) (zw_gt (zw_gt l2 rfl rfl) rfl rfl) (zw_gt (zw_gt l3 rfl rfl) rfl rfl) (zw_gt (zw_gt l4 rfl rfl) rfl rfl) (by omega) (by omega)

set_option maxRecDepth 8000 in
theorem zv_op11 {L : Nat} {σ : Nat → Int32} {d : Nat} {P : zp_X → Prop} {H : zp_H} {lv : zp_LV} {i : Int32} {c t cs sl : Nat} (hI : yJ c t H) (l0 : zp_get lv 0 = some (.inr (.inr (some 0)))) (l1 : zp_get lv 1 = some (.inr (.inr (some 1)))) (l2 : zp_get lv 2 = some (.inr (.inr (some 73)))) (l3 : zp_get lv 3 = some (.inr (.inr (some 105)))) (l4 : zp_get lv 4 = some (.inl i)) (hi : 0 ≤ i.toInt ∧ i.toInt + 6 ≤ L) (hL : L ≤ 3072) (hcs : cs + 4 ≤ 601024) (hsl : sl + 24 ≤ 7293033) (kk : ∀ (lv' : zp_LV) (H' : zp_H) (c' t' cs' sl' : Nat), yJ c' t' H' → zp_get lv' 0 = some (.inr (.inr (some 0))) → zp_get lv' 1 = some (.inr (.inr (some 1))) → zp_get lv' 2 = some (.inr (.inr (some 73))) → zp_get lv' 3 = some (.inr (.inr (some 105))) → zp_get lv' 4 = some (.inl i) → cs' ≤ cs + 4 → sl' ≤ sl + 24 → zs_Safe L σ P zL [] (d + 60) (1024, lv', [], H', (cs', sl'))) : zs_Safe L σ P zL [] (d + 60) (583, lv, [], H, (cs, sl)) := by
  have e1 : (i + Int32.ofInt 1).toInt = i.toInt + 1 := zv_add (by decide) (by omega)
  have e2 : (i + Int32.ofInt 2).toInt = i.toInt + 2 := zv_add (by decide) (by omega)
  have e3 : (i + Int32.ofInt 3).toInt = i.toInt + 3 := zv_add (by decide) (by omega)
  have e4 : (i + Int32.ofInt 4).toInt = i.toInt + 4 := zv_add (by decide) (by omega)
  have e5 : (i + Int32.ofInt 5).toInt = i.toInt + 5 := zv_add (by decide) (by omega)
  obtain ⟨H1, v, c1, hI1⟩ := yp_explained (L := L) (σ := σ) (d := d) (x1 := σ (i + Int32.ofInt 1).toInt.toNat) hI
  obtain ⟨H2, u, c2, hI2⟩ := yq_explained (L := L) (σ := σ) (d := d) (x1 := σ (i + Int32.ofInt 1).toInt.toNat) hI1
  have hW1 := hI1.1.1.1.1
  refine zw_ld (n := 1) (k := 1) (f := zp_isR) (pc' := 584) zv_i583 rfl l1 rfl rfl ?_
  refine zw_ld (n := 1) (k := 0) (f := zp_isR) (pc' := 585) zv_i584 rfl l0 rfl rfl ?_
  refine zw_ld (n := 2) (k := 4) (f := zp_isI) (pc' := 587) zv_i585 rfl l4 rfl rfl ?_
  refine zw_s (pc' := 588) zv_i587 rfl ?_
  refine zw_iadd (pc' := 589) zv_i588 rfl ?_
  refine zw_sc (pc' := 590) zv_i589 ⟨by rw [e1]; omega, by rw [e1]; omega⟩ rfl ?_
  refine zw_ld (n := 1) (k := 3) (f := zp_isR) (pc' := 591) zv_i590 rfl l3 rfl rfl ?_
  refine zw_ct (pc' := 594) (c' := (cs + 1, sl + 6)) (zw_cs (Y := zm_120) zv_i591 rfl zm_120_t) ⟨za_ble rfl, za_ble rfl, by show cs + 0 + 1 ≤ 601024; omega, by show sl + 0 + 6 ≤ 7293033; omega⟩ rfl rfl rfl rfl c1 ?_
  refine zw_st (n := 2) (k := 5) (f := zp_isI) (pc' := 596) zv_i594 rfl rfl rfl rfl ?_
  refine zw_ld (n := 1) (k := 2) (f := zp_isR) (pc' := 597) zv_i596 rfl (zw_gt l2 rfl rfl) rfl rfl ?_
  refine zw_ld (n := 1) (k := 0) (f := zp_isR) (pc' := 598) zv_i597 rfl (zw_gt l0 rfl rfl) rfl rfl ?_
  refine zw_ld (n := 2) (k := 4) (f := zp_isI) (pc' := 600) zv_i598 rfl (zw_gt l4 rfl rfl) rfl rfl ?_
  refine zw_s (pc' := 601) zv_i600 rfl ?_
  refine zw_iadd (pc' := 602) zv_i601 rfl ?_
  refine zw_sc (pc' := 603) zv_i602 ⟨by rw [e1]; omega, by rw [e1]; omega⟩ rfl ?_
  refine zw_ct (pc' := 606) (c' := (cs + 1, sl + 6)) (zw_cv (q := 72) (Y := zm_224) hW1 zv_i603 rfl zm_224_t rfl rfl) ⟨za_ble rfl, za_ble rfl, by show cs + 1 + 0 ≤ 601024; omega, by show sl + 6 + 0 ≤ 7293033; omega⟩ rfl rfl rfl rfl c2 ?_
  refine zw_st (n := 2) (k := 6) (f := zp_isI) (pc' := 608) zv_i606 rfl rfl rfl rfl ?_
  refine zw_s (pc' := 1024) zv_i608 rfl ?_
  exact kk _ H2 c t _ _ hI2 (zw_gt (zw_gt l0 rfl rfl) rfl rfl) (zw_gt (zw_gt l1 rfl rfl) rfl rfl) (zw_gt (zw_gt l2 rfl rfl) rfl rfl) (zw_gt (zw_gt l3 rfl rfl) rfl rfl) (zw_gt (zw_gt l4 rfl rfl) rfl rfl) (by omega) (by omega)

set_option maxRecDepth 8000 in
theorem zv_op12 {L : Nat} {σ : Nat → Int32} {d : Nat} {P : zp_X → Prop} {H : zp_H} {lv : zp_LV} {i : Int32} {c t cs sl : Nat} (hI : yJ c t H) (l0 : zp_get lv 0 = some (.inr (.inr (some 0)))) (l1 : zp_get lv 1 = some (.inr (.inr (some 1)))) (l2 : zp_get lv 2 = some (.inr (.inr (some 73)))) (l3 : zp_get lv 3 = some (.inr (.inr (some 105)))) (l4 : zp_get lv 4 = some (.inl i)) (hi : 0 ≤ i.toInt ∧ i.toInt + 6 ≤ L) (hL : L ≤ 3072) (hcs : cs + 4 ≤ 601024) (hsl : sl + 24 ≤ 7293033) (kk : ∀ (lv' : zp_LV) (H' : zp_H) (c' t' cs' sl' : Nat), yJ c' t' H' → zp_get lv' 0 = some (.inr (.inr (some 0))) → zp_get lv' 1 = some (.inr (.inr (some 1))) → zp_get lv' 2 = some (.inr (.inr (some 73))) → zp_get lv' 3 = some (.inr (.inr (some 105))) → zp_get lv' 4 = some (.inl i) → cs' ≤ cs + 4 → sl' ≤ sl + 24 → zs_Safe L σ P zL [] (d + 60) (1024, lv', [], H', (cs', sl'))) : zs_Safe L σ P zL [] (d + 60) (611, lv, [], H, (cs, sl)) := by
  have e1 : (i + Int32.ofInt 1).toInt = i.toInt + 1 := zv_add (by decide) (by omega)
  have e2 : (i + Int32.ofInt 2).toInt = i.toInt + 2 := zv_add (by decide) (by omega)
  have e3 : (i + Int32.ofInt 3).toInt = i.toInt + 3 := zv_add (by decide) (by omega)
  have e4 : (i + Int32.ofInt 4).toInt = i.toInt + 4 := zv_add (by decide) (by omega)
  have e5 : (i + Int32.ofInt 5).toInt = i.toInt + 5 := zv_add (by decide) (by omega)
  obtain ⟨H1, v, c1, hI1⟩ := yp_where (L := L) (σ := σ) (d := d) (x1 := σ (i + Int32.ofInt 1).toInt.toNat) (x2 := σ (i + Int32.ofInt 2).toInt.toNat) hI
  obtain ⟨H2, u, c2, hI2⟩ := yq_where (L := L) (σ := σ) (d := d) (x1 := σ (i + Int32.ofInt 1).toInt.toNat) (x2 := σ (i + Int32.ofInt 2).toInt.toNat) hI1
  have hW1 := hI1.1.1.1.1
  refine zw_ld (n := 1) (k := 1) (f := zp_isR) (pc' := 612) zv_i611 rfl l1 rfl rfl ?_
  refine zw_ld (n := 1) (k := 0) (f := zp_isR) (pc' := 613) zv_i612 rfl l0 rfl rfl ?_
  refine zw_ld (n := 2) (k := 4) (f := zp_isI) (pc' := 615) zv_i613 rfl l4 rfl rfl ?_
  refine zw_s (pc' := 616) zv_i615 rfl ?_
  refine zw_iadd (pc' := 617) zv_i616 rfl ?_
  refine zw_sc (pc' := 618) zv_i617 ⟨by rw [e1]; omega, by rw [e1]; omega⟩ rfl ?_
  refine zw_ld (n := 1) (k := 0) (f := zp_isR) (pc' := 619) zv_i618 rfl l0 rfl rfl ?_
  refine zw_ld (n := 2) (k := 4) (f := zp_isI) (pc' := 621) zv_i619 rfl l4 rfl rfl ?_
  refine zw_s (pc' := 622) zv_i621 rfl ?_
  refine zw_iadd (pc' := 623) zv_i622 rfl ?_
  refine zw_sc (pc' := 624) zv_i623 ⟨by rw [e2]; omega, by rw [e2]; omega⟩ rfl ?_
  refine zw_ld (n := 1) (k := 3) (f := zp_isR) (pc' := 625) zv_i624 rfl l3 rfl rfl ?_
  refine zw_ct (pc' := 628) (c' := (cs + 2, sl + 12)) (zw_cs (Y := zm_122) zv_i625 rfl zm_122_t) ⟨za_ble rfl, za_ble rfl, by show cs + 0 + 2 ≤ 601024; omega, by show sl + 0 + 12 ≤ 7293033; omega⟩ rfl rfl rfl rfl c1 ?_
  refine zw_st (n := 2) (k := 5) (f := zp_isI) (pc' := 630) zv_i628 rfl rfl rfl rfl ?_
  refine zw_ld (n := 1) (k := 2) (f := zp_isR) (pc' := 631) zv_i630 rfl (zw_gt l2 rfl rfl) rfl rfl ?_
  refine zw_ld (n := 1) (k := 0) (f := zp_isR) (pc' := 632) zv_i631 rfl (zw_gt l0 rfl rfl) rfl rfl ?_
  refine zw_ld (n := 2) (k := 4) (f := zp_isI) (pc' := 634) zv_i632 rfl (zw_gt l4 rfl rfl) rfl rfl ?_
  refine zw_s (pc' := 635) zv_i634 rfl ?_
  refine zw_iadd (pc' := 636) zv_i635 rfl ?_
  refine zw_sc (pc' := 637) zv_i636 ⟨by rw [e1]; omega, by rw [e1]; omega⟩ rfl ?_
  refine zw_ld (n := 1) (k := 0) (f := zp_isR) (pc' := 638) zv_i637 rfl (zw_gt l0 rfl rfl) rfl rfl ?_
  refine zw_ld (n := 2) (k := 4) (f := zp_isI) (pc' := 640) zv_i638 rfl (zw_gt l4 rfl rfl) rfl rfl ?_
  refine zw_s (pc' := 641) zv_i640 rfl ?_
  refine zw_iadd (pc' := 642) zv_i641 rfl ?_
  refine zw_sc (pc' := 643) zv_i642 ⟨by rw [e2]; omega, by rw [e2]; omega⟩ rfl ?_
  refine zw_ct (pc' := 646) (c' := (cs + 2, sl + 12)) (zw_cv (q := 72) (Y := zm_225) hW1 zv_i643 rfl zm_225_t rfl rfl) ⟨za_ble rfl, za_ble rfl, by show cs + 2 + 0 ≤ 601024; omega, by show sl + 12 + 0 ≤ 7293033; omega⟩ rfl rfl rfl rfl c2 ?_
  refine zw_sl (n := 2) (k := 6) (pc' := 648) zv_i646 rfl rfl rfl ?_
  refine zw_s (pc' := 1024) zv_i648 rfl ?_
  exact kk _ H2 c t _ _ hI2 (zw_gt2 (zw_gt l0 rfl rfl) rfl rfl) (zw_gt2 (zw_gt l1 rfl rfl) rfl rfl) (zw_gt2 (zw_gt l2 rfl rfl) rfl rfl) (zw_gt2 (zw_gt l3 rfl rfl) rfl rfl) (zw_gt2 (zw_gt l4 rfl rfl) rfl rfl) (by omega) (by omega)

set_option maxRecDepth 8000 in
theorem zv_op13 {L : Nat} {σ : Nat → Int32} {d : Nat} {P : zp_X → Prop} {H : zp_H} {lv : zp_LV} {i : Int32} {c t cs sl : Nat} (hI : yJ c t H) (l0 : zp_get lv 0 = some (.inr (.inr (some 0)))) (l1 : zp_get lv 1 = some (.inr (.inr (some 1)))) (l2 : zp_get lv 2 = some (.inr (.inr (some 73)))) (l3 : zp_get lv 3 = some (.inr (.inr (some 105)))) (l4 : zp_get lv 4 = some (.inl i)) (hi : 0 ≤ i.toInt ∧ i.toInt + 6 ≤ L) (hL : L ≤ 3072) (hcs : cs + 4 ≤ 601024) (hsl : sl + 24 ≤ 7293033) (kk : ∀ (lv' : zp_LV) (H' : zp_H) (c' t' cs' sl' : Nat), yJ c' t' H' → zp_get lv' 0 = some (.inr (.inr (some 0))) → zp_get lv' 1 = some (.inr (.inr (some 1))) → zp_get lv' 2 = some (.inr (.inr (some 73))) → zp_get lv' 3 = some (.inr (.inr (some 105))) → zp_get lv' 4 = some (.inl i) → cs' ≤ cs + 4 → sl' ≤ sl + 24 → zs_Safe L σ P zL [] (d + 60) (1024, lv', [], H', (cs', sl'))) : zs_Safe L σ P zL [] (d + 60) (651, lv, [], H, (cs, sl)) := by
  have e1 : (i + Int32.ofInt 1).toInt = i.toInt + 1 := zv_add (by decide) (by omega)
  have e2 : (i + Int32.ofInt 2).toInt = i.toInt + 2 := zv_add (by decide) (by omega)
  have e3 : (i + Int32.ofInt 3).toInt = i.toInt + 3 := zv_add (by decide) (by omega)
  have e4 : (i + Int32.ofInt 4).toInt = i.toInt + 4 := zv_add (by decide) (by omega)
  have e5 : (i + Int32.ofInt 5).toInt = i.toInt + 5 := zv_add (by decide) (by omega)
  obtain ⟨H1, v, c1, hI1⟩ := yp_pilot (L := L) (σ := σ) (d := d) (x1 := σ (i + Int32.ofInt 1).toInt.toNat) (x2 := σ (i + Int32.ofInt 2).toInt.toNat) hI
  obtain ⟨H2, u, c2, hI2⟩ := yq_pilot (L := L) (σ := σ) (d := d) (x1 := σ (i + Int32.ofInt 1).toInt.toNat) (x2 := σ (i + Int32.ofInt 2).toInt.toNat) hI1
  have hW1 := hI1.1.1.1.1
  refine zw_ld (n := 1) (k := 1) (f := zp_isR) (pc' := 652) zv_i651 rfl l1 rfl rfl ?_
  refine zw_ld (n := 1) (k := 0) (f := zp_isR) (pc' := 653) zv_i652 rfl l0 rfl rfl ?_
  refine zw_ld (n := 2) (k := 4) (f := zp_isI) (pc' := 655) zv_i653 rfl l4 rfl rfl ?_
  refine zw_s (pc' := 656) zv_i655 rfl ?_
  refine zw_iadd (pc' := 657) zv_i656 rfl ?_
  refine zw_sc (pc' := 658) zv_i657 ⟨by rw [e1]; omega, by rw [e1]; omega⟩ rfl ?_
  refine zw_ld (n := 1) (k := 0) (f := zp_isR) (pc' := 659) zv_i658 rfl l0 rfl rfl ?_
  refine zw_ld (n := 2) (k := 4) (f := zp_isI) (pc' := 661) zv_i659 rfl l4 rfl rfl ?_
  refine zw_s (pc' := 662) zv_i661 rfl ?_
  refine zw_iadd (pc' := 663) zv_i662 rfl ?_
  refine zw_sc (pc' := 664) zv_i663 ⟨by rw [e2]; omega, by rw [e2]; omega⟩ rfl ?_
  refine zw_ld (n := 1) (k := 3) (f := zp_isR) (pc' := 665) zv_i664 rfl l3 rfl rfl ?_
  refine zw_ct (pc' := 668) (c' := (cs + 2, sl + 12)) (zw_cs (Y := zm_132) zv_i665 rfl zm_132_t) ⟨za_ble rfl, za_ble rfl, by show cs + 0 + 2 ≤ 601024; omega, by show sl + 0 + 12 ≤ 7293033; omega⟩ rfl rfl rfl rfl c1 ?_
  refine zw_st (n := 2) (k := 5) (f := zp_isI) (pc' := 670) zv_i668 rfl rfl rfl rfl ?_
  refine zw_ld (n := 1) (k := 2) (f := zp_isR) (pc' := 671) zv_i670 rfl (zw_gt l2 rfl rfl) rfl rfl ?_
  refine zw_ld (n := 1) (k := 0) (f := zp_isR) (pc' := 672) zv_i671 rfl (zw_gt l0 rfl rfl) rfl rfl ?_
  refine zw_ld (n := 2) (k := 4) (f := zp_isI) (pc' := 674) zv_i672 rfl (zw_gt l4 rfl rfl) rfl rfl ?_
  refine zw_s (pc' := 675) zv_i674 rfl ?_
  refine zw_iadd (pc' := 676) zv_i675 rfl ?_
  refine zw_sc (pc' := 677) zv_i676 ⟨by rw [e1]; omega, by rw [e1]; omega⟩ rfl ?_
  refine zw_ld (n := 1) (k := 0) (f := zp_isR) (pc' := 678) zv_i677 rfl (zw_gt l0 rfl rfl) rfl rfl ?_
  refine zw_ld (n := 2) (k := 4) (f := zp_isI) (pc' := 680) zv_i678 rfl (zw_gt l4 rfl rfl) rfl rfl ?_
  refine zw_s (pc' := 681) zv_i680 rfl ?_
  refine zw_iadd (pc' := 682) zv_i681 rfl ?_
  refine zw_sc (pc' := 683) zv_i682 ⟨by rw [e2]; omega, by rw [e2]; omega⟩ rfl ?_
  refine zw_ct (pc' := 686) (c' := (cs + 2, sl + 12)) (zw_cv (q := 72) (Y := zm_227) hW1 zv_i683 rfl zm_227_t rfl rfl) ⟨za_ble rfl, za_ble rfl, by show cs + 2 + 0 ≤ 601024; omega, by show sl + 12 + 0 ≤ 7293033; omega⟩ rfl rfl rfl rfl c2 ?_
  refine zw_st (n := 2) (k := 6) (f := zp_isI) (pc' := 688) zv_i686 rfl rfl rfl rfl ?_
  refine zw_s (pc' := 1024) zv_i688 rfl ?_
  exact kk _ H2 c t _ _ hI2 (zw_gt (zw_gt l0 rfl rfl) rfl rfl) (zw_gt (zw_gt l1 rfl rfl) rfl rfl) (zw_gt (zw_gt l2 rfl rfl) rfl rfl) (zw_gt (zw_gt l3 rfl rfl) rfl rfl) (zw_gt (zw_gt l4 rfl rfl) rfl rfl) (by omega) (by omega)

set_option maxRecDepth 8000 in
theorem zv_op14 {L : Nat} {σ : Nat → Int32} {d : Nat} {P : zp_X → Prop} {H : zp_H} {lv : zp_LV} {i : Int32} {c t cs sl : Nat} (hI : yJ c t H) (l0 : zp_get lv 0 = some (.inr (.inr (some 0)))) (l1 : zp_get lv 1 = some (.inr (.inr (some 1)))) (l2 : zp_get lv 2 = some (.inr (.inr (some 73)))) (l3 : zp_get lv 3 = some (.inr (.inr (some 105)))) (l4 : zp_get lv 4 = some (.inl i)) (hi : 0 ≤ i.toInt ∧ i.toInt + 6 ≤ L) (hL : L ≤ 3072) (hcs : cs + 4 ≤ 601024) (hsl : sl + 24 ≤ 7293033) (kk : ∀ (lv' : zp_LV) (H' : zp_H) (c' t' cs' sl' : Nat), yJ c' t' H' → zp_get lv' 0 = some (.inr (.inr (some 0))) → zp_get lv' 1 = some (.inr (.inr (some 1))) → zp_get lv' 2 = some (.inr (.inr (some 73))) → zp_get lv' 3 = some (.inr (.inr (some 105))) → zp_get lv' 4 = some (.inl i) → cs' ≤ cs + 4 → sl' ≤ sl + 24 → zs_Safe L σ P zL [] (d + 60) (1024, lv', [], H', (cs', sl'))) : zs_Safe L σ P zL [] (d + 60) (691, lv, [], H, (cs, sl)) := by
  have e1 : (i + Int32.ofInt 1).toInt = i.toInt + 1 := zv_add (by decide) (by omega)
  have e2 : (i + Int32.ofInt 2).toInt = i.toInt + 2 := zv_add (by decide) (by omega)
  have e3 : (i + Int32.ofInt 3).toInt = i.toInt + 3 := zv_add (by decide) (by omega)
  have e4 : (i + Int32.ofInt 4).toInt = i.toInt + 4 := zv_add (by decide) (by omega)
  have e5 : (i + Int32.ofInt 5).toInt = i.toInt + 5 := zv_add (by decide) (by omega)
  obtain ⟨H1, v, c1, hI1⟩ := yp_sails (L := L) (σ := σ) (d := d) (x1 := σ (i + Int32.ofInt 1).toInt.toNat) (x2 := σ (i + Int32.ofInt 2).toInt.toNat) (x3 := σ (i + Int32.ofInt 3).toInt.toNat) hI
  obtain ⟨H2, u, c2, hI2⟩ := yq_sails (L := L) (σ := σ) (d := d) (x1 := σ (i + Int32.ofInt 1).toInt.toNat) (x2 := σ (i + Int32.ofInt 2).toInt.toNat) (x3 := σ (i + Int32.ofInt 3).toInt.toNat) hI1
  have hW1 := hI1.1.1.1.1
  refine zw_ld (n := 1) (k := 1) (f := zp_isR) (pc' := 692) zv_i691 rfl l1 rfl rfl ?_
  refine zw_ld (n := 1) (k := 0) (f := zp_isR) (pc' := 693) zv_i692 rfl l0 rfl rfl ?_
  refine zw_ld (n := 2) (k := 4) (f := zp_isI) (pc' := 695) zv_i693 rfl l4 rfl rfl ?_
  refine zw_s (pc' := 696) zv_i695 rfl ?_
  refine zw_iadd (pc' := 697) zv_i696 rfl ?_
  refine zw_sc (pc' := 698) zv_i697 ⟨by rw [e1]; omega, by rw [e1]; omega⟩ rfl ?_
  refine zw_ld (n := 1) (k := 0) (f := zp_isR) (pc' := 699) zv_i698 rfl l0 rfl rfl ?_
  refine zw_ld (n := 2) (k := 4) (f := zp_isI) (pc' := 701) zv_i699 rfl l4 rfl rfl ?_
  refine zw_s (pc' := 702) zv_i701 rfl ?_
  refine zw_iadd (pc' := 703) zv_i702 rfl ?_
  refine zw_sc (pc' := 704) zv_i703 ⟨by rw [e2]; omega, by rw [e2]; omega⟩ rfl ?_
  refine zw_ld (n := 1) (k := 0) (f := zp_isR) (pc' := 705) zv_i704 rfl l0 rfl rfl ?_
  refine zw_ld (n := 2) (k := 4) (f := zp_isI) (pc' := 707) zv_i705 rfl l4 rfl rfl ?_
  refine zw_s (pc' := 708) zv_i707 rfl ?_
  refine zw_iadd (pc' := 709) zv_i708 rfl ?_
  refine zw_sc (pc' := 710) zv_i709 ⟨by rw [e3]; omega, by rw [e3]; omega⟩ rfl ?_
  refine zw_ld (n := 1) (k := 3) (f := zp_isR) (pc' := 711) zv_i710 rfl l3 rfl rfl ?_
  refine zw_ct (pc' := 714) (c' := (cs + 3, sl + 18)) (zw_cs (Y := zm_135) zv_i711 rfl zm_135_t) ⟨za_ble rfl, za_ble rfl, by show cs + 0 + 3 ≤ 601024; omega, by show sl + 0 + 18 ≤ 7293033; omega⟩ rfl rfl rfl rfl c1 ?_
  refine zw_st (n := 2) (k := 5) (f := zp_isI) (pc' := 716) zv_i714 rfl rfl rfl rfl ?_
  refine zw_ld (n := 1) (k := 2) (f := zp_isR) (pc' := 717) zv_i716 rfl (zw_gt l2 rfl rfl) rfl rfl ?_
  refine zw_ld (n := 1) (k := 0) (f := zp_isR) (pc' := 718) zv_i717 rfl (zw_gt l0 rfl rfl) rfl rfl ?_
  refine zw_ld (n := 2) (k := 4) (f := zp_isI) (pc' := 720) zv_i718 rfl (zw_gt l4 rfl rfl) rfl rfl ?_
  refine zw_s (pc' := 721) zv_i720 rfl ?_
  refine zw_iadd (pc' := 722) zv_i721 rfl ?_
  refine zw_sc (pc' := 723) zv_i722 ⟨by rw [e1]; omega, by rw [e1]; omega⟩ rfl ?_
  refine zw_ld (n := 1) (k := 0) (f := zp_isR) (pc' := 724) zv_i723 rfl (zw_gt l0 rfl rfl) rfl rfl ?_
  refine zw_ld (n := 2) (k := 4) (f := zp_isI) (pc' := 726) zv_i724 rfl (zw_gt l4 rfl rfl) rfl rfl ?_
  refine zw_s (pc' := 727) zv_i726 rfl ?_
  refine zw_iadd (pc' := 728) zv_i727 rfl ?_
  refine zw_sc (pc' := 729) zv_i728 ⟨by rw [e2]; omega, by rw [e2]; omega⟩ rfl ?_
  refine zw_ld (n := 1) (k := 0) (f := zp_isR) (pc' := 730) zv_i729 rfl (zw_gt l0 rfl rfl) rfl rfl ?_
  refine zw_ld (n := 2) (k := 4) (f := zp_isI) (pc' := 732) zv_i730 rfl (zw_gt l4 rfl rfl) rfl rfl ?_
  refine zw_s (pc' := 733) zv_i732 rfl ?_
  refine zw_iadd (pc' := 734) zv_i733 rfl ?_
  refine zw_sc (pc' := 735) zv_i734 ⟨by rw [e3]; omega, by rw [e3]; omega⟩ rfl ?_
  refine zw_ct (pc' := 738) (c' := (cs + 3, sl + 18)) (zw_cv (q := 72) (Y := zm_229) hW1 zv_i735 rfl zm_229_t rfl rfl) ⟨za_ble rfl, za_ble rfl, by show cs + 3 + 0 ≤ 601024; omega, by show sl + 18 + 0 ≤ 7293033; omega⟩ rfl rfl rfl rfl c2 ?_
  refine zw_st (n := 2) (k := 6) (f := zp_isI) (pc' := 740) zv_i738 rfl rfl rfl rfl ?_
  refine zw_s (pc' := 1024) zv_i740 rfl ?_
  exact kk _ H2 c t _ _ hI2 (zw_gt (zw_gt l0 rfl rfl) rfl rfl) (zw_gt (zw_gt l1 rfl rfl) rfl rfl) (zw_gt (zw_gt l2 rfl rfl) rfl rfl) (zw_gt (zw_gt l3 rfl rfl) rfl rfl) (zw_gt (zw_gt l4 rfl rfl) rfl rfl) (by omega) (by omega)

set_option maxRecDepth 8000 in
theorem zv_op15 {L : Nat} {σ : Nat → Int32} {d : Nat} {P : zp_X → Prop} {H : zp_H} {lv : zp_LV} {i : Int32} {c t cs sl : Nat} (hI : yJ c t H) (l0 : zp_get lv 0 = some (.inr (.inr (some 0)))) (l1 : zp_get lv 1 = some (.inr (.inr (some 1)))) (l2 : zp_get lv 2 = some (.inr (.inr (some 73)))) (l3 : zp_get lv 3 = some (.inr (.inr (some 105)))) (l4 : zp_get lv 4 = some (.inl i)) (hi : 0 ≤ i.toInt ∧ i.toInt + 6 ≤ L) (hL : L ≤ 3072) (hcs : cs + 4 ≤ 601024) (hsl : sl + 24 ≤ 7293033) (kk : ∀ (lv' : zp_LV) (H' : zp_H) (c' t' cs' sl' : Nat), yJ c' t' H' → zp_get lv' 0 = some (.inr (.inr (some 0))) → zp_get lv' 1 = some (.inr (.inr (some 1))) → zp_get lv' 2 = some (.inr (.inr (some 73))) → zp_get lv' 3 = some (.inr (.inr (some 105))) → zp_get lv' 4 = some (.inl i) → cs' ≤ cs + 4 → sl' ≤ sl + 24 → zs_Safe L σ P zL [] (d + 60) (1024, lv', [], H', (cs', sl'))) : zs_Safe L σ P zL [] (d + 60) (743, lv, [], H, (cs, sl)) := by
  have e1 : (i + Int32.ofInt 1).toInt = i.toInt + 1 := zv_add (by decide) (by omega)
  have e2 : (i + Int32.ofInt 2).toInt = i.toInt + 2 := zv_add (by decide) (by omega)
  have e3 : (i + Int32.ofInt 3).toInt = i.toInt + 3 := zv_add (by decide) (by omega)
  have e4 : (i + Int32.ofInt 4).toInt = i.toInt + 4 := zv_add (by decide) (by omega)
  have e5 : (i + Int32.ofInt 5).toInt = i.toInt + 5 := zv_add (by decide) (by omega)
  obtain ⟨H1, v, c1, hI1⟩ := yp_exam (L := L) (σ := σ) (d := d)  hI
  obtain ⟨H2, u, c2, hI2⟩ := yq_exam (L := L) (σ := σ) (d := d)  hI1
  have hW1 := hI1.1.1.1.1
  refine zw_ld (n := 1) (k := 1) (f := zp_isR) (pc' := 744) zv_i743 rfl l1 rfl rfl ?_
  refine zw_ct (pc' := 747) (c' := (cs + 0, sl + 0)) (zw_cv (q := 0) (Y := zm_22) hI.1.1.1.1 zv_i744 rfl zm_22_t rfl rfl) ⟨za_ble rfl, za_ble rfl, by show cs + 0 + 0 ≤ 601024; omega, by show sl + 0 + 0 ≤ 7293033; omega⟩ rfl rfl rfl rfl c1 ?_
  refine zw_s (pc' := 748) zv_i747 rfl ?_
  refine zw_ld (n := 1) (k := 2) (f := zp_isR) (pc' := 749) zv_i748 rfl l2 rfl rfl ?_
  refine zw_ct (pc' := 752) (c' := (cs + 0, sl + 0)) (zw_cv (q := 72) (Y := zm_236) hW1 zv_i749 rfl zm_236_t rfl rfl) ⟨za_ble rfl, za_ble rfl, by show cs + 0 + 0 ≤ 601024; omega, by show sl + 0 + 0 ≤ 7293033; omega⟩ rfl rfl rfl rfl c2 ?_
  refine zw_s (pc' := 753) zv_i752 rfl ?_
  refine zw_s (pc' := 1024) zv_i753 rfl ?_
  exact kk _ H2 c t _ _ hI2 l0 l1 l2 l3 l4 (by omega) (by omega)

set_option maxRecDepth 8000 in
theorem zv_op16 {L : Nat} {σ : Nat → Int32} {d : Nat} {P : zp_X → Prop} {H : zp_H} {lv : zp_LV} {i : Int32} {c t cs sl : Nat} (hI : yJ c t H) (l0 : zp_get lv 0 = some (.inr (.inr (some 0)))) (l1 : zp_get lv 1 = some (.inr (.inr (some 1)))) (l2 : zp_get lv 2 = some (.inr (.inr (some 73)))) (l3 : zp_get lv 3 = some (.inr (.inr (some 105)))) (l4 : zp_get lv 4 = some (.inl i)) (hi : 0 ≤ i.toInt ∧ i.toInt + 6 ≤ L) (hL : L ≤ 3072) (hcs : cs + 4 ≤ 601024) (hsl : sl + 24 ≤ 7293033) (kk : ∀ (lv' : zp_LV) (H' : zp_H) (c' t' cs' sl' : Nat), yJ c' t' H' → zp_get lv' 0 = some (.inr (.inr (some 0))) → zp_get lv' 1 = some (.inr (.inr (some 1))) → zp_get lv' 2 = some (.inr (.inr (some 73))) → zp_get lv' 3 = some (.inr (.inr (some 105))) → zp_get lv' 4 = some (.inl i) → cs' ≤ cs + 4 → sl' ≤ sl + 24 → zs_Safe L σ P zL [] (d + 60) (1024, lv', [], H', (cs', sl'))) : zs_Safe L σ P zL [] (d + 60) (756, lv, [], H, (cs, sl)) := by
  have e1 : (i + Int32.ofInt 1).toInt = i.toInt + 1 := zv_add (by decide) (by omega)
  have e2 : (i + Int32.ofInt 2).toInt = i.toInt + 2 := zv_add (by decide) (by omega)
  have e3 : (i + Int32.ofInt 3).toInt = i.toInt + 3 := zv_add (by decide) (by omega)
  have e4 : (i + Int32.ofInt 4).toInt = i.toInt + 4 := zv_add (by decide) (by omega)
  have e5 : (i + Int32.ofInt 5).toInt = i.toInt + 5 := zv_add (by decide) (by omega)
  obtain ⟨H1, v, c1, hI1⟩ := yp_study (L := L) (σ := σ) (d := d) (x1 := σ (i + Int32.ofInt 1).toInt.toNat) hI
  obtain ⟨H2, u, c2, hI2⟩ := yq_study (L := L) (σ := σ) (d := d) (x1 := σ (i + Int32.ofInt 1).toInt.toNat) hI1
  have hW1 := hI1.1.1.1.1
  refine zw_ld (n := 1) (k := 1) (f := zp_isR) (pc' := 757) zv_i756 rfl l1 rfl rfl ?_
  refine zw_ld (n := 1) (k := 0) (f := zp_isR) (pc' := 758) zv_i757 rfl l0 rfl rfl ?_
  refine zw_ld (n := 2) (k := 4) (f := zp_isI) (pc' := 760) zv_i758 rfl l4 rfl rfl ?_
  refine zw_s (pc' := 761) zv_i760 rfl ?_
  refine zw_iadd (pc' := 762) zv_i761 rfl ?_
  refine zw_sc (pc' := 763) zv_i762 ⟨by rw [e1]; omega, by rw [e1]; omega⟩ rfl ?_
  refine zw_ld (n := 1) (k := 3) (f := zp_isR) (pc' := 764) zv_i763 rfl l3 rfl rfl ?_
  refine zw_ct (pc' := 767) (c' := (cs + 1, sl + 6)) (zw_cs (Y := zm_137) zv_i764 rfl zm_137_t) ⟨za_ble rfl, za_ble rfl, by show cs + 0 + 1 ≤ 601024; omega, by show sl + 0 + 6 ≤ 7293033; omega⟩ rfl rfl rfl rfl c1 ?_
  refine zw_st (n := 2) (k := 5) (f := zp_isI) (pc' := 769) zv_i767 rfl rfl rfl rfl ?_
  refine zw_ld (n := 1) (k := 2) (f := zp_isR) (pc' := 770) zv_i769 rfl (zw_gt l2 rfl rfl) rfl rfl ?_
  refine zw_ld (n := 1) (k := 0) (f := zp_isR) (pc' := 771) zv_i770 rfl (zw_gt l0 rfl rfl) rfl rfl ?_
  refine zw_ld (n := 2) (k := 4) (f := zp_isI) (pc' := 773) zv_i771 rfl (zw_gt l4 rfl rfl) rfl rfl ?_
  refine zw_s (pc' := 774) zv_i773 rfl ?_
  refine zw_iadd (pc' := 775) zv_i774 rfl ?_
  refine zw_sc (pc' := 776) zv_i775 ⟨by rw [e1]; omega, by rw [e1]; omega⟩ rfl ?_
  refine zw_ct (pc' := 779) (c' := (cs + 1, sl + 6)) (zw_cv (q := 72) (Y := zm_237) hW1 zv_i776 rfl zm_237_t rfl rfl) ⟨za_ble rfl, za_ble rfl, by show cs + 1 + 0 ≤ 601024; omega, by show sl + 6 + 0 ≤ 7293033; omega⟩ rfl rfl rfl rfl c2 ?_
  refine zw_st (n := 2) (k := 6) (f := zp_isI) (pc' := 781) zv_i779 rfl rfl rfl rfl ?_
  refine zw_s (pc' := 1024) zv_i781 rfl ?_
  exact kk _ H2 c t _ _ hI2 (zw_gt (zw_gt l0 rfl rfl) rfl rfl) (zw_gt (zw_gt l1 rfl rfl) rfl rfl) (zw_gt (zw_gt l2 rfl rfl) rfl rfl) (zw_gt (zw_gt l3 rfl rfl) rfl rfl) (zw_gt (zw_gt l4 rfl rfl) rfl rfl) (by omega) (by omega)

set_option maxRecDepth 8000 in
theorem zv_op17 {L : Nat} {σ : Nat → Int32} {d : Nat} {P : zp_X → Prop} {H : zp_H} {lv : zp_LV} {i : Int32} {c t cs sl : Nat} (hI : yJ c t H) (l0 : zp_get lv 0 = some (.inr (.inr (some 0)))) (l1 : zp_get lv 1 = some (.inr (.inr (some 1)))) (l2 : zp_get lv 2 = some (.inr (.inr (some 73)))) (l3 : zp_get lv 3 = some (.inr (.inr (some 105)))) (l4 : zp_get lv 4 = some (.inl i)) (hi : 0 ≤ i.toInt ∧ i.toInt + 6 ≤ L) (hL : L ≤ 3072) (hcs : cs + 4 ≤ 601024) (hsl : sl + 24 ≤ 7293033) (kk : ∀ (lv' : zp_LV) (H' : zp_H) (c' t' cs' sl' : Nat), yJ c' t' H' → zp_get lv' 0 = some (.inr (.inr (some 0))) → zp_get lv' 1 = some (.inr (.inr (some 1))) → zp_get lv' 2 = some (.inr (.inr (some 73))) → zp_get lv' 3 = some (.inr (.inr (some 105))) → zp_get lv' 4 = some (.inl i) → cs' ≤ cs + 4 → sl' ≤ sl + 24 → zs_Safe L σ P zL [] (d + 60) (1024, lv', [], H', (cs', sl'))) : zs_Safe L σ P zL [] (d + 60) (784, lv, [], H, (cs, sl)) := by
  have e1 : (i + Int32.ofInt 1).toInt = i.toInt + 1 := zv_add (by decide) (by omega)
  have e2 : (i + Int32.ofInt 2).toInt = i.toInt + 2 := zv_add (by decide) (by omega)
  have e3 : (i + Int32.ofInt 3).toInt = i.toInt + 3 := zv_add (by decide) (by omega)
  have e4 : (i + Int32.ofInt 4).toInt = i.toInt + 4 := zv_add (by decide) (by omega)
  have e5 : (i + Int32.ofInt 5).toInt = i.toInt + 5 := zv_add (by decide) (by omega)
  obtain ⟨H1, v, c1, hI1⟩ := yp_studied (L := L) (σ := σ) (d := d) (x1 := σ (i + Int32.ofInt 1).toInt.toNat) hI
  obtain ⟨H2, u, c2, hI2⟩ := yq_studied (L := L) (σ := σ) (d := d) (x1 := σ (i + Int32.ofInt 1).toInt.toNat) hI1
  have hW1 := hI1.1.1.1.1
  refine zw_ld (n := 1) (k := 1) (f := zp_isR) (pc' := 785) zv_i784 rfl l1 rfl rfl ?_
  refine zw_ld (n := 1) (k := 0) (f := zp_isR) (pc' := 786) zv_i785 rfl l0 rfl rfl ?_
  refine zw_ld (n := 2) (k := 4) (f := zp_isI) (pc' := 788) zv_i786 rfl l4 rfl rfl ?_
  refine zw_s (pc' := 789) zv_i788 rfl ?_
  refine zw_iadd (pc' := 790) zv_i789 rfl ?_
  refine zw_sc (pc' := 791) zv_i790 ⟨by rw [e1]; omega, by rw [e1]; omega⟩ rfl ?_
  refine zw_ld (n := 1) (k := 3) (f := zp_isR) (pc' := 792) zv_i791 rfl l3 rfl rfl ?_
  refine zw_ct (pc' := 795) (c' := (cs + 1, sl + 6)) (zw_cs (Y := zm_150) zv_i792 rfl zm_150_t) ⟨za_ble rfl, za_ble rfl, by show cs + 0 + 1 ≤ 601024; omega, by show sl + 0 + 6 ≤ 7293033; omega⟩ rfl rfl rfl rfl c1 ?_
  refine zw_st (n := 2) (k := 5) (f := zp_isI) (pc' := 797) zv_i795 rfl rfl rfl rfl ?_
  refine zw_ld (n := 1) (k := 2) (f := zp_isR) (pc' := 798) zv_i797 rfl (zw_gt l2 rfl rfl) rfl rfl ?_
  refine zw_ld (n := 1) (k := 0) (f := zp_isR) (pc' := 799) zv_i798 rfl (zw_gt l0 rfl rfl) rfl rfl ?_
  refine zw_ld (n := 2) (k := 4) (f := zp_isI) (pc' := 801) zv_i799 rfl (zw_gt l4 rfl rfl) rfl rfl ?_
  refine zw_s (pc' := 802) zv_i801 rfl ?_
  refine zw_iadd (pc' := 803) zv_i802 rfl ?_
  refine zw_sc (pc' := 804) zv_i803 ⟨by rw [e1]; omega, by rw [e1]; omega⟩ rfl ?_
  refine zw_ct (pc' := 807) (c' := (cs + 1, sl + 6)) (zw_cv (q := 72) (Y := zm_242) hW1 zv_i804 rfl zm_242_t rfl rfl) ⟨za_ble rfl, za_ble rfl, by show cs + 1 + 0 ≤ 601024; omega, by show sl + 6 + 0 ≤ 7293033; omega⟩ rfl rfl rfl rfl c2 ?_
  refine zw_st (n := 2) (k := 6) (f := zp_isI) (pc' := 809) zv_i807 rfl rfl rfl rfl ?_
  refine zw_s (pc' := 1024) zv_i809 rfl ?_
  exact kk _ H2 c t _ _ hI2 (zw_gt (zw_gt l0 rfl rfl) rfl rfl) (zw_gt (zw_gt l1 rfl rfl) rfl rfl) (zw_gt (zw_gt l2 rfl rfl) rfl rfl) (zw_gt (zw_gt l3 rfl rfl) rfl rfl) (zw_gt (zw_gt l4 rfl rfl) rfl rfl) (by omega) (by omega)

set_option maxRecDepth 8000 in
theorem zv_op18 {L : Nat} {σ : Nat → Int32} {d : Nat} {P : zp_X → Prop} {H : zp_H} {lv : zp_LV} {i : Int32} {c t cs sl : Nat} (hI : yJ c t H) (l0 : zp_get lv 0 = some (.inr (.inr (some 0)))) (l1 : zp_get lv 1 = some (.inr (.inr (some 1)))) (l2 : zp_get lv 2 = some (.inr (.inr (some 73)))) (l3 : zp_get lv 3 = some (.inr (.inr (some 105)))) (l4 : zp_get lv 4 = some (.inl i)) (hi : 0 ≤ i.toInt ∧ i.toInt + 6 ≤ L) (hL : L ≤ 3072) (hcs : cs + 4 ≤ 601024) (hsl : sl + 24 ≤ 7293033) (kk : ∀ (lv' : zp_LV) (H' : zp_H) (c' t' cs' sl' : Nat), yJ c' t' H' → zp_get lv' 0 = some (.inr (.inr (some 0))) → zp_get lv' 1 = some (.inr (.inr (some 1))) → zp_get lv' 2 = some (.inr (.inr (some 73))) → zp_get lv' 3 = some (.inr (.inr (some 105))) → zp_get lv' 4 = some (.inl i) → cs' ≤ cs + 4 → sl' ≤ sl + 24 → zs_Safe L σ P zL [] (d + 60) (1024, lv', [], H', (cs', sl'))) : zs_Safe L σ P zL [] (d + 60) (812, lv, [], H, (cs, sl)) := by
  have e1 : (i + Int32.ofInt 1).toInt = i.toInt + 1 := zv_add (by decide) (by omega)
  have e2 : (i + Int32.ofInt 2).toInt = i.toInt + 2 := zv_add (by decide) (by omega)
  have e3 : (i + Int32.ofInt 3).toInt = i.toInt + 3 := zv_add (by decide) (by omega)
  have e4 : (i + Int32.ofInt 4).toInt = i.toInt + 4 := zv_add (by decide) (by omega)
  have e5 : (i + Int32.ofInt 5).toInt = i.toInt + 5 := zv_add (by decide) (by omega)
  obtain ⟨H1, H2, v, u, c1, c2, hW1, hI2, hth, hout⟩ := yb_dive (L := L) (σ := σ) (d := d) (x1 := σ (i + Int32.ofInt 1).toInt.toNat) (x2 := σ (i + Int32.ofInt 2).toInt.toNat) hI
  refine zw_ld (n := 1) (k := 1) (f := zp_isR) (pc' := 813) zv_i812 rfl l1 rfl rfl ?_
  refine zw_ld (n := 1) (k := 0) (f := zp_isR) (pc' := 814) zv_i813 rfl l0 rfl rfl ?_
  refine zw_ld (n := 2) (k := 4) (f := zp_isI) (pc' := 816) zv_i814 rfl l4 rfl rfl ?_
  refine zw_s (pc' := 817) zv_i816 rfl ?_
  refine zw_iadd (pc' := 818) zv_i817 rfl ?_
  refine zw_sc (pc' := 819) zv_i818 ⟨by rw [e1]; omega, by rw [e1]; omega⟩ rfl ?_
  refine zw_ld (n := 1) (k := 0) (f := zp_isR) (pc' := 820) zv_i819 rfl l0 rfl rfl ?_
  refine zw_ld (n := 2) (k := 4) (f := zp_isI) (pc' := 822) zv_i820 rfl l4 rfl rfl ?_
  refine zw_s (pc' := 823) zv_i822 rfl ?_
  refine zw_iadd (pc' := 824) zv_i823 rfl ?_
  refine zw_sc (pc' := 825) zv_i824 ⟨by rw [e2]; omega, by rw [e2]; omega⟩ rfl ?_
  refine zw_ld (n := 1) (k := 3) (f := zp_isR) (pc' := 826) zv_i825 rfl l3 rfl rfl ?_
  refine zw_ct (pc' := 829) (c' := (cs + 2, sl + 12)) (zw_cs (Y := zm_152) zv_i826 rfl zm_152_t) ⟨za_ble rfl, za_ble rfl, by show cs + 0 + 2 ≤ 601024; omega, by show sl + 0 + 12 ≤ 7293033; omega⟩ rfl rfl rfl rfl c1 ?_
  refine zw_st (n := 2) (k := 5) (f := zp_isI) (pc' := 831) zv_i829 rfl rfl rfl rfl ?_
  refine zw_ld (n := 1) (k := 2) (f := zp_isR) (pc' := 832) zv_i831 rfl (zw_gt l2 rfl rfl) rfl rfl ?_
  refine zw_ld (n := 1) (k := 0) (f := zp_isR) (pc' := 833) zv_i832 rfl (zw_gt l0 rfl rfl) rfl rfl ?_
  refine zw_ld (n := 2) (k := 4) (f := zp_isI) (pc' := 835) zv_i833 rfl (zw_gt l4 rfl rfl) rfl rfl ?_
  refine zw_s (pc' := 836) zv_i835 rfl ?_
  refine zw_iadd (pc' := 837) zv_i836 rfl ?_
  refine zw_sc (pc' := 838) zv_i837 ⟨by rw [e1]; omega, by rw [e1]; omega⟩ rfl ?_
  refine zw_ld (n := 1) (k := 0) (f := zp_isR) (pc' := 839) zv_i838 rfl (zw_gt l0 rfl rfl) rfl rfl ?_
  refine zw_ld (n := 2) (k := 4) (f := zp_isI) (pc' := 841) zv_i839 rfl (zw_gt l4 rfl rfl) rfl rfl ?_
  refine zw_s (pc' := 842) zv_i841 rfl ?_
  refine zw_iadd (pc' := 843) zv_i842 rfl ?_
  refine zw_sc (pc' := 844) zv_i843 ⟨by rw [e2]; omega, by rw [e2]; omega⟩ rfl ?_
  refine zw_ct (pc' := 847) (c' := (cs + 2, sl + 12)) (zw_cv (q := 72) (Y := zm_243) hW1 zv_i844 rfl zm_243_t rfl rfl) ⟨za_ble rfl, za_ble rfl, by show cs + 2 + 0 ≤ 601024; omega, by show sl + 12 + 0 ≤ 7293033; omega⟩ rfl rfl rfl rfl c2 ?_
  have W2 := zB_Wd (zB_dn (zB_Bc hI2.1.1.1))
  refine zw_st (n := 2) (k := 6) (f := zp_isI) (pc' := 849) zv_i847 rfl rfl rfl rfl ?_
  refine zw_ld (n := 1) (k := 2) (f := zp_isR) (pc' := 850) zv_i849 rfl (zw_gt (zw_gt l2 rfl rfl) rfl rfl) rfl rfl ?_
  refine zw_ct (pc' := 853) (c' := (cs + 2, sl + 12)) (zw_cv (q := 72) (Y := zm_251) W2.1 zv_i850 rfl zm_251_t rfl rfl) ⟨za_ble rfl, za_ble rfl, by show cs + 2 + 0 ≤ 601024; omega, by show sl + 12 + 0 ≤ 7293033; omega⟩ rfl rfl rfl rfl (yq_thr W2) ?_
  refine zw_ld (n := 2) (k := 5) (f := zp_isI) (pc' := 855) zv_i853 rfl (zw_gt zw_g1 rfl rfl) rfl rfl ?_
  refine zw_beq2 (g := 860) (pc' := 858) zv_i855 rfl rfl rfl rfl (fun hb => ?_) (fun hb => absurd hth hb)
  refine zw_ld (n := 2) (k := 5) (f := zp_isI) (pc' := 862) zv_i860 rfl (zw_gt zw_g1 rfl rfl) rfl rfl ?_
  refine zw_bne1 (g := 877) (pc' := 865) zv_i862 rfl rfl rfl (fun hv => ?_) (fun hv => ?_)
  · refine zw_s (pc' := 1024) zv_i877 rfl ?_
    exact kk _ H2 c t _ _ hI2 (zw_gt (zw_gt l0 rfl rfl) rfl rfl) (zw_gt (zw_gt l1 rfl rfl) rfl rfl) (zw_gt (zw_gt l2 rfl rfl) rfl rfl) (zw_gt (zw_gt l3 rfl rfl) rfl rfl) (zw_gt (zw_gt l4 rfl rfl) rfl rfl) (by omega) (by omega)
  · refine zw_ld (n := 1) (k := 3) (f := zp_isR) (pc' := 866) zv_i865 rfl (zw_gt (zw_gt l3 rfl rfl) rfl rfl) rfl rfl ?_
    refine zw_s (pc' := 867) zv_i866 rfl ?_
    refine zw_la (q := 104) (pc' := 868) W2 zv_i867 rfl (⟨by decide, by decide⟩) rfl ?_
    refine zw_ld (n := 2) (k := 6) (f := zp_isI) (pc' := 870) zv_i868 rfl zw_g1 rfl rfl ?_
    refine zw_s (pc' := 871) zv_i870 rfl ?_
    refine zw_s (pc' := 872) zv_i871 rfl ?_
    have hq := hout (by omega)
    refine zw_beq1 (g := 877) (pc' := 875) zv_i872 rfl rfl (yq_cmp hq) (fun hb => ?_) (fun hb => absurd rfl hb)
    refine zw_s (pc' := 1024) zv_i877 rfl ?_
    exact kk _ H2 c t _ _ hI2 (zw_gt (zw_gt l0 rfl rfl) rfl rfl) (zw_gt (zw_gt l1 rfl rfl) rfl rfl) (zw_gt (zw_gt l2 rfl rfl) rfl rfl) (zw_gt (zw_gt l3 rfl rfl) rfl rfl) (zw_gt (zw_gt l4 rfl rfl) rfl rfl) (by omega) (by omega)

set_option maxRecDepth 8000 in
theorem zv_op19 {L : Nat} {σ : Nat → Int32} {d : Nat} {P : zp_X → Prop} {H : zp_H} {lv : zp_LV} {i : Int32} {c t cs sl : Nat} (hI : yJ c t H) (l0 : zp_get lv 0 = some (.inr (.inr (some 0)))) (l1 : zp_get lv 1 = some (.inr (.inr (some 1)))) (l2 : zp_get lv 2 = some (.inr (.inr (some 73)))) (l3 : zp_get lv 3 = some (.inr (.inr (some 105)))) (l4 : zp_get lv 4 = some (.inl i)) (hi : 0 ≤ i.toInt ∧ i.toInt + 6 ≤ L) (hL : L ≤ 3072) (hcs : cs + 4 ≤ 601024) (hsl : sl + 24 ≤ 7293033) (kk : ∀ (lv' : zp_LV) (H' : zp_H) (c' t' cs' sl' : Nat), yJ c' t' H' → zp_get lv' 0 = some (.inr (.inr (some 0))) → zp_get lv' 1 = some (.inr (.inr (some 1))) → zp_get lv' 2 = some (.inr (.inr (some 73))) → zp_get lv' 3 = some (.inr (.inr (some 105))) → zp_get lv' 4 = some (.inl i) → cs' ≤ cs + 4 → sl' ≤ sl + 24 → zs_Safe L σ P zL [] (d + 60) (1024, lv', [], H', (cs', sl'))) : zs_Safe L σ P zL [] (d + 60) (880, lv, [], H, (cs, sl)) := by
  have e1 : (i + Int32.ofInt 1).toInt = i.toInt + 1 := zv_add (by decide) (by omega)
  have e2 : (i + Int32.ofInt 2).toInt = i.toInt + 2 := zv_add (by decide) (by omega)
  have e3 : (i + Int32.ofInt 3).toInt = i.toInt + 3 := zv_add (by decide) (by omega)
  have e4 : (i + Int32.ofInt 4).toInt = i.toInt + 4 := zv_add (by decide) (by omega)
  have e5 : (i + Int32.ofInt 5).toInt = i.toInt + 5 := zv_add (by decide) (by omega)
  obtain ⟨H1, v, c1, hI1⟩ := yp_chart (L := L) (σ := σ) (d := d) (x1 := σ (i + Int32.ofInt 1).toInt.toNat) hI
  obtain ⟨H2, u, c2, hI2⟩ := yq_chart (L := L) (σ := σ) (d := d) (x1 := σ (i + Int32.ofInt 1).toInt.toNat) hI1
  have hW1 := hI1.1.1.1.1
  refine zw_ld (n := 1) (k := 1) (f := zp_isR) (pc' := 881) zv_i880 rfl l1 rfl rfl ?_
  refine zw_ld (n := 1) (k := 0) (f := zp_isR) (pc' := 882) zv_i881 rfl l0 rfl rfl ?_
  refine zw_ld (n := 2) (k := 4) (f := zp_isI) (pc' := 884) zv_i882 rfl l4 rfl rfl ?_
  refine zw_s (pc' := 885) zv_i884 rfl ?_
  refine zw_iadd (pc' := 886) zv_i885 rfl ?_
  refine zw_sc (pc' := 887) zv_i886 ⟨by rw [e1]; omega, by rw [e1]; omega⟩ rfl ?_
  refine zw_ld (n := 1) (k := 3) (f := zp_isR) (pc' := 888) zv_i887 rfl l3 rfl rfl ?_
  refine zw_ct (pc' := 891) (c' := (cs + 1, sl + 6)) (zw_cs (Y := zm_155) zv_i888 rfl zm_155_t) ⟨za_ble rfl, za_ble rfl, by show cs + 0 + 1 ≤ 601024; omega, by show sl + 0 + 6 ≤ 7293033; omega⟩ rfl rfl rfl rfl c1 ?_
  refine zw_st (n := 2) (k := 5) (f := zp_isI) (pc' := 893) zv_i891 rfl rfl rfl rfl ?_
  refine zw_ld (n := 1) (k := 2) (f := zp_isR) (pc' := 894) zv_i893 rfl (zw_gt l2 rfl rfl) rfl rfl ?_
  refine zw_ld (n := 1) (k := 0) (f := zp_isR) (pc' := 895) zv_i894 rfl (zw_gt l0 rfl rfl) rfl rfl ?_
  refine zw_ld (n := 2) (k := 4) (f := zp_isI) (pc' := 897) zv_i895 rfl (zw_gt l4 rfl rfl) rfl rfl ?_
  refine zw_s (pc' := 898) zv_i897 rfl ?_
  refine zw_iadd (pc' := 899) zv_i898 rfl ?_
  refine zw_sc (pc' := 900) zv_i899 ⟨by rw [e1]; omega, by rw [e1]; omega⟩ rfl ?_
  refine zw_ct (pc' := 903) (c' := (cs + 1, sl + 6)) (zw_cv (q := 72) (Y := zm_244) hW1 zv_i900 rfl zm_244_t rfl rfl) ⟨za_ble rfl, za_ble rfl, by show cs + 1 + 0 ≤ 601024; omega, by show sl + 6 + 0 ≤ 7293033; omega⟩ rfl rfl rfl rfl c2 ?_
  refine zw_sl (n := 2) (k := 6) (pc' := 905) zv_i903 rfl rfl rfl ?_
  refine zw_s (pc' := 1024) zv_i905 rfl ?_
  exact kk _ H2 c t _ _ hI2 (zw_gt2 (zw_gt l0 rfl rfl) rfl rfl) (zw_gt2 (zw_gt l1 rfl rfl) rfl rfl) (zw_gt2 (zw_gt l2 rfl rfl) rfl rfl) (zw_gt2 (zw_gt l3 rfl rfl) rfl rfl) (zw_gt2 (zw_gt l4 rfl rfl) rfl rfl) (by omega) (by omega)

set_option maxRecDepth 8000 in
theorem zv_op20 {L : Nat} {σ : Nat → Int32} {d : Nat} {P : zp_X → Prop} {H : zp_H} {lv : zp_LV} {i : Int32} {c t cs sl : Nat} (hI : yJ c t H) (l0 : zp_get lv 0 = some (.inr (.inr (some 0)))) (l1 : zp_get lv 1 = some (.inr (.inr (some 1)))) (l2 : zp_get lv 2 = some (.inr (.inr (some 73)))) (l3 : zp_get lv 3 = some (.inr (.inr (some 105)))) (l4 : zp_get lv 4 = some (.inl i)) (hi : 0 ≤ i.toInt ∧ i.toInt + 6 ≤ L) (hL : L ≤ 3072) (hcs : cs + 4 ≤ 601024) (hsl : sl + 24 ≤ 7293033) (kk : ∀ (lv' : zp_LV) (H' : zp_H) (c' t' cs' sl' : Nat), yJ c' t' H' → zp_get lv' 0 = some (.inr (.inr (some 0))) → zp_get lv' 1 = some (.inr (.inr (some 1))) → zp_get lv' 2 = some (.inr (.inr (some 73))) → zp_get lv' 3 = some (.inr (.inr (some 105))) → zp_get lv' 4 = some (.inl i) → cs' ≤ cs + 4 → sl' ≤ sl + 24 → zs_Safe L σ P zL [] (d + 60) (1024, lv', [], H', (cs', sl'))) : zs_Safe L σ P zL [] (d + 60) (908, lv, [], H, (cs, sl)) := by
  have e1 : (i + Int32.ofInt 1).toInt = i.toInt + 1 := zv_add (by decide) (by omega)
  have e2 : (i + Int32.ofInt 2).toInt = i.toInt + 2 := zv_add (by decide) (by omega)
  have e3 : (i + Int32.ofInt 3).toInt = i.toInt + 3 := zv_add (by decide) (by omega)
  have e4 : (i + Int32.ofInt 4).toInt = i.toInt + 4 := zv_add (by decide) (by omega)
  have e5 : (i + Int32.ofInt 5).toInt = i.toInt + 5 := zv_add (by decide) (by omega)
  obtain ⟨H1, v, c1, hI1⟩ := yp_hand (L := L) (σ := σ) (d := d) (x1 := σ (i + Int32.ofInt 1).toInt.toNat) (x2 := σ (i + Int32.ofInt 2).toInt.toNat) hI
  obtain ⟨H2, u, c2, hI2⟩ := yq_hand (L := L) (σ := σ) (d := d) (x1 := σ (i + Int32.ofInt 1).toInt.toNat) (x2 := σ (i + Int32.ofInt 2).toInt.toNat) hI1
  have hW1 := hI1.1.1.1.1
  refine zw_ld (n := 1) (k := 1) (f := zp_isR) (pc' := 909) zv_i908 rfl l1 rfl rfl ?_
  refine zw_ld (n := 1) (k := 0) (f := zp_isR) (pc' := 910) zv_i909 rfl l0 rfl rfl ?_
  refine zw_ld (n := 2) (k := 4) (f := zp_isI) (pc' := 912) zv_i910 rfl l4 rfl rfl ?_
  refine zw_s (pc' := 913) zv_i912 rfl ?_
  refine zw_iadd (pc' := 914) zv_i913 rfl ?_
  refine zw_sc (pc' := 915) zv_i914 ⟨by rw [e1]; omega, by rw [e1]; omega⟩ rfl ?_
  refine zw_ld (n := 1) (k := 0) (f := zp_isR) (pc' := 916) zv_i915 rfl l0 rfl rfl ?_
  refine zw_ld (n := 2) (k := 4) (f := zp_isI) (pc' := 918) zv_i916 rfl l4 rfl rfl ?_
  refine zw_s (pc' := 919) zv_i918 rfl ?_
  refine zw_iadd (pc' := 920) zv_i919 rfl ?_
  refine zw_sc (pc' := 921) zv_i920 ⟨by rw [e2]; omega, by rw [e2]; omega⟩ rfl ?_
  refine zw_ld (n := 1) (k := 3) (f := zp_isR) (pc' := 922) zv_i921 rfl l3 rfl rfl ?_
  refine zw_ct (pc' := 925) (c' := (cs + 2, sl + 12)) (zw_cs (Y := zm_157) zv_i922 rfl zm_157_t) ⟨za_ble rfl, za_ble rfl, by show cs + 0 + 2 ≤ 601024; omega, by show sl + 0 + 12 ≤ 7293033; omega⟩ rfl rfl rfl rfl c1 ?_
  refine zw_st (n := 2) (k := 5) (f := zp_isI) (pc' := 927) zv_i925 rfl rfl rfl rfl ?_
  refine zw_ld (n := 1) (k := 2) (f := zp_isR) (pc' := 928) zv_i927 rfl (zw_gt l2 rfl rfl) rfl rfl ?_
  refine zw_ld (n := 1) (k := 0) (f := zp_isR) (pc' := 929) zv_i928 rfl (zw_gt l0 rfl rfl) rfl rfl ?_
  refine zw_ld (n := 2) (k := 4) (f := zp_isI) (pc' := 931) zv_i929 rfl (zw_gt l4 rfl rfl) rfl rfl ?_
  refine zw_s (pc' := 932) zv_i931 rfl ?_
  refine zw_iadd (pc' := 933) zv_i932 rfl ?_
  refine zw_sc (pc' := 934) zv_i933 ⟨by rw [e1]; omega, by rw [e1]; omega⟩ rfl ?_
  refine zw_ld (n := 1) (k := 0) (f := zp_isR) (pc' := 935) zv_i934 rfl (zw_gt l0 rfl rfl) rfl rfl ?_
  refine zw_ld (n := 2) (k := 4) (f := zp_isI) (pc' := 937) zv_i935 rfl (zw_gt l4 rfl rfl) rfl rfl ?_
  refine zw_s (pc' := 938) zv_i937 rfl ?_
  refine zw_iadd (pc' := 939) zv_i938 rfl ?_
  refine zw_sc (pc' := 940) zv_i939 ⟨by rw [e2]; omega, by rw [e2]; omega⟩ rfl ?_
  refine zw_ct (pc' := 943) (c' := (cs + 2, sl + 12)) (zw_cv (q := 72) (Y := zm_245) hW1 zv_i940 rfl zm_245_t rfl rfl) ⟨za_ble rfl, za_ble rfl, by show cs + 2 + 0 ≤ 601024; omega, by show sl + 12 + 0 ≤ 7293033; omega⟩ rfl rfl rfl rfl c2 ?_
  refine zw_sl (n := 2) (k := 6) (pc' := 945) zv_i943 rfl rfl rfl ?_
  refine zw_s (pc' := 1024) zv_i945 rfl ?_
  exact kk _ H2 c t _ _ hI2 (zw_gt2 (zw_gt l0 rfl rfl) rfl rfl) (zw_gt2 (zw_gt l1 rfl rfl) rfl rfl) (zw_gt2 (zw_gt l2 rfl rfl) rfl rfl) (zw_gt2 (zw_gt l3 rfl rfl) rfl rfl) (zw_gt2 (zw_gt l4 rfl rfl) rfl rfl) (by omega) (by omega)

set_option maxRecDepth 8000 in
theorem zv_op21 {L : Nat} {σ : Nat → Int32} {d : Nat} {P : zp_X → Prop} {H : zp_H} {lv : zp_LV} {i : Int32} {c t cs sl : Nat} (hI : yJ c t H) (l0 : zp_get lv 0 = some (.inr (.inr (some 0)))) (l1 : zp_get lv 1 = some (.inr (.inr (some 1)))) (l2 : zp_get lv 2 = some (.inr (.inr (some 73)))) (l3 : zp_get lv 3 = some (.inr (.inr (some 105)))) (l4 : zp_get lv 4 = some (.inl i)) (hi : 0 ≤ i.toInt ∧ i.toInt + 6 ≤ L) (hL : L ≤ 3072) (hcs : cs + 4 ≤ 601024) (hsl : sl + 24 ≤ 7293033) (kk : ∀ (lv' : zp_LV) (H' : zp_H) (c' t' cs' sl' : Nat), yJ c' t' H' → zp_get lv' 0 = some (.inr (.inr (some 0))) → zp_get lv' 1 = some (.inr (.inr (some 1))) → zp_get lv' 2 = some (.inr (.inr (some 73))) → zp_get lv' 3 = some (.inr (.inr (some 105))) → zp_get lv' 4 = some (.inl i) → cs' ≤ cs + 4 → sl' ≤ sl + 24 → zs_Safe L σ P zL [] (d + 60) (1024, lv', [], H', (cs', sl'))) : zs_Safe L σ P zL [] (d + 60) (948, lv, [], H, (cs, sl)) := by
  have e1 : (i + Int32.ofInt 1).toInt = i.toInt + 1 := zv_add (by decide) (by omega)
  have e2 : (i + Int32.ofInt 2).toInt = i.toInt + 2 := zv_add (by decide) (by omega)
  have e3 : (i + Int32.ofInt 3).toInt = i.toInt + 3 := zv_add (by decide) (by omega)
  have e4 : (i + Int32.ofInt 4).toInt = i.toInt + 4 := zv_add (by decide) (by omega)
  have e5 : (i + Int32.ofInt 5).toInt = i.toInt + 5 := zv_add (by decide) (by omega)
  obtain ⟨H1, v, c1, hI1⟩ := yp_copied (L := L) (σ := σ) (d := d) (x1 := σ (i + Int32.ofInt 1).toInt.toNat) (x2 := σ (i + Int32.ofInt 2).toInt.toNat) (x3 := σ (i + Int32.ofInt 3).toInt.toNat) hI
  obtain ⟨H2, u, c2, hI2⟩ := yq_copied (L := L) (σ := σ) (d := d) (x1 := σ (i + Int32.ofInt 1).toInt.toNat) (x2 := σ (i + Int32.ofInt 2).toInt.toNat) (x3 := σ (i + Int32.ofInt 3).toInt.toNat) hI1
  have hW1 := hI1.1.1.1.1
  refine zw_ld (n := 1) (k := 1) (f := zp_isR) (pc' := 949) zv_i948 rfl l1 rfl rfl ?_
  refine zw_ld (n := 1) (k := 0) (f := zp_isR) (pc' := 950) zv_i949 rfl l0 rfl rfl ?_
  refine zw_ld (n := 2) (k := 4) (f := zp_isI) (pc' := 952) zv_i950 rfl l4 rfl rfl ?_
  refine zw_s (pc' := 953) zv_i952 rfl ?_
  refine zw_iadd (pc' := 954) zv_i953 rfl ?_
  refine zw_sc (pc' := 955) zv_i954 ⟨by rw [e1]; omega, by rw [e1]; omega⟩ rfl ?_
  refine zw_ld (n := 1) (k := 0) (f := zp_isR) (pc' := 956) zv_i955 rfl l0 rfl rfl ?_
  refine zw_ld (n := 2) (k := 4) (f := zp_isI) (pc' := 958) zv_i956 rfl l4 rfl rfl ?_
  refine zw_s (pc' := 959) zv_i958 rfl ?_
  refine zw_iadd (pc' := 960) zv_i959 rfl ?_
  refine zw_sc (pc' := 961) zv_i960 ⟨by rw [e2]; omega, by rw [e2]; omega⟩ rfl ?_
  refine zw_ld (n := 1) (k := 0) (f := zp_isR) (pc' := 962) zv_i961 rfl l0 rfl rfl ?_
  refine zw_ld (n := 2) (k := 4) (f := zp_isI) (pc' := 964) zv_i962 rfl l4 rfl rfl ?_
  refine zw_s (pc' := 965) zv_i964 rfl ?_
  refine zw_iadd (pc' := 966) zv_i965 rfl ?_
  refine zw_sc (pc' := 967) zv_i966 ⟨by rw [e3]; omega, by rw [e3]; omega⟩ rfl ?_
  refine zw_ld (n := 1) (k := 3) (f := zp_isR) (pc' := 968) zv_i967 rfl l3 rfl rfl ?_
  refine zw_ct (pc' := 971) (c' := (cs + 4, sl + 24)) (zw_cs (Y := zm_162) zv_i968 rfl zm_162_t) ⟨za_ble rfl, za_ble rfl, by show cs + 0 + 4 ≤ 601024; omega, by show sl + 0 + 24 ≤ 7293033; omega⟩ rfl rfl rfl rfl c1 ?_
  refine zw_st (n := 2) (k := 5) (f := zp_isI) (pc' := 973) zv_i971 rfl rfl rfl rfl ?_
  refine zw_ld (n := 1) (k := 2) (f := zp_isR) (pc' := 974) zv_i973 rfl (zw_gt l2 rfl rfl) rfl rfl ?_
  refine zw_ld (n := 1) (k := 0) (f := zp_isR) (pc' := 975) zv_i974 rfl (zw_gt l0 rfl rfl) rfl rfl ?_
  refine zw_ld (n := 2) (k := 4) (f := zp_isI) (pc' := 977) zv_i975 rfl (zw_gt l4 rfl rfl) rfl rfl ?_
  refine zw_s (pc' := 978) zv_i977 rfl ?_
  refine zw_iadd (pc' := 979) zv_i978 rfl ?_
  refine zw_sc (pc' := 980) zv_i979 ⟨by rw [e1]; omega, by rw [e1]; omega⟩ rfl ?_
  refine zw_ld (n := 1) (k := 0) (f := zp_isR) (pc' := 981) zv_i980 rfl (zw_gt l0 rfl rfl) rfl rfl ?_
  refine zw_ld (n := 2) (k := 4) (f := zp_isI) (pc' := 983) zv_i981 rfl (zw_gt l4 rfl rfl) rfl rfl ?_
  refine zw_s (pc' := 984) zv_i983 rfl ?_
  refine zw_iadd (pc' := 985) zv_i984 rfl ?_
  refine zw_sc (pc' := 986) zv_i985 ⟨by rw [e2]; omega, by rw [e2]; omega⟩ rfl ?_
  refine zw_ld (n := 1) (k := 0) (f := zp_isR) (pc' := 987) zv_i986 rfl (zw_gt l0 rfl rfl) rfl rfl ?_
  refine zw_ld (n := 2) (k := 4) (f := zp_isI) (pc' := 989) zv_i987 rfl (zw_gt l4 rfl rfl) rfl rfl ?_
  refine zw_s (pc' := 990) zv_i989 rfl ?_
  refine zw_iadd (pc' := 991) zv_i990 rfl ?_
  refine zw_sc (pc' := 992) zv_i991 ⟨by rw [e3]; omega, by rw [e3]; omega⟩ rfl ?_
  refine zw_ct (pc' := 995) (c' := (cs + 4, sl + 24)) (zw_cv (q := 72) (Y := zm_247) hW1 zv_i992 rfl zm_247_t rfl rfl) ⟨za_ble rfl, za_ble rfl, by show cs + 4 + 0 ≤ 601024; omega, by show sl + 24 + 0 ≤ 7293033; omega⟩ rfl rfl rfl rfl c2 ?_
  refine zw_st (n := 2) (k := 6) (f := zp_isI) (pc' := 997) zv_i995 rfl rfl rfl rfl ?_
  refine zw_s (pc' := 1024) zv_i997 rfl ?_
  exact kk _ H2 c t _ _ hI2 (zw_gt (zw_gt l0 rfl rfl) rfl rfl) (zw_gt (zw_gt l1 rfl rfl) rfl rfl) (zw_gt (zw_gt l2 rfl rfl) rfl rfl) (zw_gt (zw_gt l3 rfl rfl) rfl rfl) (zw_gt (zw_gt l4 rfl rfl) rfl rfl) (by omega) (by omega)

set_option maxRecDepth 8000 in
theorem zv_op22 {L : Nat} {σ : Nat → Int32} {d : Nat} {P : zp_X → Prop} {H : zp_H} {lv : zp_LV} {i : Int32} {c t cs sl : Nat} (hI : yJ c t H) (l0 : zp_get lv 0 = some (.inr (.inr (some 0)))) (l1 : zp_get lv 1 = some (.inr (.inr (some 1)))) (l2 : zp_get lv 2 = some (.inr (.inr (some 73)))) (l3 : zp_get lv 3 = some (.inr (.inr (some 105)))) (l4 : zp_get lv 4 = some (.inl i)) (hi : 0 ≤ i.toInt ∧ i.toInt + 6 ≤ L) (hL : L ≤ 3072) (hcs : cs + 4 ≤ 601024) (hsl : sl + 24 ≤ 7293033) (kk : ∀ (lv' : zp_LV) (H' : zp_H) (c' t' cs' sl' : Nat), yJ c' t' H' → zp_get lv' 0 = some (.inr (.inr (some 0))) → zp_get lv' 1 = some (.inr (.inr (some 1))) → zp_get lv' 2 = some (.inr (.inr (some 73))) → zp_get lv' 3 = some (.inr (.inr (some 105))) → zp_get lv' 4 = some (.inl i) → cs' ≤ cs + 4 → sl' ≤ sl + 24 → zs_Safe L σ P zL [] (d + 60) (1024, lv', [], H', (cs', sl'))) : zs_Safe L σ P zL [] (d + 60) (1000, lv, [], H, (cs, sl)) := by
  have e1 : (i + Int32.ofInt 1).toInt = i.toInt + 1 := zv_add (by decide) (by omega)
  have e2 : (i + Int32.ofInt 2).toInt = i.toInt + 2 := zv_add (by decide) (by omega)
  have e3 : (i + Int32.ofInt 3).toInt = i.toInt + 3 := zv_add (by decide) (by omega)
  have e4 : (i + Int32.ofInt 4).toInt = i.toInt + 4 := zv_add (by decide) (by omega)
  have e5 : (i + Int32.ofInt 5).toInt = i.toInt + 5 := zv_add (by decide) (by omega)
  obtain ⟨H1, H2, c1, c2, hW1, hI2⟩ := yb_image (L := L) (σ := σ) (d := d) hI
  refine zw_ld (n := 1) (k := 1) (f := zp_isR) (pc' := 1001) zv_i1000 rfl l1 rfl rfl ?_
  refine zw_ctn (pc' := 1004) (c' := (cs + 0, sl + 0)) (zw_cv (q := 0) (Y := zm_45) hI.1.1.1.1 zv_i1001 rfl zm_45_t rfl rfl) ⟨za_ble rfl, za_ble rfl, by show cs + 0 + 0 ≤ 601024; omega, by show sl + 0 + 0 ≤ 7293033; omega⟩ rfl rfl rfl rfl c1 ?_
  refine zw_ld (n := 1) (k := 2) (f := zp_isR) (pc' := 1005) zv_i1004 rfl l2 rfl rfl ?_
  refine zw_ctn (pc' := 1008) (c' := (cs + 0, sl + 0)) (zw_cv (q := 72) (Y := zm_249) hW1 zv_i1005 rfl zm_249_t rfl rfl) ⟨za_ble rfl, za_ble rfl, by show cs + 0 + 0 ≤ 601024; omega, by show sl + 0 + 0 ≤ 7293033; omega⟩ rfl rfl rfl rfl c2 ?_
  refine zw_s (pc' := 1024) zv_i1008 rfl ?_
  exact kk _ H2 c t _ _ hI2 l0 l1 l2 l3 l4 (by omega) (by omega)

set_option maxRecDepth 8000 in
theorem zv_op23 {L : Nat} {σ : Nat → Int32} {d : Nat} {P : zp_X → Prop} {H : zp_H} {lv : zp_LV} {i : Int32} {c t cs sl : Nat} (hI : yJ c t H) (l0 : zp_get lv 0 = some (.inr (.inr (some 0)))) (l1 : zp_get lv 1 = some (.inr (.inr (some 1)))) (l2 : zp_get lv 2 = some (.inr (.inr (some 73)))) (l3 : zp_get lv 3 = some (.inr (.inr (some 105)))) (l4 : zp_get lv 4 = some (.inl i)) (hi : 0 ≤ i.toInt ∧ i.toInt + 6 ≤ L) (hL : L ≤ 3072) (hcs : cs + 4 ≤ 601024) (hsl : sl + 24 ≤ 7293033) (kk : ∀ (lv' : zp_LV) (H' : zp_H) (c' t' cs' sl' : Nat), yJ c' t' H' → zp_get lv' 0 = some (.inr (.inr (some 0))) → zp_get lv' 1 = some (.inr (.inr (some 1))) → zp_get lv' 2 = some (.inr (.inr (some 73))) → zp_get lv' 3 = some (.inr (.inr (some 105))) → zp_get lv' 4 = some (.inl i) → cs' ≤ cs + 4 → sl' ≤ sl + 24 → zs_Safe L σ P zL [] (d + 60) (1024, lv', [], H', (cs', sl'))) : zs_Safe L σ P zL [] (d + 60) (1011, lv, [], H, (cs, sl)) := by
  have e1 : (i + Int32.ofInt 1).toInt = i.toInt + 1 := zv_add (by decide) (by omega)
  have e2 : (i + Int32.ofInt 2).toInt = i.toInt + 2 := zv_add (by decide) (by omega)
  have e3 : (i + Int32.ofInt 3).toInt = i.toInt + 3 := zv_add (by decide) (by omega)
  have e4 : (i + Int32.ofInt 4).toInt = i.toInt + 4 := zv_add (by decide) (by omega)
  have e5 : (i + Int32.ofInt 5).toInt = i.toInt + 5 := zv_add (by decide) (by omega)
  obtain ⟨H1, H2, v, u, c1, c2, hW1, hI2, hvu⟩ := yb_restore (L := L) (σ := σ) (d := d) hI
  refine zw_ld (n := 1) (k := 1) (f := zp_isR) (pc' := 1012) zv_i1011 rfl l1 rfl rfl ?_
  refine zw_ct (pc' := 1015) (c' := (cs + 0, sl + 0)) (zw_cv (q := 0) (Y := zm_47) hI.1.1.1.1 zv_i1012 rfl zm_47_t rfl rfl) ⟨za_ble rfl, za_ble rfl, by show cs + 0 + 0 ≤ 601024; omega, by show sl + 0 + 0 ≤ 7293033; omega⟩ rfl rfl rfl rfl c1 ?_
  refine zw_s (pc' := 1016) zv_i1015 rfl ?_
  refine zw_ld (n := 1) (k := 2) (f := zp_isR) (pc' := 1017) zv_i1016 rfl l2 rfl rfl ?_
  refine zw_ct (pc' := 1020) (c' := (cs + 0, sl + 0)) (zw_cv (q := 72) (Y := zm_250) hW1 zv_i1017 rfl zm_250_t rfl rfl) ⟨za_ble rfl, za_ble rfl, by show cs + 0 + 0 ≤ 601024; omega, by show sl + 0 + 0 ≤ 7293033; omega⟩ rfl rfl rfl rfl c2 ?_
  refine zw_s (pc' := 1021) zv_i1020 rfl ?_
  refine zw_s (pc' := 1024) zv_i1021 rfl ?_
  exact kk _ H2 c t _ _ hI2 l0 l1 l2 l3 l4 (by omega) (by omega)

set_option maxRecDepth 8000 in
theorem zv_sw {L : Nat} {σ : Nat → Int32} {d : Nat} {P : zp_X → Prop} {H : zp_H} {lv : zp_LV} {y : Int32} {c : Nat × Nat} (k0 : zs_Safe L σ P zL [] d (152, lv, [], H, c)) (k1 : zs_Safe L σ P zL [] d (225, lv, [], H, c)) (k2 : zs_Safe L σ P zL [] d (253, lv, [], H, c)) (k3 : zs_Safe L σ P zL [] d (266, lv, [], H, c)) (k4 : zs_Safe L σ P zL [] d (294, lv, [], H, c)) (k5 : zs_Safe L σ P zL [] d (334, lv, [], H, c)) (k6 : zs_Safe L σ P zL [] d (374, lv, [], H, c)) (k7 : zs_Safe L σ P zL [] d (426, lv, [], H, c)) (k8 : zs_Safe L σ P zL [] d (478, lv, [], H, c)) (k9 : zs_Safe L σ P zL [] d (530, lv, [], H, c)) (k10 : zs_Safe L σ P zL [] d (543, lv, [], H, c)) (k11 : zs_Safe L σ P zL [] d (583, lv, [], H, c)) (k12 : zs_Safe L σ P zL [] d (611, lv, [], H, c)) (k13 : zs_Safe L σ P zL [] d (651, lv, [], H, c)) (k14 : zs_Safe L σ P zL [] d (691, lv, [], H, c)) (k15 : zs_Safe L σ P zL [] d (743, lv, [], H, c)) (k16 : zs_Safe L σ P zL [] d (756, lv, [], H, c)) (k17 : zs_Safe L σ P zL [] d (784, lv, [], H, c)) (k18 : zs_Safe L σ P zL [] d (812, lv, [], H, c)) (k19 : zs_Safe L σ P zL [] d (880, lv, [], H, c)) (k20 : zs_Safe L σ P zL [] d (908, lv, [], H, c)) (k21 : zs_Safe L σ P zL [] d (948, lv, [], H, c)) (k22 : zs_Safe L σ P zL [] d (1000, lv, [], H, c)) (k23 : zs_Safe L σ P zL [] d (1011, lv, [], H, c)) (kd : zs_Safe L σ P zL [] d (1024, lv, [], H, c)) : zs_Safe L σ P zL [] d (40, lv, [.inl y], H, c) := by
  by_cases h0 : y.toInt = 0
  · obtain rfl : y = Int32.ofInt 0 := Int32.toInt_inj.mp h0
    exact zw_s (pc' := 152) zv_i40 rfl k0
  by_cases h1 : y.toInt = 1
  · obtain rfl : y = Int32.ofInt 1 := Int32.toInt_inj.mp h1
    exact zw_s (pc' := 225) zv_i40 rfl k1
  by_cases h2 : y.toInt = 2
  · obtain rfl : y = Int32.ofInt 2 := Int32.toInt_inj.mp h2
    exact zw_s (pc' := 253) zv_i40 rfl k2
  by_cases h3 : y.toInt = 3
  · obtain rfl : y = Int32.ofInt 3 := Int32.toInt_inj.mp h3
    exact zw_s (pc' := 266) zv_i40 rfl k3
  by_cases h4 : y.toInt = 4
  · obtain rfl : y = Int32.ofInt 4 := Int32.toInt_inj.mp h4
    exact zw_s (pc' := 294) zv_i40 rfl k4
  by_cases h5 : y.toInt = 5
  · obtain rfl : y = Int32.ofInt 5 := Int32.toInt_inj.mp h5
    exact zw_s (pc' := 334) zv_i40 rfl k5
  by_cases h6 : y.toInt = 6
  · obtain rfl : y = Int32.ofInt 6 := Int32.toInt_inj.mp h6
    exact zw_s (pc' := 374) zv_i40 rfl k6
  by_cases h7 : y.toInt = 7
  · obtain rfl : y = Int32.ofInt 7 := Int32.toInt_inj.mp h7
    exact zw_s (pc' := 426) zv_i40 rfl k7
  by_cases h8 : y.toInt = 8
  · obtain rfl : y = Int32.ofInt 8 := Int32.toInt_inj.mp h8
    exact zw_s (pc' := 478) zv_i40 rfl k8
  by_cases h9 : y.toInt = 9
  · obtain rfl : y = Int32.ofInt 9 := Int32.toInt_inj.mp h9
    exact zw_s (pc' := 530) zv_i40 rfl k9
  by_cases h10 : y.toInt = 10
  · obtain rfl : y = Int32.ofInt 10 := Int32.toInt_inj.mp h10
    exact zw_s (pc' := 543) zv_i40 rfl k10
  by_cases h11 : y.toInt = 11
  · obtain rfl : y = Int32.ofInt 11 := Int32.toInt_inj.mp h11
    exact zw_s (pc' := 583) zv_i40 rfl k11
  by_cases h12 : y.toInt = 12
  · obtain rfl : y = Int32.ofInt 12 := Int32.toInt_inj.mp h12
    exact zw_s (pc' := 611) zv_i40 rfl k12
  by_cases h13 : y.toInt = 13
  · obtain rfl : y = Int32.ofInt 13 := Int32.toInt_inj.mp h13
    exact zw_s (pc' := 651) zv_i40 rfl k13
  by_cases h14 : y.toInt = 14
  · obtain rfl : y = Int32.ofInt 14 := Int32.toInt_inj.mp h14
    exact zw_s (pc' := 691) zv_i40 rfl k14
  by_cases h15 : y.toInt = 15
  · obtain rfl : y = Int32.ofInt 15 := Int32.toInt_inj.mp h15
    exact zw_s (pc' := 743) zv_i40 rfl k15
  by_cases h16 : y.toInt = 16
  · obtain rfl : y = Int32.ofInt 16 := Int32.toInt_inj.mp h16
    exact zw_s (pc' := 756) zv_i40 rfl k16
  by_cases h17 : y.toInt = 17
  · obtain rfl : y = Int32.ofInt 17 := Int32.toInt_inj.mp h17
    exact zw_s (pc' := 784) zv_i40 rfl k17
  by_cases h18 : y.toInt = 18
  · obtain rfl : y = Int32.ofInt 18 := Int32.toInt_inj.mp h18
    exact zw_s (pc' := 812) zv_i40 rfl k18
  by_cases h19 : y.toInt = 19
  · obtain rfl : y = Int32.ofInt 19 := Int32.toInt_inj.mp h19
    exact zw_s (pc' := 880) zv_i40 rfl k19
  by_cases h20 : y.toInt = 20
  · obtain rfl : y = Int32.ofInt 20 := Int32.toInt_inj.mp h20
    exact zw_s (pc' := 908) zv_i40 rfl k20
  by_cases h21 : y.toInt = 21
  · obtain rfl : y = Int32.ofInt 21 := Int32.toInt_inj.mp h21
    exact zw_s (pc' := 948) zv_i40 rfl k21
  by_cases h22 : y.toInt = 22
  · obtain rfl : y = Int32.ofInt 22 := Int32.toInt_inj.mp h22
    exact zw_s (pc' := 1000) zv_i40 rfl k22
  by_cases h23 : y.toInt = 23
  · obtain rfl : y = Int32.ofInt 23 := Int32.toInt_inj.mp h23
    exact zw_s (pc' := 1011) zv_i40 rfl k23
  refine zw_s (pc' := 1024) zv_i40 ?_ kd
  have e : y.toInt < 0 ∨ 23 < y.toInt := by omega
  exact (if_pos e).trans rfl

set_option maxRecDepth 8000 in
theorem zv_loop {L : Nat} {σ : Nat → Int32} {d : Nat} (hL : L ≤ 3072) : ∀ (n : Nat) (H : zp_H) (lv : zp_LV) (i : Int32) (c t cs sl : Nat), yJ c t H → zp_get lv 0 = some (.inr (.inr (some 0))) → zp_get lv 1 = some (.inr (.inr (some 1))) → zp_get lv 2 = some (.inr (.inr (some 73))) → zp_get lv 3 = some (.inr (.inr (some 105))) → zp_get lv 4 = some (.inl i) → 0 ≤ i.toInt ∧ i.toInt ≤ L → (L : Int) - i.toInt < 6 * (n : Int) + 6 → cs + 4 * n ≤ 601024 → sl + 24 * n ≤ 7293033 → zs_Safe L σ (fun X : zp_X => ∃ H1, X = (.inl (some (.inl 1)), H1)) zL [] (d + 60) (23, lv, [], H, (cs, sl)) := by
  intro n
  induction n with
  | zero =>
    intro H lv i c t cs sl hI l0 l1 l2 l3 l4 hi hn hcs hsl
    have eL : (Int32.ofNat L).toInt = L := Int32.toInt_ofNat_of_lt (by show _ < 2147483648; omega)
    have e6 : (Int32.ofNat L - Int32.ofInt 6).toInt = L - 6 := by
      rw [zq_sub (by rw [eL]; show _ ≤ (L : Int) - 6; omega) (by rw [eL]; show (L : Int) - 6 ≤ _; omega), eL]
      rfl
    refine zw_ld (n := 2) (k := 4) (f := zp_isI) (pc' := 25) zv_i23 rfl l4 rfl rfl ?_
    refine zw_ld (n := 1) (k := 0) (f := zp_isR) (pc' := 26) zv_i25 rfl l0 rfl rfl ?_
    refine zw_s (pc' := 27) zv_i26 rfl ?_
    refine zw_s (pc' := 29) zv_i27 rfl ?_
    refine zw_isub (pc' := 30) zv_i29 rfl ?_
    refine zw_bgt2 (g := 1030) (pc' := 33) zv_i30 rfl rfl rfl e6 (fun hb => ?_) (fun hb => ?_)
    · refine zw_s (pc' := 1031) zv_i1030 rfl ?_
      refine zw_rzg zv_i1031 rfl (Or.inr rfl) ⟨by show cs ≤ 601024; omega, by show sl ≤ 7293033; omega⟩ ?_
      exact ⟨H, rfl⟩
    · omega
  | succ n ih =>
    intro H lv i c t cs sl hI l0 l1 l2 l3 l4 hi hn hcs hsl
    have eL : (Int32.ofNat L).toInt = L := Int32.toInt_ofNat_of_lt (by show _ < 2147483648; omega)
    have e6 : (Int32.ofNat L - Int32.ofInt 6).toInt = L - 6 := by
      rw [zq_sub (by rw [eL]; show _ ≤ (L : Int) - 6; omega) (by rw [eL]; show (L : Int) - 6 ≤ _; omega), eL]
      rfl
    refine zw_ld (n := 2) (k := 4) (f := zp_isI) (pc' := 25) zv_i23 rfl l4 rfl rfl ?_
    refine zw_ld (n := 1) (k := 0) (f := zp_isR) (pc' := 26) zv_i25 rfl l0 rfl rfl ?_
    refine zw_s (pc' := 27) zv_i26 rfl ?_
    refine zw_s (pc' := 29) zv_i27 rfl ?_
    refine zw_isub (pc' := 30) zv_i29 rfl ?_
    refine zw_bgt2 (g := 1030) (pc' := 33) zv_i30 rfl rfl rfl e6 (fun hb => ?_) (fun hb => ?_)
    · refine zw_s (pc' := 1031) zv_i1030 rfl ?_
      refine zw_rzg zv_i1031 rfl (Or.inr rfl) ⟨by show cs ≤ 601024; omega, by show sl ≤ 7293033; omega⟩ ?_
      exact ⟨H, rfl⟩
    · refine zw_ld (n := 1) (k := 0) (f := zp_isR) (pc' := 34) zv_i33 rfl l0 rfl rfl ?_
      refine zw_ld (n := 2) (k := 4) (f := zp_isI) (pc' := 36) zv_i34 rfl l4 rfl rfl ?_
      refine zw_sc (pc' := 37) zv_i36 ⟨by omega, by omega⟩ rfl ?_
      refine zw_s (pc' := 39) zv_i37 rfl ?_
      refine zw_iand (pc' := 40) zv_i39 rfl ?_
      have ei : (i + Int32.ofInt 6).toInt = i.toInt + 6 := zv_add (by decide) (by omega)
      have kk : ∀ (lv' : zp_LV) (H' : zp_H) (c' t' cs' sl' : Nat), yJ c' t' H' → zp_get lv' 0 = some (.inr (.inr (some 0))) → zp_get lv' 1 = some (.inr (.inr (some 1))) → zp_get lv' 2 = some (.inr (.inr (some 73))) → zp_get lv' 3 = some (.inr (.inr (some 105))) → zp_get lv' 4 = some (.inl i) → cs' ≤ cs + 4 → sl' ≤ sl + 24 → zs_Safe L σ (fun X : zp_X => ∃ H1, X = (.inl (some (.inl 1)), H1)) zL [] (d + 60) (1024, lv', [], H', (cs', sl')) := by
        intro lv' H' c' t' cs' sl' hI' l0' l1' l2' l3' l4' g1 g2
        refine zw_ii (pc' := 1027) zv_i1024 l4' rfl rfl ?_
        refine zw_s (pc' := 23) zv_i1027 rfl ?_
        exact ih H' _ _ c' t' cs' sl' hI' (zw_gt l0' rfl rfl) (zw_gt l1' rfl rfl) (zw_gt l2' rfl rfl) (zw_gt l3' rfl rfl) zw_g1 (by omega) (by omega) (by omega) (by omega)
      have hi6 : 0 ≤ i.toInt ∧ i.toInt + 6 ≤ L := by omega
      exact zv_sw (zv_op0 hI l0 l1 l2 l3 l4 hi6 hL (by omega) (by omega) kk) (zv_op1 hI l0 l1 l2 l3 l4 hi6 hL (by omega) (by omega) kk) (zv_op2 hI l0 l1 l2 l3 l4 hi6 hL (by omega) (by omega) kk) (zv_op3 hI l0 l1 l2 l3 l4 hi6 hL (by omega) (by omega) kk) (zv_op4 hI l0 l1 l2 l3 l4 hi6 hL (by omega) (by omega) kk) (zv_op5 hI l0 l1 l2 l3 l4 hi6 hL (by omega) (by omega) kk) (zv_op6 hI l0 l1 l2 l3 l4 hi6 hL (by omega) (by omega) kk) (zv_op7 hI l0 l1 l2 l3 l4 hi6 hL (by omega) (by omega) kk) (zv_op8 hI l0 l1 l2 l3 l4 hi6 hL (by omega) (by omega) kk) (zv_op9 hI l0 l1 l2 l3 l4 hi6 hL (by omega) (by omega) kk) (zv_op10 hI l0 l1 l2 l3 l4 hi6 hL (by omega) (by omega) kk) (zv_op11 hI l0 l1 l2 l3 l4 hi6 hL (by omega) (by omega) kk) (zv_op12 hI l0 l1 l2 l3 l4 hi6 hL (by omega) (by omega) kk) (zv_op13 hI l0 l1 l2 l3 l4 hi6 hL (by omega) (by omega) kk) (zv_op14 hI l0 l1 l2 l3 l4 hi6 hL (by omega) (by omega) kk) (zv_op15 hI l0 l1 l2 l3 l4 hi6 hL (by omega) (by omega) kk) (zv_op16 hI l0 l1 l2 l3 l4 hi6 hL (by omega) (by omega) kk) (zv_op17 hI l0 l1 l2 l3 l4 hi6 hL (by omega) (by omega) kk) (zv_op18 hI l0 l1 l2 l3 l4 hi6 hL (by omega) (by omega) kk) (zv_op19 hI l0 l1 l2 l3 l4 hi6 hL (by omega) (by omega) kk) (zv_op20 hI l0 l1 l2 l3 l4 hi6 hL (by omega) (by omega) kk) (zv_op21 hI l0 l1 l2 l3 l4 hi6 hL (by omega) (by omega) kk) (zv_op22 hI l0 l1 l2 l3 l4 hi6 hL (by omega) (by omega) kk) (zv_op23 hI l0 l1 l2 l3 l4 hi6 hL (by omega) (by omega) kk) (kk _ H c t cs sl hI l0 l1 l2 l3 l4 (by omega) (by omega))
