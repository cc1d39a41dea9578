-- ===== the law =====
theorem iAn_31 (z : Int32) : 0 ≤ iAn z.toInt 31 ∧ iAn z.toInt 31 < 32 := by
  unfold iAn
  rw [Int32.ofInt_toInt]
  have h : (z &&& Int32.ofInt 31).toBitVec.toNat ≤ 31 := by
    show (z.toBitVec &&& (Int32.ofInt 31).toBitVec).toNat ≤ 31
    rw [BitVec.toNat_and]
    exact Nat.le_trans Nat.and_le_right (by decide)
  have h2 : (z &&& Int32.ofInt 31).toInt = ((z &&& Int32.ofInt 31).toBitVec.toNat : Int) := BitVec.toInt_eq_toNat_of_lt (by omega)
  rw [h2]
  omega
section LAW
variable {G : GT} {d k n k' n' : Nat} {σ : Sg} {Q : Option AV → Sg → Prop} {E : Nat → Nat} {C : CS} {t : Nat}
theorem ar_icmp_same {M : MM} {pc : Nat} {ls st : List AV} {x off : Int} (u : Nat) (ht : (pc : Int) + off = (u : Int)) (hd : decode (bc M) pc = .ok (.if_icmp .eq off, 3)) (kt : WA G d k n M u ls st σ Q) : WA G d k n M pc ls (Vi x :: Vi x :: st) σ Q := by
  intro p l e R s m args below meth c QM mc ms C hfr hlo hmc hms hret H locs cells slots lsC hR0 hL h1 h2
  exact lv_icmp_eq C.1 C.2.1 hd ht (fun _ => kt p l e R s m args below meth c QM mc ms C hfr hlo hmc hms hret H locs cells slots lsC hR0 hL h1 h2) (fun h => absurd rfl h)
/-- behind a call -/
def Nx (G : GT) (d k' n' t : Nat) (Q : Option AV → Sg → Prop) : Prop := ∀ (σ' : Sg) (E' : Nat → Nat) (C' : CS), RepC σ' E' C' σ' → RepM C' σ' → CB (((t + 1 : Nat) : Int) * 1889568) C' → WA G d k' n' mL_law 779 [Vs, Va 0, Va 625, Vi ((4 * t : Nat) : Int)] [] σ' Q
theorem law_set (hC : RepC σ E C σ) (hM : RepM C σ) (hB : CB ((t : Int) * 1889568) C) (ht : t < 512) (hgl : 4 * t + 4 ≤ gL G) (hgl2 : gL G ≤ 2048) (hk : k' + 3 ≤ k) (hn : n' + 126 ≤ n) (hdp : 41 ≤ d) (nxt : Nx G d k' n' t Q) : WA G d k n mL_law 140 [Vs, Va 0, Va 625, Vi ((4 * t : Nat) : Int)] [] σ Q := by
  refine ar_aload_n 141 rfl d_L_law_140 rfl ?_
  refine ar_aload_nS 142 rfl d_L_law_141 rfl ?_
  refine ar_iload_n 143 rfl d_L_law_142 rfl ?_
  refine ar_iconst 144 rfl d_L_law_143 ?_
  refine ar_iadd 145 rfl d_L_law_144 ?_
  refine ar_sald 146 rfl d_L_law_145 (by omega) ?_
  refine ar_aload_nS 147 rfl d_L_law_146 rfl ?_
  refine ar_iload_n 148 rfl d_L_law_147 rfl ?_
  refine ar_iconst 149 rfl d_L_law_148 ?_
  refine ar_iadd 150 rfl d_L_law_149 ?_
  refine ar_sald 151 rfl d_L_law_150 (by omega) ?_
  refine ar_callV0 (M' := mX5_set) (As := [_, _]) (ls' := [Va _, Vi _, Vi _, Vu]) 154 rfl d_L_law_151 ml_L_13 mt_X5_set hC.1.1.1 rfl (Nat.le_of_ble_eq_true rfl) rfl (Nat.le_of_ble_eq_true rfl) (by omega) ?_
  refine sp_X5_set (Φ := σ) hC (i32_t _) (i32_t _) (by omega) (fun E1 σ1 hs1 hC1 => ?_)
  have hM1 := hM.cls hC1
  refine ar_aload_n 155 rfl d_L_law_154 rfl ?_
  refine ar_aload_nS 156 rfl d_L_law_155 rfl ?_
  refine ar_iload_n 157 rfl d_L_law_156 rfl ?_
  refine ar_iconst 158 rfl d_L_law_157 ?_
  refine ar_iadd 159 rfl d_L_law_158 ?_
  refine ar_sald 160 rfl d_L_law_159 (by omega) ?_
  refine ar_aload_nS 161 rfl d_L_law_160 rfl ?_
  refine ar_iload_n 162 rfl d_L_law_161 rfl ?_
  refine ar_iconst 163 rfl d_L_law_162 ?_
  refine ar_iadd 164 rfl d_L_law_163 ?_
  refine ar_sald 165 rfl d_L_law_164 (by omega) ?_
  refine ar_callV0 (M' := mX6_set) (As := [_, _]) (ls' := [Va _, Vi _, Vi _, Vu]) 168 rfl d_L_law_165 ml_L_17 mt_X6_set hM1.1.k625 rfl (Nat.le_of_ble_eq_true rfl) rfl (Nat.le_of_ble_eq_true rfl) (by omega) ?_
  refine sp_X6_set hM1 (i32_t _) (i32_t _) (by omega) (fun σ2 f2 hM2 => ?_)
  refine ar_icmp_same 779 rfl d_L_law_168 ?_
  exact WA.room (nxt σ2 _ _ (hC1.ref f2) hM2 ((cb_set hB).le (by omega))) (Nat.le_refl _) (by omega) (by omega)
theorem law_put (hC : RepC σ E C σ) (hM : RepM C σ) (hB : CB ((t : Int) * 1889568) C) (ht : t < 512) (hgl : 4 * t + 4 ≤ gL G) (hgl2 : gL G ≤ 2048) (hk : k' + 3 ≤ k) (hn : n' + 126 ≤ n) (hdp : 41 ≤ d) (nxt : Nx G d k' n' t Q) : WA G d k n mL_law 173 [Vs, Va 0, Va 625, Vi ((4 * t : Nat) : Int)] [] σ Q := by
  refine ar_aload_n 174 rfl d_L_law_173 rfl ?_
  refine ar_aload_nS 175 rfl d_L_law_174 rfl ?_
  refine ar_iload_n 176 rfl d_L_law_175 rfl ?_
  refine ar_iconst 177 rfl d_L_law_176 ?_
  refine ar_iadd 178 rfl d_L_law_177 ?_
  refine ar_sald 179 rfl d_L_law_178 (by omega) ?_
  refine ar_aload_nS 180 rfl d_L_law_179 rfl ?_
  refine ar_iload_n 181 rfl d_L_law_180 rfl ?_
  refine ar_iconst 182 rfl d_L_law_181 ?_
  refine ar_iadd 183 rfl d_L_law_182 ?_
  refine ar_sald 184 rfl d_L_law_183 (by omega) ?_
  refine ar_callV0 (M' := mX5_put) (As := [_, _]) (ls' := [Va _, Vi _, Vi _, Vu]) 187 rfl d_L_law_184 ml_L_18 mt_X5_put hC.1.1.1 rfl (Nat.le_of_ble_eq_true rfl) rfl (Nat.le_of_ble_eq_true rfl) (by omega) ?_
  refine sp_X5_put (Φ := σ) hC (i32_t _) (i32_t _) (by omega) (fun E1 σ1 hs1 hC1 => ?_)
  have hM1 := hM.cls hC1
  refine ar_aload_n 188 rfl d_L_law_187 rfl ?_
  refine ar_aload_nS 189 rfl d_L_law_188 rfl ?_
  refine ar_iload_n 190 rfl d_L_law_189 rfl ?_
  refine ar_iconst 191 rfl d_L_law_190 ?_
  refine ar_iadd 192 rfl d_L_law_191 ?_
  refine ar_sald 193 rfl d_L_law_192 (by omega) ?_
  refine ar_aload_nS 194 rfl d_L_law_193 rfl ?_
  refine ar_iload_n 195 rfl d_L_law_194 rfl ?_
  refine ar_iconst 196 rfl d_L_law_195 ?_
  refine ar_iadd 197 rfl d_L_law_196 ?_
  refine ar_sald 198 rfl d_L_law_197 (by omega) ?_
  refine ar_callV0 (M' := mX6_put) (As := [_, _]) (ls' := [Va _, Vi _, Vi _, Vu]) 201 rfl d_L_law_198 ml_L_21 mt_X6_put hM1.1.k625 rfl (Nat.le_of_ble_eq_true rfl) rfl (Nat.le_of_ble_eq_true rfl) (by omega) ?_
  refine sp_X6_put hM1 (i32_t _) (i32_t _) (by omega) (fun σ2 f2 hM2 => ?_)
  refine ar_icmp_same 779 rfl d_L_law_201 ?_
  exact WA.room (nxt σ2 _ _ (hC1.ref f2) hM2 ((cb_put hB).le (by omega))) (Nat.le_refl _) (by omega) (by omega)
theorem law_poison (hC : RepC σ E C σ) (hM : RepM C σ) (hB : CB ((t : Int) * 1889568) C) (ht : t < 512) (hgl : 4 * t + 4 ≤ gL G) (hgl2 : gL G ≤ 2048) (hk : k' + 3 ≤ k) (hn : n' + 126 ≤ n) (hdp : 41 ≤ d) (nxt : Nx G d k' n' t Q) : WA G d k n mL_law 206 [Vs, Va 0, Va 625, Vi ((4 * t : Nat) : Int)] [] σ Q := by
  refine ar_aload_n 207 rfl d_L_law_206 rfl ?_
  refine ar_aload_nS 208 rfl d_L_law_207 rfl ?_
  refine ar_iload_n 209 rfl d_L_law_208 rfl ?_
  refine ar_iconst 210 rfl d_L_law_209 ?_
  refine ar_iadd 211 rfl d_L_law_210 ?_
  refine ar_sald 212 rfl d_L_law_211 (by omega) ?_
  refine ar_aload_nS 213 rfl d_L_law_212 rfl ?_
  refine ar_iload_n 214 rfl d_L_law_213 rfl ?_
  refine ar_iconst 215 rfl d_L_law_214 ?_
  refine ar_iadd 216 rfl d_L_law_215 ?_
  refine ar_sald 217 rfl d_L_law_216 (by omega) ?_
  refine ar_callV0 (M' := mX5_poison) (As := [_, _]) (ls' := [Va _, Vi _, Vi _, Vu]) 220 rfl d_L_law_217 ml_L_22 mt_X5_poison hC.1.1.1 rfl (Nat.le_of_ble_eq_true rfl) rfl (Nat.le_of_ble_eq_true rfl) (by omega) ?_
  refine sp_X5_poison (Φ := σ) hC (i32_t _) (i32_t _) (by omega) (fun E1 σ1 hs1 hC1 => ?_)
  have hM1 := hM.cls hC1
  refine ar_aload_n 221 rfl d_L_law_220 rfl ?_
  refine ar_aload_nS 222 rfl d_L_law_221 rfl ?_
  refine ar_iload_n 223 rfl d_L_law_222 rfl ?_
  refine ar_iconst 224 rfl d_L_law_223 ?_
  refine ar_iadd 225 rfl d_L_law_224 ?_
  refine ar_sald 226 rfl d_L_law_225 (by omega) ?_
  refine ar_aload_nS 227 rfl d_L_law_226 rfl ?_
  refine ar_iload_n 228 rfl d_L_law_227 rfl ?_
  refine ar_iconst 229 rfl d_L_law_228 ?_
  refine ar_iadd 230 rfl d_L_law_229 ?_
  refine ar_sald 231 rfl d_L_law_230 (by omega) ?_
  refine ar_callV0 (M' := mX6_poison) (As := [_, _]) (ls' := [Va _, Vi _, Vi _, Vu]) 234 rfl d_L_law_231 ml_L_25 mt_X6_poison hM1.1.k625 rfl (Nat.le_of_ble_eq_true rfl) rfl (Nat.le_of_ble_eq_true rfl) (by omega) ?_
  refine sp_X6_poison hM1 (i32_t _) (i32_t _) (by omega) (fun σ2 f2 hM2 => ?_)
  refine ar_icmp_same 779 rfl d_L_law_234 ?_
  exact WA.room (nxt σ2 _ _ (hC1.ref f2) hM2 ((cb_poi hB).le (by omega))) (Nat.le_refl _) (by omega) (by omega)
theorem law_ask (hC : RepC σ E C σ) (hM : RepM C σ) (hB : CB ((t : Int) * 1889568) C) (ht : t < 512) (hgl : 4 * t + 4 ≤ gL G) (hgl2 : gL G ≤ 2048) (hk : k' + 3 ≤ k) (hn : n' + 126 ≤ n) (hdp : 41 ≤ d) (nxt : Nx G d k' n' t Q) : WA G d k n mL_law 239 [Vs, Va 0, Va 625, Vi ((4 * t : Nat) : Int)] [] σ Q := by
  refine ar_aload_n 240 rfl d_L_law_239 rfl ?_
  refine ar_aload_nS 241 rfl d_L_law_240 rfl ?_
  refine ar_iload_n 242 rfl d_L_law_241 rfl ?_
  refine ar_iconst 243 rfl d_L_law_242 ?_
  refine ar_iadd 244 rfl d_L_law_243 ?_
  refine ar_sald 245 rfl d_L_law_244 (by omega) ?_
  refine ar_callV0 (M' := mX5_ask) (As := [_]) (ls' := [Va _, Vi _]) 248 rfl d_L_law_245 ml_L_26 mt_X5_ask hC.1.1.1 rfl (Nat.le_of_ble_eq_true rfl) rfl (Nat.le_of_ble_eq_true rfl) (by omega) ?_
  refine sp_X5_ask (Φ := σ) hC (i32_t _) (by have := hB.1; omega) (by omega) (fun E1 σ1 hs1 hC1 => ?_)
  have hM1 := hM.cls hC1
  refine ar_aload_n 249 rfl d_L_law_248 rfl ?_
  refine ar_aload_nS 250 rfl d_L_law_249 rfl ?_
  refine ar_iload_n 251 rfl d_L_law_250 rfl ?_
  refine ar_iconst 252 rfl d_L_law_251 ?_
  refine ar_iadd 253 rfl d_L_law_252 ?_
  refine ar_sald 254 rfl d_L_law_253 (by omega) ?_
  refine ar_callV0 (M' := mX6_ask) (As := [_]) (ls' := [Va _, Vi _]) 257 rfl d_L_law_254 ml_L_30 mt_X6_ask hM1.1.k625 rfl (Nat.le_of_ble_eq_true rfl) rfl (Nat.le_of_ble_eq_true rfl) (by omega) ?_
  refine sp_X6_ask hM1 (i32_t _) (by have := hB.1; omega) (by omega) (fun σ2 f2 hM2 => ?_)
  refine ar_icmp_same 779 rfl d_L_law_257 ?_
  exact WA.room (nxt σ2 _ _ (hC1.ref f2) hM2 ((cb_ask hB hM.2.1.2.1).le (by omega))) (Nat.le_refl _) (by omega) (by omega)
theorem law_forget (hC : RepC σ E C σ) (hM : RepM C σ) (hB : CB ((t : Int) * 1889568) C) (ht : t < 512) (hgl : 4 * t + 4 ≤ gL G) (hgl2 : gL G ≤ 2048) (hk : k' + 3 ≤ k) (hn : n' + 126 ≤ n) (hdp : 41 ≤ d) (nxt : Nx G d k' n' t Q) : WA G d k n mL_law 262 [Vs, Va 0, Va 625, Vi ((4 * t : Nat) : Int)] [] σ Q := by
  refine ar_aload_n 263 rfl d_L_law_262 rfl ?_
  refine ar_aload_nS 264 rfl d_L_law_263 rfl ?_
  refine ar_iload_n 265 rfl d_L_law_264 rfl ?_
  refine ar_iconst 266 rfl d_L_law_265 ?_
  refine ar_iadd 267 rfl d_L_law_266 ?_
  refine ar_sald 268 rfl d_L_law_267 (by omega) ?_
  refine ar_callV0 (M' := mX5_forget) (As := [_]) (ls' := [Va _, Vi _]) 271 rfl d_L_law_268 ml_L_31 mt_X5_forget hC.1.1.1 rfl (Nat.le_of_ble_eq_true rfl) rfl (Nat.le_of_ble_eq_true rfl) (by omega) ?_
  refine sp_X5_forget (Φ := σ) hC (i32_t _) (by omega) (fun E1 σ1 hs1 hC1 => ?_)
  have hM1 := hM.cls hC1
  refine ar_aload_n 272 rfl d_L_law_271 rfl ?_
  refine ar_aload_nS 273 rfl d_L_law_272 rfl ?_
  refine ar_iload_n 274 rfl d_L_law_273 rfl ?_
  refine ar_iconst 275 rfl d_L_law_274 ?_
  refine ar_iadd 276 rfl d_L_law_275 ?_
  refine ar_sald 277 rfl d_L_law_276 (by omega) ?_
  refine ar_callV0 (M' := mX6_forget) (As := [_]) (ls' := [Va _, Vi _]) 280 rfl d_L_law_277 ml_L_34 mt_X6_forget hM1.1.k625 rfl (Nat.le_of_ble_eq_true rfl) rfl (Nat.le_of_ble_eq_true rfl) (by omega) ?_
  refine sp_X6_forget hM1 (i32_t _) (by omega) (fun σ2 f2 hM2 => ?_)
  refine ar_icmp_same 779 rfl d_L_law_280 ?_
  exact WA.room (nxt σ2 _ _ (hC1.ref f2) hM2 ((cb_for hB).le (by omega))) (Nat.le_refl _) (by omega) (by omega)
theorem law_type (hC : RepC σ E C σ) (hM : RepM C σ) (hB : CB ((t : Int) * 1889568) C) (ht : t < 512) (hgl : 4 * t + 4 ≤ gL G) (hgl2 : gL G ≤ 2048) (hk : k' + 3 ≤ k) (hn : n' + 126 ≤ n) (hdp : 41 ≤ d) (nxt : Nx G d k' n' t Q) : WA G d k n mL_law 285 [Vs, Va 0, Va 625, Vi ((4 * t : Nat) : Int)] [] σ Q := by
  refine ar_aload_n 286 rfl d_L_law_285 rfl ?_
  refine ar_aload_nS 287 rfl d_L_law_286 rfl ?_
  refine ar_iload_n 288 rfl d_L_law_287 rfl ?_
  refine ar_iconst 289 rfl d_L_law_288 ?_
  refine ar_iadd 290 rfl d_L_law_289 ?_
  refine ar_sald 291 rfl d_L_law_290 (by omega) ?_
  refine ar_i2l 292 rfl d_L_law_291 (i32_t _) ?_
  refine ar_bipush 294 rfl d_L_law_292 rfl ?_
  refine ar_lshl 295 rfl d_L_law_294 ?_
  refine ar_aload_nS 296 rfl d_L_law_295 rfl ?_
  refine ar_iload_n 297 rfl d_L_law_296 rfl ?_
  refine ar_iconst 298 rfl d_L_law_297 ?_
  refine ar_iadd 299 rfl d_L_law_298 ?_
  refine ar_sald 300 rfl d_L_law_299 (by omega) ?_
  refine ar_i2l 301 rfl d_L_law_300 (i32_t _) ?_
  refine ar_ldc2 4294967295 304 rfl d_L_law_301 lc_L_35 rfl ?_
  refine ar_land 305 rfl d_L_law_304 ?_
  refine ar_lor 306 rfl d_L_law_305 ?_
  refine ar_callV0 (M' := mX5_type) (As := [_]) (ls' := [Va _, Vl _, Vu, Vu, Vu]) 309 rfl d_L_law_306 ml_L_37 mt_X5_type hC.1.1.1 rfl (Nat.le_of_ble_eq_true rfl) rfl (Nat.le_of_ble_eq_true rfl) (by omega) ?_
  refine sp_X5_type (Φ := σ) hC (i64_t _) (by omega) (fun E1 σ1 hs1 hC1 => ?_)
  have hM1 := hM.cls hC1
  refine ar_aload_n 310 rfl d_L_law_309 rfl ?_
  refine ar_aload_nS 311 rfl d_L_law_310 rfl ?_
  refine ar_iload_n 312 rfl d_L_law_311 rfl ?_
  refine ar_iconst 313 rfl d_L_law_312 ?_
  refine ar_iadd 314 rfl d_L_law_313 ?_
  refine ar_sald 315 rfl d_L_law_314 (by omega) ?_
  refine ar_i2l 316 rfl d_L_law_315 (i32_t _) ?_
  refine ar_bipush 318 rfl d_L_law_316 rfl ?_
  refine ar_lshl 319 rfl d_L_law_318 ?_
  refine ar_aload_nS 320 rfl d_L_law_319 rfl ?_
  refine ar_iload_n 321 rfl d_L_law_320 rfl ?_
  refine ar_iconst 322 rfl d_L_law_321 ?_
  refine ar_iadd 323 rfl d_L_law_322 ?_
  refine ar_sald 324 rfl d_L_law_323 (by omega) ?_
  refine ar_i2l 325 rfl d_L_law_324 (i32_t _) ?_
  refine ar_ldc2 4294967295 328 rfl d_L_law_325 lc_L_35 rfl ?_
  refine ar_land 329 rfl d_L_law_328 ?_
  refine ar_lor 330 rfl d_L_law_329 ?_
  refine ar_callV0 (M' := mX6_type) (As := [_]) (ls' := [Va _, Vl _, Vu, Vu, Vu, Vu, Vu]) 333 rfl d_L_law_330 ml_L_41 mt_X6_type hM1.1.k625 rfl (Nat.le_of_ble_eq_true rfl) rfl (Nat.le_of_ble_eq_true rfl) (by omega) ?_
  refine sp_X6_type hM1 (i64_t _) (by omega) (fun σ2 f2 hM2 => ?_)
  refine ar_icmp_same 779 rfl d_L_law_333 ?_
  exact WA.room (nxt σ2 _ _ (hC1.ref f2) hM2 ((cb_typ hB).le (by omega))) (Nat.le_refl _) (by omega) (by omega)
theorem law_wipe (hC : RepC σ E C σ) (hM : RepM C σ) (hB : CB ((t : Int) * 1889568) C) (ht : t < 512) (hgl : 4 * t + 4 ≤ gL G) (hgl2 : gL G ≤ 2048) (hk : k' + 3 ≤ k) (hn : n' + 126 ≤ n) (hdp : 41 ≤ d) (nxt : Nx G d k' n' t Q) : WA G d k n mL_law 338 [Vs, Va 0, Va 625, Vi ((4 * t : Nat) : Int)] [] σ Q := by
  refine ar_aload_n 339 rfl d_L_law_338 rfl ?_
  refine ar_callV0 (M' := mX5_wipe) (As := []) (ls' := [Va _, Vu]) 342 rfl d_L_law_339 ml_L_42 mt_X5_wipe hC.1.1.1 rfl (Nat.le_of_ble_eq_true rfl) rfl (Nat.le_of_ble_eq_true rfl) (by omega) ?_
  refine sp_X5_wipe (Φ := σ) hC (fun E1 σ1 hs1 hC1 => ?_)
  have hM1 := hM.cls hC1
  refine ar_aload_n 343 rfl d_L_law_342 rfl ?_
  refine ar_callV0 (M' := mX6_wipe) (As := []) (ls' := [Va _, Vu]) 346 rfl d_L_law_343 ml_L_46 mt_X6_wipe hM1.1.k625 rfl (Nat.le_of_ble_eq_true rfl) rfl (Nat.le_of_ble_eq_true rfl) (by omega) ?_
  refine sp_X6_wipe hM1 (fun σ2 f2 hM2 => ?_)
  refine ar_icmp_same 779 rfl d_L_law_346 ?_
  exact WA.room (nxt σ2 _ _ (hC1.ref f2) hM2 ((cb_wip hB).le (by omega))) (Nat.le_refl _) (by omega) (by omega)
theorem law_fault (hC : RepC σ E C σ) (hM : RepM C σ) (hB : CB ((t : Int) * 1889568) C) (ht : t < 512) (hgl : 4 * t + 4 ≤ gL G) (hgl2 : gL G ≤ 2048) (hk : k' + 3 ≤ k) (hn : n' + 126 ≤ n) (hdp : 41 ≤ d) (nxt : Nx G d k' n' t Q) : WA G d k n mL_law 351 [Vs, Va 0, Va 625, Vi ((4 * t : Nat) : Int)] [] σ Q := by
  refine ar_aload_n 352 rfl d_L_law_351 rfl ?_
  refine ar_callV0 (M' := mX5_fault) (As := []) (ls' := [Va _]) 355 rfl d_L_law_352 ml_L_47 mt_X5_fault hC.1.1.1 rfl (Nat.le_of_ble_eq_true rfl) rfl (Nat.le_of_ble_eq_true rfl) (by omega) ?_
  refine sp_X5_fault (Φ := σ) hC (by omega) (fun σ1 hs1 hC1 => ?_)
  have hM1 := hM.cls hC1
  refine ar_aload_n 356 rfl d_L_law_355 rfl ?_
  refine ar_callV0 (M' := mX6_fault) (As := []) (ls' := [Va _]) 359 rfl d_L_law_356 ml_L_50 mt_X6_fault hM1.1.k625 rfl (Nat.le_of_ble_eq_true rfl) rfl (Nat.le_of_ble_eq_true rfl) (by omega) ?_
  refine sp_X6_fault hM1 (by omega) (fun σ2 f2 hM2 => ?_)
  refine ar_icmp_same 779 rfl d_L_law_359 ?_
  exact WA.room (nxt σ2 _ _ (hC1.ref f2) hM2 (hB.le (by omega))) (Nat.le_refl _) (by omega) (by omega)
theorem law_recipe (hC : RepC σ E C σ) (hM : RepM C σ) (hB : CB ((t : Int) * 1889568) C) (ht : t < 512) (hgl : 4 * t + 4 ≤ gL G) (hgl2 : gL G ≤ 2048) (hk : k' + 3 ≤ k) (hn : n' + 126 ≤ n) (hdp : 41 ≤ d) (nxt : Nx G d k' n' t Q) : WA G d k n mL_law 364 [Vs, Va 0, Va 625, Vi ((4 * t : Nat) : Int)] [] σ Q := by
  refine ar_aload_n 365 rfl d_L_law_364 rfl ?_
  refine ar_aload_nS 366 rfl d_L_law_365 rfl ?_
  refine ar_iload_n 367 rfl d_L_law_366 rfl ?_
  refine ar_iconst 368 rfl d_L_law_367 ?_
  refine ar_iadd 369 rfl d_L_law_368 ?_
  refine ar_sald 370 rfl d_L_law_369 (by omega) ?_
  refine ar_callV (M' := mX5_recipe) (As := [_]) (ls' := [Va _, Vi _, Vu]) 3 126 k' n' 373 rfl d_L_law_370 ml_L_51 mt_X5_recipe hC.1.1.1 rfl (Nat.le_of_ble_eq_true rfl) rfl (Nat.le_of_ble_eq_true rfl) (by omega) (by omega) (by omega) ?_
  refine sp_X5_recipe (Φ := σ) hC (i32_t _) (Nat.le_refl _) (Nat.le_refl _) (by omega) (fun E1 σ1 hs1 hC1 => ?_)
  have hM1 := hM.cls hC1
  refine ar_aload_n 374 rfl d_L_law_373 rfl ?_
  refine ar_aload_nS 375 rfl d_L_law_374 rfl ?_
  refine ar_iload_n 376 rfl d_L_law_375 rfl ?_
  refine ar_iconst 377 rfl d_L_law_376 ?_
  refine ar_iadd 378 rfl d_L_law_377 ?_
  refine ar_sald 379 rfl d_L_law_378 (by omega) ?_
  refine ar_callV0 (M' := mX6_recipe) (As := [_]) (ls' := [Va _, Vi _, Vu, Vu]) 382 rfl d_L_law_379 ml_L_54 mt_X6_recipe hM1.1.k625 rfl (Nat.le_of_ble_eq_true rfl) rfl (Nat.le_of_ble_eq_true rfl) (by omega) ?_
  refine sp_X6_recipe hM1 (i32_t _) (by omega) (fun σ2 f2 hM2 => ?_)
  refine ar_icmp_same 779 rfl d_L_law_382 ?_
  exact nxt σ2 _ _ (hC1.ref f2) hM2 ((cb_rec hB).le (by omega))
theorem law_ofShelf (hC : RepC σ E C σ) (hM : RepM C σ) (hB : CB ((t : Int) * 1889568) C) (ht : t < 512) (hgl : 4 * t + 4 ≤ gL G) (hgl2 : gL G ≤ 2048) (hk : k' + 3 ≤ k) (hn : n' + 126 ≤ n) (hdp : 41 ≤ d) (nxt : Nx G d k' n' t Q) : WA G d k n mL_law 387 [Vs, Va 0, Va 625, Vi ((4 * t : Nat) : Int)] [] σ Q := by
  refine ar_aload_n 388 rfl d_L_law_387 rfl ?_
  refine ar_aload_nS 389 rfl d_L_law_388 rfl ?_
  refine ar_iload_n 390 rfl d_L_law_389 rfl ?_
  refine ar_iconst 391 rfl d_L_law_390 ?_
  refine ar_iadd 392 rfl d_L_law_391 ?_
  refine ar_sald 393 rfl d_L_law_392 (by omega) ?_
  refine ar_aload_nS 394 rfl d_L_law_393 rfl ?_
  refine ar_iload_n 395 rfl d_L_law_394 rfl ?_
  refine ar_iconst 396 rfl d_L_law_395 ?_
  refine ar_iadd 397 rfl d_L_law_396 ?_
  refine ar_sald 398 rfl d_L_law_397 (by omega) ?_
  refine ar_callV0 (M' := mX5_ofShelf) (As := [_, _]) (ls' := [Va _, Vi _, Vi _]) 401 rfl d_L_law_398 ml_L_55 mt_X5_ofShelf hC.1.1.1 rfl (Nat.le_of_ble_eq_true rfl) rfl (Nat.le_of_ble_eq_true rfl) (by omega) ?_
  refine sp_X5_ofShelf (Φ := σ) hC (i32_t _) (i32_t _) (by omega) ?_
  refine ar_aload_n 402 rfl d_L_law_401 rfl ?_
  refine ar_aload_nS 403 rfl d_L_law_402 rfl ?_
  refine ar_iload_n 404 rfl d_L_law_403 rfl ?_
  refine ar_iconst 405 rfl d_L_law_404 ?_
  refine ar_iadd 406 rfl d_L_law_405 ?_
  refine ar_sald 407 rfl d_L_law_406 (by omega) ?_
  refine ar_aload_nS 408 rfl d_L_law_407 rfl ?_
  refine ar_iload_n 409 rfl d_L_law_408 rfl ?_
  refine ar_iconst 410 rfl d_L_law_409 ?_
  refine ar_iadd 411 rfl d_L_law_410 ?_
  refine ar_sald 412 rfl d_L_law_411 (by omega) ?_
  refine ar_callV0 (M' := mX6_ofShelf) (As := [_, _]) (ls' := [Va _, Vi _, Vi _, Vu, Vu]) 415 rfl d_L_law_412 ml_L_58 mt_X6_ofShelf hM.1.k625 rfl (Nat.le_of_ble_eq_true rfl) rfl (Nat.le_of_ble_eq_true rfl) (by omega) ?_
  refine sp_X6_ofShelf hM (i32_t _) (i32_t _) (by omega) ?_
  refine ar_icmp_same 779 rfl d_L_law_415 ?_
  exact WA.room (nxt σ E C hC hM (hB.le (by omega))) (Nat.le_refl _) (by omega) (by omega)
theorem law_ofLoaf (hC : RepC σ E C σ) (hM : RepM C σ) (hB : CB ((t : Int) * 1889568) C) (ht : t < 512) (hgl : 4 * t + 4 ≤ gL G) (hgl2 : gL G ≤ 2048) (hk : k' + 3 ≤ k) (hn : n' + 126 ≤ n) (hdp : 41 ≤ d) (nxt : Nx G d k' n' t Q) : WA G d k n mL_law 420 [Vs, Va 0, Va 625, Vi ((4 * t : Nat) : Int)] [] σ Q := by
  refine ar_aload_n 421 rfl d_L_law_420 rfl ?_
  refine ar_aload_nS 422 rfl d_L_law_421 rfl ?_
  refine ar_iload_n 423 rfl d_L_law_422 rfl ?_
  refine ar_iconst 424 rfl d_L_law_423 ?_
  refine ar_iadd 425 rfl d_L_law_424 ?_
  refine ar_sald 426 rfl d_L_law_425 (by omega) ?_
  refine ar_aload_nS 427 rfl d_L_law_426 rfl ?_
  refine ar_iload_n 428 rfl d_L_law_427 rfl ?_
  refine ar_iconst 429 rfl d_L_law_428 ?_
  refine ar_iadd 430 rfl d_L_law_429 ?_
  refine ar_sald 431 rfl d_L_law_430 (by omega) ?_
  refine ar_callV0 (M' := mX5_ofLoaf) (As := [_, _]) (ls' := [Va _, Vi _, Vi _, Vu]) 434 rfl d_L_law_431 ml_L_59 mt_X5_ofLoaf hC.1.1.1 rfl (Nat.le_of_ble_eq_true rfl) rfl (Nat.le_of_ble_eq_true rfl) (by omega) ?_
  refine sp_X5_ofLoaf (Φ := σ) hC (i32_t _) (i32_t _) (by omega) ?_
  refine ar_aload_n 435 rfl d_L_law_434 rfl ?_
  refine ar_aload_nS 436 rfl d_L_law_435 rfl ?_
  refine ar_iload_n 437 rfl d_L_law_436 rfl ?_
  refine ar_iconst 438 rfl d_L_law_437 ?_
  refine ar_iadd 439 rfl d_L_law_438 ?_
  refine ar_sald 440 rfl d_L_law_439 (by omega) ?_
  refine ar_aload_nS 441 rfl d_L_law_440 rfl ?_
  refine ar_iload_n 442 rfl d_L_law_441 rfl ?_
  refine ar_iconst 443 rfl d_L_law_442 ?_
  refine ar_iadd 444 rfl d_L_law_443 ?_
  refine ar_sald 445 rfl d_L_law_444 (by omega) ?_
  refine ar_callV0 (M' := mX6_ofLoaf) (As := [_, _]) (ls' := [Va _, Vi _, Vi _, Vu, Vu]) 448 rfl d_L_law_445 ml_L_62 mt_X6_ofLoaf hM.1.k625 rfl (Nat.le_of_ble_eq_true rfl) rfl (Nat.le_of_ble_eq_true rfl) (by omega) ?_
  refine sp_X6_ofLoaf hM (i32_t _) (i32_t _) (by omega) ?_
  refine ar_icmp_same 779 rfl d_L_law_448 ?_
  exact WA.room (nxt σ E C hC hM (hB.le (by omega))) (Nat.le_refl _) (by omega) (by omega)
theorem law_ofMemory (hC : RepC σ E C σ) (hM : RepM C σ) (hB : CB ((t : Int) * 1889568) C) (ht : t < 512) (hgl : 4 * t + 4 ≤ gL G) (hgl2 : gL G ≤ 2048) (hk : k' + 3 ≤ k) (hn : n' + 126 ≤ n) (hdp : 41 ≤ d) (nxt : Nx G d k' n' t Q) : WA G d k n mL_law 453 [Vs, Va 0, Va 625, Vi ((4 * t : Nat) : Int)] [] σ Q := by
  refine ar_aload_n 454 rfl d_L_law_453 rfl ?_
  refine ar_aload_nS 455 rfl d_L_law_454 rfl ?_
  refine ar_iload_n 456 rfl d_L_law_455 rfl ?_
  refine ar_iconst 457 rfl d_L_law_456 ?_
  refine ar_iadd 458 rfl d_L_law_457 ?_
  refine ar_sald 459 rfl d_L_law_458 (by omega) ?_
  refine ar_aload_nS 460 rfl d_L_law_459 rfl ?_
  refine ar_iload_n 461 rfl d_L_law_460 rfl ?_
  refine ar_iconst 462 rfl d_L_law_461 ?_
  refine ar_iadd 463 rfl d_L_law_462 ?_
  refine ar_sald 464 rfl d_L_law_463 (by omega) ?_
  refine ar_callV0 (M' := mX5_ofMemory) (As := [_, _]) (ls' := [Va _, Vi _, Vi _, Vu]) 467 rfl d_L_law_464 ml_L_63 mt_X5_ofMemory hC.1.1.1 rfl (Nat.le_of_ble_eq_true rfl) rfl (Nat.le_of_ble_eq_true rfl) (by omega) ?_
  refine sp_X5_ofMemory (Φ := σ) hC (i32_t _) (i32_t _) (by omega) ?_
  refine ar_aload_n 468 rfl d_L_law_467 rfl ?_
  refine ar_aload_nS 469 rfl d_L_law_468 rfl ?_
  refine ar_iload_n 470 rfl d_L_law_469 rfl ?_
  refine ar_iconst 471 rfl d_L_law_470 ?_
  refine ar_iadd 472 rfl d_L_law_471 ?_
  refine ar_sald 473 rfl d_L_law_472 (by omega) ?_
  refine ar_aload_nS 474 rfl d_L_law_473 rfl ?_
  refine ar_iload_n 475 rfl d_L_law_474 rfl ?_
  refine ar_iconst 476 rfl d_L_law_475 ?_
  refine ar_iadd 477 rfl d_L_law_476 ?_
  refine ar_sald 478 rfl d_L_law_477 (by omega) ?_
  refine ar_callV0 (M' := mX6_ofMemory) (As := [_, _]) (ls' := [Va _, Vi _, Vi _]) 481 rfl d_L_law_478 ml_L_66 mt_X6_ofMemory hM.1.k625 rfl (Nat.le_of_ble_eq_true rfl) rfl (Nat.le_of_ble_eq_true rfl) (by omega) ?_
  refine sp_X6_ofMemory hM (i32_t _) (i32_t _) (by omega) ?_
  refine ar_icmp_same 779 rfl d_L_law_481 ?_
  exact WA.room (nxt σ E C hC hM (hB.le (by omega))) (Nat.le_refl _) (by omega) (by omega)
theorem law_look (hC : RepC σ E C σ) (hM : RepM C σ) (hB : CB ((t : Int) * 1889568) C) (ht : t < 512) (hgl : 4 * t + 4 ≤ gL G) (hgl2 : gL G ≤ 2048) (hk : k' + 3 ≤ k) (hn : n' + 126 ≤ n) (hdp : 41 ≤ d) (nxt : Nx G d k' n' t Q) : WA G d k n mL_law 486 [Vs, Va 0, Va 625, Vi ((4 * t : Nat) : Int)] [] σ Q := by
  refine ar_aload_n 487 rfl d_L_law_486 rfl ?_
  refine ar_aload_nS 488 rfl d_L_law_487 rfl ?_
  refine ar_iload_n 489 rfl d_L_law_488 rfl ?_
  refine ar_iconst 490 rfl d_L_law_489 ?_
  refine ar_iadd 491 rfl d_L_law_490 ?_
  refine ar_sald 492 rfl d_L_law_491 (by omega) ?_
  refine ar_aload_nS 493 rfl d_L_law_492 rfl ?_
  refine ar_iload_n 494 rfl d_L_law_493 rfl ?_
  refine ar_iconst 495 rfl d_L_law_494 ?_
  refine ar_iadd 496 rfl d_L_law_495 ?_
  refine ar_sald 497 rfl d_L_law_496 (by omega) ?_
  refine ar_aload_nS 498 rfl d_L_law_497 rfl ?_
  refine ar_iload_n 499 rfl d_L_law_498 rfl ?_
  refine ar_iconst 500 rfl d_L_law_499 ?_
  refine ar_iadd 501 rfl d_L_law_500 ?_
  refine ar_sald 502 rfl d_L_law_501 (by omega) ?_
  refine ar_callV0 (M' := mX5_look) (As := [_, _, _]) (ls' := [Va _, Vi _, Vi _, Vi _, Vu]) 505 rfl d_L_law_502 ml_L_67 mt_X5_look hC.1.1.1 rfl (Nat.le_of_ble_eq_true rfl) rfl (Nat.le_of_ble_eq_true rfl) (by omega) ?_
  refine sp_X5_look (Φ := σ) hC (i32_t _) (i32_t _) (i32_t _) (by omega) ?_
  refine ar_aload_n 506 rfl d_L_law_505 rfl ?_
  refine ar_aload_nS 507 rfl d_L_law_506 rfl ?_
  refine ar_iload_n 508 rfl d_L_law_507 rfl ?_
  refine ar_iconst 509 rfl d_L_law_508 ?_
  refine ar_iadd 510 rfl d_L_law_509 ?_
  refine ar_sald 511 rfl d_L_law_510 (by omega) ?_
  refine ar_aload_nS 512 rfl d_L_law_511 rfl ?_
  refine ar_iload_n 513 rfl d_L_law_512 rfl ?_
  refine ar_iconst 514 rfl d_L_law_513 ?_
  refine ar_iadd 515 rfl d_L_law_514 ?_
  refine ar_sald 516 rfl d_L_law_515 (by omega) ?_
  refine ar_aload_nS 517 rfl d_L_law_516 rfl ?_
  refine ar_iload_n 518 rfl d_L_law_517 rfl ?_
  refine ar_iconst 519 rfl d_L_law_518 ?_
  refine ar_iadd 520 rfl d_L_law_519 ?_
  refine ar_sald 521 rfl d_L_law_520 (by omega) ?_
  refine ar_callV0 (M' := mX6_look) (As := [_, _, _]) (ls' := [Va _, Vi _, Vi _, Vi _]) 524 rfl d_L_law_521 ml_L_71 mt_X6_look hM.1.k625 rfl (Nat.le_of_ble_eq_true rfl) rfl (Nat.le_of_ble_eq_true rfl) (by omega) ?_
  refine sp_X6_look hM (i32_t _) (i32_t _) (i32_t _) (by omega) ?_
  refine ar_icmp_same 779 rfl d_L_law_524 ?_
  exact WA.room (nxt σ E C hC hM (hB.le (by omega))) (Nat.le_refl _) (by omega) (by omega)
theorem law_count (hC : RepC σ E C σ) (hM : RepM C σ) (hB : CB ((t : Int) * 1889568) C) (ht : t < 512) (hgl : 4 * t + 4 ≤ gL G) (hgl2 : gL G ≤ 2048) (hk : k' + 3 ≤ k) (hn : n' + 126 ≤ n) (hdp : 41 ≤ d) (nxt : Nx G d k' n' t Q) : WA G d k n mL_law 529 [Vs, Va 0, Va 625, Vi ((4 * t : Nat) : Int)] [] σ Q := by
  refine ar_aload_n 530 rfl d_L_law_529 rfl ?_
  refine ar_aload_nS 531 rfl d_L_law_530 rfl ?_
  refine ar_iload_n 532 rfl d_L_law_531 rfl ?_
  refine ar_iconst 533 rfl d_L_law_532 ?_
  refine ar_iadd 534 rfl d_L_law_533 ?_
  refine ar_sald 535 rfl d_L_law_534 (by omega) ?_
  refine ar_callV0 (M' := mX5_count) (As := [_]) (ls' := [Va _, Vi _]) 538 rfl d_L_law_535 ml_L_72 mt_X5_count hC.1.1.1 rfl (Nat.le_of_ble_eq_true rfl) rfl (Nat.le_of_ble_eq_true rfl) (by omega) ?_
  refine sp_X5_count (Φ := σ) hC (i32_t _) (by omega) ?_
  refine ar_aload_n 539 rfl d_L_law_538 rfl ?_
  refine ar_aload_nS 540 rfl d_L_law_539 rfl ?_
  refine ar_iload_n 541 rfl d_L_law_540 rfl ?_
  refine ar_iconst 542 rfl d_L_law_541 ?_
  refine ar_iadd 543 rfl d_L_law_542 ?_
  refine ar_sald 544 rfl d_L_law_543 (by omega) ?_
  refine ar_callV0 (M' := mX6_count) (As := [_]) (ls' := [Va _, Vi _, Vu, Vu]) 547 rfl d_L_law_544 ml_L_75 mt_X6_count hM.1.k625 rfl (Nat.le_of_ble_eq_true rfl) rfl (Nat.le_of_ble_eq_true rfl) (by omega) ?_
  refine sp_X6_count hM (i32_t _) (by omega) ?_
  refine ar_icmp_same 779 rfl d_L_law_547 ?_
  exact WA.room (nxt σ E C hC hM (hB.le (by omega))) (Nat.le_refl _) (by omega) (by omega)
theorem law_fresh (hC : RepC σ E C σ) (hM : RepM C σ) (hB : CB ((t : Int) * 1889568) C) (ht : t < 512) (hgl : 4 * t + 4 ≤ gL G) (hgl2 : gL G ≤ 2048) (hk : k' + 3 ≤ k) (hn : n' + 126 ≤ n) (hdp : 41 ≤ d) (nxt : Nx G d k' n' t Q) : WA G d k n mL_law 552 [Vs, Va 0, Va 625, Vi ((4 * t : Nat) : Int)] [] σ Q := by
  refine ar_aload_n 553 rfl d_L_law_552 rfl ?_
  refine ar_aload_nS 554 rfl d_L_law_553 rfl ?_
  refine ar_iload_n 555 rfl d_L_law_554 rfl ?_
  refine ar_iconst 556 rfl d_L_law_555 ?_
  refine ar_iadd 557 rfl d_L_law_556 ?_
  refine ar_sald 558 rfl d_L_law_557 (by omega) ?_
  refine ar_callV0 (M' := mX5_fresh) (As := [_]) (ls' := [Va _, Vi _]) 561 rfl d_L_law_558 ml_L_76 mt_X5_fresh hC.1.1.1 rfl (Nat.le_of_ble_eq_true rfl) rfl (Nat.le_of_ble_eq_true rfl) (by omega) ?_
  refine sp_X5_fresh (Φ := σ) hC (i32_t _) (by omega) (fun σ1 hs1 hC1 => ?_)
  have hM1 := hM.cls hC1
  refine ar_aload_n 562 rfl d_L_law_561 rfl ?_
  refine ar_aload_nS 563 rfl d_L_law_562 rfl ?_
  refine ar_iload_n 564 rfl d_L_law_563 rfl ?_
  refine ar_iconst 565 rfl d_L_law_564 ?_
  refine ar_iadd 566 rfl d_L_law_565 ?_
  refine ar_sald 567 rfl d_L_law_566 (by omega) ?_
  refine ar_callV0 (M' := mX6_fresh) (As := [_]) (ls' := [Va _, Vi _]) 570 rfl d_L_law_567 ml_L_79 mt_X6_fresh hM1.1.k625 rfl (Nat.le_of_ble_eq_true rfl) rfl (Nat.le_of_ble_eq_true rfl) (by omega) ?_
  refine sp_X6_fresh hM1 (i32_t _) (by omega) (fun σ2 f2 hM2 => ?_)
  refine ar_icmp_same 779 rfl d_L_law_570 ?_
  exact WA.room (nxt σ2 _ _ (hC1.ref f2) hM2 (hB.le (by omega))) (Nat.le_refl _) (by omega) (by omega)
theorem law_fits (hC : RepC σ E C σ) (hM : RepM C σ) (hB : CB ((t : Int) * 1889568) C) (ht : t < 512) (hgl : 4 * t + 4 ≤ gL G) (hgl2 : gL G ≤ 2048) (hk : k' + 3 ≤ k) (hn : n' + 126 ≤ n) (hdp : 41 ≤ d) (nxt : Nx G d k' n' t Q) : WA G d k n mL_law 575 [Vs, Va 0, Va 625, Vi ((4 * t : Nat) : Int)] [] σ Q := by
  refine ar_aload_n 576 rfl d_L_law_575 rfl ?_
  refine ar_aload_nS 577 rfl d_L_law_576 rfl ?_
  refine ar_iload_n 578 rfl d_L_law_577 rfl ?_
  refine ar_iconst 579 rfl d_L_law_578 ?_
  refine ar_iadd 580 rfl d_L_law_579 ?_
  refine ar_sald 581 rfl d_L_law_580 (by omega) ?_
  refine ar_callV0 (M' := mX5_fits) (As := [_]) (ls' := [Va _, Vi _, Vu, Vu]) 584 rfl d_L_law_581 ml_L_80 mt_X5_fits hC.1.1.1 rfl (Nat.le_of_ble_eq_true rfl) rfl (Nat.le_of_ble_eq_true rfl) (by omega) ?_
  refine sp_X5_fits (Φ := σ) hC (i32_t _) (by have := hB.1; omega) (by omega) (fun σ1 hs1 hC1 => ?_)
  have hM1 := hM.cls hC1
  refine ar_aload_n 585 rfl d_L_law_584 rfl ?_
  refine ar_aload_nS 586 rfl d_L_law_585 rfl ?_
  refine ar_iload_n 587 rfl d_L_law_586 rfl ?_
  refine ar_iconst 588 rfl d_L_law_587 ?_
  refine ar_iadd 589 rfl d_L_law_588 ?_
  refine ar_sald 590 rfl d_L_law_589 (by omega) ?_
  refine ar_callV0 (M' := mX6_fits) (As := [_]) (ls' := [Va _, Vi _, Vu]) 593 rfl d_L_law_590 ml_L_83 mt_X6_fits hM1.1.k625 rfl (Nat.le_of_ble_eq_true rfl) rfl (Nat.le_of_ble_eq_true rfl) (by omega) ?_
  refine sp_X6_fits hM1 (i32_t _) (by omega) (fun σ2 f2 hM2 => ?_)
  refine ar_icmp_same 779 rfl d_L_law_593 ?_
  exact WA.room (nxt σ2 _ _ (hC1.ref f2) hM2 (hB.le (by omega))) (Nat.le_refl _) (by omega) (by omega)
theorem law_looksAt (hC : RepC σ E C σ) (hM : RepM C σ) (hB : CB ((t : Int) * 1889568) C) (ht : t < 512) (hgl : 4 * t + 4 ≤ gL G) (hgl2 : gL G ≤ 2048) (hk : k' + 3 ≤ k) (hn : n' + 126 ≤ n) (hdp : 41 ≤ d) (nxt : Nx G d k' n' t Q) : WA G d k n mL_law 598 [Vs, Va 0, Va 625, Vi ((4 * t : Nat) : Int)] [] σ Q := by
  refine ar_aload_n 599 rfl d_L_law_598 rfl ?_
  refine ar_aload_nS 600 rfl d_L_law_599 rfl ?_
  refine ar_iload_n 601 rfl d_L_law_600 rfl ?_
  refine ar_iconst 602 rfl d_L_law_601 ?_
  refine ar_iadd 603 rfl d_L_law_602 ?_
  refine ar_sald 604 rfl d_L_law_603 (by omega) ?_
  refine ar_callV0 (M' := mX5_looksAt) (As := [_]) (ls' := [Va _, Vi _]) 607 rfl d_L_law_604 ml_L_84 mt_X5_looksAt hC.1.1.1 rfl (Nat.le_of_ble_eq_true rfl) rfl (Nat.le_of_ble_eq_true rfl) (by omega) ?_
  refine sp_X5_looksAt (Φ := σ) hC (i32_t _) (by omega) (fun σ1 hs1 hC1 => ?_)
  have hM1 := hM.cls hC1
  refine ar_aload_n 608 rfl d_L_law_607 rfl ?_
  refine ar_aload_nS 609 rfl d_L_law_608 rfl ?_
  refine ar_iload_n 610 rfl d_L_law_609 rfl ?_
  refine ar_iconst 611 rfl d_L_law_610 ?_
  refine ar_iadd 612 rfl d_L_law_611 ?_
  refine ar_sald 613 rfl d_L_law_612 (by omega) ?_
  refine ar_callV0 (M' := mX6_looksAt) (As := [_]) (ls' := [Va _, Vi _]) 616 rfl d_L_law_613 ml_L_87 mt_X6_looksAt hM1.1.k625 rfl (Nat.le_of_ble_eq_true rfl) rfl (Nat.le_of_ble_eq_true rfl) (by omega) ?_
  refine sp_X6_looksAt hM1 (i32_t _) (by omega) (fun σ2 f2 hM2 => ?_)
  refine ar_icmp_same 779 rfl d_L_law_616 ?_
  exact WA.room (nxt σ2 _ _ (hC1.ref f2) hM2 (hB.le (by omega))) (Nat.le_refl _) (by omega) (by omega)
theorem law_changes (hC : RepC σ E C σ) (hM : RepM C σ) (hB : CB ((t : Int) * 1889568) C) (ht : t < 512) (hgl : 4 * t + 4 ≤ gL G) (hgl2 : gL G ≤ 2048) (hk : k' + 3 ≤ k) (hn : n' + 126 ≤ n) (hdp : 41 ≤ d) (nxt : Nx G d k' n' t Q) : WA G d k n mL_law 621 [Vs, Va 0, Va 625, Vi ((4 * t : Nat) : Int)] [] σ Q := by
  refine ar_aload_n 622 rfl d_L_law_621 rfl ?_
  refine ar_aload_nS 623 rfl d_L_law_622 rfl ?_
  refine ar_iload_n 624 rfl d_L_law_623 rfl ?_
  refine ar_iconst 625 rfl d_L_law_624 ?_
  refine ar_iadd 626 rfl d_L_law_625 ?_
  refine ar_sald 627 rfl d_L_law_626 (by omega) ?_
  refine ar_aload_nS 628 rfl d_L_law_627 rfl ?_
  refine ar_iload_n 629 rfl d_L_law_628 rfl ?_
  refine ar_iconst 630 rfl d_L_law_629 ?_
  refine ar_iadd 631 rfl d_L_law_630 ?_
  refine ar_sald 632 rfl d_L_law_631 (by omega) ?_
  refine ar_callV0 (M' := mX5_changes) (As := [_, _]) (ls' := [Va _, Vi _, Vi _, Vu, Vu]) 635 rfl d_L_law_632 ml_L_88 mt_X5_changes hC.1.1.1 rfl (Nat.le_of_ble_eq_true rfl) rfl (Nat.le_of_ble_eq_true rfl) (by omega) ?_
  refine sp_X5_changes (Φ := σ) hC (i32_t _) (i32_t _) (by omega) (fun σ1 hs1 hC1 => ?_)
  have hM1 := hM.cls hC1
  refine ar_aload_n 636 rfl d_L_law_635 rfl ?_
  refine ar_aload_nS 637 rfl d_L_law_636 rfl ?_
  refine ar_iload_n 638 rfl d_L_law_637 rfl ?_
  refine ar_iconst 639 rfl d_L_law_638 ?_
  refine ar_iadd 640 rfl d_L_law_639 ?_
  refine ar_sald 641 rfl d_L_law_640 (by omega) ?_
  refine ar_aload_nS 642 rfl d_L_law_641 rfl ?_
  refine ar_iload_n 643 rfl d_L_law_642 rfl ?_
  refine ar_iconst 644 rfl d_L_law_643 ?_
  refine ar_iadd 645 rfl d_L_law_644 ?_
  refine ar_sald 646 rfl d_L_law_645 (by omega) ?_
  refine ar_callV0 (M' := mX6_changes) (As := [_, _]) (ls' := [Va _, Vi _, Vi _, Vu, Vu, Vu]) 649 rfl d_L_law_646 ml_L_91 mt_X6_changes hM1.1.k625 rfl (Nat.le_of_ble_eq_true rfl) rfl (Nat.le_of_ble_eq_true rfl) (by omega) ?_
  refine sp_X6_changes hM1 (i32_t _) (i32_t _) (by omega) (fun σ2 f2 hM2 => ?_)
  refine ar_icmp_same 779 rfl d_L_law_649 ?_
  exact WA.room (nxt σ2 _ _ (hC1.ref f2) hM2 (hB.le (by omega))) (Nat.le_refl _) (by omega) (by omega)
theorem law_numberFor (hC : RepC σ E C σ) (hM : RepM C σ) (hB : CB ((t : Int) * 1889568) C) (ht : t < 512) (hgl : 4 * t + 4 ≤ gL G) (hgl2 : gL G ≤ 2048) (hk : k' + 3 ≤ k) (hn : n' + 126 ≤ n) (hdp : 41 ≤ d) (nxt : Nx G d k' n' t Q) : WA G d k n mL_law 654 [Vs, Va 0, Va 625, Vi ((4 * t : Nat) : Int)] [] σ Q := by
  refine ar_aload_n 655 rfl d_L_law_654 rfl ?_
  refine ar_aload_nS 656 rfl d_L_law_655 rfl ?_
  refine ar_iload_n 657 rfl d_L_law_656 rfl ?_
  refine ar_iconst 658 rfl d_L_law_657 ?_
  refine ar_iadd 659 rfl d_L_law_658 ?_
  refine ar_sald 660 rfl d_L_law_659 (by omega) ?_
  refine ar_aload_nS 661 rfl d_L_law_660 rfl ?_
  refine ar_iload_n 662 rfl d_L_law_661 rfl ?_
  refine ar_iconst 663 rfl d_L_law_662 ?_
  refine ar_iadd 664 rfl d_L_law_663 ?_
  refine ar_sald 665 rfl d_L_law_664 (by omega) ?_
  refine ar_aload_nS 666 rfl d_L_law_665 rfl ?_
  refine ar_iload_n 667 rfl d_L_law_666 rfl ?_
  refine ar_iconst 668 rfl d_L_law_667 ?_
  refine ar_iadd 669 rfl d_L_law_668 ?_
  refine ar_sald 670 rfl d_L_law_669 (by omega) ?_
  refine ar_callV0 (M' := mX5_numberFor) (As := [_, _, _]) (ls' := [Va _, Vi _, Vi _, Vi _, Vu]) 673 rfl d_L_law_670 ml_L_92 mt_X5_numberFor hC.1.1.1 rfl (Nat.le_of_ble_eq_true rfl) rfl (Nat.le_of_ble_eq_true rfl) (by omega) ?_
  refine sp_X5_numberFor (Φ := σ) hC (i32_t _) (i32_t _) (i32_t _) (by omega) (fun σ1 hs1 hC1 => ?_)
  have hM1 := hM.cls hC1
  refine ar_aload_n 674 rfl d_L_law_673 rfl ?_
  refine ar_aload_nS 675 rfl d_L_law_674 rfl ?_
  refine ar_iload_n 676 rfl d_L_law_675 rfl ?_
  refine ar_iconst 677 rfl d_L_law_676 ?_
  refine ar_iadd 678 rfl d_L_law_677 ?_
  refine ar_sald 679 rfl d_L_law_678 (by omega) ?_
  refine ar_aload_nS 680 rfl d_L_law_679 rfl ?_
  refine ar_iload_n 681 rfl d_L_law_680 rfl ?_
  refine ar_iconst 682 rfl d_L_law_681 ?_
  refine ar_iadd 683 rfl d_L_law_682 ?_
  refine ar_sald 684 rfl d_L_law_683 (by omega) ?_
  refine ar_aload_nS 685 rfl d_L_law_684 rfl ?_
  refine ar_iload_n 686 rfl d_L_law_685 rfl ?_
  refine ar_iconst 687 rfl d_L_law_686 ?_
  refine ar_iadd 688 rfl d_L_law_687 ?_
  refine ar_sald 689 rfl d_L_law_688 (by omega) ?_
  refine ar_callV0 (M' := mX6_numberFor) (As := [_, _, _]) (ls' := [Va _, Vi _, Vi _, Vi _, Vu]) 692 rfl d_L_law_689 ml_L_95 mt_X6_numberFor hM1.1.k625 rfl (Nat.le_of_ble_eq_true rfl) rfl (Nat.le_of_ble_eq_true rfl) (by omega) ?_
  refine sp_X6_numberFor hM1 (i32_t _) (i32_t _) (i32_t _) (by omega) (fun σ2 f2 hM2 => ?_)
  refine ar_icmp_same 779 rfl d_L_law_692 ?_
  exact WA.room (nxt σ2 _ _ (hC1.ref f2) hM2 (hB.le (by omega))) (Nat.le_refl _) (by omega) (by omega)
theorem law_stepsFor (hC : RepC σ E C σ) (hM : RepM C σ) (hB : CB ((t : Int) * 1889568) C) (ht : t < 512) (hgl : 4 * t + 4 ≤ gL G) (hgl2 : gL G ≤ 2048) (hk : k' + 3 ≤ k) (hn : n' + 126 ≤ n) (hdp : 41 ≤ d) (nxt : Nx G d k' n' t Q) : WA G d k n mL_law 697 [Vs, Va 0, Va 625, Vi ((4 * t : Nat) : Int)] [] σ Q := by
  refine ar_aload_n 698 rfl d_L_law_697 rfl ?_
  refine ar_aload_nS 699 rfl d_L_law_698 rfl ?_
  refine ar_iload_n 700 rfl d_L_law_699 rfl ?_
  refine ar_iconst 701 rfl d_L_law_700 ?_
  refine ar_iadd 702 rfl d_L_law_701 ?_
  refine ar_sald 703 rfl d_L_law_702 (by omega) ?_
  refine ar_callV0 (M' := mX5_stepsFor) (As := [_]) (ls' := [Va _, Vi _]) 706 rfl d_L_law_703 ml_L_96 mt_X5_stepsFor hC.1.1.1 rfl (Nat.le_of_ble_eq_true rfl) rfl (Nat.le_of_ble_eq_true rfl) (by omega) ?_
  refine sp_X5_stepsFor (Φ := σ) hC (i32_t _) (by have := hB.1; omega) (by omega) (fun σ1 hs1 hC1 => ?_)
  have hM1 := hM.cls hC1
  refine ar_aload_n 707 rfl d_L_law_706 rfl ?_
  refine ar_aload_nS 708 rfl d_L_law_707 rfl ?_
  refine ar_iload_n 709 rfl d_L_law_708 rfl ?_
  refine ar_iconst 710 rfl d_L_law_709 ?_
  refine ar_iadd 711 rfl d_L_law_710 ?_
  refine ar_sald 712 rfl d_L_law_711 (by omega) ?_
  refine ar_callV0 (M' := mX6_stepsFor) (As := [_]) (ls' := [Va _, Vi _]) 715 rfl d_L_law_712 ml_L_99 mt_X6_stepsFor hM1.1.k625 rfl (Nat.le_of_ble_eq_true rfl) rfl (Nat.le_of_ble_eq_true rfl) (by omega) ?_
  refine sp_X6_stepsFor hM1 (i32_t _) (by have := hB.1; omega) (by omega) (fun σ2 f2 hM2 => ?_)
  refine ar_icmp_same 779 rfl d_L_law_715 ?_
  exact WA.room (nxt σ2 _ _ (hC1.ref f2) hM2 (hB.le (by omega))) (Nat.le_refl _) (by omega) (by omega)
theorem law_undo (hC : RepC σ E C σ) (hM : RepM C σ) (hB : CB ((t : Int) * 1889568) C) (ht : t < 512) (hgl : 4 * t + 4 ≤ gL G) (hgl2 : gL G ≤ 2048) (hk : k' + 3 ≤ k) (hn : n' + 126 ≤ n) (hdp : 41 ≤ d) (nxt : Nx G d k' n' t Q) : WA G d k n mL_law 720 [Vs, Va 0, Va 625, Vi ((4 * t : Nat) : Int)] [] σ Q := by
  refine ar_aload_n 721 rfl d_L_law_720 rfl ?_
  refine ar_callV0 (M' := mX5_undo) (As := []) (ls' := [Va _, Vu]) 724 rfl d_L_law_721 ml_L_100 mt_X5_undo hC.1.1.1 rfl (Nat.le_of_ble_eq_true rfl) rfl (Nat.le_of_ble_eq_true rfl) (by omega) ?_
  refine sp_X5_undo (Φ := σ) hC (fun E1 σ1 hs1 hC1 => ?_)
  have hM1 := hM.cls hC1
  refine ar_aload_n 725 rfl d_L_law_724 rfl ?_
  refine ar_callV0 (M' := mX6_undo) (As := []) (ls' := [Va _]) 728 rfl d_L_law_725 ml_L_103 mt_X6_undo hM1.1.k625 rfl (Nat.le_of_ble_eq_true rfl) rfl (Nat.le_of_ble_eq_true rfl) (by omega) ?_
  refine sp_X6_undo hM1 (by omega) (fun σ2 f2 hM2 => ?_)
  refine ar_icmp_same 779 rfl d_L_law_728 ?_
  exact WA.room (nxt σ2 _ _ (hC1.ref f2) hM2 ((cb_und hB).le (by omega))) (Nat.le_refl _) (by omega) (by omega)
theorem law_save (hC : RepC σ E C σ) (hM : RepM C σ) (hB : CB ((t : Int) * 1889568) C) (ht : t < 512) (hgl : 4 * t + 4 ≤ gL G) (hgl2 : gL G ≤ 2048) (hk : k' + 3 ≤ k) (hn : n' + 126 ≤ n) (hdp : 41 ≤ d) (nxt : Nx G d k' n' t Q) : WA G d k n mL_law 733 [Vs, Va 0, Va 625, Vi ((4 * t : Nat) : Int)] [] σ Q := by
  refine ar_aload_n 734 rfl d_L_law_733 rfl ?_
  refine ar_aload_nS 735 rfl d_L_law_734 rfl ?_
  refine ar_iload_n 736 rfl d_L_law_735 rfl ?_
  refine ar_iconst 737 rfl d_L_law_736 ?_
  refine ar_iadd 738 rfl d_L_law_737 ?_
  refine ar_sald 739 rfl d_L_law_738 (by omega) ?_
  refine ar_callV0 (M' := mX5_save) (As := [_]) (ls' := [Va _, Vi _]) 742 rfl d_L_law_739 ml_L_104 mt_X5_save hC.1.1.1 rfl (Nat.le_of_ble_eq_true rfl) rfl (Nat.le_of_ble_eq_true rfl) (by omega) ?_
  refine sp_X5_save (Φ := σ) hC (i32_t _) (by omega) (fun E1 σ1 hs1 hC1 => ?_)
  have hM1 := hM.cls hC1
  refine ar_aload_n 743 rfl d_L_law_742 rfl ?_
  refine ar_aload_nS 744 rfl d_L_law_743 rfl ?_
  refine ar_iload_n 745 rfl d_L_law_744 rfl ?_
  refine ar_iconst 746 rfl d_L_law_745 ?_
  refine ar_iadd 747 rfl d_L_law_746 ?_
  refine ar_sald 748 rfl d_L_law_747 (by omega) ?_
  refine ar_callV0 (M' := mX6_save) (As := [_]) (ls' := [Va _, Vi _]) 751 rfl d_L_law_748 ml_L_107 mt_X6_save hM1.1.k625 rfl (Nat.le_of_ble_eq_true rfl) rfl (Nat.le_of_ble_eq_true rfl) (by omega) ?_
  refine sp_X6_save hM1 (i32_t _) (by omega) (fun σ2 f2 hM2 => ?_)
  refine ar_icmp_same 779 rfl d_L_law_751 ?_
  exact WA.room (nxt σ2 _ _ (hC1.ref f2) hM2 ((cb_sav hB).le (by omega))) (Nat.le_refl _) (by omega) (by omega)
theorem law_restore (hC : RepC σ E C σ) (hM : RepM C σ) (hB : CB ((t : Int) * 1889568) C) (ht : t < 512) (hgl : 4 * t + 4 ≤ gL G) (hgl2 : gL G ≤ 2048) (hk : k' + 3 ≤ k) (hn : n' + 126 ≤ n) (hdp : 41 ≤ d) (nxt : Nx G d k' n' t Q) : WA G d k n mL_law 756 [Vs, Va 0, Va 625, Vi ((4 * t : Nat) : Int)] [] σ Q := by
  refine ar_aload_n 757 rfl d_L_law_756 rfl ?_
  refine ar_aload_nS 758 rfl d_L_law_757 rfl ?_
  refine ar_iload_n 759 rfl d_L_law_758 rfl ?_
  refine ar_iconst 760 rfl d_L_law_759 ?_
  refine ar_iadd 761 rfl d_L_law_760 ?_
  refine ar_sald 762 rfl d_L_law_761 (by omega) ?_
  refine ar_callV0 (M' := mX5_restore) (As := [_]) (ls' := [Va _, Vi _]) 765 rfl d_L_law_762 ml_L_108 mt_X5_restore hC.1.1.1 rfl (Nat.le_of_ble_eq_true rfl) rfl (Nat.le_of_ble_eq_true rfl) (by omega) ?_
  refine sp_X5_restore (Φ := σ) hC (i32_t _) (by omega) (fun E1 σ1 hs1 hC1 => ?_)
  have hM1 := hM.cls hC1
  refine ar_aload_n 766 rfl d_L_law_765 rfl ?_
  refine ar_aload_nS 767 rfl d_L_law_766 rfl ?_
  refine ar_iload_n 768 rfl d_L_law_767 rfl ?_
  refine ar_iconst 769 rfl d_L_law_768 ?_
  refine ar_iadd 770 rfl d_L_law_769 ?_
  refine ar_sald 771 rfl d_L_law_770 (by omega) ?_
  refine ar_callV0 (M' := mX6_restore) (As := [_]) (ls' := [Va _, Vi _]) 774 rfl d_L_law_771 ml_L_111 mt_X6_restore hM1.1.k625 rfl (Nat.le_of_ble_eq_true rfl) rfl (Nat.le_of_ble_eq_true rfl) (by omega) ?_
  refine sp_X6_restore hM1 (i32_t _) (by omega) (fun σ2 f2 hM2 => ?_)
  refine ar_icmp_same 779 rfl d_L_law_774 ?_
  exact WA.room (nxt σ2 _ _ (hC1.ref f2) hM2 ((cb_res hB).le (by omega))) (Nat.le_refl _) (by omega) (by omega)
theorem law_sw {w : Int} (hw : 0 ≤ w ∧ w < 32) (hC : RepC σ E C σ) (hM : RepM C σ) (hB : CB ((t : Int) * 1889568) C) (ht : t < 512) (hgl : 4 * t + 4 ≤ gL G) (hgl2 : gL G ≤ 2048) (hk : k' + 3 ≤ k) (hn : n' + 126 ≤ n) (hdp : 41 ≤ d) (nxt : Nx G d k' n' t Q) : WA G d k n mL_law 32 [Vs, Va 0, Va 625, Vi ((4 * t : Nat) : Int)] [Vi w] σ Q := by
  by_cases c0 : w = 0
  · subst c0
    refine ar_tsIn (off := 108) 140 d_L_law_32 (by omega) (by omega) rfl rfl ?_
    exact law_set hC hM hB ht hgl hgl2 hk hn hdp nxt
  by_cases c1 : w = 1
  · subst c1
    refine ar_tsIn (off := 141) 173 d_L_law_32 (by omega) (by omega) rfl rfl ?_
    exact law_put hC hM hB ht hgl hgl2 hk hn hdp nxt
  by_cases c2 : w = 2
  · subst c2
    refine ar_tsIn (off := 174) 206 d_L_law_32 (by omega) (by omega) rfl rfl ?_
    exact law_poison hC hM hB ht hgl hgl2 hk hn hdp nxt
  by_cases c3 : w = 3
  · subst c3
    refine ar_tsIn (off := 207) 239 d_L_law_32 (by omega) (by omega) rfl rfl ?_
    exact law_ask hC hM hB ht hgl hgl2 hk hn hdp nxt
  by_cases c4 : w = 4
  · subst c4
    refine ar_tsIn (off := 230) 262 d_L_law_32 (by omega) (by omega) rfl rfl ?_
    exact law_forget hC hM hB ht hgl hgl2 hk hn hdp nxt
  by_cases c5 : w = 5
  · subst c5
    refine ar_tsIn (off := 253) 285 d_L_law_32 (by omega) (by omega) rfl rfl ?_
    exact law_type hC hM hB ht hgl hgl2 hk hn hdp nxt
  by_cases c6 : w = 6
  · subst c6
    refine ar_tsIn (off := 306) 338 d_L_law_32 (by omega) (by omega) rfl rfl ?_
    exact law_wipe hC hM hB ht hgl hgl2 hk hn hdp nxt
  by_cases c7 : w = 7
  · subst c7
    refine ar_tsIn (off := 319) 351 d_L_law_32 (by omega) (by omega) rfl rfl ?_
    exact law_fault hC hM hB ht hgl hgl2 hk hn hdp nxt
  by_cases c8 : w = 8
  · subst c8
    refine ar_tsIn (off := 332) 364 d_L_law_32 (by omega) (by omega) rfl rfl ?_
    exact law_recipe hC hM hB ht hgl hgl2 hk hn hdp nxt
  by_cases c9 : w = 9
  · subst c9
    refine ar_tsIn (off := 355) 387 d_L_law_32 (by omega) (by omega) rfl rfl ?_
    exact law_ofShelf hC hM hB ht hgl hgl2 hk hn hdp nxt
  by_cases c10 : w = 10
  · subst c10
    refine ar_tsIn (off := 388) 420 d_L_law_32 (by omega) (by omega) rfl rfl ?_
    exact law_ofLoaf hC hM hB ht hgl hgl2 hk hn hdp nxt
  by_cases c11 : w = 11
  · subst c11
    refine ar_tsIn (off := 421) 453 d_L_law_32 (by omega) (by omega) rfl rfl ?_
    exact law_ofMemory hC hM hB ht hgl hgl2 hk hn hdp nxt
  by_cases c12 : w = 12
  · subst c12
    refine ar_tsIn (off := 454) 486 d_L_law_32 (by omega) (by omega) rfl rfl ?_
    exact law_look hC hM hB ht hgl hgl2 hk hn hdp nxt
  by_cases c13 : w = 13
  · subst c13
    refine ar_tsIn (off := 497) 529 d_L_law_32 (by omega) (by omega) rfl rfl ?_
    exact law_count hC hM hB ht hgl hgl2 hk hn hdp nxt
  by_cases c14 : w = 14
  · subst c14
    refine ar_tsIn (off := 520) 552 d_L_law_32 (by omega) (by omega) rfl rfl ?_
    exact law_fresh hC hM hB ht hgl hgl2 hk hn hdp nxt
  by_cases c15 : w = 15
  · subst c15
    refine ar_tsIn (off := 543) 575 d_L_law_32 (by omega) (by omega) rfl rfl ?_
    exact law_fits hC hM hB ht hgl hgl2 hk hn hdp nxt
  by_cases c16 : w = 16
  · subst c16
    refine ar_tsIn (off := 566) 598 d_L_law_32 (by omega) (by omega) rfl rfl ?_
    exact law_looksAt hC hM hB ht hgl hgl2 hk hn hdp nxt
  by_cases c17 : w = 17
  · subst c17
    refine ar_tsIn (off := 589) 621 d_L_law_32 (by omega) (by omega) rfl rfl ?_
    exact law_changes hC hM hB ht hgl hgl2 hk hn hdp nxt
  by_cases c18 : w = 18
  · subst c18
    refine ar_tsIn (off := 622) 654 d_L_law_32 (by omega) (by omega) rfl rfl ?_
    exact law_numberFor hC hM hB ht hgl hgl2 hk hn hdp nxt
  by_cases c19 : w = 19
  · subst c19
    refine ar_tsIn (off := 665) 697 d_L_law_32 (by omega) (by omega) rfl rfl ?_
    exact law_stepsFor hC hM hB ht hgl hgl2 hk hn hdp nxt
  by_cases c20 : w = 20
  · subst c20
    refine ar_tsIn (off := 688) 720 d_L_law_32 (by omega) (by omega) rfl rfl ?_
    exact law_undo hC hM hB ht hgl hgl2 hk hn hdp nxt
  by_cases c21 : w = 21
  · subst c21
    refine ar_tsIn (off := 701) 733 d_L_law_32 (by omega) (by omega) rfl rfl ?_
    exact law_save hC hM hB ht hgl hgl2 hk hn hdp nxt
  by_cases c22 : w = 22
  · subst c22
    refine ar_tsIn (off := 724) 756 d_L_law_32 (by omega) (by omega) rfl rfl ?_
    exact law_restore hC hM hB ht hgl hgl2 hk hn hdp nxt
  refine ar_tsOut 779 d_L_law_32 (by omega) (by omega) rfl ?_
  exact WA.room (nxt σ E C hC hM (hB.le (by omega))) (Nat.le_refl _) (by omega) (by omega)
/-- the law's loop -/
theorem law_loop (hgl2 : gL G ≤ 2048) (hdp : 41 ≤ d) (hQ : ∀ σ', Q (some (Vi 1)) σ') : ∀ (r t : Nat) (k n : Nat) (σ : Sg) (E : Nat → Nat) (C : CS), 512 - t = r → t ≤ 512 → 3 * r ≤ k → 126 * r ≤ n → RepC σ E C σ → RepM C σ → CB ((t : Int) * 1889568) C → WA G d k n mL_law 18 [Vs, Va 0, Va 625, Vi ((4 * t : Nat) : Int)] [] σ Q := by
  intro r
  induction r with
  | zero =>
    intro t k n σ E C hr ht hk hn hC hM hB
    refine ar_iload_n 19 rfl d_L_law_18 rfl ?_
    refine ar_aload_nS 20 rfl d_L_law_19 rfl ?_
    refine ar_slen 21 rfl d_L_law_20 ?_
    refine ar_iconst 22 rfl d_L_law_21 ?_
    refine ar_isub 23 rfl d_L_law_22 ?_
    refine ar_icmp_gt 785 26 rfl rfl d_L_law_23 (by omega) (by omega) (fun g23 => ?_) (fun h => by omega)
    refine ar_iconst 786 rfl d_L_law_785 ?_
    refine WA.ret (some (Vi _)) ⟨d_L_law_786, rfl, Or.inr ⟨rfl, Or.inr rfl⟩⟩ ?_
    exact hQ σ
  | succ r ih =>
    intro t k n σ E C hr ht hk hn hC hM hB
    refine ar_iload_n 19 rfl d_L_law_18 rfl ?_
    refine ar_aload_nS 20 rfl d_L_law_19 rfl ?_
    refine ar_slen 21 rfl d_L_law_20 ?_
    refine ar_iconst 22 rfl d_L_law_21 ?_
    refine ar_isub 23 rfl d_L_law_22 ?_
    refine ar_icmp_gt 785 26 rfl rfl d_L_law_23 (by omega) (by omega) (fun g23 => ?_) (fun g23 => ?_)
    · refine ar_iconst 786 rfl d_L_law_785 ?_
      refine WA.ret (some (Vi _)) ⟨d_L_law_786, rfl, Or.inr ⟨rfl, Or.inr rfl⟩⟩ ?_
      exact hQ σ
    · refine ar_aload_nS 27 rfl d_L_law_26 rfl ?_
      refine ar_iload_n 28 rfl d_L_law_27 rfl ?_
      refine ar_sald 29 rfl d_L_law_28 (by omega) ?_
      refine ar_bipush 31 rfl d_L_law_29 rfl ?_
      refine ar_iand 32 rfl d_L_law_31 ?_
      have hw31 := iAn_31 (gX G ((4 * t : Nat) : Int).toNat)
      refine law_sw (k' := 3 * r) (n' := 126 * r) hw31 hC hM hB (by omega) (by omega) hgl2 (by omega) (by omega) hdp (fun σ' E' C' hC' hM' hB' => ?_)
      refine ar_inc_3 (y := ((4 * (t + 1) : Nat) : Int)) 782 rfl d_L_law_779 rfl (by intro _ h; cases h) (by omega) ?_
      refine ar_goto 18 rfl d_L_law_782 ?_
      exact ih (t + 1) _ _ σ' E' C' (by omega) (by omega) (Nat.le_refl _) (Nat.le_refl _) hC' hM' hB'
set_option maxHeartbeats 4000000 in
theorem law_all (hgl2 : gL G ≤ 2048) (hdp : 41 ≤ d) (hk : 600000 ≤ k) (hn : 7302250 ≤ n) (hs : sn σ = 0) (hQ : ∀ σ', Q (some (Vi 1)) σ') : WA G d k n mL_law 0 [Vs, Vu, Vu, Vu] [] σ Q := by
  refine ar_newA 5 0 (k - 1) (n - 10) hs 3 rfl d_L_law_0 (by decide) kl_L_7 in_5 ii_5 (by omega) (by show n - 10 + 10 ≤ n; omega) ?_
  refine ar_dup 4 rfl d_L_law_3 (fun _ => rfl) ?_
  refine ar_callI (M' := mX5_init) (As := []) (ls' := [Va _, Vu]) 640 9200 (k - 641) (n - 9210) 7 rfl d_L_law_4 ml_L_9 mt_X5_init rfl (Nat.le_of_ble_eq_true rfl) rfl (Nat.le_of_ble_eq_true rfl) (by omega) (by omega) (by omega) ?_
  refine sp_X5_init (by rw [sk_aA, if_pos rfl]) (fun j => by rw [hI_aA, if_pos rfl]) (sn_aA _ _ _ _) (by omega) (by omega) (by omega) (fun σ1 hX => ?_)
  have hsn1 : sn σ1 = 161 + 58 * (6 + 2) := hX.2.2.2.2.2.2.2.2
  refine ar_ast_1 8 rfl d_L_law_7 rfl (by intro _ h; cases h) ?_
  refine ar_newA 6 625 (k - 642) (n - 9243) (by omega) 11 rfl d_L_law_8 (by decide) kl_L_10 in_6 ii_6 (by omega) (by show n - 9243 + 33 ≤ n - 9210; omega) ?_
  refine ar_dup 12 rfl d_L_law_11 (fun _ => rfl) ?_
  refine ar_callI (M' := mX6_init) (As := []) (ls' := [Va _]) 26 15924 (k - 668) (n - 25167) 15 rfl d_L_law_12 ml_L_12 mt_X6_init rfl (Nat.le_of_ble_eq_true rfl) rfl (Nat.le_of_ble_eq_true rfl) (by omega) (by omega) (by omega) ?_
  refine sp_X6_init (by rw [sk_aA, if_pos rfl]) (fun j => by rw [hI_aA, if_pos rfl]) (sn_aA _ _ _ _) (by omega) (by omega) (by omega) (fun σ2 hM hn2 hf2 => ?_)
  have hC : RepC σ2 E00 C00 σ2 := hX.rep (fun b _ _ => ⟨rfl, rfl, rfl⟩) ((FrN.a (by omega)).tr hf2) (by omega)
  refine ar_ast_2 16 rfl d_L_law_15 rfl (by intro _ h; cases h) ?_
  refine ar_iconst 17 rfl d_L_law_16 ?_
  refine ar_ist_3 18 rfl d_L_law_17 rfl (by intro _ h; cases h) ?_
  exact law_loop hgl2 hdp hQ 512 0 _ _ σ2 E00 C00 rfl (by omega) (by omega) (by omega) hC hM cb_0
end LAW
