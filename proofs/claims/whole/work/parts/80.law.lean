/-! ===== the law: its twenty-seven calls ===== -/
theorem wA1 : Cond.methodLink RL 65 mdX12_act.1 ∈ mW := mW_at 1143 (by decide +kernel) (by decide)
theorem wA2 : Cond.instanceMethod mdX12_act.1 ∈ mW := mW_at 1144 (by decide +kernel) (by decide)
theorem wA3 : Cond.selects mdX12_act.1.cls mdX12_act.1 mdX12_act.1 ∈ mW := mW_at 1145 (by decide +kernel) (by decide)
theorem wA4 : Cond.codeWith mdX12_act.1 mdX12_act.2.1 mdX12_act.2.2.1 mdX12_act.2.2.2.1 [(60, 72, 75, 171)] ∈ mW := mW_at 1146 (by decide +kernel) (by decide)
section LW
variable {X : mX} {B : Nat} {G : mG} {nx t b L : Nat} {sh : Nat → Option mSh} {I : mI} {P : mP} {xs : Nat → Int32} {Po : mPo} {nm : String}
abbrev lwL (B b t : Nat) : List (Option Value) := [some (.ref b), some (.ref (B + 0)), some (.ref (B + 35)), some (.int (nI (8 * t)))]
/-- what stands behind a call of the loop -/
abbrev lwN (X : mX) (B : Nat) (G : mG) (b t : Nat) : Prop := ∀ (nx : Nat) (sh : Nat → Option mSh) (I : mI) (P : mP), St (t + 1) nx sh I P → V X B RL cL_law G (76 + 803 * t + 803) (6548 + 4824 * t + 4824) nx sh I P 1221 (lwL B b t) []
theorem law_feed (hM : mM X B nm (some .boolean) 13 474 601024 7293034 Po G) (hS : mScp X B b L xs G) (hL : L ≤ 4096) (ht : 8 * t + 8 ≤ L) (hSt : St t nx sh I P) (s0 : sh 0 = some (.inl 10)) (next : lwN X B G b t) : V X B RL cL_law G (76 + 803 * t) (6548 + 4824 * t) nx sh I P 156 (lwL B b t) [] := by
  obtain ⟨PoC, hC, hM2⟩ := o_feed (X := X) (B := B) (a := xs (8 * t + 1)) (b := xs (8 * t + 2)) (c := xs (8 * t + 3)) (d := xs (8 * t + 4)) (e := xs (8 * t + 5)) hSt
  refine V_aln dL_law_156 rfl ?_
  refine V_aln dL_law_157 rfl ?_
  refine V_iln dL_law_158 rfl ?_
  refine V_iconst (v := 1) rfl dL_law_159 ?_
  refine V_iadd dL_law_160 ?_
  refine V_top (show nI (8 * t) + 1 = nI (8 * t + 1) from nI_add _ 1) ?_
  refine V_sld hS dL_law_161 (by omega) hL ?_
  refine V_aln dL_law_162 rfl ?_
  refine V_iln dL_law_163 rfl ?_
  refine V_iconst (v := 2) rfl dL_law_164 ?_
  refine V_iadd dL_law_165 ?_
  refine V_top (show nI (8 * t) + 2 = nI (8 * t + 2) from nI_add _ 2) ?_
  refine V_sld hS dL_law_166 (by omega) hL ?_
  refine V_aln dL_law_167 rfl ?_
  refine V_iln dL_law_168 rfl ?_
  refine V_iconst (v := 3) rfl dL_law_169 ?_
  refine V_iadd dL_law_170 ?_
  refine V_top (show nI (8 * t) + 3 = nI (8 * t + 3) from nI_add _ 3) ?_
  refine V_sld hS dL_law_171 (by omega) hL ?_
  refine V_aln dL_law_172 rfl ?_
  refine V_iln dL_law_173 rfl ?_
  refine V_iconst (v := 4) rfl dL_law_174 ?_
  refine V_iadd dL_law_175 ?_
  refine V_top (show nI (8 * t) + 4 = nI (8 * t + 4) from nI_add _ 4) ?_
  refine V_sld hS dL_law_176 (by omega) hL ?_
  refine V_aln dL_law_177 rfl ?_
  refine V_iln dL_law_178 rfl ?_
  refine V_iconst (v := 5) rfl dL_law_179 ?_
  refine V_iadd dL_law_180 ?_
  refine V_top (show nI (8 * t) + 5 = nI (8 * t + 5) from nI_add _ 5) ?_
  refine V_sld hS dL_law_181 (by omega) hL ?_
  refine V_cV5 hM cvL_13 s0 rfl hC ⟨Nat.le_of_ble_eq_true rfl, Nat.le_of_ble_eq_true rfl, by omega, by omega⟩ (Nat.le_of_ble_eq_true rfl) dL_law_182 (fun v nx1 sh1 I1 P1 h1 => ?_)
  obtain ⟨r, PoM, rfl, s35, hE, hfin⟩ := hM2 _ _ _ _ _ h1
  refine V_st (show _ = [.int r] from rfl) ?_
  refine V_aln dL_law_185 rfl ?_
  refine V_aln dL_law_186 rfl ?_
  refine V_iln dL_law_187 rfl ?_
  refine V_iconst (v := 1) rfl dL_law_188 ?_
  refine V_iadd dL_law_189 ?_
  refine V_top (show nI (8 * t) + 1 = nI (8 * t + 1) from nI_add _ 1) ?_
  refine V_sld hS dL_law_190 (by omega) hL ?_
  refine V_aln dL_law_191 rfl ?_
  refine V_iln dL_law_192 rfl ?_
  refine V_iconst (v := 2) rfl dL_law_193 ?_
  refine V_iadd dL_law_194 ?_
  refine V_top (show nI (8 * t) + 2 = nI (8 * t + 2) from nI_add _ 2) ?_
  refine V_sld hS dL_law_195 (by omega) hL ?_
  refine V_aln dL_law_196 rfl ?_
  refine V_iln dL_law_197 rfl ?_
  refine V_iconst (v := 3) rfl dL_law_198 ?_
  refine V_iadd dL_law_199 ?_
  refine V_top (show nI (8 * t) + 3 = nI (8 * t + 3) from nI_add _ 3) ?_
  refine V_sld hS dL_law_200 (by omega) hL ?_
  refine V_aln dL_law_201 rfl ?_
  refine V_iln dL_law_202 rfl ?_
  refine V_iconst (v := 4) rfl dL_law_203 ?_
  refine V_iadd dL_law_204 ?_
  refine V_top (show nI (8 * t) + 4 = nI (8 * t + 4) from nI_add _ 4) ?_
  refine V_sld hS dL_law_205 (by omega) hL ?_
  refine V_aln dL_law_206 rfl ?_
  refine V_iln dL_law_207 rfl ?_
  refine V_iconst (v := 5) rfl dL_law_208 ?_
  refine V_iadd dL_law_209 ?_
  refine V_top (show nI (8 * t) + 5 = nI (8 * t + 5) from nI_add _ 5) ?_
  refine V_sld hS dL_law_210 (by omega) hL ?_
  refine V_cV5 hM cvL_17 s35 rfl hE ⟨Nat.le_of_ble_eq_true rfl, Nat.le_of_ble_eq_true rfl, by omega, by omega⟩ (Nat.le_of_ble_eq_true rfl) dL_law_211 (fun v2 nx2 sh2 I2 P2 h2 => ?_)
  obtain ⟨rfl, hSt2⟩ := hfin _ _ _ _ _ h2
  refine V_st (show _ = [.int r, .int r] from rfl) ?_
  refine V_icmp_eq (tgt := 1221) dL_law_214 rfl (fun _ => ?_) (fun h => absurd rfl h)
  exact V.widen (by omega) (by omega) (next _ _ _ _ hSt2)
theorem law_end (hM : mM X B nm (some .boolean) 13 474 601024 7293034 Po G) (hS : mScp X B b L xs G) (hL : L ≤ 4096) (ht : 8 * t + 8 ≤ L) (hSt : St t nx sh I P) (s0 : sh 0 = some (.inl 10)) (next : lwN X B G b t) : V X B RL cL_law G (76 + 803 * t) (6548 + 4824 * t) nx sh I P 219 (lwL B b t) [] := by
  obtain ⟨PoC, hC, hM2⟩ := o_end (X := X) (B := B) (n := xs (8 * t + 1)) hSt
  refine V_aln dL_law_219 rfl ?_
  refine V_aln dL_law_220 rfl ?_
  refine V_iln dL_law_221 rfl ?_
  refine V_iconst (v := 1) rfl dL_law_222 ?_
  refine V_iadd dL_law_223 ?_
  refine V_top (show nI (8 * t) + 1 = nI (8 * t + 1) from nI_add _ 1) ?_
  refine V_sld hS dL_law_224 (by omega) hL ?_
  refine V_cV1 hM cvL_18 s0 rfl hC ⟨Nat.le_of_ble_eq_true rfl, Nat.le_of_ble_eq_true rfl, by omega, by omega⟩ (Nat.le_of_ble_eq_true rfl) dL_law_225 (fun v nx1 sh1 I1 P1 h1 => ?_)
  obtain ⟨r, PoM, rfl, s35, hE, hfin⟩ := hM2 _ _ _ _ _ h1
  refine V_st (show _ = [.int r] from rfl) ?_
  refine V_aln dL_law_228 rfl ?_
  refine V_aln dL_law_229 rfl ?_
  refine V_iln dL_law_230 rfl ?_
  refine V_iconst (v := 1) rfl dL_law_231 ?_
  refine V_iadd dL_law_232 ?_
  refine V_top (show nI (8 * t) + 1 = nI (8 * t + 1) from nI_add _ 1) ?_
  refine V_sld hS dL_law_233 (by omega) hL ?_
  refine V_cV1 hM cvL_22 s35 rfl hE ⟨Nat.le_of_ble_eq_true rfl, Nat.le_of_ble_eq_true rfl, by omega, by omega⟩ (Nat.le_of_ble_eq_true rfl) dL_law_234 (fun v2 nx2 sh2 I2 P2 h2 => ?_)
  obtain ⟨rfl, hSt2⟩ := hfin _ _ _ _ _ h2
  refine V_st (show _ = [.int r, .int r] from rfl) ?_
  refine V_icmp_eq (tgt := 1221) dL_law_237 rfl (fun _ => ?_) (fun h => absurd rfl h)
  exact V.widen (by omega) (by omega) (next _ _ _ _ hSt2)
theorem law_rank (hM : mM X B nm (some .boolean) 13 474 601024 7293034 Po G) (hS : mScp X B b L xs G) (hL : L ≤ 4096) (ht : 8 * t + 8 ≤ L) (hSt : St t nx sh I P) (s0 : sh 0 = some (.inl 10)) (next : lwN X B G b t) : V X B RL cL_law G (76 + 803 * t) (6548 + 4824 * t) nx sh I P 242 (lwL B b t) [] := by
  obtain ⟨PoC, hC, hM2⟩ := o_rank (X := X) (B := B) (p := xs (8 * t + 1)) (day := xs (8 * t + 2)) (r := xs (8 * t + 3)) hSt
  refine V_aln dL_law_242 rfl ?_
  refine V_aln dL_law_243 rfl ?_
  refine V_iln dL_law_244 rfl ?_
  refine V_iconst (v := 1) rfl dL_law_245 ?_
  refine V_iadd dL_law_246 ?_
  refine V_top (show nI (8 * t) + 1 = nI (8 * t + 1) from nI_add _ 1) ?_
  refine V_sld hS dL_law_247 (by omega) hL ?_
  refine V_aln dL_law_248 rfl ?_
  refine V_iln dL_law_249 rfl ?_
  refine V_iconst (v := 2) rfl dL_law_250 ?_
  refine V_iadd dL_law_251 ?_
  refine V_top (show nI (8 * t) + 2 = nI (8 * t + 2) from nI_add _ 2) ?_
  refine V_sld hS dL_law_252 (by omega) hL ?_
  refine V_aln dL_law_253 rfl ?_
  refine V_iln dL_law_254 rfl ?_
  refine V_iconst (v := 3) rfl dL_law_255 ?_
  refine V_iadd dL_law_256 ?_
  refine V_top (show nI (8 * t) + 3 = nI (8 * t + 3) from nI_add _ 3) ?_
  refine V_sld hS dL_law_257 (by omega) hL ?_
  refine V_cV3 hM cvL_23 s0 rfl hC ⟨Nat.le_of_ble_eq_true rfl, Nat.le_of_ble_eq_true rfl, by omega, by omega⟩ (Nat.le_of_ble_eq_true rfl) dL_law_258 (fun v nx1 sh1 I1 P1 h1 => ?_)
  obtain ⟨r, PoM, rfl, s35, hE, hfin⟩ := hM2 _ _ _ _ _ h1
  refine V_st (show _ = [.int r] from rfl) ?_
  refine V_aln dL_law_261 rfl ?_
  refine V_aln dL_law_262 rfl ?_
  refine V_iln dL_law_263 rfl ?_
  refine V_iconst (v := 1) rfl dL_law_264 ?_
  refine V_iadd dL_law_265 ?_
  refine V_top (show nI (8 * t) + 1 = nI (8 * t + 1) from nI_add _ 1) ?_
  refine V_sld hS dL_law_266 (by omega) hL ?_
  refine V_aln dL_law_267 rfl ?_
  refine V_iln dL_law_268 rfl ?_
  refine V_iconst (v := 2) rfl dL_law_269 ?_
  refine V_iadd dL_law_270 ?_
  refine V_top (show nI (8 * t) + 2 = nI (8 * t + 2) from nI_add _ 2) ?_
  refine V_sld hS dL_law_271 (by omega) hL ?_
  refine V_aln dL_law_272 rfl ?_
  refine V_iln dL_law_273 rfl ?_
  refine V_iconst (v := 3) rfl dL_law_274 ?_
  refine V_iadd dL_law_275 ?_
  refine V_top (show nI (8 * t) + 3 = nI (8 * t + 3) from nI_add _ 3) ?_
  refine V_sld hS dL_law_276 (by omega) hL ?_
  refine V_cV3 hM cvL_27 s35 rfl hE ⟨Nat.le_of_ble_eq_true rfl, Nat.le_of_ble_eq_true rfl, by omega, by omega⟩ (Nat.le_of_ble_eq_true rfl) dL_law_277 (fun v2 nx2 sh2 I2 P2 h2 => ?_)
  obtain ⟨rfl, hSt2⟩ := hfin _ _ _ _ _ h2
  refine V_st (show _ = [.int r, .int r] from rfl) ?_
  refine V_icmp_eq (tgt := 1221) dL_law_280 rfl (fun _ => ?_) (fun h => absurd rfl h)
  exact V.widen (by omega) (by omega) (next _ _ _ _ hSt2)
theorem law_feast (hM : mM X B nm (some .boolean) 13 474 601024 7293034 Po G) (hS : mScp X B b L xs G) (hL : L ≤ 4096) (ht : 8 * t + 8 ≤ L) (hSt : St t nx sh I P) (s0 : sh 0 = some (.inl 10)) (next : lwN X B G b t) : V X B RL cL_law G (76 + 803 * t) (6548 + 4824 * t) nx sh I P 285 (lwL B b t) [] := by
  obtain ⟨PoC, hC, hM2⟩ := o_feast (X := X) (B := B) (a := xs (8 * t + 1)) (b := xs (8 * t + 2)) hSt
  refine V_aln dL_law_285 rfl ?_
  refine V_aln dL_law_286 rfl ?_
  refine V_iln dL_law_287 rfl ?_
  refine V_iconst (v := 1) rfl dL_law_288 ?_
  refine V_iadd dL_law_289 ?_
  refine V_top (show nI (8 * t) + 1 = nI (8 * t + 1) from nI_add _ 1) ?_
  refine V_sld hS dL_law_290 (by omega) hL ?_
  refine V_aln dL_law_291 rfl ?_
  refine V_iln dL_law_292 rfl ?_
  refine V_iconst (v := 2) rfl dL_law_293 ?_
  refine V_iadd dL_law_294 ?_
  refine V_top (show nI (8 * t) + 2 = nI (8 * t + 2) from nI_add _ 2) ?_
  refine V_sld hS dL_law_295 (by omega) hL ?_
  refine V_cV2 hM cvL_28 s0 rfl hC ⟨Nat.le_of_ble_eq_true rfl, Nat.le_of_ble_eq_true rfl, by omega, by omega⟩ (Nat.le_of_ble_eq_true rfl) dL_law_296 (fun v nx1 sh1 I1 P1 h1 => ?_)
  obtain ⟨r, PoM, rfl, s35, hE, hfin⟩ := hM2 _ _ _ _ _ h1
  refine V_st (show _ = [.int r] from rfl) ?_
  refine V_aln dL_law_299 rfl ?_
  refine V_aln dL_law_300 rfl ?_
  refine V_iln dL_law_301 rfl ?_
  refine V_iconst (v := 1) rfl dL_law_302 ?_
  refine V_iadd dL_law_303 ?_
  refine V_top (show nI (8 * t) + 1 = nI (8 * t + 1) from nI_add _ 1) ?_
  refine V_sld hS dL_law_304 (by omega) hL ?_
  refine V_aln dL_law_305 rfl ?_
  refine V_iln dL_law_306 rfl ?_
  refine V_iconst (v := 2) rfl dL_law_307 ?_
  refine V_iadd dL_law_308 ?_
  refine V_top (show nI (8 * t) + 2 = nI (8 * t + 2) from nI_add _ 2) ?_
  refine V_sld hS dL_law_309 (by omega) hL ?_
  refine V_cV2 hM cvL_32 s35 rfl hE ⟨Nat.le_of_ble_eq_true rfl, Nat.le_of_ble_eq_true rfl, by omega, by omega⟩ (Nat.le_of_ble_eq_true rfl) dL_law_310 (fun v2 nx2 sh2 I2 P2 h2 => ?_)
  obtain ⟨rfl, hSt2⟩ := hfin _ _ _ _ _ h2
  refine V_st (show _ = [.int r, .int r] from rfl) ?_
  refine V_icmp_eq (tgt := 1221) dL_law_313 rfl (fun _ => ?_) (fun h => absurd rfl h)
  exact V.widen (by omega) (by omega) (next _ _ _ _ hSt2)
theorem law_wedding (hM : mM X B nm (some .boolean) 13 474 601024 7293034 Po G) (hS : mScp X B b L xs G) (hL : L ≤ 4096) (ht : 8 * t + 8 ≤ L) (hSt : St t nx sh I P) (s0 : sh 0 = some (.inl 10)) (next : lwN X B G b t) : V X B RL cL_law G (76 + 803 * t) (6548 + 4824 * t) nx sh I P 318 (lwL B b t) [] := by
  obtain ⟨PoC, hC, hM2⟩ := o_wedding (X := X) (B := B) (p := xs (8 * t + 1)) (a := xs (8 * t + 2)) (b := xs (8 * t + 3)) hSt
  refine V_aln dL_law_318 rfl ?_
  refine V_aln dL_law_319 rfl ?_
  refine V_iln dL_law_320 rfl ?_
  refine V_iconst (v := 1) rfl dL_law_321 ?_
  refine V_iadd dL_law_322 ?_
  refine V_top (show nI (8 * t) + 1 = nI (8 * t + 1) from nI_add _ 1) ?_
  refine V_sld hS dL_law_323 (by omega) hL ?_
  refine V_aln dL_law_324 rfl ?_
  refine V_iln dL_law_325 rfl ?_
  refine V_iconst (v := 2) rfl dL_law_326 ?_
  refine V_iadd dL_law_327 ?_
  refine V_top (show nI (8 * t) + 2 = nI (8 * t + 2) from nI_add _ 2) ?_
  refine V_sld hS dL_law_328 (by omega) hL ?_
  refine V_aln dL_law_329 rfl ?_
  refine V_iln dL_law_330 rfl ?_
  refine V_iconst (v := 3) rfl dL_law_331 ?_
  refine V_iadd dL_law_332 ?_
  refine V_top (show nI (8 * t) + 3 = nI (8 * t + 3) from nI_add _ 3) ?_
  refine V_sld hS dL_law_333 (by omega) hL ?_
  refine V_cV3 hM cvL_33 s0 rfl hC ⟨Nat.le_of_ble_eq_true rfl, Nat.le_of_ble_eq_true rfl, by omega, by omega⟩ (Nat.le_of_ble_eq_true rfl) dL_law_334 (fun v nx1 sh1 I1 P1 h1 => ?_)
  obtain ⟨r, PoM, rfl, s35, hE, hfin⟩ := hM2 _ _ _ _ _ h1
  refine V_st (show _ = [.int r] from rfl) ?_
  refine V_aln dL_law_337 rfl ?_
  refine V_aln dL_law_338 rfl ?_
  refine V_iln dL_law_339 rfl ?_
  refine V_iconst (v := 1) rfl dL_law_340 ?_
  refine V_iadd dL_law_341 ?_
  refine V_top (show nI (8 * t) + 1 = nI (8 * t + 1) from nI_add _ 1) ?_
  refine V_sld hS dL_law_342 (by omega) hL ?_
  refine V_aln dL_law_343 rfl ?_
  refine V_iln dL_law_344 rfl ?_
  refine V_iconst (v := 2) rfl dL_law_345 ?_
  refine V_iadd dL_law_346 ?_
  refine V_top (show nI (8 * t) + 2 = nI (8 * t + 2) from nI_add _ 2) ?_
  refine V_sld hS dL_law_347 (by omega) hL ?_
  refine V_aln dL_law_348 rfl ?_
  refine V_iln dL_law_349 rfl ?_
  refine V_iconst (v := 3) rfl dL_law_350 ?_
  refine V_iadd dL_law_351 ?_
  refine V_top (show nI (8 * t) + 3 = nI (8 * t + 3) from nI_add _ 3) ?_
  refine V_sld hS dL_law_352 (by omega) hL ?_
  refine V_cV3 hM cvL_36 s35 rfl hE ⟨Nat.le_of_ble_eq_true rfl, Nat.le_of_ble_eq_true rfl, by omega, by omega⟩ (Nat.le_of_ble_eq_true rfl) dL_law_353 (fun v2 nx2 sh2 I2 P2 h2 => ?_)
  obtain ⟨rfl, hSt2⟩ := hfin _ _ _ _ _ h2
  refine V_st (show _ = [.int r, .int r] from rfl) ?_
  refine V_icmp_eq (tgt := 1221) dL_law_356 rfl (fun _ => ?_) (fun h => absurd rfl h)
  exact V.widen (by omega) (by omega) (next _ _ _ _ hSt2)
theorem law_on (hM : mM X B nm (some .boolean) 13 474 601024 7293034 Po G) (hS : mScp X B b L xs G) (hL : L ≤ 4096) (ht : 8 * t + 8 ≤ L) (hSt : St t nx sh I P) (s0 : sh 0 = some (.inl 10)) (next : lwN X B G b t) : V X B RL cL_law G (76 + 803 * t) (6548 + 4824 * t) nx sh I P 361 (lwL B b t) [] := by
  obtain ⟨PoC, hC, hM2⟩ := o_on (X := X) (B := B) (p := xs (8 * t + 1)) (day := xs (8 * t + 2)) (w := xs (8 * t + 3)) hSt
  refine V_aln dL_law_361 rfl ?_
  refine V_aln dL_law_362 rfl ?_
  refine V_iln dL_law_363 rfl ?_
  refine V_iconst (v := 1) rfl dL_law_364 ?_
  refine V_iadd dL_law_365 ?_
  refine V_top (show nI (8 * t) + 1 = nI (8 * t + 1) from nI_add _ 1) ?_
  refine V_sld hS dL_law_366 (by omega) hL ?_
  refine V_aln dL_law_367 rfl ?_
  refine V_iln dL_law_368 rfl ?_
  refine V_iconst (v := 2) rfl dL_law_369 ?_
  refine V_iadd dL_law_370 ?_
  refine V_top (show nI (8 * t) + 2 = nI (8 * t + 2) from nI_add _ 2) ?_
  refine V_sld hS dL_law_371 (by omega) hL ?_
  refine V_aln dL_law_372 rfl ?_
  refine V_iln dL_law_373 rfl ?_
  refine V_iconst (v := 3) rfl dL_law_374 ?_
  refine V_iadd dL_law_375 ?_
  refine V_top (show nI (8 * t) + 3 = nI (8 * t + 3) from nI_add _ 3) ?_
  refine V_sld hS dL_law_376 (by omega) hL ?_
  refine V_cV3 hM cvL_37 s0 rfl hC ⟨Nat.le_of_ble_eq_true rfl, Nat.le_of_ble_eq_true rfl, by omega, by omega⟩ (Nat.le_of_ble_eq_true rfl) dL_law_377 (fun v nx1 sh1 I1 P1 h1 => ?_)
  obtain ⟨r, PoM, rfl, s35, hE, hfin⟩ := hM2 _ _ _ _ _ h1
  refine V_st (show _ = [.int r] from rfl) ?_
  refine V_aln dL_law_380 rfl ?_
  refine V_aln dL_law_381 rfl ?_
  refine V_iln dL_law_382 rfl ?_
  refine V_iconst (v := 1) rfl dL_law_383 ?_
  refine V_iadd dL_law_384 ?_
  refine V_top (show nI (8 * t) + 1 = nI (8 * t + 1) from nI_add _ 1) ?_
  refine V_sld hS dL_law_385 (by omega) hL ?_
  refine V_aln dL_law_386 rfl ?_
  refine V_iln dL_law_387 rfl ?_
  refine V_iconst (v := 2) rfl dL_law_388 ?_
  refine V_iadd dL_law_389 ?_
  refine V_top (show nI (8 * t) + 2 = nI (8 * t + 2) from nI_add _ 2) ?_
  refine V_sld hS dL_law_390 (by omega) hL ?_
  refine V_aln dL_law_391 rfl ?_
  refine V_iln dL_law_392 rfl ?_
  refine V_iconst (v := 3) rfl dL_law_393 ?_
  refine V_iadd dL_law_394 ?_
  refine V_top (show nI (8 * t) + 3 = nI (8 * t + 3) from nI_add _ 3) ?_
  refine V_sld hS dL_law_395 (by omega) hL ?_
  refine V_cV3 hM cvL_40 s35 rfl hE ⟨Nat.le_of_ble_eq_true rfl, Nat.le_of_ble_eq_true rfl, by omega, by omega⟩ (Nat.le_of_ble_eq_true rfl) dL_law_396 (fun v2 nx2 sh2 I2 P2 h2 => ?_)
  obtain ⟨rfl, hSt2⟩ := hfin _ _ _ _ _ h2
  refine V_st (show _ = [.int r, .int r] from rfl) ?_
  refine V_icmp_eq (tgt := 1221) dL_law_399 rfl (fun _ => ?_) (fun h => absurd rfl h)
  exact V.widen (by omega) (by omega) (next _ _ _ _ hSt2)
theorem law_gown (hM : mM X B nm (some .boolean) 13 474 601024 7293034 Po G) (hS : mScp X B b L xs G) (hL : L ≤ 4096) (ht : 8 * t + 8 ≤ L) (hSt : St t nx sh I P) (s0 : sh 0 = some (.inl 10)) (next : lwN X B G b t) : V X B RL cL_law G (76 + 803 * t) (6548 + 4824 * t) nx sh I P 404 (lwL B b t) [] := by
  obtain ⟨PoC, hC, hM2⟩ := o_gown (X := X) (B := B) (a := xs (8 * t + 1)) (b := xs (8 * t + 2)) (d := xs (8 * t + 3)) (e := xs (8 * t + 4)) (f := xs (8 * t + 5)) (s := xs (8 * t + 6)) (k := xs (8 * t + 7)) hSt
  refine V_aln dL_law_404 rfl ?_
  refine V_aln dL_law_405 rfl ?_
  refine V_iln dL_law_406 rfl ?_
  refine V_iconst (v := 1) rfl dL_law_407 ?_
  refine V_iadd dL_law_408 ?_
  refine V_top (show nI (8 * t) + 1 = nI (8 * t + 1) from nI_add _ 1) ?_
  refine V_sld hS dL_law_409 (by omega) hL ?_
  refine V_aln dL_law_410 rfl ?_
  refine V_iln dL_law_411 rfl ?_
  refine V_iconst (v := 2) rfl dL_law_412 ?_
  refine V_iadd dL_law_413 ?_
  refine V_top (show nI (8 * t) + 2 = nI (8 * t + 2) from nI_add _ 2) ?_
  refine V_sld hS dL_law_414 (by omega) hL ?_
  refine V_aln dL_law_415 rfl ?_
  refine V_iln dL_law_416 rfl ?_
  refine V_iconst (v := 3) rfl dL_law_417 ?_
  refine V_iadd dL_law_418 ?_
  refine V_top (show nI (8 * t) + 3 = nI (8 * t + 3) from nI_add _ 3) ?_
  refine V_sld hS dL_law_419 (by omega) hL ?_
  refine V_aln dL_law_420 rfl ?_
  refine V_iln dL_law_421 rfl ?_
  refine V_iconst (v := 4) rfl dL_law_422 ?_
  refine V_iadd dL_law_423 ?_
  refine V_top (show nI (8 * t) + 4 = nI (8 * t + 4) from nI_add _ 4) ?_
  refine V_sld hS dL_law_424 (by omega) hL ?_
  refine V_aln dL_law_425 rfl ?_
  refine V_iln dL_law_426 rfl ?_
  refine V_iconst (v := 5) rfl dL_law_427 ?_
  refine V_iadd dL_law_428 ?_
  refine V_top (show nI (8 * t) + 5 = nI (8 * t + 5) from nI_add _ 5) ?_
  refine V_sld hS dL_law_429 (by omega) hL ?_
  refine V_aln dL_law_430 rfl ?_
  refine V_iln dL_law_431 rfl ?_
  refine V_bipush (v := 6) rfl dL_law_432 ?_
  refine V_iadd dL_law_434 ?_
  refine V_top (show nI (8 * t) + 6 = nI (8 * t + 6) from nI_add _ 6) ?_
  refine V_sld hS dL_law_435 (by omega) hL ?_
  refine V_aln dL_law_436 rfl ?_
  refine V_iln dL_law_437 rfl ?_
  refine V_bipush (v := 7) rfl dL_law_438 ?_
  refine V_iadd dL_law_440 ?_
  refine V_top (show nI (8 * t) + 7 = nI (8 * t + 7) from nI_add _ 7) ?_
  refine V_sld hS dL_law_441 (by omega) hL ?_
  refine V_cV7 hM cvL_41 s0 rfl hC ⟨Nat.le_of_ble_eq_true rfl, Nat.le_of_ble_eq_true rfl, by omega, by omega⟩ (Nat.le_of_ble_eq_true rfl) dL_law_442 (fun v nx1 sh1 I1 P1 h1 => ?_)
  obtain ⟨r, PoM, rfl, s35, hE, hfin⟩ := hM2 _ _ _ _ _ h1
  refine V_st (show _ = [.int r] from rfl) ?_
  refine V_aln dL_law_445 rfl ?_
  refine V_aln dL_law_446 rfl ?_
  refine V_iln dL_law_447 rfl ?_
  refine V_iconst (v := 1) rfl dL_law_448 ?_
  refine V_iadd dL_law_449 ?_
  refine V_top (show nI (8 * t) + 1 = nI (8 * t + 1) from nI_add _ 1) ?_
  refine V_sld hS dL_law_450 (by omega) hL ?_
  refine V_aln dL_law_451 rfl ?_
  refine V_iln dL_law_452 rfl ?_
  refine V_iconst (v := 2) rfl dL_law_453 ?_
  refine V_iadd dL_law_454 ?_
  refine V_top (show nI (8 * t) + 2 = nI (8 * t + 2) from nI_add _ 2) ?_
  refine V_sld hS dL_law_455 (by omega) hL ?_
  refine V_aln dL_law_456 rfl ?_
  refine V_iln dL_law_457 rfl ?_
  refine V_iconst (v := 3) rfl dL_law_458 ?_
  refine V_iadd dL_law_459 ?_
  refine V_top (show nI (8 * t) + 3 = nI (8 * t + 3) from nI_add _ 3) ?_
  refine V_sld hS dL_law_460 (by omega) hL ?_
  refine V_aln dL_law_461 rfl ?_
  refine V_iln dL_law_462 rfl ?_
  refine V_iconst (v := 4) rfl dL_law_463 ?_
  refine V_iadd dL_law_464 ?_
  refine V_top (show nI (8 * t) + 4 = nI (8 * t + 4) from nI_add _ 4) ?_
  refine V_sld hS dL_law_465 (by omega) hL ?_
  refine V_aln dL_law_466 rfl ?_
  refine V_iln dL_law_467 rfl ?_
  refine V_iconst (v := 5) rfl dL_law_468 ?_
  refine V_iadd dL_law_469 ?_
  refine V_top (show nI (8 * t) + 5 = nI (8 * t + 5) from nI_add _ 5) ?_
  refine V_sld hS dL_law_470 (by omega) hL ?_
  refine V_aln dL_law_471 rfl ?_
  refine V_iln dL_law_472 rfl ?_
  refine V_bipush (v := 6) rfl dL_law_473 ?_
  refine V_iadd dL_law_475 ?_
  refine V_top (show nI (8 * t) + 6 = nI (8 * t + 6) from nI_add _ 6) ?_
  refine V_sld hS dL_law_476 (by omega) hL ?_
  refine V_aln dL_law_477 rfl ?_
  refine V_iln dL_law_478 rfl ?_
  refine V_bipush (v := 7) rfl dL_law_479 ?_
  refine V_iadd dL_law_481 ?_
  refine V_top (show nI (8 * t) + 7 = nI (8 * t + 7) from nI_add _ 7) ?_
  refine V_sld hS dL_law_482 (by omega) hL ?_
  refine V_cV7 hM cvL_45 s35 rfl hE ⟨Nat.le_of_ble_eq_true rfl, Nat.le_of_ble_eq_true rfl, by omega, by omega⟩ (Nat.le_of_ble_eq_true rfl) dL_law_483 (fun v2 nx2 sh2 I2 P2 h2 => ?_)
  obtain ⟨rfl, hSt2⟩ := hfin _ _ _ _ _ h2
  refine V_st (show _ = [.int r, .int r] from rfl) ?_
  refine V_icmp_eq (tgt := 1221) dL_law_486 rfl (fun _ => ?_) (fun h => absurd rfl h)
  exact V.widen (by omega) (by omega) (next _ _ _ _ hSt2)
theorem law_seal (hM : mM X B nm (some .boolean) 13 474 601024 7293034 Po G) (hS : mScp X B b L xs G) (hL : L ≤ 4096) (ht : 8 * t + 8 ≤ L) (hSt : St t nx sh I P) (s0 : sh 0 = some (.inl 10)) (next : lwN X B G b t) : V X B RL cL_law G (76 + 803 * t) (6548 + 4824 * t) nx sh I P 491 (lwL B b t) [] := by
  obtain ⟨PoC, hC, hM2⟩ := o_seal (X := X) (B := B) (g := xs (8 * t + 1)) (day := xs (8 * t + 2)) hSt
  refine V_aln dL_law_491 rfl ?_
  refine V_aln dL_law_492 rfl ?_
  refine V_iln dL_law_493 rfl ?_
  refine V_iconst (v := 1) rfl dL_law_494 ?_
  refine V_iadd dL_law_495 ?_
  refine V_top (show nI (8 * t) + 1 = nI (8 * t + 1) from nI_add _ 1) ?_
  refine V_sld hS dL_law_496 (by omega) hL ?_
  refine V_aln dL_law_497 rfl ?_
  refine V_iln dL_law_498 rfl ?_
  refine V_iconst (v := 2) rfl dL_law_499 ?_
  refine V_iadd dL_law_500 ?_
  refine V_top (show nI (8 * t) + 2 = nI (8 * t + 2) from nI_add _ 2) ?_
  refine V_sld hS dL_law_501 (by omega) hL ?_
  refine V_cV2 hM cvL_46 s0 rfl hC ⟨Nat.le_of_ble_eq_true rfl, Nat.le_of_ble_eq_true rfl, by omega, by omega⟩ (Nat.le_of_ble_eq_true rfl) dL_law_502 (fun v nx1 sh1 I1 P1 h1 => ?_)
  obtain ⟨r, PoM, rfl, s35, hE, hfin⟩ := hM2 _ _ _ _ _ h1
  refine V_st (show _ = [.int r] from rfl) ?_
  refine V_aln dL_law_505 rfl ?_
  refine V_aln dL_law_506 rfl ?_
  refine V_iln dL_law_507 rfl ?_
  refine V_iconst (v := 1) rfl dL_law_508 ?_
  refine V_iadd dL_law_509 ?_
  refine V_top (show nI (8 * t) + 1 = nI (8 * t + 1) from nI_add _ 1) ?_
  refine V_sld hS dL_law_510 (by omega) hL ?_
  refine V_aln dL_law_511 rfl ?_
  refine V_iln dL_law_512 rfl ?_
  refine V_iconst (v := 2) rfl dL_law_513 ?_
  refine V_iadd dL_law_514 ?_
  refine V_top (show nI (8 * t) + 2 = nI (8 * t + 2) from nI_add _ 2) ?_
  refine V_sld hS dL_law_515 (by omega) hL ?_
  refine V_cV2 hM cvL_49 s35 rfl hE ⟨Nat.le_of_ble_eq_true rfl, Nat.le_of_ble_eq_true rfl, by omega, by omega⟩ (Nat.le_of_ble_eq_true rfl) dL_law_516 (fun v2 nx2 sh2 I2 P2 h2 => ?_)
  obtain ⟨rfl, hSt2⟩ := hfin _ _ _ _ _ h2
  refine V_st (show _ = [.int r, .int r] from rfl) ?_
  refine V_icmp_eq (tgt := 1221) dL_law_519 rfl (fun _ => ?_) (fun h => absurd rfl h)
  exact V.widen (by omega) (by omega) (next _ _ _ _ hSt2)
theorem law_about (hM : mM X B nm (some .boolean) 13 474 601024 7293034 Po G) (hS : mScp X B b L xs G) (hL : L ≤ 4096) (ht : 8 * t + 8 ≤ L) (hSt : St t nx sh I P) (s0 : sh 0 = some (.inl 10)) (next : lwN X B G b t) : V X B RL cL_law G (76 + 803 * t) (6548 + 4824 * t) nx sh I P 524 (lwL B b t) [] := by
  obtain ⟨PoC, hC, hM2⟩ := o_about (X := X) (B := B) (g := xs (8 * t + 1)) (w := xs (8 * t + 2)) hSt
  refine V_aln dL_law_524 rfl ?_
  refine V_aln dL_law_525 rfl ?_
  refine V_iln dL_law_526 rfl ?_
  refine V_iconst (v := 1) rfl dL_law_527 ?_
  refine V_iadd dL_law_528 ?_
  refine V_top (show nI (8 * t) + 1 = nI (8 * t + 1) from nI_add _ 1) ?_
  refine V_sld hS dL_law_529 (by omega) hL ?_
  refine V_aln dL_law_530 rfl ?_
  refine V_iln dL_law_531 rfl ?_
  refine V_iconst (v := 2) rfl dL_law_532 ?_
  refine V_iadd dL_law_533 ?_
  refine V_top (show nI (8 * t) + 2 = nI (8 * t + 2) from nI_add _ 2) ?_
  refine V_sld hS dL_law_534 (by omega) hL ?_
  refine V_cV2 hM cvL_50 s0 rfl hC ⟨Nat.le_of_ble_eq_true rfl, Nat.le_of_ble_eq_true rfl, by omega, by omega⟩ (Nat.le_of_ble_eq_true rfl) dL_law_535 (fun v nx1 sh1 I1 P1 h1 => ?_)
  obtain ⟨r, PoM, rfl, s35, hE, hfin⟩ := hM2 _ _ _ _ _ h1
  refine V_st (show _ = [.int r] from rfl) ?_
  refine V_aln dL_law_538 rfl ?_
  refine V_aln dL_law_539 rfl ?_
  refine V_iln dL_law_540 rfl ?_
  refine V_iconst (v := 1) rfl dL_law_541 ?_
  refine V_iadd dL_law_542 ?_
  refine V_top (show nI (8 * t) + 1 = nI (8 * t + 1) from nI_add _ 1) ?_
  refine V_sld hS dL_law_543 (by omega) hL ?_
  refine V_aln dL_law_544 rfl ?_
  refine V_iln dL_law_545 rfl ?_
  refine V_iconst (v := 2) rfl dL_law_546 ?_
  refine V_iadd dL_law_547 ?_
  refine V_top (show nI (8 * t) + 2 = nI (8 * t + 2) from nI_add _ 2) ?_
  refine V_sld hS dL_law_548 (by omega) hL ?_
  refine V_cV2 hM cvL_53 s35 rfl hE ⟨Nat.le_of_ble_eq_true rfl, Nat.le_of_ble_eq_true rfl, by omega, by omega⟩ (Nat.le_of_ble_eq_true rfl) dL_law_549 (fun v2 nx2 sh2 I2 P2 h2 => ?_)
  obtain ⟨rfl, hSt2⟩ := hfin _ _ _ _ _ h2
  refine V_st (show _ = [.int r, .int r] from rfl) ?_
  refine V_icmp_eq (tgt := 1221) dL_law_552 rfl (fun _ => ?_) (fun h => absurd rfl h)
  exact V.widen (by omega) (by omega) (next _ _ _ _ hSt2)
theorem law_like (hM : mM X B nm (some .boolean) 13 474 601024 7293034 Po G) (hS : mScp X B b L xs G) (hL : L ≤ 4096) (ht : 8 * t + 8 ≤ L) (hSt : St t nx sh I P) (s0 : sh 0 = some (.inl 10)) (next : lwN X B G b t) : V X B RL cL_law G (76 + 803 * t) (6548 + 4824 * t) nx sh I P 557 (lwL B b t) [] := by
  obtain ⟨PoC, hC, hM2⟩ := o_like (X := X) (B := B) (s := xs (8 * t + 1)) (t := xs (8 * t + 2)) (day := xs (8 * t + 3)) hSt
  refine V_aln dL_law_557 rfl ?_
  refine V_aln dL_law_558 rfl ?_
  refine V_iln dL_law_559 rfl ?_
  refine V_iconst (v := 1) rfl dL_law_560 ?_
  refine V_iadd dL_law_561 ?_
  refine V_top (show nI (8 * t) + 1 = nI (8 * t + 1) from nI_add _ 1) ?_
  refine V_sld hS dL_law_562 (by omega) hL ?_
  refine V_aln dL_law_563 rfl ?_
  refine V_iln dL_law_564 rfl ?_
  refine V_iconst (v := 2) rfl dL_law_565 ?_
  refine V_iadd dL_law_566 ?_
  refine V_top (show nI (8 * t) + 2 = nI (8 * t + 2) from nI_add _ 2) ?_
  refine V_sld hS dL_law_567 (by omega) hL ?_
  refine V_aln dL_law_568 rfl ?_
  refine V_iln dL_law_569 rfl ?_
  refine V_iconst (v := 3) rfl dL_law_570 ?_
  refine V_iadd dL_law_571 ?_
  refine V_top (show nI (8 * t) + 3 = nI (8 * t + 3) from nI_add _ 3) ?_
  refine V_sld hS dL_law_572 (by omega) hL ?_
  refine V_cV3 hM cvL_54 s0 rfl hC ⟨Nat.le_of_ble_eq_true rfl, Nat.le_of_ble_eq_true rfl, by omega, by omega⟩ (Nat.le_of_ble_eq_true rfl) dL_law_573 (fun v nx1 sh1 I1 P1 h1 => ?_)
  obtain ⟨r, PoM, rfl, s35, hE, hfin⟩ := hM2 _ _ _ _ _ h1
  refine V_st (show _ = [.int r] from rfl) ?_
  refine V_aln dL_law_576 rfl ?_
  refine V_aln dL_law_577 rfl ?_
  refine V_iln dL_law_578 rfl ?_
  refine V_iconst (v := 1) rfl dL_law_579 ?_
  refine V_iadd dL_law_580 ?_
  refine V_top (show nI (8 * t) + 1 = nI (8 * t + 1) from nI_add _ 1) ?_
  refine V_sld hS dL_law_581 (by omega) hL ?_
  refine V_aln dL_law_582 rfl ?_
  refine V_iln dL_law_583 rfl ?_
  refine V_iconst (v := 2) rfl dL_law_584 ?_
  refine V_iadd dL_law_585 ?_
  refine V_top (show nI (8 * t) + 2 = nI (8 * t + 2) from nI_add _ 2) ?_
  refine V_sld hS dL_law_586 (by omega) hL ?_
  refine V_aln dL_law_587 rfl ?_
  refine V_iln dL_law_588 rfl ?_
  refine V_iconst (v := 3) rfl dL_law_589 ?_
  refine V_iadd dL_law_590 ?_
  refine V_top (show nI (8 * t) + 3 = nI (8 * t + 3) from nI_add _ 3) ?_
  refine V_sld hS dL_law_591 (by omega) hL ?_
  refine V_cV3 hM cvL_57 s35 rfl hE ⟨Nat.le_of_ble_eq_true rfl, Nat.le_of_ble_eq_true rfl, by omega, by omega⟩ (Nat.le_of_ble_eq_true rfl) dL_law_592 (fun v2 nx2 sh2 I2 P2 h2 => ?_)
  obtain ⟨rfl, hSt2⟩ := hfin _ _ _ _ _ h2
  refine V_st (show _ = [.int r, .int r] from rfl) ?_
  refine V_icmp_eq (tgt := 1221) dL_law_595 rfl (fun _ => ?_) (fun h => absurd rfl h)
  exact V.widen (by omega) (by omega) (next _ _ _ _ hSt2)
theorem law_counts (hM : mM X B nm (some .boolean) 13 474 601024 7293034 Po G) (hS : mScp X B b L xs G) (hL : L ≤ 4096) (ht : 8 * t + 8 ≤ L) (hSt : St t nx sh I P) (s0 : sh 0 = some (.inl 10)) (next : lwN X B G b t) : V X B RL cL_law G (76 + 803 * t) (6548 + 4824 * t) nx sh I P 600 (lwL B b t) [] := by
  obtain ⟨PoC, hC, hM2⟩ := o_counts (X := X) (B := B) (s := xs (8 * t + 1)) (day := xs (8 * t + 2)) hSt
  refine V_aln dL_law_600 rfl ?_
  refine V_aln dL_law_601 rfl ?_
  refine V_iln dL_law_602 rfl ?_
  refine V_iconst (v := 1) rfl dL_law_603 ?_
  refine V_iadd dL_law_604 ?_
  refine V_top (show nI (8 * t) + 1 = nI (8 * t + 1) from nI_add _ 1) ?_
  refine V_sld hS dL_law_605 (by omega) hL ?_
  refine V_aln dL_law_606 rfl ?_
  refine V_iln dL_law_607 rfl ?_
  refine V_iconst (v := 2) rfl dL_law_608 ?_
  refine V_iadd dL_law_609 ?_
  refine V_top (show nI (8 * t) + 2 = nI (8 * t + 2) from nI_add _ 2) ?_
  refine V_sld hS dL_law_610 (by omega) hL ?_
  refine V_cV2 hM cvL_58 s0 rfl hC ⟨Nat.le_of_ble_eq_true rfl, Nat.le_of_ble_eq_true rfl, by omega, by omega⟩ (Nat.le_of_ble_eq_true rfl) dL_law_611 (fun v nx1 sh1 I1 P1 h1 => ?_)
  obtain ⟨r, PoM, rfl, s35, hE, hfin⟩ := hM2 _ _ _ _ _ h1
  refine V_st (show _ = [.int r] from rfl) ?_
  refine V_aln dL_law_614 rfl ?_
  refine V_aln dL_law_615 rfl ?_
  refine V_iln dL_law_616 rfl ?_
  refine V_iconst (v := 1) rfl dL_law_617 ?_
  refine V_iadd dL_law_618 ?_
  refine V_top (show nI (8 * t) + 1 = nI (8 * t + 1) from nI_add _ 1) ?_
  refine V_sld hS dL_law_619 (by omega) hL ?_
  refine V_aln dL_law_620 rfl ?_
  refine V_iln dL_law_621 rfl ?_
  refine V_iconst (v := 2) rfl dL_law_622 ?_
  refine V_iadd dL_law_623 ?_
  refine V_top (show nI (8 * t) + 2 = nI (8 * t + 2) from nI_add _ 2) ?_
  refine V_sld hS dL_law_624 (by omega) hL ?_
  refine V_cV2 hM cvL_61 s35 rfl hE ⟨Nat.le_of_ble_eq_true rfl, Nat.le_of_ble_eq_true rfl, by omega, by omega⟩ (Nat.le_of_ble_eq_true rfl) dL_law_625 (fun v2 nx2 sh2 I2 P2 h2 => ?_)
  obtain ⟨rfl, hSt2⟩ := hfin _ _ _ _ _ h2
  refine V_st (show _ = [.int r, .int r] from rfl) ?_
  refine V_icmp_eq (tgt := 1221) dL_law_628 rfl (fun _ => ?_) (fun h => absurd rfl h)
  exact V.widen (by omega) (by omega) (next _ _ _ _ hSt2)
theorem law_act (hM : mM X B nm (some .boolean) 13 474 601024 7293034 Po G) (hS : mScp X B b L xs G) (hL : L ≤ 4096) (ht : 8 * t + 8 ≤ L) (hSt : St t nx sh I P) (s0 : sh 0 = some (.inl 10)) (next : lwN X B G b t) : V X B RL cL_law G (76 + 803 * t) (6548 + 4824 * t) nx sh I P 633 (lwL B b t) [] := by
  obtain ⟨PoC, hC, hM2⟩ := o_act (X := X) (B := B) (day := xs (8 * t + 1)) hSt
  refine V_aln dL_law_633 rfl ?_
  refine V_aln dL_law_634 rfl ?_
  refine V_iln dL_law_635 rfl ?_
  refine V_iconst (v := 1) rfl dL_law_636 ?_
  refine V_iadd dL_law_637 ?_
  refine V_top (show nI (8 * t) + 1 = nI (8 * t + 1) from nI_add _ 1) ?_
  refine V_sld hS dL_law_638 (by omega) hL ?_
  refine V_cV1 hM cvL_62 s0 rfl hC ⟨Nat.le_of_ble_eq_true rfl, Nat.le_of_ble_eq_true rfl, by omega, by omega⟩ (Nat.le_of_ble_eq_true rfl) dL_law_639 (fun v nx1 sh1 I1 P1 h1 => ?_)
  obtain ⟨r, PoM, rfl, s35, hE, hfin⟩ := hM2 _ _ _ _ _ h1
  refine V_st (show _ = [.int r] from rfl) ?_
  refine V_aln dL_law_642 rfl ?_
  refine V_aln dL_law_643 rfl ?_
  refine V_iln dL_law_644 rfl ?_
  refine V_iconst (v := 1) rfl dL_law_645 ?_
  refine V_iadd dL_law_646 ?_
  refine V_top (show nI (8 * t) + 1 = nI (8 * t + 1) from nI_add _ 1) ?_
  refine V_sld hS dL_law_647 (by omega) hL ?_
  refine V_callW (d := mdX12_act) (n := 1) (rest := [.int r]) hM wA1 wA2 wA3 wA4 wiRX12 ⟨by decide, by decide, by decide +kernel⟩ s35 rfl hE rfl ⟨Nat.le_of_ble_eq_true rfl, Nat.le_of_ble_eq_true rfl, by omega, by omega⟩ (Nat.le_of_ble_eq_true rfl) dL_law_648 rfl (fun v2 nx2 sh2 I2 P2 h2 => ?_)
  obtain ⟨rfl, hSt2⟩ := hfin _ _ _ _ _ h2
  refine V_st (show _ = [.int r, .int r] from rfl) ?_
  refine V_icmp_eq (tgt := 1221) dL_law_651 rfl (fun _ => ?_) (fun h => absurd rfl h)
  exact V.widen (by omega) (by omega) (next _ _ _ _ hSt2)
theorem law_fault (hM : mM X B nm (some .boolean) 13 474 601024 7293034 Po G) (hS : mScp X B b L xs G) (hL : L ≤ 4096) (ht : 8 * t + 8 ≤ L) (hSt : St t nx sh I P) (s0 : sh 0 = some (.inl 10)) (next : lwN X B G b t) : V X B RL cL_law G (76 + 803 * t) (6548 + 4824 * t) nx sh I P 656 (lwL B b t) [] := by
  obtain ⟨PoC, hC, hM2⟩ := o_fault (X := X) (B := B) (w := xs (8 * t + 1)) hSt
  refine V_aln dL_law_656 rfl ?_
  refine V_aln dL_law_657 rfl ?_
  refine V_iln dL_law_658 rfl ?_
  refine V_iconst (v := 1) rfl dL_law_659 ?_
  refine V_iadd dL_law_660 ?_
  refine V_top (show nI (8 * t) + 1 = nI (8 * t + 1) from nI_add _ 1) ?_
  refine V_sld hS dL_law_661 (by omega) hL ?_
  refine V_cV1 hM cvL_66 s0 rfl hC ⟨Nat.le_of_ble_eq_true rfl, Nat.le_of_ble_eq_true rfl, by omega, by omega⟩ (Nat.le_of_ble_eq_true rfl) dL_law_662 (fun v nx1 sh1 I1 P1 h1 => ?_)
  obtain ⟨r, PoM, rfl, s35, hE, hfin⟩ := hM2 _ _ _ _ _ h1
  refine V_st (show _ = [.int r] from rfl) ?_
  refine V_aln dL_law_665 rfl ?_
  refine V_aln dL_law_666 rfl ?_
  refine V_iln dL_law_667 rfl ?_
  refine V_iconst (v := 1) rfl dL_law_668 ?_
  refine V_iadd dL_law_669 ?_
  refine V_top (show nI (8 * t) + 1 = nI (8 * t + 1) from nI_add _ 1) ?_
  refine V_sld hS dL_law_670 (by omega) hL ?_
  refine V_cV1 hM cvL_69 s35 rfl hE ⟨Nat.le_of_ble_eq_true rfl, Nat.le_of_ble_eq_true rfl, by omega, by omega⟩ (Nat.le_of_ble_eq_true rfl) dL_law_671 (fun v2 nx2 sh2 I2 P2 h2 => ?_)
  obtain ⟨rfl, hSt2⟩ := hfin _ _ _ _ _ h2
  refine V_st (show _ = [.int r, .int r] from rfl) ?_
  refine V_icmp_eq (tgt := 1221) dL_law_674 rfl (fun _ => ?_) (fun h => absurd rfl h)
  exact V.widen (by omega) (by omega) (next _ _ _ _ hSt2)
theorem law_told (hM : mM X B nm (some .boolean) 13 474 601024 7293034 Po G) (hS : mScp X B b L xs G) (hL : L ≤ 4096) (ht : 8 * t + 8 ≤ L) (hSt : St t nx sh I P) (s0 : sh 0 = some (.inl 10)) (next : lwN X B G b t) : V X B RL cL_law G (76 + 803 * t) (6548 + 4824 * t) nx sh I P 679 (lwL B b t) [] := by
  obtain ⟨PoC, hC, hM2⟩ := o_told (X := X) (B := B) (a := xs (8 * t + 1)) (w := xs (8 * t + 2)) hSt
  refine V_aln dL_law_679 rfl ?_
  refine V_aln dL_law_680 rfl ?_
  refine V_iln dL_law_681 rfl ?_
  refine V_iconst (v := 1) rfl dL_law_682 ?_
  refine V_iadd dL_law_683 ?_
  refine V_top (show nI (8 * t) + 1 = nI (8 * t + 1) from nI_add _ 1) ?_
  refine V_sld hS dL_law_684 (by omega) hL ?_
  refine V_aln dL_law_685 rfl ?_
  refine V_iln dL_law_686 rfl ?_
  refine V_iconst (v := 2) rfl dL_law_687 ?_
  refine V_iadd dL_law_688 ?_
  refine V_top (show nI (8 * t) + 2 = nI (8 * t + 2) from nI_add _ 2) ?_
  refine V_sld hS dL_law_689 (by omega) hL ?_
  refine V_cV2 hM cvL_70 s0 rfl hC ⟨Nat.le_of_ble_eq_true rfl, Nat.le_of_ble_eq_true rfl, by omega, by omega⟩ (Nat.le_of_ble_eq_true rfl) dL_law_690 (fun v nx1 sh1 I1 P1 h1 => ?_)
  obtain ⟨r, PoM, rfl, s35, hE, hfin⟩ := hM2 _ _ _ _ _ h1
  refine V_st (show _ = [.int r] from rfl) ?_
  refine V_aln dL_law_693 rfl ?_
  refine V_aln dL_law_694 rfl ?_
  refine V_iln dL_law_695 rfl ?_
  refine V_iconst (v := 1) rfl dL_law_696 ?_
  refine V_iadd dL_law_697 ?_
  refine V_top (show nI (8 * t) + 1 = nI (8 * t + 1) from nI_add _ 1) ?_
  refine V_sld hS dL_law_698 (by omega) hL ?_
  refine V_aln dL_law_699 rfl ?_
  refine V_iln dL_law_700 rfl ?_
  refine V_iconst (v := 2) rfl dL_law_701 ?_
  refine V_iadd dL_law_702 ?_
  refine V_top (show nI (8 * t) + 2 = nI (8 * t + 2) from nI_add _ 2) ?_
  refine V_sld hS dL_law_703 (by omega) hL ?_
  refine V_cV2 hM cvL_73 s35 rfl hE ⟨Nat.le_of_ble_eq_true rfl, Nat.le_of_ble_eq_true rfl, by omega, by omega⟩ (Nat.le_of_ble_eq_true rfl) dL_law_704 (fun v2 nx2 sh2 I2 P2 h2 => ?_)
  obtain ⟨rfl, hSt2⟩ := hfin _ _ _ _ _ h2
  refine V_st (show _ = [.int r, .int r] from rfl) ?_
  refine V_icmp_eq (tgt := 1221) dL_law_707 rfl (fun _ => ?_) (fun h => absurd rfl h)
  exact V.widen (by omega) (by omega) (next _ _ _ _ hSt2)
theorem law_rule (hM : mM X B nm (some .boolean) 13 474 601024 7293034 Po G) (hS : mScp X B b L xs G) (hL : L ≤ 4096) (ht : 8 * t + 8 ≤ L) (hSt : St t nx sh I P) (s0 : sh 0 = some (.inl 10)) (next : lwN X B G b t) : V X B RL cL_law G (76 + 803 * t) (6548 + 4824 * t) nx sh I P 712 (lwL B b t) [] := by
  obtain ⟨PoC, hC, hM2⟩ := o_rule (X := X) (B := B) (a := xs (8 * t + 1)) (r := xs (8 * t + 2)) (w := xs (8 * t + 3)) hSt
  refine V_aln dL_law_712 rfl ?_
  refine V_aln dL_law_713 rfl ?_
  refine V_iln dL_law_714 rfl ?_
  refine V_iconst (v := 1) rfl dL_law_715 ?_
  refine V_iadd dL_law_716 ?_
  refine V_top (show nI (8 * t) + 1 = nI (8 * t + 1) from nI_add _ 1) ?_
  refine V_sld hS dL_law_717 (by omega) hL ?_
  refine V_aln dL_law_718 rfl ?_
  refine V_iln dL_law_719 rfl ?_
  refine V_iconst (v := 2) rfl dL_law_720 ?_
  refine V_iadd dL_law_721 ?_
  refine V_top (show nI (8 * t) + 2 = nI (8 * t + 2) from nI_add _ 2) ?_
  refine V_sld hS dL_law_722 (by omega) hL ?_
  refine V_aln dL_law_723 rfl ?_
  refine V_iln dL_law_724 rfl ?_
  refine V_iconst (v := 3) rfl dL_law_725 ?_
  refine V_iadd dL_law_726 ?_
  refine V_top (show nI (8 * t) + 3 = nI (8 * t + 3) from nI_add _ 3) ?_
  refine V_sld hS dL_law_727 (by omega) hL ?_
  refine V_cV3 hM cvL_74 s0 rfl hC ⟨Nat.le_of_ble_eq_true rfl, Nat.le_of_ble_eq_true rfl, by omega, by omega⟩ (Nat.le_of_ble_eq_true rfl) dL_law_728 (fun v nx1 sh1 I1 P1 h1 => ?_)
  obtain ⟨r, PoM, rfl, s35, hE, hfin⟩ := hM2 _ _ _ _ _ h1
  refine V_st (show _ = [.int r] from rfl) ?_
  refine V_aln dL_law_731 rfl ?_
  refine V_aln dL_law_732 rfl ?_
  refine V_iln dL_law_733 rfl ?_
  refine V_iconst (v := 1) rfl dL_law_734 ?_
  refine V_iadd dL_law_735 ?_
  refine V_top (show nI (8 * t) + 1 = nI (8 * t + 1) from nI_add _ 1) ?_
  refine V_sld hS dL_law_736 (by omega) hL ?_
  refine V_aln dL_law_737 rfl ?_
  refine V_iln dL_law_738 rfl ?_
  refine V_iconst (v := 2) rfl dL_law_739 ?_
  refine V_iadd dL_law_740 ?_
  refine V_top (show nI (8 * t) + 2 = nI (8 * t + 2) from nI_add _ 2) ?_
  refine V_sld hS dL_law_741 (by omega) hL ?_
  refine V_aln dL_law_742 rfl ?_
  refine V_iln dL_law_743 rfl ?_
  refine V_iconst (v := 3) rfl dL_law_744 ?_
  refine V_iadd dL_law_745 ?_
  refine V_top (show nI (8 * t) + 3 = nI (8 * t + 3) from nI_add _ 3) ?_
  refine V_sld hS dL_law_746 (by omega) hL ?_
  refine V_cV3 hM cvL_77 s35 rfl hE ⟨Nat.le_of_ble_eq_true rfl, Nat.le_of_ble_eq_true rfl, by omega, by omega⟩ (Nat.le_of_ble_eq_true rfl) dL_law_747 (fun v2 nx2 sh2 I2 P2 h2 => ?_)
  obtain ⟨rfl, hSt2⟩ := hfin _ _ _ _ _ h2
  refine V_st (show _ = [.int r, .int r] from rfl) ?_
  refine V_icmp_eq (tgt := 1221) dL_law_750 rfl (fun _ => ?_) (fun h => absurd rfl h)
  exact V.widen (by omega) (by omega) (next _ _ _ _ hSt2)
theorem law_force (hM : mM X B nm (some .boolean) 13 474 601024 7293034 Po G) (hS : mScp X B b L xs G) (hL : L ≤ 4096) (ht : 8 * t + 8 ≤ L) (hSt : St t nx sh I P) (s0 : sh 0 = some (.inl 10)) (next : lwN X B G b t) : V X B RL cL_law G (76 + 803 * t) (6548 + 4824 * t) nx sh I P 755 (lwL B b t) [] := by
  obtain ⟨PoC, hC, hM2⟩ := o_force (X := X) (B := B) (day := xs (8 * t + 1)) hSt
  refine V_aln dL_law_755 rfl ?_
  refine V_aln dL_law_756 rfl ?_
  refine V_iln dL_law_757 rfl ?_
  refine V_iconst (v := 1) rfl dL_law_758 ?_
  refine V_iadd dL_law_759 ?_
  refine V_top (show nI (8 * t) + 1 = nI (8 * t + 1) from nI_add _ 1) ?_
  refine V_sld hS dL_law_760 (by omega) hL ?_
  refine V_cV1 hM cvL_78 s0 rfl hC ⟨Nat.le_of_ble_eq_true rfl, Nat.le_of_ble_eq_true rfl, by omega, by omega⟩ (Nat.le_of_ble_eq_true rfl) dL_law_761 (fun v nx1 sh1 I1 P1 h1 => ?_)
  obtain ⟨r, PoM, rfl, s35, hE, hfin⟩ := hM2 _ _ _ _ _ h1
  refine V_st (show _ = [.int r] from rfl) ?_
  refine V_aln dL_law_764 rfl ?_
  refine V_aln dL_law_765 rfl ?_
  refine V_iln dL_law_766 rfl ?_
  refine V_iconst (v := 1) rfl dL_law_767 ?_
  refine V_iadd dL_law_768 ?_
  refine V_top (show nI (8 * t) + 1 = nI (8 * t + 1) from nI_add _ 1) ?_
  refine V_sld hS dL_law_769 (by omega) hL ?_
  refine V_cV1 hM cvL_81 s35 rfl hE ⟨Nat.le_of_ble_eq_true rfl, Nat.le_of_ble_eq_true rfl, by omega, by omega⟩ (Nat.le_of_ble_eq_true rfl) dL_law_770 (fun v2 nx2 sh2 I2 P2 h2 => ?_)
  obtain ⟨rfl, hSt2⟩ := hfin _ _ _ _ _ h2
  refine V_st (show _ = [.int r, .int r] from rfl) ?_
  refine V_icmp_eq (tgt := 1221) dL_law_773 rfl (fun _ => ?_) (fun h => absurd rfl h)
  exact V.widen (by omega) (by omega) (next _ _ _ _ hSt2)
theorem law_fine (hM : mM X B nm (some .boolean) 13 474 601024 7293034 Po G) (hS : mScp X B b L xs G) (hL : L ≤ 4096) (ht : 8 * t + 8 ≤ L) (hSt : St t nx sh I P) (s0 : sh 0 = some (.inl 10)) (next : lwN X B G b t) : V X B RL cL_law G (76 + 803 * t) (6548 + 4824 * t) nx sh I P 778 (lwL B b t) [] := by
  obtain ⟨PoC, hC, hM2⟩ := o_fine (X := X) (B := B) (p := xs (8 * t + 1)) (g := xs (8 * t + 2)) (day := xs (8 * t + 3)) hSt
  refine V_aln dL_law_778 rfl ?_
  refine V_aln dL_law_779 rfl ?_
  refine V_iln dL_law_780 rfl ?_
  refine V_iconst (v := 1) rfl dL_law_781 ?_
  refine V_iadd dL_law_782 ?_
  refine V_top (show nI (8 * t) + 1 = nI (8 * t + 1) from nI_add _ 1) ?_
  refine V_sld hS dL_law_783 (by omega) hL ?_
  refine V_aln dL_law_784 rfl ?_
  refine V_iln dL_law_785 rfl ?_
  refine V_iconst (v := 2) rfl dL_law_786 ?_
  refine V_iadd dL_law_787 ?_
  refine V_top (show nI (8 * t) + 2 = nI (8 * t + 2) from nI_add _ 2) ?_
  refine V_sld hS dL_law_788 (by omega) hL ?_
  refine V_aln dL_law_789 rfl ?_
  refine V_iln dL_law_790 rfl ?_
  refine V_iconst (v := 3) rfl dL_law_791 ?_
  refine V_iadd dL_law_792 ?_
  refine V_top (show nI (8 * t) + 3 = nI (8 * t + 3) from nI_add _ 3) ?_
  refine V_sld hS dL_law_793 (by omega) hL ?_
  refine V_cV3 hM cvL_82 s0 rfl hC ⟨Nat.le_of_ble_eq_true rfl, Nat.le_of_ble_eq_true rfl, by omega, by omega⟩ (Nat.le_of_ble_eq_true rfl) dL_law_794 (fun v nx1 sh1 I1 P1 h1 => ?_)
  obtain ⟨r, PoM, rfl, s35, hE, hfin⟩ := hM2 _ _ _ _ _ h1
  refine V_st (show _ = [.int r] from rfl) ?_
  refine V_aln dL_law_797 rfl ?_
  refine V_aln dL_law_798 rfl ?_
  refine V_iln dL_law_799 rfl ?_
  refine V_iconst (v := 1) rfl dL_law_800 ?_
  refine V_iadd dL_law_801 ?_
  refine V_top (show nI (8 * t) + 1 = nI (8 * t + 1) from nI_add _ 1) ?_
  refine V_sld hS dL_law_802 (by omega) hL ?_
  refine V_aln dL_law_803 rfl ?_
  refine V_iln dL_law_804 rfl ?_
  refine V_iconst (v := 2) rfl dL_law_805 ?_
  refine V_iadd dL_law_806 ?_
  refine V_top (show nI (8 * t) + 2 = nI (8 * t + 2) from nI_add _ 2) ?_
  refine V_sld hS dL_law_807 (by omega) hL ?_
  refine V_aln dL_law_808 rfl ?_
  refine V_iln dL_law_809 rfl ?_
  refine V_iconst (v := 3) rfl dL_law_810 ?_
  refine V_iadd dL_law_811 ?_
  refine V_top (show nI (8 * t) + 3 = nI (8 * t + 3) from nI_add _ 3) ?_
  refine V_sld hS dL_law_812 (by omega) hL ?_
  refine V_cV3 hM cvL_85 s35 rfl hE ⟨Nat.le_of_ble_eq_true rfl, Nat.le_of_ble_eq_true rfl, by omega, by omega⟩ (Nat.le_of_ble_eq_true rfl) dL_law_813 (fun v2 nx2 sh2 I2 P2 h2 => ?_)
  obtain ⟨rfl, hSt2⟩ := hfin _ _ _ _ _ h2
  refine V_st (show _ = [.int r, .int r] from rfl) ?_
  refine V_icmp_eq (tgt := 1221) dL_law_816 rfl (fun _ => ?_) (fun h => absurd rfl h)
  exact V.widen (by omega) (by omega) (next _ _ _ _ hSt2)
theorem law_broken (hM : mM X B nm (some .boolean) 13 474 601024 7293034 Po G) (hS : mScp X B b L xs G) (hL : L ≤ 4096) (ht : 8 * t + 8 ≤ L) (hSt : St t nx sh I P) (s0 : sh 0 = some (.inl 10)) (next : lwN X B G b t) : V X B RL cL_law G (76 + 803 * t) (6548 + 4824 * t) nx sh I P 821 (lwL B b t) [] := by
  obtain ⟨PoC, hC, hM2⟩ := o_broken (X := X) (B := B) (p := xs (8 * t + 1)) (g := xs (8 * t + 2)) (day := xs (8 * t + 3)) (a := xs (8 * t + 4)) hSt
  refine V_aln dL_law_821 rfl ?_
  refine V_aln dL_law_822 rfl ?_
  refine V_iln dL_law_823 rfl ?_
  refine V_iconst (v := 1) rfl dL_law_824 ?_
  refine V_iadd dL_law_825 ?_
  refine V_top (show nI (8 * t) + 1 = nI (8 * t + 1) from nI_add _ 1) ?_
  refine V_sld hS dL_law_826 (by omega) hL ?_
  refine V_aln dL_law_827 rfl ?_
  refine V_iln dL_law_828 rfl ?_
  refine V_iconst (v := 2) rfl dL_law_829 ?_
  refine V_iadd dL_law_830 ?_
  refine V_top (show nI (8 * t) + 2 = nI (8 * t + 2) from nI_add _ 2) ?_
  refine V_sld hS dL_law_831 (by omega) hL ?_
  refine V_aln dL_law_832 rfl ?_
  refine V_iln dL_law_833 rfl ?_
  refine V_iconst (v := 3) rfl dL_law_834 ?_
  refine V_iadd dL_law_835 ?_
  refine V_top (show nI (8 * t) + 3 = nI (8 * t + 3) from nI_add _ 3) ?_
  refine V_sld hS dL_law_836 (by omega) hL ?_
  refine V_aln dL_law_837 rfl ?_
  refine V_iln dL_law_838 rfl ?_
  refine V_iconst (v := 4) rfl dL_law_839 ?_
  refine V_iadd dL_law_840 ?_
  refine V_top (show nI (8 * t) + 4 = nI (8 * t + 4) from nI_add _ 4) ?_
  refine V_sld hS dL_law_841 (by omega) hL ?_
  refine V_cV4 hM cvL_86 s0 rfl hC ⟨Nat.le_of_ble_eq_true rfl, Nat.le_of_ble_eq_true rfl, by omega, by omega⟩ (Nat.le_of_ble_eq_true rfl) dL_law_842 (fun v nx1 sh1 I1 P1 h1 => ?_)
  obtain ⟨r, PoM, rfl, s35, hE, hfin⟩ := hM2 _ _ _ _ _ h1
  refine V_st (show _ = [.int r] from rfl) ?_
  refine V_aln dL_law_845 rfl ?_
  refine V_aln dL_law_846 rfl ?_
  refine V_iln dL_law_847 rfl ?_
  refine V_iconst (v := 1) rfl dL_law_848 ?_
  refine V_iadd dL_law_849 ?_
  refine V_top (show nI (8 * t) + 1 = nI (8 * t + 1) from nI_add _ 1) ?_
  refine V_sld hS dL_law_850 (by omega) hL ?_
  refine V_aln dL_law_851 rfl ?_
  refine V_iln dL_law_852 rfl ?_
  refine V_iconst (v := 2) rfl dL_law_853 ?_
  refine V_iadd dL_law_854 ?_
  refine V_top (show nI (8 * t) + 2 = nI (8 * t + 2) from nI_add _ 2) ?_
  refine V_sld hS dL_law_855 (by omega) hL ?_
  refine V_aln dL_law_856 rfl ?_
  refine V_iln dL_law_857 rfl ?_
  refine V_iconst (v := 3) rfl dL_law_858 ?_
  refine V_iadd dL_law_859 ?_
  refine V_top (show nI (8 * t) + 3 = nI (8 * t + 3) from nI_add _ 3) ?_
  refine V_sld hS dL_law_860 (by omega) hL ?_
  refine V_aln dL_law_861 rfl ?_
  refine V_iln dL_law_862 rfl ?_
  refine V_iconst (v := 4) rfl dL_law_863 ?_
  refine V_iadd dL_law_864 ?_
  refine V_top (show nI (8 * t) + 4 = nI (8 * t + 4) from nI_add _ 4) ?_
  refine V_sld hS dL_law_865 (by omega) hL ?_
  refine V_cV4 hM cvL_90 s35 rfl hE ⟨Nat.le_of_ble_eq_true rfl, Nat.le_of_ble_eq_true rfl, by omega, by omega⟩ (Nat.le_of_ble_eq_true rfl) dL_law_866 (fun v2 nx2 sh2 I2 P2 h2 => ?_)
  obtain ⟨rfl, hSt2⟩ := hfin _ _ _ _ _ h2
  refine V_st (show _ = [.int r, .int r] from rfl) ?_
  refine V_icmp_eq (tgt := 1221) dL_law_869 rfl (fun _ => ?_) (fun h => absurd rfl h)
  exact V.widen (by omega) (by omega) (next _ _ _ _ hSt2)
theorem law_letter (hM : mM X B nm (some .boolean) 13 474 601024 7293034 Po G) (hS : mScp X B b L xs G) (hL : L ≤ 4096) (ht : 8 * t + 8 ≤ L) (hSt : St t nx sh I P) (s0 : sh 0 = some (.inl 10)) (next : lwN X B G b t) : V X B RL cL_law G (76 + 803 * t) (6548 + 4824 * t) nx sh I P 874 (lwL B b t) [] := by
  obtain ⟨PoC, hC, hM2⟩ := o_letter (X := X) (B := B) (b := xs (8 * t + 1)) (p := xs (8 * t + 2)) (g := xs (8 * t + 3)) (d := xs (8 * t + 4)) hSt
  refine V_aln dL_law_874 rfl ?_
  refine V_aln dL_law_875 rfl ?_
  refine V_iln dL_law_876 rfl ?_
  refine V_iconst (v := 1) rfl dL_law_877 ?_
  refine V_iadd dL_law_878 ?_
  refine V_top (show nI (8 * t) + 1 = nI (8 * t + 1) from nI_add _ 1) ?_
  refine V_sld hS dL_law_879 (by omega) hL ?_
  refine V_aln dL_law_880 rfl ?_
  refine V_iln dL_law_881 rfl ?_
  refine V_iconst (v := 2) rfl dL_law_882 ?_
  refine V_iadd dL_law_883 ?_
  refine V_top (show nI (8 * t) + 2 = nI (8 * t + 2) from nI_add _ 2) ?_
  refine V_sld hS dL_law_884 (by omega) hL ?_
  refine V_aln dL_law_885 rfl ?_
  refine V_iln dL_law_886 rfl ?_
  refine V_iconst (v := 3) rfl dL_law_887 ?_
  refine V_iadd dL_law_888 ?_
  refine V_top (show nI (8 * t) + 3 = nI (8 * t + 3) from nI_add _ 3) ?_
  refine V_sld hS dL_law_889 (by omega) hL ?_
  refine V_aln dL_law_890 rfl ?_
  refine V_iln dL_law_891 rfl ?_
  refine V_iconst (v := 4) rfl dL_law_892 ?_
  refine V_iadd dL_law_893 ?_
  refine V_top (show nI (8 * t) + 4 = nI (8 * t + 4) from nI_add _ 4) ?_
  refine V_sld hS dL_law_894 (by omega) hL ?_
  refine V_cV4 hM cvL_91 s0 rfl hC ⟨Nat.le_of_ble_eq_true rfl, Nat.le_of_ble_eq_true rfl, by omega, by omega⟩ (Nat.le_of_ble_eq_true rfl) dL_law_895 (fun v nx1 sh1 I1 P1 h1 => ?_)
  obtain ⟨r, PoM, rfl, s35, hE, hfin⟩ := hM2 _ _ _ _ _ h1
  refine V_st (show _ = [.int r] from rfl) ?_
  refine V_aln dL_law_898 rfl ?_
  refine V_aln dL_law_899 rfl ?_
  refine V_iln dL_law_900 rfl ?_
  refine V_iconst (v := 1) rfl dL_law_901 ?_
  refine V_iadd dL_law_902 ?_
  refine V_top (show nI (8 * t) + 1 = nI (8 * t + 1) from nI_add _ 1) ?_
  refine V_sld hS dL_law_903 (by omega) hL ?_
  refine V_aln dL_law_904 rfl ?_
  refine V_iln dL_law_905 rfl ?_
  refine V_iconst (v := 2) rfl dL_law_906 ?_
  refine V_iadd dL_law_907 ?_
  refine V_top (show nI (8 * t) + 2 = nI (8 * t + 2) from nI_add _ 2) ?_
  refine V_sld hS dL_law_908 (by omega) hL ?_
  refine V_aln dL_law_909 rfl ?_
  refine V_iln dL_law_910 rfl ?_
  refine V_iconst (v := 3) rfl dL_law_911 ?_
  refine V_iadd dL_law_912 ?_
  refine V_top (show nI (8 * t) + 3 = nI (8 * t + 3) from nI_add _ 3) ?_
  refine V_sld hS dL_law_913 (by omega) hL ?_
  refine V_aln dL_law_914 rfl ?_
  refine V_iln dL_law_915 rfl ?_
  refine V_iconst (v := 4) rfl dL_law_916 ?_
  refine V_iadd dL_law_917 ?_
  refine V_top (show nI (8 * t) + 4 = nI (8 * t + 4) from nI_add _ 4) ?_
  refine V_sld hS dL_law_918 (by omega) hL ?_
  refine V_cV4 hM cvL_94 s35 rfl hE ⟨Nat.le_of_ble_eq_true rfl, Nat.le_of_ble_eq_true rfl, by omega, by omega⟩ (Nat.le_of_ble_eq_true rfl) dL_law_919 (fun v2 nx2 sh2 I2 P2 h2 => ?_)
  obtain ⟨rfl, hSt2⟩ := hfin _ _ _ _ _ h2
  refine V_st (show _ = [.int r, .int r] from rfl) ?_
  refine V_icmp_eq (tgt := 1221) dL_law_922 rfl (fun _ => ?_) (fun h => absurd rfl h)
  exact V.widen (by omega) (by omega) (next _ _ _ _ hSt2)
theorem law_judge (hM : mM X B nm (some .boolean) 13 474 601024 7293034 Po G) (hS : mScp X B b L xs G) (hL : L ≤ 4096) (ht : 8 * t + 8 ≤ L) (hSt : St t nx sh I P) (s0 : sh 0 = some (.inl 10)) (next : lwN X B G b t) : V X B RL cL_law G (76 + 803 * t) (6548 + 4824 * t) nx sh I P 927 (lwL B b t) [] := by
  obtain ⟨PoC, hC, hM2⟩ := o_judge (X := X) (B := B) (k := xs (8 * t + 1)) (by omega) hSt
  refine V_aln dL_law_927 rfl ?_
  refine V_aln dL_law_928 rfl ?_
  refine V_iln dL_law_929 rfl ?_
  refine V_iconst (v := 1) rfl dL_law_930 ?_
  refine V_iadd dL_law_931 ?_
  refine V_top (show nI (8 * t) + 1 = nI (8 * t + 1) from nI_add _ 1) ?_
  refine V_sld hS dL_law_932 (by omega) hL ?_
  refine V_cV1 hM cvL_95 s0 rfl hC ⟨Nat.le_of_ble_eq_true rfl, Nat.le_of_ble_eq_true rfl, by omega, by omega⟩ (Nat.le_of_ble_eq_true rfl) dL_law_933 (fun v nx1 sh1 I1 P1 h1 => ?_)
  obtain ⟨r, PoM, rfl, s35, hE, hfin⟩ := hM2 _ _ _ _ _ h1
  refine V_st (show _ = [.int r] from rfl) ?_
  refine V_aln dL_law_936 rfl ?_
  refine V_aln dL_law_937 rfl ?_
  refine V_iln dL_law_938 rfl ?_
  refine V_iconst (v := 1) rfl dL_law_939 ?_
  refine V_iadd dL_law_940 ?_
  refine V_top (show nI (8 * t) + 1 = nI (8 * t + 1) from nI_add _ 1) ?_
  refine V_sld hS dL_law_941 (by omega) hL ?_
  refine V_cV1 hM cvL_98 s35 rfl hE ⟨Nat.le_of_ble_eq_true rfl, Nat.le_of_ble_eq_true rfl, by omega, by omega⟩ (Nat.le_of_ble_eq_true rfl) dL_law_942 (fun v2 nx2 sh2 I2 P2 h2 => ?_)
  obtain ⟨rfl, hSt2⟩ := hfin _ _ _ _ _ h2
  refine V_st (show _ = [.int r, .int r] from rfl) ?_
  refine V_icmp_eq (tgt := 1221) dL_law_945 rfl (fun _ => ?_) (fun h => absurd rfl h)
  exact V.widen (by omega) (by omega) (next _ _ _ _ hSt2)
theorem law_lettered (hM : mM X B nm (some .boolean) 13 474 601024 7293034 Po G) (hS : mScp X B b L xs G) (hL : L ≤ 4096) (ht : 8 * t + 8 ≤ L) (hSt : St t nx sh I P) (s0 : sh 0 = some (.inl 10)) (next : lwN X B G b t) : V X B RL cL_law G (76 + 803 * t) (6548 + 4824 * t) nx sh I P 950 (lwL B b t) [] := by
  obtain ⟨PoC, hC, hM2⟩ := o_lettered (X := X) (B := B) (k := xs (8 * t + 1)) (w := xs (8 * t + 2)) hSt
  refine V_aln dL_law_950 rfl ?_
  refine V_aln dL_law_951 rfl ?_
  refine V_iln dL_law_952 rfl ?_
  refine V_iconst (v := 1) rfl dL_law_953 ?_
  refine V_iadd dL_law_954 ?_
  refine V_top (show nI (8 * t) + 1 = nI (8 * t + 1) from nI_add _ 1) ?_
  refine V_sld hS dL_law_955 (by omega) hL ?_
  refine V_aln dL_law_956 rfl ?_
  refine V_iln dL_law_957 rfl ?_
  refine V_iconst (v := 2) rfl dL_law_958 ?_
  refine V_iadd dL_law_959 ?_
  refine V_top (show nI (8 * t) + 2 = nI (8 * t + 2) from nI_add _ 2) ?_
  refine V_sld hS dL_law_960 (by omega) hL ?_
  refine V_cV2 hM cvL_99 s0 rfl hC ⟨Nat.le_of_ble_eq_true rfl, Nat.le_of_ble_eq_true rfl, by omega, by omega⟩ (Nat.le_of_ble_eq_true rfl) dL_law_961 (fun v nx1 sh1 I1 P1 h1 => ?_)
  obtain ⟨r, PoM, rfl, s35, hE, hfin⟩ := hM2 _ _ _ _ _ h1
  refine V_st (show _ = [.int r] from rfl) ?_
  refine V_aln dL_law_964 rfl ?_
  refine V_aln dL_law_965 rfl ?_
  refine V_iln dL_law_966 rfl ?_
  refine V_iconst (v := 1) rfl dL_law_967 ?_
  refine V_iadd dL_law_968 ?_
  refine V_top (show nI (8 * t) + 1 = nI (8 * t + 1) from nI_add _ 1) ?_
  refine V_sld hS dL_law_969 (by omega) hL ?_
  refine V_aln dL_law_970 rfl ?_
  refine V_iln dL_law_971 rfl ?_
  refine V_iconst (v := 2) rfl dL_law_972 ?_
  refine V_iadd dL_law_973 ?_
  refine V_top (show nI (8 * t) + 2 = nI (8 * t + 2) from nI_add _ 2) ?_
  refine V_sld hS dL_law_974 (by omega) hL ?_
  refine V_cV2 hM cvL_102 s35 rfl hE ⟨Nat.le_of_ble_eq_true rfl, Nat.le_of_ble_eq_true rfl, by omega, by omega⟩ (Nat.le_of_ble_eq_true rfl) dL_law_975 (fun v2 nx2 sh2 I2 P2 h2 => ?_)
  obtain ⟨rfl, hSt2⟩ := hfin _ _ _ _ _ h2
  refine V_st (show _ = [.int r, .int r] from rfl) ?_
  refine V_icmp_eq (tgt := 1221) dL_law_978 rfl (fun _ => ?_) (fun h => absurd rfl h)
  exact V.widen (by omega) (by omega) (next _ _ _ _ hSt2)
theorem law_person (hM : mM X B nm (some .boolean) 13 474 601024 7293034 Po G) (hS : mScp X B b L xs G) (hL : L ≤ 4096) (ht : 8 * t + 8 ≤ L) (hSt : St t nx sh I P) (s0 : sh 0 = some (.inl 10)) (next : lwN X B G b t) : V X B RL cL_law G (76 + 803 * t) (6548 + 4824 * t) nx sh I P 983 (lwL B b t) [] := by
  obtain ⟨PoC, hC, hM2⟩ := o_person (X := X) (B := B) (p := xs (8 * t + 1)) (w := xs (8 * t + 2)) hSt
  refine V_aln dL_law_983 rfl ?_
  refine V_aln dL_law_984 rfl ?_
  refine V_iln dL_law_985 rfl ?_
  refine V_iconst (v := 1) rfl dL_law_986 ?_
  refine V_iadd dL_law_987 ?_
  refine V_top (show nI (8 * t) + 1 = nI (8 * t + 1) from nI_add _ 1) ?_
  refine V_sld hS dL_law_988 (by omega) hL ?_
  refine V_aln dL_law_989 rfl ?_
  refine V_iln dL_law_990 rfl ?_
  refine V_iconst (v := 2) rfl dL_law_991 ?_
  refine V_iadd dL_law_992 ?_
  refine V_top (show nI (8 * t) + 2 = nI (8 * t + 2) from nI_add _ 2) ?_
  refine V_sld hS dL_law_993 (by omega) hL ?_
  refine V_cV2 hM cvL_103 s0 rfl hC ⟨Nat.le_of_ble_eq_true rfl, Nat.le_of_ble_eq_true rfl, by omega, by omega⟩ (Nat.le_of_ble_eq_true rfl) dL_law_994 (fun v nx1 sh1 I1 P1 h1 => ?_)
  obtain ⟨r, PoM, rfl, s35, hE, hfin⟩ := hM2 _ _ _ _ _ h1
  refine V_st (show _ = [.int r] from rfl) ?_
  refine V_aln dL_law_997 rfl ?_
  refine V_aln dL_law_998 rfl ?_
  refine V_iln dL_law_999 rfl ?_
  refine V_iconst (v := 1) rfl dL_law_1000 ?_
  refine V_iadd dL_law_1001 ?_
  refine V_top (show nI (8 * t) + 1 = nI (8 * t + 1) from nI_add _ 1) ?_
  refine V_sld hS dL_law_1002 (by omega) hL ?_
  refine V_aln dL_law_1003 rfl ?_
  refine V_iln dL_law_1004 rfl ?_
  refine V_iconst (v := 2) rfl dL_law_1005 ?_
  refine V_iadd dL_law_1006 ?_
  refine V_top (show nI (8 * t) + 2 = nI (8 * t + 2) from nI_add _ 2) ?_
  refine V_sld hS dL_law_1007 (by omega) hL ?_
  refine V_cV2 hM cvL_106 s35 rfl hE ⟨Nat.le_of_ble_eq_true rfl, Nat.le_of_ble_eq_true rfl, by omega, by omega⟩ (Nat.le_of_ble_eq_true rfl) dL_law_1008 (fun v2 nx2 sh2 I2 P2 h2 => ?_)
  obtain ⟨rfl, hSt2⟩ := hfin _ _ _ _ _ h2
  refine V_st (show _ = [.int r, .int r] from rfl) ?_
  refine V_icmp_eq (tgt := 1221) dL_law_1011 rfl (fun _ => ?_) (fun h => absurd rfl h)
  exact V.widen (by omega) (by omega) (next _ _ _ _ hSt2)
theorem law_price (hM : mM X B nm (some .boolean) 13 474 601024 7293034 Po G) (hS : mScp X B b L xs G) (hL : L ≤ 4096) (ht : 8 * t + 8 ≤ L) (hSt : St t nx sh I P) (s0 : sh 0 = some (.inl 10)) (next : lwN X B G b t) : V X B RL cL_law G (76 + 803 * t) (6548 + 4824 * t) nx sh I P 1016 (lwL B b t) [] := by
  obtain ⟨PoC, hC, hM2⟩ := o_price (X := X) (B := B) (k := xs (8 * t + 1)) (x := xs (8 * t + 2)) hSt
  refine V_aln dL_law_1016 rfl ?_
  refine V_aln dL_law_1017 rfl ?_
  refine V_iln dL_law_1018 rfl ?_
  refine V_iconst (v := 1) rfl dL_law_1019 ?_
  refine V_iadd dL_law_1020 ?_
  refine V_top (show nI (8 * t) + 1 = nI (8 * t + 1) from nI_add _ 1) ?_
  refine V_sld hS dL_law_1021 (by omega) hL ?_
  refine V_aln dL_law_1022 rfl ?_
  refine V_iln dL_law_1023 rfl ?_
  refine V_iconst (v := 2) rfl dL_law_1024 ?_
  refine V_iadd dL_law_1025 ?_
  refine V_top (show nI (8 * t) + 2 = nI (8 * t + 2) from nI_add _ 2) ?_
  refine V_sld hS dL_law_1026 (by omega) hL ?_
  refine V_cV2 hM cvL_107 s0 rfl hC ⟨Nat.le_of_ble_eq_true rfl, Nat.le_of_ble_eq_true rfl, by omega, by omega⟩ (Nat.le_of_ble_eq_true rfl) dL_law_1027 (fun v nx1 sh1 I1 P1 h1 => ?_)
  obtain ⟨r, PoM, rfl, s35, hE, hfin⟩ := hM2 _ _ _ _ _ h1
  refine V_st (show _ = [.int r] from rfl) ?_
  refine V_aln dL_law_1030 rfl ?_
  refine V_aln dL_law_1031 rfl ?_
  refine V_iln dL_law_1032 rfl ?_
  refine V_iconst (v := 1) rfl dL_law_1033 ?_
  refine V_iadd dL_law_1034 ?_
  refine V_top (show nI (8 * t) + 1 = nI (8 * t + 1) from nI_add _ 1) ?_
  refine V_sld hS dL_law_1035 (by omega) hL ?_
  refine V_aln dL_law_1036 rfl ?_
  refine V_iln dL_law_1037 rfl ?_
  refine V_iconst (v := 2) rfl dL_law_1038 ?_
  refine V_iadd dL_law_1039 ?_
  refine V_top (show nI (8 * t) + 2 = nI (8 * t + 2) from nI_add _ 2) ?_
  refine V_sld hS dL_law_1040 (by omega) hL ?_
  refine V_cV2 hM cvL_110 s35 rfl hE ⟨Nat.le_of_ble_eq_true rfl, Nat.le_of_ble_eq_true rfl, by omega, by omega⟩ (Nat.le_of_ble_eq_true rfl) dL_law_1041 (fun v2 nx2 sh2 I2 P2 h2 => ?_)
  obtain ⟨rfl, hSt2⟩ := hfin _ _ _ _ _ h2
  refine V_st (show _ = [.int r, .int r] from rfl) ?_
  refine V_icmp_eq (tgt := 1221) dL_law_1044 rfl (fun _ => ?_) (fun h => absurd rfl h)
  exact V.widen (by omega) (by omega) (next _ _ _ _ hSt2)
theorem law_alter (hM : mM X B nm (some .boolean) 13 474 601024 7293034 Po G) (hS : mScp X B b L xs G) (hL : L ≤ 4096) (ht : 8 * t + 8 ≤ L) (hSt : St t nx sh I P) (s0 : sh 0 = some (.inl 10)) (next : lwN X B G b t) : V X B RL cL_law G (76 + 803 * t) (6548 + 4824 * t) nx sh I P 1049 (lwL B b t) [] := by
  obtain ⟨PoC, hC, hM2⟩ := o_alter (X := X) (B := B) (p := xs (8 * t + 1)) (g := xs (8 * t + 2)) (day := xs (8 * t + 3)) hSt
  refine V_aln dL_law_1049 rfl ?_
  refine V_aln dL_law_1050 rfl ?_
  refine V_iln dL_law_1051 rfl ?_
  refine V_iconst (v := 1) rfl dL_law_1052 ?_
  refine V_iadd dL_law_1053 ?_
  refine V_top (show nI (8 * t) + 1 = nI (8 * t + 1) from nI_add _ 1) ?_
  refine V_sld hS dL_law_1054 (by omega) hL ?_
  refine V_aln dL_law_1055 rfl ?_
  refine V_iln dL_law_1056 rfl ?_
  refine V_iconst (v := 2) rfl dL_law_1057 ?_
  refine V_iadd dL_law_1058 ?_
  refine V_top (show nI (8 * t) + 2 = nI (8 * t + 2) from nI_add _ 2) ?_
  refine V_sld hS dL_law_1059 (by omega) hL ?_
  refine V_aln dL_law_1060 rfl ?_
  refine V_iln dL_law_1061 rfl ?_
  refine V_iconst (v := 3) rfl dL_law_1062 ?_
  refine V_iadd dL_law_1063 ?_
  refine V_top (show nI (8 * t) + 3 = nI (8 * t + 3) from nI_add _ 3) ?_
  refine V_sld hS dL_law_1064 (by omega) hL ?_
  refine V_cV3 hM cvL_111 s0 rfl hC ⟨Nat.le_of_ble_eq_true rfl, Nat.le_of_ble_eq_true rfl, by omega, by omega⟩ (Nat.le_of_ble_eq_true rfl) dL_law_1065 (fun v nx1 sh1 I1 P1 h1 => ?_)
  obtain ⟨r, PoM, rfl, s35, hE, hfin⟩ := hM2 _ _ _ _ _ h1
  refine V_st (show _ = [.int r] from rfl) ?_
  refine V_aln dL_law_1068 rfl ?_
  refine V_aln dL_law_1069 rfl ?_
  refine V_iln dL_law_1070 rfl ?_
  refine V_iconst (v := 1) rfl dL_law_1071 ?_
  refine V_iadd dL_law_1072 ?_
  refine V_top (show nI (8 * t) + 1 = nI (8 * t + 1) from nI_add _ 1) ?_
  refine V_sld hS dL_law_1073 (by omega) hL ?_
  refine V_aln dL_law_1074 rfl ?_
  refine V_iln dL_law_1075 rfl ?_
  refine V_iconst (v := 2) rfl dL_law_1076 ?_
  refine V_iadd dL_law_1077 ?_
  refine V_top (show nI (8 * t) + 2 = nI (8 * t + 2) from nI_add _ 2) ?_
  refine V_sld hS dL_law_1078 (by omega) hL ?_
  refine V_aln dL_law_1079 rfl ?_
  refine V_iln dL_law_1080 rfl ?_
  refine V_iconst (v := 3) rfl dL_law_1081 ?_
  refine V_iadd dL_law_1082 ?_
  refine V_top (show nI (8 * t) + 3 = nI (8 * t + 3) from nI_add _ 3) ?_
  refine V_sld hS dL_law_1083 (by omega) hL ?_
  refine V_cV3 hM cvL_114 s35 rfl hE ⟨Nat.le_of_ble_eq_true rfl, Nat.le_of_ble_eq_true rfl, by omega, by omega⟩ (Nat.le_of_ble_eq_true rfl) dL_law_1084 (fun v2 nx2 sh2 I2 P2 h2 => ?_)
  obtain ⟨rfl, hSt2⟩ := hfin _ _ _ _ _ h2
  refine V_st (show _ = [.int r, .int r] from rfl) ?_
  refine V_icmp_eq (tgt := 1221) dL_law_1087 rfl (fun _ => ?_) (fun h => absurd rfl h)
  exact V.widen (by omega) (by omega) (next _ _ _ _ hSt2)
theorem law_best (hM : mM X B nm (some .boolean) 13 474 601024 7293034 Po G) (hS : mScp X B b L xs G) (hL : L ≤ 4096) (ht : 8 * t + 8 ≤ L) (hSt : St t nx sh I P) (s0 : sh 0 = some (.inl 10)) (next : lwN X B G b t) : V X B RL cL_law G (76 + 803 * t) (6548 + 4824 * t) nx sh I P 1092 (lwL B b t) [] := by
  obtain ⟨PoC, hC, hM2⟩ := o_best (X := X) (B := B) (p := xs (8 * t + 1)) (g := xs (8 * t + 2)) (day := xs (8 * t + 3)) hSt
  refine V_aln dL_law_1092 rfl ?_
  refine V_aln dL_law_1093 rfl ?_
  refine V_iln dL_law_1094 rfl ?_
  refine V_iconst (v := 1) rfl dL_law_1095 ?_
  refine V_iadd dL_law_1096 ?_
  refine V_top (show nI (8 * t) + 1 = nI (8 * t + 1) from nI_add _ 1) ?_
  refine V_sld hS dL_law_1097 (by omega) hL ?_
  refine V_aln dL_law_1098 rfl ?_
  refine V_iln dL_law_1099 rfl ?_
  refine V_iconst (v := 2) rfl dL_law_1100 ?_
  refine V_iadd dL_law_1101 ?_
  refine V_top (show nI (8 * t) + 2 = nI (8 * t + 2) from nI_add _ 2) ?_
  refine V_sld hS dL_law_1102 (by omega) hL ?_
  refine V_aln dL_law_1103 rfl ?_
  refine V_iln dL_law_1104 rfl ?_
  refine V_iconst (v := 3) rfl dL_law_1105 ?_
  refine V_iadd dL_law_1106 ?_
  refine V_top (show nI (8 * t) + 3 = nI (8 * t + 3) from nI_add _ 3) ?_
  refine V_sld hS dL_law_1107 (by omega) hL ?_
  refine V_cV3 hM cvL_115 s0 rfl hC ⟨Nat.le_of_ble_eq_true rfl, Nat.le_of_ble_eq_true rfl, by omega, by omega⟩ (Nat.le_of_ble_eq_true rfl) dL_law_1108 (fun v nx1 sh1 I1 P1 h1 => ?_)
  obtain ⟨r, PoM, rfl, s35, hE, hfin⟩ := hM2 _ _ _ _ _ h1
  refine V_st (show _ = [.int r] from rfl) ?_
  refine V_aln dL_law_1111 rfl ?_
  refine V_aln dL_law_1112 rfl ?_
  refine V_iln dL_law_1113 rfl ?_
  refine V_iconst (v := 1) rfl dL_law_1114 ?_
  refine V_iadd dL_law_1115 ?_
  refine V_top (show nI (8 * t) + 1 = nI (8 * t + 1) from nI_add _ 1) ?_
  refine V_sld hS dL_law_1116 (by omega) hL ?_
  refine V_aln dL_law_1117 rfl ?_
  refine V_iln dL_law_1118 rfl ?_
  refine V_iconst (v := 2) rfl dL_law_1119 ?_
  refine V_iadd dL_law_1120 ?_
  refine V_top (show nI (8 * t) + 2 = nI (8 * t + 2) from nI_add _ 2) ?_
  refine V_sld hS dL_law_1121 (by omega) hL ?_
  refine V_aln dL_law_1122 rfl ?_
  refine V_iln dL_law_1123 rfl ?_
  refine V_iconst (v := 3) rfl dL_law_1124 ?_
  refine V_iadd dL_law_1125 ?_
  refine V_top (show nI (8 * t) + 3 = nI (8 * t + 3) from nI_add _ 3) ?_
  refine V_sld hS dL_law_1126 (by omega) hL ?_
  refine V_cV3 hM cvL_118 s35 rfl hE ⟨Nat.le_of_ble_eq_true rfl, Nat.le_of_ble_eq_true rfl, by omega, by omega⟩ (Nat.le_of_ble_eq_true rfl) dL_law_1127 (fun v2 nx2 sh2 I2 P2 h2 => ?_)
  obtain ⟨rfl, hSt2⟩ := hfin _ _ _ _ _ h2
  refine V_st (show _ = [.int r, .int r] from rfl) ?_
  refine V_icmp_eq (tgt := 1221) dL_law_1130 rfl (fun _ => ?_) (fun h => absurd rfl h)
  exact V.widen (by omega) (by omega) (next _ _ _ _ hSt2)
theorem law_worn (hM : mM X B nm (some .boolean) 13 474 601024 7293034 Po G) (hS : mScp X B b L xs G) (hL : L ≤ 4096) (ht : 8 * t + 8 ≤ L) (hSt : St t nx sh I P) (s0 : sh 0 = some (.inl 10)) (next : lwN X B G b t) : V X B RL cL_law G (76 + 803 * t) (6548 + 4824 * t) nx sh I P 1135 (lwL B b t) [] := by
  obtain ⟨PoC, hC, hM2⟩ := o_worn (X := X) (B := B) (g := xs (8 * t + 1)) (rank := xs (8 * t + 2)) (a := xs (8 * t + 3)) (b := xs (8 * t + 4)) (w := xs (8 * t + 5)) hSt
  refine V_aln dL_law_1135 rfl ?_
  refine V_aln dL_law_1136 rfl ?_
  refine V_iln dL_law_1137 rfl ?_
  refine V_iconst (v := 1) rfl dL_law_1138 ?_
  refine V_iadd dL_law_1139 ?_
  refine V_top (show nI (8 * t) + 1 = nI (8 * t + 1) from nI_add _ 1) ?_
  refine V_sld hS dL_law_1140 (by omega) hL ?_
  refine V_aln dL_law_1141 rfl ?_
  refine V_iln dL_law_1142 rfl ?_
  refine V_iconst (v := 2) rfl dL_law_1143 ?_
  refine V_iadd dL_law_1144 ?_
  refine V_top (show nI (8 * t) + 2 = nI (8 * t + 2) from nI_add _ 2) ?_
  refine V_sld hS dL_law_1145 (by omega) hL ?_
  refine V_aln dL_law_1146 rfl ?_
  refine V_iln dL_law_1147 rfl ?_
  refine V_iconst (v := 3) rfl dL_law_1148 ?_
  refine V_iadd dL_law_1149 ?_
  refine V_top (show nI (8 * t) + 3 = nI (8 * t + 3) from nI_add _ 3) ?_
  refine V_sld hS dL_law_1150 (by omega) hL ?_
  refine V_aln dL_law_1151 rfl ?_
  refine V_iln dL_law_1152 rfl ?_
  refine V_iconst (v := 4) rfl dL_law_1153 ?_
  refine V_iadd dL_law_1154 ?_
  refine V_top (show nI (8 * t) + 4 = nI (8 * t + 4) from nI_add _ 4) ?_
  refine V_sld hS dL_law_1155 (by omega) hL ?_
  refine V_aln dL_law_1156 rfl ?_
  refine V_iln dL_law_1157 rfl ?_
  refine V_iconst (v := 5) rfl dL_law_1158 ?_
  refine V_iadd dL_law_1159 ?_
  refine V_top (show nI (8 * t) + 5 = nI (8 * t + 5) from nI_add _ 5) ?_
  refine V_sld hS dL_law_1160 (by omega) hL ?_
  refine V_cV5 hM cvL_119 s0 rfl hC ⟨Nat.le_of_ble_eq_true rfl, Nat.le_of_ble_eq_true rfl, by omega, by omega⟩ (Nat.le_of_ble_eq_true rfl) dL_law_1161 (fun v nx1 sh1 I1 P1 h1 => ?_)
  obtain ⟨r, PoM, rfl, s35, hE, hfin⟩ := hM2 _ _ _ _ _ h1
  refine V_st (show _ = [.int r] from rfl) ?_
  refine V_aln dL_law_1164 rfl ?_
  refine V_aln dL_law_1165 rfl ?_
  refine V_iln dL_law_1166 rfl ?_
  refine V_iconst (v := 1) rfl dL_law_1167 ?_
  refine V_iadd dL_law_1168 ?_
  refine V_top (show nI (8 * t) + 1 = nI (8 * t + 1) from nI_add _ 1) ?_
  refine V_sld hS dL_law_1169 (by omega) hL ?_
  refine V_aln dL_law_1170 rfl ?_
  refine V_iln dL_law_1171 rfl ?_
  refine V_iconst (v := 2) rfl dL_law_1172 ?_
  refine V_iadd dL_law_1173 ?_
  refine V_top (show nI (8 * t) + 2 = nI (8 * t + 2) from nI_add _ 2) ?_
  refine V_sld hS dL_law_1174 (by omega) hL ?_
  refine V_aln dL_law_1175 rfl ?_
  refine V_iln dL_law_1176 rfl ?_
  refine V_iconst (v := 3) rfl dL_law_1177 ?_
  refine V_iadd dL_law_1178 ?_
  refine V_top (show nI (8 * t) + 3 = nI (8 * t + 3) from nI_add _ 3) ?_
  refine V_sld hS dL_law_1179 (by omega) hL ?_
  refine V_aln dL_law_1180 rfl ?_
  refine V_iln dL_law_1181 rfl ?_
  refine V_iconst (v := 4) rfl dL_law_1182 ?_
  refine V_iadd dL_law_1183 ?_
  refine V_top (show nI (8 * t) + 4 = nI (8 * t + 4) from nI_add _ 4) ?_
  refine V_sld hS dL_law_1184 (by omega) hL ?_
  refine V_aln dL_law_1185 rfl ?_
  refine V_iln dL_law_1186 rfl ?_
  refine V_iconst (v := 5) rfl dL_law_1187 ?_
  refine V_iadd dL_law_1188 ?_
  refine V_top (show nI (8 * t) + 5 = nI (8 * t + 5) from nI_add _ 5) ?_
  refine V_sld hS dL_law_1189 (by omega) hL ?_
  refine V_cV5 hM cvL_122 s35 rfl hE ⟨Nat.le_of_ble_eq_true rfl, Nat.le_of_ble_eq_true rfl, by omega, by omega⟩ (Nat.le_of_ble_eq_true rfl) dL_law_1190 (fun v2 nx2 sh2 I2 P2 h2 => ?_)
  obtain ⟨rfl, hSt2⟩ := hfin _ _ _ _ _ h2
  refine V_st (show _ = [.int r, .int r] from rfl) ?_
  refine V_icmp_eq (tgt := 1221) dL_law_1193 rfl (fun _ => ?_) (fun h => absurd rfl h)
  exact V.widen (by omega) (by omega) (next _ _ _ _ hSt2)
theorem law_count (hM : mM X B nm (some .boolean) 13 474 601024 7293034 Po G) (hS : mScp X B b L xs G) (hL : L ≤ 4096) (ht : 8 * t + 8 ≤ L) (hSt : St t nx sh I P) (s0 : sh 0 = some (.inl 10)) (next : lwN X B G b t) : V X B RL cL_law G (76 + 803 * t) (6548 + 4824 * t) nx sh I P 1198 (lwL B b t) [] := by
  obtain ⟨PoC, hC, hM2⟩ := o_count (X := X) (B := B) (w := xs (8 * t + 1)) hSt
  refine V_aln dL_law_1198 rfl ?_
  refine V_aln dL_law_1199 rfl ?_
  refine V_iln dL_law_1200 rfl ?_
  refine V_iconst (v := 1) rfl dL_law_1201 ?_
  refine V_iadd dL_law_1202 ?_
  refine V_top (show nI (8 * t) + 1 = nI (8 * t + 1) from nI_add _ 1) ?_
  refine V_sld hS dL_law_1203 (by omega) hL ?_
  refine V_cV1 hM cvL_123 s0 rfl hC ⟨Nat.le_of_ble_eq_true rfl, Nat.le_of_ble_eq_true rfl, by omega, by omega⟩ (Nat.le_of_ble_eq_true rfl) dL_law_1204 (fun v nx1 sh1 I1 P1 h1 => ?_)
  obtain ⟨r, PoM, rfl, s35, hE, hfin⟩ := hM2 _ _ _ _ _ h1
  refine V_st (show _ = [.int r] from rfl) ?_
  refine V_aln dL_law_1207 rfl ?_
  refine V_aln dL_law_1208 rfl ?_
  refine V_iln dL_law_1209 rfl ?_
  refine V_iconst (v := 1) rfl dL_law_1210 ?_
  refine V_iadd dL_law_1211 ?_
  refine V_top (show nI (8 * t) + 1 = nI (8 * t + 1) from nI_add _ 1) ?_
  refine V_sld hS dL_law_1212 (by omega) hL ?_
  refine V_cV1 hM cvL_126 s35 rfl hE ⟨Nat.le_of_ble_eq_true rfl, Nat.le_of_ble_eq_true rfl, by omega, by omega⟩ (Nat.le_of_ble_eq_true rfl) dL_law_1213 (fun v2 nx2 sh2 I2 P2 h2 => ?_)
  obtain ⟨rfl, hSt2⟩ := hfin _ _ _ _ _ h2
  refine V_st (show _ = [.int r, .int r] from rfl) ?_
  refine V_icmp_eq (tgt := 1221) dL_law_1216 rfl (fun _ => ?_) (fun h => absurd rfl h)
  exact V.widen (by omega) (by omega) (next _ _ _ _ hSt2)
theorem St.s0 {stp : Nat} (h : St stp nx sh I P) : sh 0 = some (.inl 10) := by
  obtain ⟨m, na, ng, nk, nr, nw, nf, nl, dr, rl, h⟩ := h
  exact h.1.1.1 0 _ rfl
theorem law_loop (hM : mM X B nm (some .boolean) 13 474 601024 7293034 (fun v _ _ _ _ => v = some (.int 1)) G) (hS : mScp X B b L xs G) (hL : L ≤ 4096) : ∀ (z t nx : Nat) (sh : Nat → Option mSh) (I : mI) (P : mP), 8 * t ≤ L → L - 8 * t < z → St t nx sh I P → V X B RL cL_law G (76 + 803 * t) (6548 + 4824 * t) nx sh I P 18 (lwL B b t) [] := by
  intro z
  induction z with
  | zero => intro t nx sh I P _ h; omega
  | succ z ih =>
    intro t nx sh I P h8 hz hSt
    have hi : (nI L - 8).toInt = (L : Int) - 8 := by
      rw [Int32.toInt_sub, nI_toInt (by omega)]
      have e8 : (8 : Int32).toInt = 8 := rfl
      rw [e8, Int.bmod_eq_of_le (by omega) (by omega)]
    refine V_iln dL_law_18 rfl ?_
    refine V_aln dL_law_19 rfl ?_
    refine V_scln hS dL_law_20 ?_
    refine V_bipush (v := 8) rfl dL_law_21 ?_
    refine V_isub dL_law_23 ?_
    refine V_icmp_gt (tgt := 1227) dL_law_24 rfl (fun c24 => ?_) (fun c24 => ?_)
    · refine V.widen (a := 601024) (b := 7293034) (by omega) (by omega) ?_
      refine V_iconst (v := 1) rfl dL_law_1227 ?_
      exact V_zret hM (Or.inr rfl) dL_law_1228 rfl
    · have ht : 8 * t + 8 ≤ L := by
        have c := i_nlt c24
        rw [i_le, hi, nI_toInt (by omega)] at c
        omega
      have next : lwN X B G b t := by
        intro nx2 sh2 I2 P2 hSt2
        refine V_inc3 dL_law_1221 ?_
        refine V_goto (tgt := 18) dL_law_1224 rfl ?_
        refine V_ls (show _ = lwL B b (t + 1) from ?_) ?_
        · have e : nI (8 * t) + Int32.ofInt 8 = nI (8 * (t + 1)) := by
            rw [show Int32.ofInt 8 = nI 8 from rfl, nI_add, Nat.mul_add]
          show [_, _, _, some (.int (nI (8 * t) + Int32.ofInt 8))] = lwL B b (t + 1)
          rw [e]
        · have := ih (t + 1) nx2 sh2 I2 P2 (by omega) (by omega) hSt2
          rw [show 76 + 803 * t + 803 = 76 + 803 * (t + 1) by omega, show 6548 + 4824 * t + 4824 = 6548 + 4824 * (t + 1) by omega]
          exact this
      have none : V X B RL cL_law G (76 + 803 * t) (6548 + 4824 * t) nx sh I P 1221 (lwL B b t) [] := by
        obtain ⟨m, na, ng, nk, nr, nw, nf, nl, dr, rl, hR⟩ := hSt
        exact V.widen (by omega) (by omega) (next _ _ _ _ hR.same)
      have s0 := hSt.s0
      refine V_aln dL_law_27 rfl ?_
      refine V_iln dL_law_28 rfl ?_
      refine V_sld hS dL_law_29 (by omega) hL ?_
      refine V_bipush (v := 31) rfl dL_law_30 ?_
      refine V_iand dL_law_32 ?_
      refine V_tsw_0_26 (td := 1221) (t0 := 156) (t1 := 219) (t2 := 242) (t3 := 285) (t4 := 318) (t5 := 361) (t6 := 404) (t7 := 491) (t8 := 524) (t9 := 557) (t10 := 600) (t11 := 633) (t12 := 656) (t13 := 679) (t14 := 712) (t15 := 755) (t16 := 778) (t17 := 821) (t18 := 874) (t19 := 927) (t20 := 950) (t21 := 983) (t22 := 1016) (t23 := 1049) (t24 := 1092) (t25 := 1135) (t26 := 1198) dL_law_33 rfl rfl rfl rfl rfl rfl rfl rfl rfl rfl rfl rfl rfl rfl rfl rfl rfl rfl rfl rfl rfl rfl rfl rfl rfl rfl rfl rfl (fun _ => none) (fun _ => law_feed hM hS hL ht hSt s0 next) (fun _ => law_end hM hS hL ht hSt s0 next) (fun _ => law_rank hM hS hL ht hSt s0 next) (fun _ => law_feast hM hS hL ht hSt s0 next) (fun _ => law_wedding hM hS hL ht hSt s0 next) (fun _ => law_on hM hS hL ht hSt s0 next) (fun _ => law_gown hM hS hL ht hSt s0 next) (fun _ => law_seal hM hS hL ht hSt s0 next) (fun _ => law_about hM hS hL ht hSt s0 next) (fun _ => law_like hM hS hL ht hSt s0 next) (fun _ => law_counts hM hS hL ht hSt s0 next) (fun _ => law_act hM hS hL ht hSt s0 next) (fun _ => law_fault hM hS hL ht hSt s0 next) (fun _ => law_told hM hS hL ht hSt s0 next) (fun _ => law_rule hM hS hL ht hSt s0 next) (fun _ => law_force hM hS hL ht hSt s0 next) (fun _ => law_fine hM hS hL ht hSt s0 next) (fun _ => law_broken hM hS hL ht hSt s0 next) (fun _ => law_letter hM hS hL ht hSt s0 next) (fun _ => law_judge hM hS hL ht hSt s0 next) (fun _ => law_lettered hM hS hL ht hSt s0 next) (fun _ => law_person hM hS hL ht hSt s0 next) (fun _ => law_price hM hS hL ht hSt s0 next) (fun _ => law_alter hM hS hL ht hSt s0 next) (fun _ => law_best hM hS hL ht hSt s0 next) (fun _ => law_worn hM hS hL ht hSt s0 next) (fun _ => law_count hM hS hL ht hSt s0 next)
end LW
