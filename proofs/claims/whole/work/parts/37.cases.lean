/-! THE LAW'S CASES AND ITS LOOP (rows printed by wip/whole/m13.py) -/
theorem lgc (x : Int64) : lg_cmp x x = 0 := by
  unfold lg_cmp
  rw [if_neg (Int64.lt_irrefl), if_pos rfl]
theorem lc_person (X : ct_X) (z : S_c) (k : S_m) (o : Nat → Int64) (i cb sb : Nat) {Q : Option Value ⊕ Nat → ct_W → Prop} (hi : i + 3 ≤ xL X) (hL : xL X ≤ 1536) (hb1 : Nat.ble (cb + 1) 1090 = true) (hb2 : Nat.ble (sb + 6) 11814 = true) (hS : SL1 X m_L_person m_M_person [.int (xx X (i + 1))] z k o) (hE : ∀ (z' : S_c) (k' : S_m) (o' : Nat → Int64), Rl z' k' → k_rows k' ≤ k_rows k + 2 → AW X m_L_law 11 1090 11814 (cb + 1) (sb + 6) 1245 [some (.ref scr), some (.ref 0), some (.ref 20), some (.ref 37), some (.int (nI (i))), none, none] [] (wL z' k' o') Q) : AW X m_L_law 11 1090 11814 cb sb 136 [some (.ref scr), some (.ref 0), some (.ref 20), some (.ref 37), some (.int (nI (i))), none, none] [] (wL z k o) Q := by
  obtain ⟨c, b, z', k', o', hA, hM, hR, hW, hT, hc, hO⟩ := hS
  refine AW.aload_n (pc' := 137) d_L_law_136 rfl rfl rfl ?_
  refine AW.aload_n (pc' := 138) d_L_law_137 rfl rfl rfl ?_
  refine AW.iload (pc' := 140) d_L_law_138 rfl rfl ?_
  refine AW.iconst (pc' := 141) (v := nI 1) d_L_law_140 rfl (by decide) ?_
  refine AW.iaddN (pc' := 142) d_L_law_141 rfl ?_
  refine AW.sldN (pc' := 143) d_L_law_142 rfl (by omega) (by omega) ?_
  refine AW.aload_n (pc' := 144) d_L_law_143 rfl rfl rfl ?_
  refine AW.cSm (mc' := 1) (ms' := 6) (pc' := 147) d_L_law_144 rfl cs_L_87 (by decide) hA rfl rfl rfl hb1 hb2 rfl rfl ?_
  refine AW.istore (pc' := 149) (ls' := [some (.ref scr), some (.ref 0), some (.ref 20), some (.ref 37), some (.int (nI (i))), some (.int (nI (c))), none]) d_L_law_147 rfl rfl rfl ?_
  refine AW.aload_n (pc' := 150) d_L_law_149 rfl rfl rfl ?_
  refine AW.aload_n (pc' := 151) d_L_law_150 rfl rfl rfl ?_
  refine AW.iload (pc' := 153) d_L_law_151 rfl rfl ?_
  refine AW.iconst (pc' := 154) (v := nI 1) d_L_law_153 rfl (by decide) ?_
  refine AW.iaddN (pc' := 155) d_L_law_154 rfl ?_
  refine AW.sldN (pc' := 156) d_L_law_155 rfl (by omega) (by omega) ?_
  refine AW.cV (pc' := 159) d_L_law_156 rfl cv_L_92 (by decide) rfl rfl rfl (hM o') rfl rfl rfl hb1 hb2 rfl rfl ?_
  refine AW.istore (pc' := 161) (ls' := [some (.ref scr), some (.ref 0), some (.ref 20), some (.ref 37), some (.int (nI (i))), some (.int (nI (c))), some (.int (b))]) d_L_law_159 rfl rfl rfl ?_
  refine AW.aload_n (pc' := 162) d_L_law_161 rfl rfl rfl ?_
  refine AW.cV (pc' := 165) d_L_law_162 rfl cv_L_93 (by decide) rfl rfl rfl (k_thrown X z' k' o') rfl rfl rfl hb1 hb2 rfl rfl ?_
  refine AW.top (u := .int (nI c)) (by rw [hT]) ?_
  refine AW.iload (pc' := 167) d_L_law_165 rfl rfl ?_
  refine AW.icmp_eqN (tgt := 172) (pc' := 170) d_L_law_167 (by decide) rfl (by omega) (by omega) (fun h167 => ?_) (fun h => absurd rfl h)
  refine AW.iload (pc' := 174) d_L_law_172 rfl rfl ?_
  refine AW.if_ne (tgt := 189) (pc' := 177) d_L_law_174 (by decide) rfl (fun hz => ?_) (fun hz => ?_)
  · refine AW.goto (tgt := 1245) d_L_law_189 (by decide) ?_
    exact AW.dropL (j := 5) rfl (AW.dropL (j := 6) rfl (hE z' k' o' hR hW))
  · refine AW.aload_n (pc' := 178) d_L_law_177 rfl rfl rfl ?_
    refine AW.iconst (pc' := 179) (v := nI 0) d_L_law_178 rfl (by decide) ?_
    refine AW.laldN (pc' := 180) d_L_law_179 rfl rfl (by omega) (by decide) ?_
    refine AW.iload (pc' := 182) d_L_law_180 rfl rfl ?_
    refine AW.i2l (pc' := 183) d_L_law_182 rfl ?_
    refine AW.lcmp (pc' := 184) d_L_law_183 rfl ?_
    refine AW.top (u := .int (nI 0)) (by rw [hO hz, lgc]; rfl) ?_
    refine AW.if_eq (tgt := 189) (pc' := 187) d_L_law_184 (by decide) rfl (fun _ => ?_) (fun h => absurd h (by decide))
    refine AW.goto (tgt := 1245) d_L_law_189 (by decide) ?_
    exact AW.dropL (j := 5) rfl (AW.dropL (j := 6) rfl (hE z' k' o' hR hW))
theorem lc_unit (X : ct_X) (z : S_c) (k : S_m) (o : Nat → Int64) (i cb sb : Nat) {Q : Option Value ⊕ Nat → ct_W → Prop} (hi : i + 3 ≤ xL X) (hL : xL X ≤ 1536) (hb1 : Nat.ble (cb + 1) 1090 = true) (hb2 : Nat.ble (sb + 6) 11814 = true) (hS : SL1 X m_L_unit m_M_unit [] z k o) (hE : ∀ (z' : S_c) (k' : S_m) (o' : Nat → Int64), Rl z' k' → k_rows k' ≤ k_rows k + 2 → AW X m_L_law 11 1090 11814 (cb + 1) (sb + 6) 1245 [some (.ref scr), some (.ref 0), some (.ref 20), some (.ref 37), some (.int (nI (i))), none, none] [] (wL z' k' o') Q) : AW X m_L_law 11 1090 11814 cb sb 192 [some (.ref scr), some (.ref 0), some (.ref 20), some (.ref 37), some (.int (nI (i))), none, none] [] (wL z k o) Q := by
  obtain ⟨c, b, z', k', o', hA, hM, hR, hW, hT, hc, hO⟩ := hS
  refine AW.aload_n (pc' := 193) d_L_law_192 rfl rfl rfl ?_
  refine AW.aload_n (pc' := 194) d_L_law_193 rfl rfl rfl ?_
  refine AW.cSm (mc' := 1) (ms' := 6) (pc' := 197) d_L_law_194 rfl cs_L_96 (by decide) hA rfl rfl rfl hb1 hb2 rfl rfl ?_
  refine AW.istore (pc' := 199) (ls' := [some (.ref scr), some (.ref 0), some (.ref 20), some (.ref 37), some (.int (nI (i))), some (.int (nI (c))), none]) d_L_law_197 rfl rfl rfl ?_
  refine AW.aload_n (pc' := 200) d_L_law_199 rfl rfl rfl ?_
  refine AW.cV (pc' := 203) d_L_law_200 rfl cv_L_99 (by decide) rfl rfl rfl (hM o') rfl rfl rfl hb1 hb2 rfl rfl ?_
  refine AW.istore (pc' := 205) (ls' := [some (.ref scr), some (.ref 0), some (.ref 20), some (.ref 37), some (.int (nI (i))), some (.int (nI (c))), some (.int (b))]) d_L_law_203 rfl rfl rfl ?_
  refine AW.aload_n (pc' := 206) d_L_law_205 rfl rfl rfl ?_
  refine AW.cV (pc' := 209) d_L_law_206 rfl cv_L_93 (by decide) rfl rfl rfl (k_thrown X z' k' o') rfl rfl rfl hb1 hb2 rfl rfl ?_
  refine AW.top (u := .int (nI c)) (by rw [hT]) ?_
  refine AW.iload (pc' := 211) d_L_law_209 rfl rfl ?_
  refine AW.icmp_eqN (tgt := 216) (pc' := 214) d_L_law_211 (by decide) rfl (by omega) (by omega) (fun h211 => ?_) (fun h => absurd rfl h)
  refine AW.iload (pc' := 218) d_L_law_216 rfl rfl ?_
  refine AW.if_ne (tgt := 233) (pc' := 221) d_L_law_218 (by decide) rfl (fun hz => ?_) (fun hz => ?_)
  · refine AW.goto (tgt := 1245) d_L_law_233 (by decide) ?_
    exact AW.dropL (j := 5) rfl (AW.dropL (j := 6) rfl (hE z' k' o' hR hW))
  · refine AW.aload_n (pc' := 222) d_L_law_221 rfl rfl rfl ?_
    refine AW.iconst (pc' := 223) (v := nI 0) d_L_law_222 rfl (by decide) ?_
    refine AW.laldN (pc' := 224) d_L_law_223 rfl rfl (by omega) (by decide) ?_
    refine AW.iload (pc' := 226) d_L_law_224 rfl rfl ?_
    refine AW.i2l (pc' := 227) d_L_law_226 rfl ?_
    refine AW.lcmp (pc' := 228) d_L_law_227 rfl ?_
    refine AW.top (u := .int (nI 0)) (by rw [hO hz, lgc]; rfl) ?_
    refine AW.if_eq (tgt := 233) (pc' := 231) d_L_law_228 (by decide) rfl (fun _ => ?_) (fun h => absurd h (by decide))
    refine AW.goto (tgt := 1245) d_L_law_233 (by decide) ?_
    exact AW.dropL (j := 5) rfl (AW.dropL (j := 6) rfl (hE z' k' o' hR hW))
theorem lc_arrive (X : ct_X) (z : S_c) (k : S_m) (o : Nat → Int64) (i cb sb : Nat) {Q : Option Value ⊕ Nat → ct_W → Prop} (hi : i + 3 ≤ xL X) (hL : xL X ≤ 1536) (hb1 : Nat.ble (cb + 1) 1090 = true) (hb2 : Nat.ble (sb + 6) 11814 = true) (hS : SL0 X m_L_arrive m_M_arrive [.int (xx X (i + 1))] z k o) (hE : ∀ (z' : S_c) (k' : S_m) (o' : Nat → Int64), Rl z' k' → k_rows k' ≤ k_rows k + 2 → AW X m_L_law 11 1090 11814 (cb + 1) (sb + 6) 1245 [some (.ref scr), some (.ref 0), some (.ref 20), some (.ref 37), some (.int (nI (i))), none, none] [] (wL z' k' o') Q) : AW X m_L_law 11 1090 11814 cb sb 236 [some (.ref scr), some (.ref 0), some (.ref 20), some (.ref 37), some (.int (nI (i))), none, none] [] (wL z k o) Q := by
  obtain ⟨c, z', k', hA, hM, hR, hW, hT, hc⟩ := hS
  refine AW.aload_n (pc' := 237) d_L_law_236 rfl rfl rfl ?_
  refine AW.aload_n (pc' := 238) d_L_law_237 rfl rfl rfl ?_
  refine AW.iload (pc' := 240) d_L_law_238 rfl rfl ?_
  refine AW.iconst (pc' := 241) (v := nI 1) d_L_law_240 rfl (by decide) ?_
  refine AW.iaddN (pc' := 242) d_L_law_241 rfl ?_
  refine AW.sldN (pc' := 243) d_L_law_242 rfl (by omega) (by omega) ?_
  refine AW.cSm (mc' := 1) (ms' := 6) (pc' := 246) d_L_law_243 rfl cs_L_100 (by decide) hA rfl rfl rfl hb1 hb2 rfl rfl ?_
  refine AW.istore (pc' := 248) (ls' := [some (.ref scr), some (.ref 0), some (.ref 20), some (.ref 37), some (.int (nI (i))), some (.int (nI (c))), none]) d_L_law_246 rfl rfl rfl ?_
  refine AW.aload_n (pc' := 249) d_L_law_248 rfl rfl rfl ?_
  refine AW.aload_n (pc' := 250) d_L_law_249 rfl rfl rfl ?_
  refine AW.iload (pc' := 252) d_L_law_250 rfl rfl ?_
  refine AW.iconst (pc' := 253) (v := nI 1) d_L_law_252 rfl (by decide) ?_
  refine AW.iaddN (pc' := 254) d_L_law_253 rfl ?_
  refine AW.sldN (pc' := 255) d_L_law_254 rfl (by omega) (by omega) ?_
  refine AW.cV (pc' := 258) d_L_law_255 rfl cv_L_103 (by decide) rfl rfl rfl (hM o) rfl rfl rfl hb1 hb2 rfl rfl ?_
  refine AW.aload_n (pc' := 259) d_L_law_258 rfl rfl rfl ?_
  refine AW.cV (pc' := 262) d_L_law_259 rfl cv_L_93 (by decide) rfl rfl rfl (k_thrown X z' k' o) rfl rfl rfl hb1 hb2 rfl rfl ?_
  refine AW.top (u := .int (nI c)) (by rw [hT]) ?_
  refine AW.iload (pc' := 264) d_L_law_262 rfl rfl ?_
  refine AW.icmp_eqN (tgt := 269) (pc' := 267) d_L_law_264 (by decide) rfl (by omega) (by omega) (fun h264 => ?_) (fun h => absurd rfl h)
  refine AW.goto (tgt := 1245) d_L_law_269 (by decide) ?_
  exact AW.dropL (j := 5) rfl (hE z' k' o hR hW)
theorem lc_leave (X : ct_X) (z : S_c) (k : S_m) (o : Nat → Int64) (i cb sb : Nat) {Q : Option Value ⊕ Nat → ct_W → Prop} (hi : i + 3 ≤ xL X) (hL : xL X ≤ 1536) (hb1 : Nat.ble (cb + 1) 1090 = true) (hb2 : Nat.ble (sb + 6) 11814 = true) (hS : SL0 X m_L_leave m_M_leave [.int (xx X (i + 1))] z k o) (hE : ∀ (z' : S_c) (k' : S_m) (o' : Nat → Int64), Rl z' k' → k_rows k' ≤ k_rows k + 2 → AW X m_L_law 11 1090 11814 (cb + 1) (sb + 6) 1245 [some (.ref scr), some (.ref 0), some (.ref 20), some (.ref 37), some (.int (nI (i))), none, none] [] (wL z' k' o') Q) : AW X m_L_law 11 1090 11814 cb sb 272 [some (.ref scr), some (.ref 0), some (.ref 20), some (.ref 37), some (.int (nI (i))), none, none] [] (wL z k o) Q := by
  obtain ⟨c, z', k', hA, hM, hR, hW, hT, hc⟩ := hS
  refine AW.aload_n (pc' := 273) d_L_law_272 rfl rfl rfl ?_
  refine AW.aload_n (pc' := 274) d_L_law_273 rfl rfl rfl ?_
  refine AW.iload (pc' := 276) d_L_law_274 rfl rfl ?_
  refine AW.iconst (pc' := 277) (v := nI 1) d_L_law_276 rfl (by decide) ?_
  refine AW.iaddN (pc' := 278) d_L_law_277 rfl ?_
  refine AW.sldN (pc' := 279) d_L_law_278 rfl (by omega) (by omega) ?_
  refine AW.cSm (mc' := 1) (ms' := 6) (pc' := 282) d_L_law_279 rfl cs_L_104 (by decide) hA rfl rfl rfl hb1 hb2 rfl rfl ?_
  refine AW.istore (pc' := 284) (ls' := [some (.ref scr), some (.ref 0), some (.ref 20), some (.ref 37), some (.int (nI (i))), some (.int (nI (c))), none]) d_L_law_282 rfl rfl rfl ?_
  refine AW.aload_n (pc' := 285) d_L_law_284 rfl rfl rfl ?_
  refine AW.aload_n (pc' := 286) d_L_law_285 rfl rfl rfl ?_
  refine AW.iload (pc' := 288) d_L_law_286 rfl rfl ?_
  refine AW.iconst (pc' := 289) (v := nI 1) d_L_law_288 rfl (by decide) ?_
  refine AW.iaddN (pc' := 290) d_L_law_289 rfl ?_
  refine AW.sldN (pc' := 291) d_L_law_290 rfl (by omega) (by omega) ?_
  refine AW.cV (pc' := 294) d_L_law_291 rfl cv_L_106 (by decide) rfl rfl rfl (hM o) rfl rfl rfl hb1 hb2 rfl rfl ?_
  refine AW.aload_n (pc' := 295) d_L_law_294 rfl rfl rfl ?_
  refine AW.cV (pc' := 298) d_L_law_295 rfl cv_L_93 (by decide) rfl rfl rfl (k_thrown X z' k' o) rfl rfl rfl hb1 hb2 rfl rfl ?_
  refine AW.top (u := .int (nI c)) (by rw [hT]) ?_
  refine AW.iload (pc' := 300) d_L_law_298 rfl rfl ?_
  refine AW.icmp_eqN (tgt := 305) (pc' := 303) d_L_law_300 (by decide) rfl (by omega) (by omega) (fun h300 => ?_) (fun h => absurd rfl h)
  refine AW.goto (tgt := 1245) d_L_law_305 (by decide) ?_
  exact AW.dropL (j := 5) rfl (hE z' k' o hR hW)
theorem lc_go (X : ct_X) (z : S_c) (k : S_m) (o : Nat → Int64) (i cb sb : Nat) {Q : Option Value ⊕ Nat → ct_W → Prop} (hi : i + 3 ≤ xL X) (hL : xL X ≤ 1536) (hb1 : Nat.ble (cb + 1) 1090 = true) (hb2 : Nat.ble (sb + 6) 11814 = true) (hS : SL0 X m_L_go m_M_go [.int (xx X (i + 1)), .int (xx X (i + 2))] z k o) (hE : ∀ (z' : S_c) (k' : S_m) (o' : Nat → Int64), Rl z' k' → k_rows k' ≤ k_rows k + 2 → AW X m_L_law 11 1090 11814 (cb + 1) (sb + 6) 1245 [some (.ref scr), some (.ref 0), some (.ref 20), some (.ref 37), some (.int (nI (i))), none, none] [] (wL z' k' o') Q) : AW X m_L_law 11 1090 11814 cb sb 308 [some (.ref scr), some (.ref 0), some (.ref 20), some (.ref 37), some (.int (nI (i))), none, none] [] (wL z k o) Q := by
  obtain ⟨c, z', k', hA, hM, hR, hW, hT, hc⟩ := hS
  refine AW.aload_n (pc' := 309) d_L_law_308 rfl rfl rfl ?_
  refine AW.aload_n (pc' := 310) d_L_law_309 rfl rfl rfl ?_
  refine AW.iload (pc' := 312) d_L_law_310 rfl rfl ?_
  refine AW.iconst (pc' := 313) (v := nI 1) d_L_law_312 rfl (by decide) ?_
  refine AW.iaddN (pc' := 314) d_L_law_313 rfl ?_
  refine AW.sldN (pc' := 315) d_L_law_314 rfl (by omega) (by omega) ?_
  refine AW.aload_n (pc' := 316) d_L_law_315 rfl rfl rfl ?_
  refine AW.iload (pc' := 318) d_L_law_316 rfl rfl ?_
  refine AW.iconst (pc' := 319) (v := nI 2) d_L_law_318 rfl (by decide) ?_
  refine AW.iaddN (pc' := 320) d_L_law_319 rfl ?_
  refine AW.sldN (pc' := 321) d_L_law_320 rfl (by omega) (by omega) ?_
  refine AW.cSm (mc' := 1) (ms' := 6) (pc' := 324) d_L_law_321 rfl cs_L_107 (by decide) hA rfl rfl rfl hb1 hb2 rfl rfl ?_
  refine AW.istore (pc' := 326) (ls' := [some (.ref scr), some (.ref 0), some (.ref 20), some (.ref 37), some (.int (nI (i))), some (.int (nI (c))), none]) d_L_law_324 rfl rfl rfl ?_
  refine AW.aload_n (pc' := 327) d_L_law_326 rfl rfl rfl ?_
  refine AW.aload_n (pc' := 328) d_L_law_327 rfl rfl rfl ?_
  refine AW.iload (pc' := 330) d_L_law_328 rfl rfl ?_
  refine AW.iconst (pc' := 331) (v := nI 1) d_L_law_330 rfl (by decide) ?_
  refine AW.iaddN (pc' := 332) d_L_law_331 rfl ?_
  refine AW.sldN (pc' := 333) d_L_law_332 rfl (by omega) (by omega) ?_
  refine AW.aload_n (pc' := 334) d_L_law_333 rfl rfl rfl ?_
  refine AW.iload (pc' := 336) d_L_law_334 rfl rfl ?_
  refine AW.iconst (pc' := 337) (v := nI 2) d_L_law_336 rfl (by decide) ?_
  refine AW.iaddN (pc' := 338) d_L_law_337 rfl ?_
  refine AW.sldN (pc' := 339) d_L_law_338 rfl (by omega) (by omega) ?_
  refine AW.cV (pc' := 342) d_L_law_339 rfl cv_L_110 (by decide) rfl rfl rfl (hM o) rfl rfl rfl hb1 hb2 rfl rfl ?_
  refine AW.aload_n (pc' := 343) d_L_law_342 rfl rfl rfl ?_
  refine AW.cV (pc' := 346) d_L_law_343 rfl cv_L_93 (by decide) rfl rfl rfl (k_thrown X z' k' o) rfl rfl rfl hb1 hb2 rfl rfl ?_
  refine AW.top (u := .int (nI c)) (by rw [hT]) ?_
  refine AW.iload (pc' := 348) d_L_law_346 rfl rfl ?_
  refine AW.icmp_eqN (tgt := 353) (pc' := 351) d_L_law_348 (by decide) rfl (by omega) (by omega) (fun h348 => ?_) (fun h => absurd rfl h)
  refine AW.goto (tgt := 1245) d_L_law_353 (by decide) ?_
  exact AW.dropL (j := 5) rfl (hE z' k' o hR hW)
theorem lc_place (X : ct_X) (z : S_c) (k : S_m) (o : Nat → Int64) (i cb sb : Nat) {Q : Option Value ⊕ Nat → ct_W → Prop} (hi : i + 3 ≤ xL X) (hL : xL X ≤ 1536) (hb1 : Nat.ble (cb + 1) 1090 = true) (hb2 : Nat.ble (sb + 6) 11814 = true) (hS : SL0 X m_L_place m_M_place [.int (xx X (i + 1)), .int (xx X (i + 2))] z k o) (hE : ∀ (z' : S_c) (k' : S_m) (o' : Nat → Int64), Rl z' k' → k_rows k' ≤ k_rows k + 2 → AW X m_L_law 11 1090 11814 (cb + 1) (sb + 6) 1245 [some (.ref scr), some (.ref 0), some (.ref 20), some (.ref 37), some (.int (nI (i))), none, none] [] (wL z' k' o') Q) : AW X m_L_law 11 1090 11814 cb sb 356 [some (.ref scr), some (.ref 0), some (.ref 20), some (.ref 37), some (.int (nI (i))), none, none] [] (wL z k o) Q := by
  obtain ⟨c, z', k', hA, hM, hR, hW, hT, hc⟩ := hS
  refine AW.aload_n (pc' := 357) d_L_law_356 rfl rfl rfl ?_
  refine AW.aload_n (pc' := 358) d_L_law_357 rfl rfl rfl ?_
  refine AW.iload (pc' := 360) d_L_law_358 rfl rfl ?_
  refine AW.iconst (pc' := 361) (v := nI 1) d_L_law_360 rfl (by decide) ?_
  refine AW.iaddN (pc' := 362) d_L_law_361 rfl ?_
  refine AW.sldN (pc' := 363) d_L_law_362 rfl (by omega) (by omega) ?_
  refine AW.aload_n (pc' := 364) d_L_law_363 rfl rfl rfl ?_
  refine AW.iload (pc' := 366) d_L_law_364 rfl rfl ?_
  refine AW.iconst (pc' := 367) (v := nI 2) d_L_law_366 rfl (by decide) ?_
  refine AW.iaddN (pc' := 368) d_L_law_367 rfl ?_
  refine AW.sldN (pc' := 369) d_L_law_368 rfl (by omega) (by omega) ?_
  refine AW.cSm (mc' := 1) (ms' := 6) (pc' := 372) d_L_law_369 rfl cs_L_111 (by decide) hA rfl rfl rfl hb1 hb2 rfl rfl ?_
  refine AW.istore (pc' := 374) (ls' := [some (.ref scr), some (.ref 0), some (.ref 20), some (.ref 37), some (.int (nI (i))), some (.int (nI (c))), none]) d_L_law_372 rfl rfl rfl ?_
  refine AW.aload_n (pc' := 375) d_L_law_374 rfl rfl rfl ?_
  refine AW.aload_n (pc' := 376) d_L_law_375 rfl rfl rfl ?_
  refine AW.iload (pc' := 378) d_L_law_376 rfl rfl ?_
  refine AW.iconst (pc' := 379) (v := nI 1) d_L_law_378 rfl (by decide) ?_
  refine AW.iaddN (pc' := 380) d_L_law_379 rfl ?_
  refine AW.sldN (pc' := 381) d_L_law_380 rfl (by omega) (by omega) ?_
  refine AW.aload_n (pc' := 382) d_L_law_381 rfl rfl rfl ?_
  refine AW.iload (pc' := 384) d_L_law_382 rfl rfl ?_
  refine AW.iconst (pc' := 385) (v := nI 2) d_L_law_384 rfl (by decide) ?_
  refine AW.iaddN (pc' := 386) d_L_law_385 rfl ?_
  refine AW.sldN (pc' := 387) d_L_law_386 rfl (by omega) (by omega) ?_
  refine AW.cV (pc' := 390) d_L_law_387 rfl cv_L_113 (by decide) rfl rfl rfl (hM o) rfl rfl rfl hb1 hb2 rfl rfl ?_
  refine AW.aload_n (pc' := 391) d_L_law_390 rfl rfl rfl ?_
  refine AW.cV (pc' := 394) d_L_law_391 rfl cv_L_93 (by decide) rfl rfl rfl (k_thrown X z' k' o) rfl rfl rfl hb1 hb2 rfl rfl ?_
  refine AW.top (u := .int (nI c)) (by rw [hT]) ?_
  refine AW.iload (pc' := 396) d_L_law_394 rfl rfl ?_
  refine AW.icmp_eqN (tgt := 401) (pc' := 399) d_L_law_396 (by decide) rfl (by omega) (by omega) (fun h396 => ?_) (fun h => absurd rfl h)
  refine AW.goto (tgt := 1245) d_L_law_401 (by decide) ?_
  exact AW.dropL (j := 5) rfl (hE z' k' o hR hW)
theorem lc_split (X : ct_X) (z : S_c) (k : S_m) (o : Nat → Int64) (i cb sb : Nat) {Q : Option Value ⊕ Nat → ct_W → Prop} (hi : i + 3 ≤ xL X) (hL : xL X ≤ 1536) (hb1 : Nat.ble (cb + 1) 1090 = true) (hb2 : Nat.ble (sb + 6) 11814 = true) (hS : SL1 X m_L_split m_M_split [.int (xx X (i + 1))] z k o) (hE : ∀ (z' : S_c) (k' : S_m) (o' : Nat → Int64), Rl z' k' → k_rows k' ≤ k_rows k + 2 → AW X m_L_law 11 1090 11814 (cb + 1) (sb + 6) 1245 [some (.ref scr), some (.ref 0), some (.ref 20), some (.ref 37), some (.int (nI (i))), none, none] [] (wL z' k' o') Q) : AW X m_L_law 11 1090 11814 cb sb 404 [some (.ref scr), some (.ref 0), some (.ref 20), some (.ref 37), some (.int (nI (i))), none, none] [] (wL z k o) Q := by
  obtain ⟨c, b, z', k', o', hA, hM, hR, hW, hT, hc, hO⟩ := hS
  refine AW.aload_n (pc' := 405) d_L_law_404 rfl rfl rfl ?_
  refine AW.aload_n (pc' := 406) d_L_law_405 rfl rfl rfl ?_
  refine AW.iload (pc' := 408) d_L_law_406 rfl rfl ?_
  refine AW.iconst (pc' := 409) (v := nI 1) d_L_law_408 rfl (by decide) ?_
  refine AW.iaddN (pc' := 410) d_L_law_409 rfl ?_
  refine AW.sldN (pc' := 411) d_L_law_410 rfl (by omega) (by omega) ?_
  refine AW.aload_n (pc' := 412) d_L_law_411 rfl rfl rfl ?_
  refine AW.cSm (mc' := 1) (ms' := 6) (pc' := 415) d_L_law_412 rfl cs_L_114 (by decide) hA rfl rfl rfl hb1 hb2 rfl rfl ?_
  refine AW.istore (pc' := 417) (ls' := [some (.ref scr), some (.ref 0), some (.ref 20), some (.ref 37), some (.int (nI (i))), some (.int (nI (c))), none]) d_L_law_415 rfl rfl rfl ?_
  refine AW.aload_n (pc' := 418) d_L_law_417 rfl rfl rfl ?_
  refine AW.aload_n (pc' := 419) d_L_law_418 rfl rfl rfl ?_
  refine AW.iload (pc' := 421) d_L_law_419 rfl rfl ?_
  refine AW.iconst (pc' := 422) (v := nI 1) d_L_law_421 rfl (by decide) ?_
  refine AW.iaddN (pc' := 423) d_L_law_422 rfl ?_
  refine AW.sldN (pc' := 424) d_L_law_423 rfl (by omega) (by omega) ?_
  refine AW.cV (pc' := 427) d_L_law_424 rfl cv_L_116 (by decide) rfl rfl rfl (hM o') rfl rfl rfl hb1 hb2 rfl rfl ?_
  refine AW.istore (pc' := 429) (ls' := [some (.ref scr), some (.ref 0), some (.ref 20), some (.ref 37), some (.int (nI (i))), some (.int (nI (c))), some (.int (b))]) d_L_law_427 rfl rfl rfl ?_
  refine AW.aload_n (pc' := 430) d_L_law_429 rfl rfl rfl ?_
  refine AW.cV (pc' := 433) d_L_law_430 rfl cv_L_93 (by decide) rfl rfl rfl (k_thrown X z' k' o') rfl rfl rfl hb1 hb2 rfl rfl ?_
  refine AW.top (u := .int (nI c)) (by rw [hT]) ?_
  refine AW.iload (pc' := 435) d_L_law_433 rfl rfl ?_
  refine AW.icmp_eqN (tgt := 440) (pc' := 438) d_L_law_435 (by decide) rfl (by omega) (by omega) (fun h435 => ?_) (fun h => absurd rfl h)
  refine AW.iload (pc' := 442) d_L_law_440 rfl rfl ?_
  refine AW.if_ne (tgt := 457) (pc' := 445) d_L_law_442 (by decide) rfl (fun hz => ?_) (fun hz => ?_)
  · refine AW.goto (tgt := 1245) d_L_law_457 (by decide) ?_
    exact AW.dropL (j := 5) rfl (AW.dropL (j := 6) rfl (hE z' k' o' hR hW))
  · refine AW.aload_n (pc' := 446) d_L_law_445 rfl rfl rfl ?_
    refine AW.iconst (pc' := 447) (v := nI 0) d_L_law_446 rfl (by decide) ?_
    refine AW.laldN (pc' := 448) d_L_law_447 rfl rfl (by omega) (by decide) ?_
    refine AW.iload (pc' := 450) d_L_law_448 rfl rfl ?_
    refine AW.i2l (pc' := 451) d_L_law_450 rfl ?_
    refine AW.lcmp (pc' := 452) d_L_law_451 rfl ?_
    refine AW.top (u := .int (nI 0)) (by rw [hO hz, lgc]; rfl) ?_
    refine AW.if_eq (tgt := 457) (pc' := 455) d_L_law_452 (by decide) rfl (fun _ => ?_) (fun h => absurd h (by decide))
    refine AW.goto (tgt := 1245) d_L_law_457 (by decide) ?_
    exact AW.dropL (j := 5) rfl (AW.dropL (j := 6) rfl (hE z' k' o' hR hW))
theorem lc_join (X : ct_X) (z : S_c) (k : S_m) (o : Nat → Int64) (i cb sb : Nat) {Q : Option Value ⊕ Nat → ct_W → Prop} (hi : i + 3 ≤ xL X) (hL : xL X ≤ 1536) (hb1 : Nat.ble (cb + 1) 1090 = true) (hb2 : Nat.ble (sb + 6) 11814 = true) (hS : SL0 X m_L_join m_M_join [.int (xx X (i + 1)), .int (xx X (i + 2))] z k o) (hE : ∀ (z' : S_c) (k' : S_m) (o' : Nat → Int64), Rl z' k' → k_rows k' ≤ k_rows k + 2 → AW X m_L_law 11 1090 11814 (cb + 1) (sb + 6) 1245 [some (.ref scr), some (.ref 0), some (.ref 20), some (.ref 37), some (.int (nI (i))), none, none] [] (wL z' k' o') Q) : AW X m_L_law 11 1090 11814 cb sb 460 [some (.ref scr), some (.ref 0), some (.ref 20), some (.ref 37), some (.int (nI (i))), none, none] [] (wL z k o) Q := by
  obtain ⟨c, z', k', hA, hM, hR, hW, hT, hc⟩ := hS
  refine AW.aload_n (pc' := 461) d_L_law_460 rfl rfl rfl ?_
  refine AW.aload_n (pc' := 462) d_L_law_461 rfl rfl rfl ?_
  refine AW.iload (pc' := 464) d_L_law_462 rfl rfl ?_
  refine AW.iconst (pc' := 465) (v := nI 1) d_L_law_464 rfl (by decide) ?_
  refine AW.iaddN (pc' := 466) d_L_law_465 rfl ?_
  refine AW.sldN (pc' := 467) d_L_law_466 rfl (by omega) (by omega) ?_
  refine AW.aload_n (pc' := 468) d_L_law_467 rfl rfl rfl ?_
  refine AW.iload (pc' := 470) d_L_law_468 rfl rfl ?_
  refine AW.iconst (pc' := 471) (v := nI 2) d_L_law_470 rfl (by decide) ?_
  refine AW.iaddN (pc' := 472) d_L_law_471 rfl ?_
  refine AW.sldN (pc' := 473) d_L_law_472 rfl (by omega) (by omega) ?_
  refine AW.cSm (mc' := 1) (ms' := 6) (pc' := 476) d_L_law_473 rfl cs_L_117 (by decide) hA rfl rfl rfl hb1 hb2 rfl rfl ?_
  refine AW.istore (pc' := 478) (ls' := [some (.ref scr), some (.ref 0), some (.ref 20), some (.ref 37), some (.int (nI (i))), some (.int (nI (c))), none]) d_L_law_476 rfl rfl rfl ?_
  refine AW.aload_n (pc' := 479) d_L_law_478 rfl rfl rfl ?_
  refine AW.aload_n (pc' := 480) d_L_law_479 rfl rfl rfl ?_
  refine AW.iload (pc' := 482) d_L_law_480 rfl rfl ?_
  refine AW.iconst (pc' := 483) (v := nI 1) d_L_law_482 rfl (by decide) ?_
  refine AW.iaddN (pc' := 484) d_L_law_483 rfl ?_
  refine AW.sldN (pc' := 485) d_L_law_484 rfl (by omega) (by omega) ?_
  refine AW.aload_n (pc' := 486) d_L_law_485 rfl rfl rfl ?_
  refine AW.iload (pc' := 488) d_L_law_486 rfl rfl ?_
  refine AW.iconst (pc' := 489) (v := nI 2) d_L_law_488 rfl (by decide) ?_
  refine AW.iaddN (pc' := 490) d_L_law_489 rfl ?_
  refine AW.sldN (pc' := 491) d_L_law_490 rfl (by omega) (by omega) ?_
  refine AW.cV (pc' := 494) d_L_law_491 rfl cv_L_119 (by decide) rfl rfl rfl (hM o) rfl rfl rfl hb1 hb2 rfl rfl ?_
  refine AW.aload_n (pc' := 495) d_L_law_494 rfl rfl rfl ?_
  refine AW.cV (pc' := 498) d_L_law_495 rfl cv_L_93 (by decide) rfl rfl rfl (k_thrown X z' k' o) rfl rfl rfl hb1 hb2 rfl rfl ?_
  refine AW.top (u := .int (nI c)) (by rw [hT]) ?_
  refine AW.iload (pc' := 500) d_L_law_498 rfl rfl ?_
  refine AW.icmp_eqN (tgt := 505) (pc' := 503) d_L_law_500 (by decide) rfl (by omega) (by omega) (fun h500 => ?_) (fun h => absurd rfl h)
  refine AW.goto (tgt := 1245) d_L_law_505 (by decide) ?_
  exact AW.dropL (j := 5) rfl (hE z' k' o hR hW)
theorem lc_offer (X : ct_X) (z : S_c) (k : S_m) (o : Nat → Int64) (i cb sb : Nat) {Q : Option Value ⊕ Nat → ct_W → Prop} (hi : i + 3 ≤ xL X) (hL : xL X ≤ 1536) (hb1 : Nat.ble (cb + 1) 1090 = true) (hb2 : Nat.ble (sb + 6) 11814 = true) (hS : SL0 X m_L_offer m_M_offer [.int (xx X (i + 1)), .int (xx X (i + 2))] z k o) (hE : ∀ (z' : S_c) (k' : S_m) (o' : Nat → Int64), Rl z' k' → k_rows k' ≤ k_rows k + 2 → AW X m_L_law 11 1090 11814 (cb + 1) (sb + 6) 1245 [some (.ref scr), some (.ref 0), some (.ref 20), some (.ref 37), some (.int (nI (i))), none, none] [] (wL z' k' o') Q) : AW X m_L_law 11 1090 11814 cb sb 508 [some (.ref scr), some (.ref 0), some (.ref 20), some (.ref 37), some (.int (nI (i))), none, none] [] (wL z k o) Q := by
  obtain ⟨c, z', k', hA, hM, hR, hW, hT, hc⟩ := hS
  refine AW.aload_n (pc' := 509) d_L_law_508 rfl rfl rfl ?_
  refine AW.aload_n (pc' := 510) d_L_law_509 rfl rfl rfl ?_
  refine AW.iload (pc' := 512) d_L_law_510 rfl rfl ?_
  refine AW.iconst (pc' := 513) (v := nI 1) d_L_law_512 rfl (by decide) ?_
  refine AW.iaddN (pc' := 514) d_L_law_513 rfl ?_
  refine AW.sldN (pc' := 515) d_L_law_514 rfl (by omega) (by omega) ?_
  refine AW.aload_n (pc' := 516) d_L_law_515 rfl rfl rfl ?_
  refine AW.iload (pc' := 518) d_L_law_516 rfl rfl ?_
  refine AW.iconst (pc' := 519) (v := nI 2) d_L_law_518 rfl (by decide) ?_
  refine AW.iaddN (pc' := 520) d_L_law_519 rfl ?_
  refine AW.sldN (pc' := 521) d_L_law_520 rfl (by omega) (by omega) ?_
  refine AW.cSm (mc' := 1) (ms' := 6) (pc' := 524) d_L_law_521 rfl cs_L_120 (by decide) hA rfl rfl rfl hb1 hb2 rfl rfl ?_
  refine AW.istore (pc' := 526) (ls' := [some (.ref scr), some (.ref 0), some (.ref 20), some (.ref 37), some (.int (nI (i))), some (.int (nI (c))), none]) d_L_law_524 rfl rfl rfl ?_
  refine AW.aload_n (pc' := 527) d_L_law_526 rfl rfl rfl ?_
  refine AW.aload_n (pc' := 528) d_L_law_527 rfl rfl rfl ?_
  refine AW.iload (pc' := 530) d_L_law_528 rfl rfl ?_
  refine AW.iconst (pc' := 531) (v := nI 1) d_L_law_530 rfl (by decide) ?_
  refine AW.iaddN (pc' := 532) d_L_law_531 rfl ?_
  refine AW.sldN (pc' := 533) d_L_law_532 rfl (by omega) (by omega) ?_
  refine AW.aload_n (pc' := 534) d_L_law_533 rfl rfl rfl ?_
  refine AW.iload (pc' := 536) d_L_law_534 rfl rfl ?_
  refine AW.iconst (pc' := 537) (v := nI 2) d_L_law_536 rfl (by decide) ?_
  refine AW.iaddN (pc' := 538) d_L_law_537 rfl ?_
  refine AW.sldN (pc' := 539) d_L_law_538 rfl (by omega) (by omega) ?_
  refine AW.cV (pc' := 542) d_L_law_539 rfl cv_L_122 (by decide) rfl rfl rfl (hM o) rfl rfl rfl hb1 hb2 rfl rfl ?_
  refine AW.aload_n (pc' := 543) d_L_law_542 rfl rfl rfl ?_
  refine AW.cV (pc' := 546) d_L_law_543 rfl cv_L_93 (by decide) rfl rfl rfl (k_thrown X z' k' o) rfl rfl rfl hb1 hb2 rfl rfl ?_
  refine AW.top (u := .int (nI c)) (by rw [hT]) ?_
  refine AW.iload (pc' := 548) d_L_law_546 rfl rfl ?_
  refine AW.icmp_eqN (tgt := 553) (pc' := 551) d_L_law_548 (by decide) rfl (by omega) (by omega) (fun h548 => ?_) (fun h => absurd rfl h)
  refine AW.goto (tgt := 1245) d_L_law_553 (by decide) ?_
  exact AW.dropL (j := 5) rfl (hE z' k' o hR hW)
theorem lc_take (X : ct_X) (z : S_c) (k : S_m) (o : Nat → Int64) (i cb sb : Nat) {Q : Option Value ⊕ Nat → ct_W → Prop} (hi : i + 3 ≤ xL X) (hL : xL X ≤ 1536) (hb1 : Nat.ble (cb + 1) 1090 = true) (hb2 : Nat.ble (sb + 6) 11814 = true) (hS : SL0 X m_L_take m_M_take [.int (xx X (i + 1)), .int (xx X (i + 2))] z k o) (hE : ∀ (z' : S_c) (k' : S_m) (o' : Nat → Int64), Rl z' k' → k_rows k' ≤ k_rows k + 2 → AW X m_L_law 11 1090 11814 (cb + 1) (sb + 6) 1245 [some (.ref scr), some (.ref 0), some (.ref 20), some (.ref 37), some (.int (nI (i))), none, none] [] (wL z' k' o') Q) : AW X m_L_law 11 1090 11814 cb sb 556 [some (.ref scr), some (.ref 0), some (.ref 20), some (.ref 37), some (.int (nI (i))), none, none] [] (wL z k o) Q := by
  obtain ⟨c, z', k', hA, hM, hR, hW, hT, hc⟩ := hS
  refine AW.aload_n (pc' := 557) d_L_law_556 rfl rfl rfl ?_
  refine AW.aload_n (pc' := 558) d_L_law_557 rfl rfl rfl ?_
  refine AW.iload (pc' := 560) d_L_law_558 rfl rfl ?_
  refine AW.iconst (pc' := 561) (v := nI 1) d_L_law_560 rfl (by decide) ?_
  refine AW.iaddN (pc' := 562) d_L_law_561 rfl ?_
  refine AW.sldN (pc' := 563) d_L_law_562 rfl (by omega) (by omega) ?_
  refine AW.aload_n (pc' := 564) d_L_law_563 rfl rfl rfl ?_
  refine AW.iload (pc' := 566) d_L_law_564 rfl rfl ?_
  refine AW.iconst (pc' := 567) (v := nI 2) d_L_law_566 rfl (by decide) ?_
  refine AW.iaddN (pc' := 568) d_L_law_567 rfl ?_
  refine AW.sldN (pc' := 569) d_L_law_568 rfl (by omega) (by omega) ?_
  refine AW.cSm (mc' := 1) (ms' := 6) (pc' := 572) d_L_law_569 rfl cs_L_123 (by decide) hA rfl rfl rfl hb1 hb2 rfl rfl ?_
  refine AW.istore (pc' := 574) (ls' := [some (.ref scr), some (.ref 0), some (.ref 20), some (.ref 37), some (.int (nI (i))), some (.int (nI (c))), none]) d_L_law_572 rfl rfl rfl ?_
  refine AW.aload_n (pc' := 575) d_L_law_574 rfl rfl rfl ?_
  refine AW.aload_n (pc' := 576) d_L_law_575 rfl rfl rfl ?_
  refine AW.iload (pc' := 578) d_L_law_576 rfl rfl ?_
  refine AW.iconst (pc' := 579) (v := nI 1) d_L_law_578 rfl (by decide) ?_
  refine AW.iaddN (pc' := 580) d_L_law_579 rfl ?_
  refine AW.sldN (pc' := 581) d_L_law_580 rfl (by omega) (by omega) ?_
  refine AW.aload_n (pc' := 582) d_L_law_581 rfl rfl rfl ?_
  refine AW.iload (pc' := 584) d_L_law_582 rfl rfl ?_
  refine AW.iconst (pc' := 585) (v := nI 2) d_L_law_584 rfl (by decide) ?_
  refine AW.iaddN (pc' := 586) d_L_law_585 rfl ?_
  refine AW.sldN (pc' := 587) d_L_law_586 rfl (by omega) (by omega) ?_
  refine AW.cV (pc' := 590) d_L_law_587 rfl cv_L_125 (by decide) rfl rfl rfl (hM o) rfl rfl rfl hb1 hb2 rfl rfl ?_
  refine AW.aload_n (pc' := 591) d_L_law_590 rfl rfl rfl ?_
  refine AW.cV (pc' := 594) d_L_law_591 rfl cv_L_93 (by decide) rfl rfl rfl (k_thrown X z' k' o) rfl rfl rfl hb1 hb2 rfl rfl ?_
  refine AW.top (u := .int (nI c)) (by rw [hT]) ?_
  refine AW.iload (pc' := 596) d_L_law_594 rfl rfl ?_
  refine AW.icmp_eqN (tgt := 601) (pc' := 599) d_L_law_596 (by decide) rfl (by omega) (by omega) (fun h596 => ?_) (fun h => absurd rfl h)
  refine AW.goto (tgt := 1245) d_L_law_601 (by decide) ?_
  exact AW.dropL (j := 5) rfl (hE z' k' o hR hW)
theorem lc_task (X : ct_X) (z : S_c) (k : S_m) (o : Nat → Int64) (i cb sb : Nat) {Q : Option Value ⊕ Nat → ct_W → Prop} (hi : i + 3 ≤ xL X) (hL : xL X ≤ 1536) (hb1 : Nat.ble (cb + 1) 1090 = true) (hb2 : Nat.ble (sb + 6) 11814 = true) (hS : SL1 X m_L_task m_M_task [.int (xx X (i + 1)), .int (xx X (i + 2))] z k o) (hE : ∀ (z' : S_c) (k' : S_m) (o' : Nat → Int64), Rl z' k' → k_rows k' ≤ k_rows k + 2 → AW X m_L_law 11 1090 11814 (cb + 1) (sb + 6) 1245 [some (.ref scr), some (.ref 0), some (.ref 20), some (.ref 37), some (.int (nI (i))), none, none] [] (wL z' k' o') Q) : AW X m_L_law 11 1090 11814 cb sb 604 [some (.ref scr), some (.ref 0), some (.ref 20), some (.ref 37), some (.int (nI (i))), none, none] [] (wL z k o) Q := by
  obtain ⟨c, b, z', k', o', hA, hM, hR, hW, hT, hc, hO⟩ := hS
  refine AW.aload_n (pc' := 605) d_L_law_604 rfl rfl rfl ?_
  refine AW.aload_n (pc' := 606) d_L_law_605 rfl rfl rfl ?_
  refine AW.iload (pc' := 608) d_L_law_606 rfl rfl ?_
  refine AW.iconst (pc' := 609) (v := nI 1) d_L_law_608 rfl (by decide) ?_
  refine AW.iaddN (pc' := 610) d_L_law_609 rfl ?_
  refine AW.sldN (pc' := 611) d_L_law_610 rfl (by omega) (by omega) ?_
  refine AW.aload_n (pc' := 612) d_L_law_611 rfl rfl rfl ?_
  refine AW.iload (pc' := 614) d_L_law_612 rfl rfl ?_
  refine AW.iconst (pc' := 615) (v := nI 2) d_L_law_614 rfl (by decide) ?_
  refine AW.iaddN (pc' := 616) d_L_law_615 rfl ?_
  refine AW.sldN (pc' := 617) d_L_law_616 rfl (by omega) (by omega) ?_
  refine AW.aload_n (pc' := 618) d_L_law_617 rfl rfl rfl ?_
  refine AW.cSm (mc' := 1) (ms' := 6) (pc' := 621) d_L_law_618 rfl cs_L_126 (by decide) hA rfl rfl rfl hb1 hb2 rfl rfl ?_
  refine AW.istore (pc' := 623) (ls' := [some (.ref scr), some (.ref 0), some (.ref 20), some (.ref 37), some (.int (nI (i))), some (.int (nI (c))), none]) d_L_law_621 rfl rfl rfl ?_
  refine AW.aload_n (pc' := 624) d_L_law_623 rfl rfl rfl ?_
  refine AW.aload_n (pc' := 625) d_L_law_624 rfl rfl rfl ?_
  refine AW.iload (pc' := 627) d_L_law_625 rfl rfl ?_
  refine AW.iconst (pc' := 628) (v := nI 1) d_L_law_627 rfl (by decide) ?_
  refine AW.iaddN (pc' := 629) d_L_law_628 rfl ?_
  refine AW.sldN (pc' := 630) d_L_law_629 rfl (by omega) (by omega) ?_
  refine AW.aload_n (pc' := 631) d_L_law_630 rfl rfl rfl ?_
  refine AW.iload (pc' := 633) d_L_law_631 rfl rfl ?_
  refine AW.iconst (pc' := 634) (v := nI 2) d_L_law_633 rfl (by decide) ?_
  refine AW.iaddN (pc' := 635) d_L_law_634 rfl ?_
  refine AW.sldN (pc' := 636) d_L_law_635 rfl (by omega) (by omega) ?_
  refine AW.cV (pc' := 639) d_L_law_636 rfl cv_L_129 (by decide) rfl rfl rfl (hM o') rfl rfl rfl hb1 hb2 rfl rfl ?_
  refine AW.istore (pc' := 641) (ls' := [some (.ref scr), some (.ref 0), some (.ref 20), some (.ref 37), some (.int (nI (i))), some (.int (nI (c))), some (.int (b))]) d_L_law_639 rfl rfl rfl ?_
  refine AW.aload_n (pc' := 642) d_L_law_641 rfl rfl rfl ?_
  refine AW.cV (pc' := 645) d_L_law_642 rfl cv_L_93 (by decide) rfl rfl rfl (k_thrown X z' k' o') rfl rfl rfl hb1 hb2 rfl rfl ?_
  refine AW.top (u := .int (nI c)) (by rw [hT]) ?_
  refine AW.iload (pc' := 647) d_L_law_645 rfl rfl ?_
  refine AW.icmp_eqN (tgt := 652) (pc' := 650) d_L_law_647 (by decide) rfl (by omega) (by omega) (fun h647 => ?_) (fun h => absurd rfl h)
  refine AW.iload (pc' := 654) d_L_law_652 rfl rfl ?_
  refine AW.if_ne (tgt := 669) (pc' := 657) d_L_law_654 (by decide) rfl (fun hz => ?_) (fun hz => ?_)
  · refine AW.goto (tgt := 1245) d_L_law_669 (by decide) ?_
    exact AW.dropL (j := 5) rfl (AW.dropL (j := 6) rfl (hE z' k' o' hR hW))
  · refine AW.aload_n (pc' := 658) d_L_law_657 rfl rfl rfl ?_
    refine AW.iconst (pc' := 659) (v := nI 0) d_L_law_658 rfl (by decide) ?_
    refine AW.laldN (pc' := 660) d_L_law_659 rfl rfl (by omega) (by decide) ?_
    refine AW.iload (pc' := 662) d_L_law_660 rfl rfl ?_
    refine AW.i2l (pc' := 663) d_L_law_662 rfl ?_
    refine AW.lcmp (pc' := 664) d_L_law_663 rfl ?_
    refine AW.top (u := .int (nI 0)) (by rw [hO hz, lgc]; rfl) ?_
    refine AW.if_eq (tgt := 669) (pc' := 667) d_L_law_664 (by decide) rfl (fun _ => ?_) (fun h => absurd h (by decide))
    refine AW.goto (tgt := 1245) d_L_law_669 (by decide) ?_
    exact AW.dropL (j := 5) rfl (AW.dropL (j := 6) rfl (hE z' k' o' hR hW))
theorem lc_answer_0 (X : ct_X) (z : S_c) (k : S_m) (o : Nat → Int64) (i cb sb : Nat) {Q : Option Value ⊕ Nat → ct_W → Prop} (hi : i + 3 ≤ xL X) (hL : xL X ≤ 1536) (hb1 : Nat.ble (cb + 1) 1090 = true) (hb2 : Nat.ble (sb + 6) 11814 = true) (hd : xx X (i + 2) = 0) (hS : SL0 X m_L_answer m_M_answer [.int (xx X (i + 1)), .int (nI 0)] z k o) (hE : ∀ (z' : S_c) (k' : S_m) (o' : Nat → Int64), Rl z' k' → k_rows k' ≤ k_rows k + 2 → AW X m_L_law 11 1090 11814 (cb + 1) (sb + 6) 1245 [some (.ref scr), some (.ref 0), some (.ref 20), some (.ref 37), some (.int (nI (i))), none, none] [] (wL z' k' o') Q) : AW X m_L_law 11 1090 11814 cb sb 672 [some (.ref scr), some (.ref 0), some (.ref 20), some (.ref 37), some (.int (nI (i))), none, none] [] (wL z k o) Q := by
  obtain ⟨c, z', k', hA, hM, hR, hW, hT, hc⟩ := hS
  refine AW.aload_n (pc' := 673) d_L_law_672 rfl rfl rfl ?_
  refine AW.aload_n (pc' := 674) d_L_law_673 rfl rfl rfl ?_
  refine AW.iload (pc' := 676) d_L_law_674 rfl rfl ?_
  refine AW.iconst (pc' := 677) (v := nI 1) d_L_law_676 rfl (by decide) ?_
  refine AW.iaddN (pc' := 678) d_L_law_677 rfl ?_
  refine AW.sldN (pc' := 679) d_L_law_678 rfl (by omega) (by omega) ?_
  refine AW.aload_n (pc' := 680) d_L_law_679 rfl rfl rfl ?_
  refine AW.iload (pc' := 682) d_L_law_680 rfl rfl ?_
  refine AW.iconst (pc' := 683) (v := nI 2) d_L_law_682 rfl (by decide) ?_
  refine AW.iaddN (pc' := 684) d_L_law_683 rfl ?_
  refine AW.sldN (pc' := 685) d_L_law_684 rfl (by omega) (by omega) ?_
  refine AW.if_eq (tgt := 692) (pc' := 688) d_L_law_685 (by decide) rfl (fun h685 => ?_) (fun h => absurd hd h)
  refine AW.iconst (pc' := 693) (v := nI 0) d_L_law_692 rfl (by decide) ?_
  refine AW.cSm (mc' := 1) (ms' := 6) (pc' := 696) d_L_law_693 rfl cs_L_130 (by decide) hA rfl rfl rfl hb1 hb2 rfl rfl ?_
  refine AW.istore (pc' := 698) (ls' := [some (.ref scr), some (.ref 0), some (.ref 20), some (.ref 37), some (.int (nI (i))), some (.int (nI (c))), none]) d_L_law_696 rfl rfl rfl ?_
  refine AW.aload_n (pc' := 699) d_L_law_698 rfl rfl rfl ?_
  refine AW.aload_n (pc' := 700) d_L_law_699 rfl rfl rfl ?_
  refine AW.iload (pc' := 702) d_L_law_700 rfl rfl ?_
  refine AW.iconst (pc' := 703) (v := nI 1) d_L_law_702 rfl (by decide) ?_
  refine AW.iaddN (pc' := 704) d_L_law_703 rfl ?_
  refine AW.sldN (pc' := 705) d_L_law_704 rfl (by omega) (by omega) ?_
  refine AW.aload_n (pc' := 706) d_L_law_705 rfl rfl rfl ?_
  refine AW.iload (pc' := 708) d_L_law_706 rfl rfl ?_
  refine AW.iconst (pc' := 709) (v := nI 2) d_L_law_708 rfl (by decide) ?_
  refine AW.iaddN (pc' := 710) d_L_law_709 rfl ?_
  refine AW.sldN (pc' := 711) d_L_law_710 rfl (by omega) (by omega) ?_
  refine AW.if_eq (tgt := 718) (pc' := 714) d_L_law_711 (by decide) rfl (fun h711 => ?_) (fun h => absurd hd h)
  refine AW.iconst (pc' := 719) (v := nI 0) d_L_law_718 rfl (by decide) ?_
  refine AW.cV (pc' := 722) d_L_law_719 rfl cv_L_133 (by decide) rfl rfl rfl (hM o) rfl rfl rfl hb1 hb2 rfl rfl ?_
  refine AW.aload_n (pc' := 723) d_L_law_722 rfl rfl rfl ?_
  refine AW.cV (pc' := 726) d_L_law_723 rfl cv_L_93 (by decide) rfl rfl rfl (k_thrown X z' k' o) rfl rfl rfl hb1 hb2 rfl rfl ?_
  refine AW.top (u := .int (nI c)) (by rw [hT]) ?_
  refine AW.iload (pc' := 728) d_L_law_726 rfl rfl ?_
  refine AW.icmp_eqN (tgt := 733) (pc' := 731) d_L_law_728 (by decide) rfl (by omega) (by omega) (fun h728 => ?_) (fun h => absurd rfl h)
  refine AW.goto (tgt := 1245) d_L_law_733 (by decide) ?_
  exact AW.dropL (j := 5) rfl (hE z' k' o hR hW)
theorem lc_answer_1 (X : ct_X) (z : S_c) (k : S_m) (o : Nat → Int64) (i cb sb : Nat) {Q : Option Value ⊕ Nat → ct_W → Prop} (hi : i + 3 ≤ xL X) (hL : xL X ≤ 1536) (hb1 : Nat.ble (cb + 1) 1090 = true) (hb2 : Nat.ble (sb + 6) 11814 = true) (hd : ¬ xx X (i + 2) = 0) (hS : SL0 X m_L_answer m_M_answer [.int (xx X (i + 1)), .int (nI 1)] z k o) (hE : ∀ (z' : S_c) (k' : S_m) (o' : Nat → Int64), Rl z' k' → k_rows k' ≤ k_rows k + 2 → AW X m_L_law 11 1090 11814 (cb + 1) (sb + 6) 1245 [some (.ref scr), some (.ref 0), some (.ref 20), some (.ref 37), some (.int (nI (i))), none, none] [] (wL z' k' o') Q) : AW X m_L_law 11 1090 11814 cb sb 672 [some (.ref scr), some (.ref 0), some (.ref 20), some (.ref 37), some (.int (nI (i))), none, none] [] (wL z k o) Q := by
  obtain ⟨c, z', k', hA, hM, hR, hW, hT, hc⟩ := hS
  refine AW.aload_n (pc' := 673) d_L_law_672 rfl rfl rfl ?_
  refine AW.aload_n (pc' := 674) d_L_law_673 rfl rfl rfl ?_
  refine AW.iload (pc' := 676) d_L_law_674 rfl rfl ?_
  refine AW.iconst (pc' := 677) (v := nI 1) d_L_law_676 rfl (by decide) ?_
  refine AW.iaddN (pc' := 678) d_L_law_677 rfl ?_
  refine AW.sldN (pc' := 679) d_L_law_678 rfl (by omega) (by omega) ?_
  refine AW.aload_n (pc' := 680) d_L_law_679 rfl rfl rfl ?_
  refine AW.iload (pc' := 682) d_L_law_680 rfl rfl ?_
  refine AW.iconst (pc' := 683) (v := nI 2) d_L_law_682 rfl (by decide) ?_
  refine AW.iaddN (pc' := 684) d_L_law_683 rfl ?_
  refine AW.sldN (pc' := 685) d_L_law_684 rfl (by omega) (by omega) ?_
  refine AW.if_eq (tgt := 692) (pc' := 688) d_L_law_685 (by decide) rfl (fun h => absurd h hd) (fun h685 => ?_)
  refine AW.iconst (pc' := 689) (v := nI 1) d_L_law_688 rfl (by decide) ?_
  refine AW.goto (tgt := 693) d_L_law_689 (by decide) ?_
  refine AW.cSm (mc' := 1) (ms' := 6) (pc' := 696) d_L_law_693 rfl cs_L_130 (by decide) hA rfl rfl rfl hb1 hb2 rfl rfl ?_
  refine AW.istore (pc' := 698) (ls' := [some (.ref scr), some (.ref 0), some (.ref 20), some (.ref 37), some (.int (nI (i))), some (.int (nI (c))), none]) d_L_law_696 rfl rfl rfl ?_
  refine AW.aload_n (pc' := 699) d_L_law_698 rfl rfl rfl ?_
  refine AW.aload_n (pc' := 700) d_L_law_699 rfl rfl rfl ?_
  refine AW.iload (pc' := 702) d_L_law_700 rfl rfl ?_
  refine AW.iconst (pc' := 703) (v := nI 1) d_L_law_702 rfl (by decide) ?_
  refine AW.iaddN (pc' := 704) d_L_law_703 rfl ?_
  refine AW.sldN (pc' := 705) d_L_law_704 rfl (by omega) (by omega) ?_
  refine AW.aload_n (pc' := 706) d_L_law_705 rfl rfl rfl ?_
  refine AW.iload (pc' := 708) d_L_law_706 rfl rfl ?_
  refine AW.iconst (pc' := 709) (v := nI 2) d_L_law_708 rfl (by decide) ?_
  refine AW.iaddN (pc' := 710) d_L_law_709 rfl ?_
  refine AW.sldN (pc' := 711) d_L_law_710 rfl (by omega) (by omega) ?_
  refine AW.if_eq (tgt := 718) (pc' := 714) d_L_law_711 (by decide) rfl (fun h => absurd h hd) (fun h711 => ?_)
  refine AW.iconst (pc' := 715) (v := nI 1) d_L_law_714 rfl (by decide) ?_
  refine AW.goto (tgt := 719) d_L_law_715 (by decide) ?_
  refine AW.cV (pc' := 722) d_L_law_719 rfl cv_L_133 (by decide) rfl rfl rfl (hM o) rfl rfl rfl hb1 hb2 rfl rfl ?_
  refine AW.aload_n (pc' := 723) d_L_law_722 rfl rfl rfl ?_
  refine AW.cV (pc' := 726) d_L_law_723 rfl cv_L_93 (by decide) rfl rfl rfl (k_thrown X z' k' o) rfl rfl rfl hb1 hb2 rfl rfl ?_
  refine AW.top (u := .int (nI c)) (by rw [hT]) ?_
  refine AW.iload (pc' := 728) d_L_law_726 rfl rfl ?_
  refine AW.icmp_eqN (tgt := 733) (pc' := 731) d_L_law_728 (by decide) rfl (by omega) (by omega) (fun h728 => ?_) (fun h => absurd rfl h)
  refine AW.goto (tgt := 1245) d_L_law_733 (by decide) ?_
  exact AW.dropL (j := 5) rfl (hE z' k' o hR hW)
theorem lc_span (X : ct_X) (z : S_c) (k : S_m) (o : Nat → Int64) (i cb sb : Nat) {Q : Option Value ⊕ Nat → ct_W → Prop} (hi : i + 3 ≤ xL X) (hL : xL X ≤ 1536) (hb1 : Nat.ble (cb + 1) 1090 = true) (hb2 : Nat.ble (sb + 6) 11814 = true) (hS : SL1 X m_L_span m_M_span [.int (xx X (i + 1))] z k o) (hE : ∀ (z' : S_c) (k' : S_m) (o' : Nat → Int64), Rl z' k' → k_rows k' ≤ k_rows k + 2 → AW X m_L_law 11 1090 11814 (cb + 1) (sb + 6) 1245 [some (.ref scr), some (.ref 0), some (.ref 20), some (.ref 37), some (.int (nI (i))), none, none] [] (wL z' k' o') Q) : AW X m_L_law 11 1090 11814 cb sb 736 [some (.ref scr), some (.ref 0), some (.ref 20), some (.ref 37), some (.int (nI (i))), none, none] [] (wL z k o) Q := by
  obtain ⟨c, b, z', k', o', hA, hM, hR, hW, hT, hc, hO⟩ := hS
  refine AW.aload_n (pc' := 737) d_L_law_736 rfl rfl rfl ?_
  refine AW.aload_n (pc' := 738) d_L_law_737 rfl rfl rfl ?_
  refine AW.iload (pc' := 740) d_L_law_738 rfl rfl ?_
  refine AW.iconst (pc' := 741) (v := nI 1) d_L_law_740 rfl (by decide) ?_
  refine AW.iaddN (pc' := 742) d_L_law_741 rfl ?_
  refine AW.sldN (pc' := 743) d_L_law_742 rfl (by omega) (by omega) ?_
  refine AW.aload_n (pc' := 744) d_L_law_743 rfl rfl rfl ?_
  refine AW.cSm (mc' := 1) (ms' := 6) (pc' := 747) d_L_law_744 rfl cs_L_134 (by decide) hA rfl rfl rfl hb1 hb2 rfl rfl ?_
  refine AW.istore (pc' := 749) (ls' := [some (.ref scr), some (.ref 0), some (.ref 20), some (.ref 37), some (.int (nI (i))), some (.int (nI (c))), none]) d_L_law_747 rfl rfl rfl ?_
  refine AW.aload_n (pc' := 750) d_L_law_749 rfl rfl rfl ?_
  refine AW.aload_n (pc' := 751) d_L_law_750 rfl rfl rfl ?_
  refine AW.iload (pc' := 753) d_L_law_751 rfl rfl ?_
  refine AW.iconst (pc' := 754) (v := nI 1) d_L_law_753 rfl (by decide) ?_
  refine AW.iaddN (pc' := 755) d_L_law_754 rfl ?_
  refine AW.sldN (pc' := 756) d_L_law_755 rfl (by omega) (by omega) ?_
  refine AW.cV (pc' := 759) d_L_law_756 rfl cv_L_136 (by decide) rfl rfl rfl (hM o') rfl rfl rfl hb1 hb2 rfl rfl ?_
  refine AW.istore (pc' := 761) (ls' := [some (.ref scr), some (.ref 0), some (.ref 20), some (.ref 37), some (.int (nI (i))), some (.int (nI (c))), some (.int (b))]) d_L_law_759 rfl rfl rfl ?_
  refine AW.aload_n (pc' := 762) d_L_law_761 rfl rfl rfl ?_
  refine AW.cV (pc' := 765) d_L_law_762 rfl cv_L_93 (by decide) rfl rfl rfl (k_thrown X z' k' o') rfl rfl rfl hb1 hb2 rfl rfl ?_
  refine AW.top (u := .int (nI c)) (by rw [hT]) ?_
  refine AW.iload (pc' := 767) d_L_law_765 rfl rfl ?_
  refine AW.icmp_eqN (tgt := 772) (pc' := 770) d_L_law_767 (by decide) rfl (by omega) (by omega) (fun h767 => ?_) (fun h => absurd rfl h)
  refine AW.iload (pc' := 774) d_L_law_772 rfl rfl ?_
  refine AW.if_ne (tgt := 789) (pc' := 777) d_L_law_774 (by decide) rfl (fun hz => ?_) (fun hz => ?_)
  · refine AW.goto (tgt := 1245) d_L_law_789 (by decide) ?_
    exact AW.dropL (j := 5) rfl (AW.dropL (j := 6) rfl (hE z' k' o' hR hW))
  · refine AW.aload_n (pc' := 778) d_L_law_777 rfl rfl rfl ?_
    refine AW.iconst (pc' := 779) (v := nI 0) d_L_law_778 rfl (by decide) ?_
    refine AW.laldN (pc' := 780) d_L_law_779 rfl rfl (by omega) (by decide) ?_
    refine AW.iload (pc' := 782) d_L_law_780 rfl rfl ?_
    refine AW.i2l (pc' := 783) d_L_law_782 rfl ?_
    refine AW.lcmp (pc' := 784) d_L_law_783 rfl ?_
    refine AW.top (u := .int (nI 0)) (by rw [hO hz, lgc]; rfl) ?_
    refine AW.if_eq (tgt := 789) (pc' := 787) d_L_law_784 (by decide) rfl (fun _ => ?_) (fun h => absurd h (by decide))
    refine AW.goto (tgt := 1245) d_L_law_789 (by decide) ?_
    exact AW.dropL (j := 5) rfl (AW.dropL (j := 6) rfl (hE z' k' o' hR hW))
theorem lc_tick (X : ct_X) (z : S_c) (k : S_m) (o : Nat → Int64) (i cb sb : Nat) {Q : Option Value ⊕ Nat → ct_W → Prop} (hi : i + 3 ≤ xL X) (hL : xL X ≤ 1536) (hb1 : Nat.ble (cb + 1) 1090 = true) (hb2 : Nat.ble (sb + 6) 11814 = true) (hS : SL1 X m_L_tick m_M_tick [.int (xx X (i + 1))] z k o) (hE : ∀ (z' : S_c) (k' : S_m) (o' : Nat → Int64), Rl z' k' → k_rows k' ≤ k_rows k + 2 → AW X m_L_law 11 1090 11814 (cb + 1) (sb + 6) 1245 [some (.ref scr), some (.ref 0), some (.ref 20), some (.ref 37), some (.int (nI (i))), none, none] [] (wL z' k' o') Q) : AW X m_L_law 11 1090 11814 cb sb 792 [some (.ref scr), some (.ref 0), some (.ref 20), some (.ref 37), some (.int (nI (i))), none, none] [] (wL z k o) Q := by
  obtain ⟨c, b, z', k', o', hA, hM, hR, hW, hT, hc, hO⟩ := hS
  refine AW.aload_n (pc' := 793) d_L_law_792 rfl rfl rfl ?_
  refine AW.aload_n (pc' := 794) d_L_law_793 rfl rfl rfl ?_
  refine AW.iload (pc' := 796) d_L_law_794 rfl rfl ?_
  refine AW.iconst (pc' := 797) (v := nI 1) d_L_law_796 rfl (by decide) ?_
  refine AW.iaddN (pc' := 798) d_L_law_797 rfl ?_
  refine AW.sldN (pc' := 799) d_L_law_798 rfl (by omega) (by omega) ?_
  refine AW.aload_n (pc' := 800) d_L_law_799 rfl rfl rfl ?_
  refine AW.cSm (mc' := 1) (ms' := 6) (pc' := 803) d_L_law_800 rfl cs_L_137 (by decide) hA rfl rfl rfl hb1 hb2 rfl rfl ?_
  refine AW.istore (pc' := 805) (ls' := [some (.ref scr), some (.ref 0), some (.ref 20), some (.ref 37), some (.int (nI (i))), some (.int (nI (c))), none]) d_L_law_803 rfl rfl rfl ?_
  refine AW.aload_n (pc' := 806) d_L_law_805 rfl rfl rfl ?_
  refine AW.aload_n (pc' := 807) d_L_law_806 rfl rfl rfl ?_
  refine AW.iload (pc' := 809) d_L_law_807 rfl rfl ?_
  refine AW.iconst (pc' := 810) (v := nI 1) d_L_law_809 rfl (by decide) ?_
  refine AW.iaddN (pc' := 811) d_L_law_810 rfl ?_
  refine AW.sldN (pc' := 812) d_L_law_811 rfl (by omega) (by omega) ?_
  refine AW.cV (pc' := 815) d_L_law_812 rfl cv_L_139 (by decide) rfl rfl rfl (hM o') rfl rfl rfl hb1 hb2 rfl rfl ?_
  refine AW.istore (pc' := 817) (ls' := [some (.ref scr), some (.ref 0), some (.ref 20), some (.ref 37), some (.int (nI (i))), some (.int (nI (c))), some (.int (b))]) d_L_law_815 rfl rfl rfl ?_
  refine AW.aload_n (pc' := 818) d_L_law_817 rfl rfl rfl ?_
  refine AW.cV (pc' := 821) d_L_law_818 rfl cv_L_93 (by decide) rfl rfl rfl (k_thrown X z' k' o') rfl rfl rfl hb1 hb2 rfl rfl ?_
  refine AW.top (u := .int (nI c)) (by rw [hT]) ?_
  refine AW.iload (pc' := 823) d_L_law_821 rfl rfl ?_
  refine AW.icmp_eqN (tgt := 828) (pc' := 826) d_L_law_823 (by decide) rfl (by omega) (by omega) (fun h823 => ?_) (fun h => absurd rfl h)
  refine AW.iload (pc' := 830) d_L_law_828 rfl rfl ?_
  refine AW.if_ne (tgt := 845) (pc' := 833) d_L_law_830 (by decide) rfl (fun hz => ?_) (fun hz => ?_)
  · refine AW.goto (tgt := 1245) d_L_law_845 (by decide) ?_
    exact AW.dropL (j := 5) rfl (AW.dropL (j := 6) rfl (hE z' k' o' hR hW))
  · refine AW.aload_n (pc' := 834) d_L_law_833 rfl rfl rfl ?_
    refine AW.iconst (pc' := 835) (v := nI 0) d_L_law_834 rfl (by decide) ?_
    refine AW.laldN (pc' := 836) d_L_law_835 rfl rfl (by omega) (by decide) ?_
    refine AW.iload (pc' := 838) d_L_law_836 rfl rfl ?_
    refine AW.i2l (pc' := 839) d_L_law_838 rfl ?_
    refine AW.lcmp (pc' := 840) d_L_law_839 rfl ?_
    refine AW.top (u := .int (nI 0)) (by rw [hO hz, lgc]; rfl) ?_
    refine AW.if_eq (tgt := 845) (pc' := 843) d_L_law_840 (by decide) rfl (fun _ => ?_) (fun h => absurd h (by decide))
    refine AW.goto (tgt := 1245) d_L_law_845 (by decide) ?_
    exact AW.dropL (j := 5) rfl (AW.dropL (j := 6) rfl (hE z' k' o' hR hW))
theorem lc_led (X : ct_X) (z : S_c) (k : S_m) (o : Nat → Int64) (i cb sb : Nat) {Q : Option Value ⊕ Nat → ct_W → Prop} (hi : i + 3 ≤ xL X) (hL : xL X ≤ 1536) (hb1 : Nat.ble (cb + 1) 1090 = true) (hb2 : Nat.ble (sb + 6) 11814 = true) (hS : SL1 X m_L_led m_M_led [.int (xx X (i + 1)), .int (xx X (i + 2))] z k o) (hE : ∀ (z' : S_c) (k' : S_m) (o' : Nat → Int64), Rl z' k' → k_rows k' ≤ k_rows k + 2 → AW X m_L_law 11 1090 11814 (cb + 1) (sb + 6) 1245 [some (.ref scr), some (.ref 0), some (.ref 20), some (.ref 37), some (.int (nI (i))), none, none] [] (wL z' k' o') Q) : AW X m_L_law 11 1090 11814 cb sb 848 [some (.ref scr), some (.ref 0), some (.ref 20), some (.ref 37), some (.int (nI (i))), none, none] [] (wL z k o) Q := by
  obtain ⟨c, b, z', k', o', hA, hM, hR, hW, hT, hc, hO⟩ := hS
  refine AW.aload_n (pc' := 849) d_L_law_848 rfl rfl rfl ?_
  refine AW.aload_n (pc' := 850) d_L_law_849 rfl rfl rfl ?_
  refine AW.iload (pc' := 852) d_L_law_850 rfl rfl ?_
  refine AW.iconst (pc' := 853) (v := nI 1) d_L_law_852 rfl (by decide) ?_
  refine AW.iaddN (pc' := 854) d_L_law_853 rfl ?_
  refine AW.sldN (pc' := 855) d_L_law_854 rfl (by omega) (by omega) ?_
  refine AW.aload_n (pc' := 856) d_L_law_855 rfl rfl rfl ?_
  refine AW.iload (pc' := 858) d_L_law_856 rfl rfl ?_
  refine AW.iconst (pc' := 859) (v := nI 2) d_L_law_858 rfl (by decide) ?_
  refine AW.iaddN (pc' := 860) d_L_law_859 rfl ?_
  refine AW.sldN (pc' := 861) d_L_law_860 rfl (by omega) (by omega) ?_
  refine AW.aload_n (pc' := 862) d_L_law_861 rfl rfl rfl ?_
  refine AW.cSm (mc' := 1) (ms' := 6) (pc' := 865) d_L_law_862 rfl cs_L_140 (by decide) hA rfl rfl rfl hb1 hb2 rfl rfl ?_
  refine AW.istore (pc' := 867) (ls' := [some (.ref scr), some (.ref 0), some (.ref 20), some (.ref 37), some (.int (nI (i))), some (.int (nI (c))), none]) d_L_law_865 rfl rfl rfl ?_
  refine AW.aload_n (pc' := 868) d_L_law_867 rfl rfl rfl ?_
  refine AW.aload_n (pc' := 869) d_L_law_868 rfl rfl rfl ?_
  refine AW.iload (pc' := 871) d_L_law_869 rfl rfl ?_
  refine AW.iconst (pc' := 872) (v := nI 1) d_L_law_871 rfl (by decide) ?_
  refine AW.iaddN (pc' := 873) d_L_law_872 rfl ?_
  refine AW.sldN (pc' := 874) d_L_law_873 rfl (by omega) (by omega) ?_
  refine AW.aload_n (pc' := 875) d_L_law_874 rfl rfl rfl ?_
  refine AW.iload (pc' := 877) d_L_law_875 rfl rfl ?_
  refine AW.iconst (pc' := 878) (v := nI 2) d_L_law_877 rfl (by decide) ?_
  refine AW.iaddN (pc' := 879) d_L_law_878 rfl ?_
  refine AW.sldN (pc' := 880) d_L_law_879 rfl (by omega) (by omega) ?_
  refine AW.cV (pc' := 883) d_L_law_880 rfl cv_L_142 (by decide) rfl rfl rfl (hM o') rfl rfl rfl hb1 hb2 rfl rfl ?_
  refine AW.istore (pc' := 885) (ls' := [some (.ref scr), some (.ref 0), some (.ref 20), some (.ref 37), some (.int (nI (i))), some (.int (nI (c))), some (.int (b))]) d_L_law_883 rfl rfl rfl ?_
  refine AW.aload_n (pc' := 886) d_L_law_885 rfl rfl rfl ?_
  refine AW.cV (pc' := 889) d_L_law_886 rfl cv_L_93 (by decide) rfl rfl rfl (k_thrown X z' k' o') rfl rfl rfl hb1 hb2 rfl rfl ?_
  refine AW.top (u := .int (nI c)) (by rw [hT]) ?_
  refine AW.iload (pc' := 891) d_L_law_889 rfl rfl ?_
  refine AW.icmp_eqN (tgt := 896) (pc' := 894) d_L_law_891 (by decide) rfl (by omega) (by omega) (fun h891 => ?_) (fun h => absurd rfl h)
  refine AW.iload (pc' := 898) d_L_law_896 rfl rfl ?_
  refine AW.if_ne (tgt := 913) (pc' := 901) d_L_law_898 (by decide) rfl (fun hz => ?_) (fun hz => ?_)
  · refine AW.goto (tgt := 1245) d_L_law_913 (by decide) ?_
    exact AW.dropL (j := 5) rfl (AW.dropL (j := 6) rfl (hE z' k' o' hR hW))
  · refine AW.aload_n (pc' := 902) d_L_law_901 rfl rfl rfl ?_
    refine AW.iconst (pc' := 903) (v := nI 0) d_L_law_902 rfl (by decide) ?_
    refine AW.laldN (pc' := 904) d_L_law_903 rfl rfl (by omega) (by decide) ?_
    refine AW.iload (pc' := 906) d_L_law_904 rfl rfl ?_
    refine AW.i2l (pc' := 907) d_L_law_906 rfl ?_
    refine AW.lcmp (pc' := 908) d_L_law_907 rfl ?_
    refine AW.top (u := .int (nI 0)) (by rw [hO hz, lgc]; rfl) ?_
    refine AW.if_eq (tgt := 913) (pc' := 911) d_L_law_908 (by decide) rfl (fun _ => ?_) (fun h => absurd h (by decide))
    refine AW.goto (tgt := 1245) d_L_law_913 (by decide) ?_
    exact AW.dropL (j := 5) rfl (AW.dropL (j := 6) rfl (hE z' k' o' hR hW))
theorem lc_sectorAt (X : ct_X) (z : S_c) (k : S_m) (o : Nat → Int64) (i cb sb : Nat) {Q : Option Value ⊕ Nat → ct_W → Prop} (hi : i + 3 ≤ xL X) (hL : xL X ≤ 1536) (hb1 : Nat.ble (cb + 1) 1090 = true) (hb2 : Nat.ble (sb + 6) 11814 = true) (hS : SL1 X m_L_sectorAt m_M_sectorAt [.int (xx X (i + 1)), .int (xx X (i + 2))] z k o) (hE : ∀ (z' : S_c) (k' : S_m) (o' : Nat → Int64), Rl z' k' → k_rows k' ≤ k_rows k + 2 → AW X m_L_law 11 1090 11814 (cb + 1) (sb + 6) 1245 [some (.ref scr), some (.ref 0), some (.ref 20), some (.ref 37), some (.int (nI (i))), none, none] [] (wL z' k' o') Q) : AW X m_L_law 11 1090 11814 cb sb 916 [some (.ref scr), some (.ref 0), some (.ref 20), some (.ref 37), some (.int (nI (i))), none, none] [] (wL z k o) Q := by
  obtain ⟨c, b, z', k', o', hA, hM, hR, hW, hT, hc, hO⟩ := hS
  refine AW.aload_n (pc' := 917) d_L_law_916 rfl rfl rfl ?_
  refine AW.aload_n (pc' := 918) d_L_law_917 rfl rfl rfl ?_
  refine AW.iload (pc' := 920) d_L_law_918 rfl rfl ?_
  refine AW.iconst (pc' := 921) (v := nI 1) d_L_law_920 rfl (by decide) ?_
  refine AW.iaddN (pc' := 922) d_L_law_921 rfl ?_
  refine AW.sldN (pc' := 923) d_L_law_922 rfl (by omega) (by omega) ?_
  refine AW.aload_n (pc' := 924) d_L_law_923 rfl rfl rfl ?_
  refine AW.iload (pc' := 926) d_L_law_924 rfl rfl ?_
  refine AW.iconst (pc' := 927) (v := nI 2) d_L_law_926 rfl (by decide) ?_
  refine AW.iaddN (pc' := 928) d_L_law_927 rfl ?_
  refine AW.sldN (pc' := 929) d_L_law_928 rfl (by omega) (by omega) ?_
  refine AW.aload_n (pc' := 930) d_L_law_929 rfl rfl rfl ?_
  refine AW.cSm (mc' := 1) (ms' := 6) (pc' := 933) d_L_law_930 rfl cs_L_143 (by decide) hA rfl rfl rfl hb1 hb2 rfl rfl ?_
  refine AW.istore (pc' := 935) (ls' := [some (.ref scr), some (.ref 0), some (.ref 20), some (.ref 37), some (.int (nI (i))), some (.int (nI (c))), none]) d_L_law_933 rfl rfl rfl ?_
  refine AW.aload_n (pc' := 936) d_L_law_935 rfl rfl rfl ?_
  refine AW.aload_n (pc' := 937) d_L_law_936 rfl rfl rfl ?_
  refine AW.iload (pc' := 939) d_L_law_937 rfl rfl ?_
  refine AW.iconst (pc' := 940) (v := nI 1) d_L_law_939 rfl (by decide) ?_
  refine AW.iaddN (pc' := 941) d_L_law_940 rfl ?_
  refine AW.sldN (pc' := 942) d_L_law_941 rfl (by omega) (by omega) ?_
  refine AW.aload_n (pc' := 943) d_L_law_942 rfl rfl rfl ?_
  refine AW.iload (pc' := 945) d_L_law_943 rfl rfl ?_
  refine AW.iconst (pc' := 946) (v := nI 2) d_L_law_945 rfl (by decide) ?_
  refine AW.iaddN (pc' := 947) d_L_law_946 rfl ?_
  refine AW.sldN (pc' := 948) d_L_law_947 rfl (by omega) (by omega) ?_
  refine AW.cV (pc' := 951) d_L_law_948 rfl cv_L_145 (by decide) rfl rfl rfl (hM o') rfl rfl rfl hb1 hb2 rfl rfl ?_
  refine AW.istore (pc' := 953) (ls' := [some (.ref scr), some (.ref 0), some (.ref 20), some (.ref 37), some (.int (nI (i))), some (.int (nI (c))), some (.int (b))]) d_L_law_951 rfl rfl rfl ?_
  refine AW.aload_n (pc' := 954) d_L_law_953 rfl rfl rfl ?_
  refine AW.cV (pc' := 957) d_L_law_954 rfl cv_L_93 (by decide) rfl rfl rfl (k_thrown X z' k' o') rfl rfl rfl hb1 hb2 rfl rfl ?_
  refine AW.top (u := .int (nI c)) (by rw [hT]) ?_
  refine AW.iload (pc' := 959) d_L_law_957 rfl rfl ?_
  refine AW.icmp_eqN (tgt := 964) (pc' := 962) d_L_law_959 (by decide) rfl (by omega) (by omega) (fun h959 => ?_) (fun h => absurd rfl h)
  refine AW.iload (pc' := 966) d_L_law_964 rfl rfl ?_
  refine AW.if_ne (tgt := 981) (pc' := 969) d_L_law_966 (by decide) rfl (fun hz => ?_) (fun hz => ?_)
  · refine AW.goto (tgt := 1245) d_L_law_981 (by decide) ?_
    exact AW.dropL (j := 5) rfl (AW.dropL (j := 6) rfl (hE z' k' o' hR hW))
  · refine AW.aload_n (pc' := 970) d_L_law_969 rfl rfl rfl ?_
    refine AW.iconst (pc' := 971) (v := nI 0) d_L_law_970 rfl (by decide) ?_
    refine AW.laldN (pc' := 972) d_L_law_971 rfl rfl (by omega) (by decide) ?_
    refine AW.iload (pc' := 974) d_L_law_972 rfl rfl ?_
    refine AW.i2l (pc' := 975) d_L_law_974 rfl ?_
    refine AW.lcmp (pc' := 976) d_L_law_975 rfl ?_
    refine AW.top (u := .int (nI 0)) (by rw [hO hz, lgc]; rfl) ?_
    refine AW.if_eq (tgt := 981) (pc' := 979) d_L_law_976 (by decide) rfl (fun _ => ?_) (fun h => absurd h (by decide))
    refine AW.goto (tgt := 1245) d_L_law_981 (by decide) ?_
    exact AW.dropL (j := 5) rfl (AW.dropL (j := 6) rfl (hE z' k' o' hR hW))
theorem lc_personAt (X : ct_X) (z : S_c) (k : S_m) (o : Nat → Int64) (i cb sb : Nat) {Q : Option Value ⊕ Nat → ct_W → Prop} (hi : i + 3 ≤ xL X) (hL : xL X ≤ 1536) (hb1 : Nat.ble (cb + 1) 1090 = true) (hb2 : Nat.ble (sb + 6) 11814 = true) (hS : SL1 X m_L_personAt m_M_personAt [.int (xx X (i + 1)), .int (xx X (i + 2))] z k o) (hE : ∀ (z' : S_c) (k' : S_m) (o' : Nat → Int64), Rl z' k' → k_rows k' ≤ k_rows k + 2 → AW X m_L_law 11 1090 11814 (cb + 1) (sb + 6) 1245 [some (.ref scr), some (.ref 0), some (.ref 20), some (.ref 37), some (.int (nI (i))), none, none] [] (wL z' k' o') Q) : AW X m_L_law 11 1090 11814 cb sb 984 [some (.ref scr), some (.ref 0), some (.ref 20), some (.ref 37), some (.int (nI (i))), none, none] [] (wL z k o) Q := by
  obtain ⟨c, b, z', k', o', hA, hM, hR, hW, hT, hc, hO⟩ := hS
  refine AW.aload_n (pc' := 985) d_L_law_984 rfl rfl rfl ?_
  refine AW.aload_n (pc' := 986) d_L_law_985 rfl rfl rfl ?_
  refine AW.iload (pc' := 988) d_L_law_986 rfl rfl ?_
  refine AW.iconst (pc' := 989) (v := nI 1) d_L_law_988 rfl (by decide) ?_
  refine AW.iaddN (pc' := 990) d_L_law_989 rfl ?_
  refine AW.sldN (pc' := 991) d_L_law_990 rfl (by omega) (by omega) ?_
  refine AW.aload_n (pc' := 992) d_L_law_991 rfl rfl rfl ?_
  refine AW.iload (pc' := 994) d_L_law_992 rfl rfl ?_
  refine AW.iconst (pc' := 995) (v := nI 2) d_L_law_994 rfl (by decide) ?_
  refine AW.iaddN (pc' := 996) d_L_law_995 rfl ?_
  refine AW.sldN (pc' := 997) d_L_law_996 rfl (by omega) (by omega) ?_
  refine AW.aload_n (pc' := 998) d_L_law_997 rfl rfl rfl ?_
  refine AW.cSm (mc' := 1) (ms' := 6) (pc' := 1001) d_L_law_998 rfl cs_L_146 (by decide) hA rfl rfl rfl hb1 hb2 rfl rfl ?_
  refine AW.istore (pc' := 1003) (ls' := [some (.ref scr), some (.ref 0), some (.ref 20), some (.ref 37), some (.int (nI (i))), some (.int (nI (c))), none]) d_L_law_1001 rfl rfl rfl ?_
  refine AW.aload_n (pc' := 1004) d_L_law_1003 rfl rfl rfl ?_
  refine AW.aload_n (pc' := 1005) d_L_law_1004 rfl rfl rfl ?_
  refine AW.iload (pc' := 1007) d_L_law_1005 rfl rfl ?_
  refine AW.iconst (pc' := 1008) (v := nI 1) d_L_law_1007 rfl (by decide) ?_
  refine AW.iaddN (pc' := 1009) d_L_law_1008 rfl ?_
  refine AW.sldN (pc' := 1010) d_L_law_1009 rfl (by omega) (by omega) ?_
  refine AW.aload_n (pc' := 1011) d_L_law_1010 rfl rfl rfl ?_
  refine AW.iload (pc' := 1013) d_L_law_1011 rfl rfl ?_
  refine AW.iconst (pc' := 1014) (v := nI 2) d_L_law_1013 rfl (by decide) ?_
  refine AW.iaddN (pc' := 1015) d_L_law_1014 rfl ?_
  refine AW.sldN (pc' := 1016) d_L_law_1015 rfl (by omega) (by omega) ?_
  refine AW.cV (pc' := 1019) d_L_law_1016 rfl cv_L_148 (by decide) rfl rfl rfl (hM o') rfl rfl rfl hb1 hb2 rfl rfl ?_
  refine AW.istore (pc' := 1021) (ls' := [some (.ref scr), some (.ref 0), some (.ref 20), some (.ref 37), some (.int (nI (i))), some (.int (nI (c))), some (.int (b))]) d_L_law_1019 rfl rfl rfl ?_
  refine AW.aload_n (pc' := 1022) d_L_law_1021 rfl rfl rfl ?_
  refine AW.cV (pc' := 1025) d_L_law_1022 rfl cv_L_93 (by decide) rfl rfl rfl (k_thrown X z' k' o') rfl rfl rfl hb1 hb2 rfl rfl ?_
  refine AW.top (u := .int (nI c)) (by rw [hT]) ?_
  refine AW.iload (pc' := 1027) d_L_law_1025 rfl rfl ?_
  refine AW.icmp_eqN (tgt := 1032) (pc' := 1030) d_L_law_1027 (by decide) rfl (by omega) (by omega) (fun h1027 => ?_) (fun h => absurd rfl h)
  refine AW.iload (pc' := 1034) d_L_law_1032 rfl rfl ?_
  refine AW.if_ne (tgt := 1049) (pc' := 1037) d_L_law_1034 (by decide) rfl (fun hz => ?_) (fun hz => ?_)
  · refine AW.goto (tgt := 1245) d_L_law_1049 (by decide) ?_
    exact AW.dropL (j := 5) rfl (AW.dropL (j := 6) rfl (hE z' k' o' hR hW))
  · refine AW.aload_n (pc' := 1038) d_L_law_1037 rfl rfl rfl ?_
    refine AW.iconst (pc' := 1039) (v := nI 0) d_L_law_1038 rfl (by decide) ?_
    refine AW.laldN (pc' := 1040) d_L_law_1039 rfl rfl (by omega) (by decide) ?_
    refine AW.iload (pc' := 1042) d_L_law_1040 rfl rfl ?_
    refine AW.i2l (pc' := 1043) d_L_law_1042 rfl ?_
    refine AW.lcmp (pc' := 1044) d_L_law_1043 rfl ?_
    refine AW.top (u := .int (nI 0)) (by rw [hO hz, lgc]; rfl) ?_
    refine AW.if_eq (tgt := 1049) (pc' := 1047) d_L_law_1044 (by decide) rfl (fun _ => ?_) (fun h => absurd h (by decide))
    refine AW.goto (tgt := 1245) d_L_law_1049 (by decide) ?_
    exact AW.dropL (j := 5) rfl (AW.dropL (j := 6) rfl (hE z' k' o' hR hW))
theorem lc_unitAt (X : ct_X) (z : S_c) (k : S_m) (o : Nat → Int64) (i cb sb : Nat) {Q : Option Value ⊕ Nat → ct_W → Prop} (hi : i + 3 ≤ xL X) (hL : xL X ≤ 1536) (hb1 : Nat.ble (cb + 1) 1090 = true) (hb2 : Nat.ble (sb + 6) 11814 = true) (hS : SL1 X m_L_unitAt m_M_unitAt [.int (xx X (i + 1))] z k o) (hE : ∀ (z' : S_c) (k' : S_m) (o' : Nat → Int64), Rl z' k' → k_rows k' ≤ k_rows k + 2 → AW X m_L_law 11 1090 11814 (cb + 1) (sb + 6) 1245 [some (.ref scr), some (.ref 0), some (.ref 20), some (.ref 37), some (.int (nI (i))), none, none] [] (wL z' k' o') Q) : AW X m_L_law 11 1090 11814 cb sb 1052 [some (.ref scr), some (.ref 0), some (.ref 20), some (.ref 37), some (.int (nI (i))), none, none] [] (wL z k o) Q := by
  obtain ⟨c, b, z', k', o', hA, hM, hR, hW, hT, hc, hO⟩ := hS
  refine AW.aload_n (pc' := 1053) d_L_law_1052 rfl rfl rfl ?_
  refine AW.aload_n (pc' := 1054) d_L_law_1053 rfl rfl rfl ?_
  refine AW.iload (pc' := 1056) d_L_law_1054 rfl rfl ?_
  refine AW.iconst (pc' := 1057) (v := nI 1) d_L_law_1056 rfl (by decide) ?_
  refine AW.iaddN (pc' := 1058) d_L_law_1057 rfl ?_
  refine AW.sldN (pc' := 1059) d_L_law_1058 rfl (by omega) (by omega) ?_
  refine AW.aload_n (pc' := 1060) d_L_law_1059 rfl rfl rfl ?_
  refine AW.cSm (mc' := 1) (ms' := 6) (pc' := 1063) d_L_law_1060 rfl cs_L_149 (by decide) hA rfl rfl rfl hb1 hb2 rfl rfl ?_
  refine AW.istore (pc' := 1065) (ls' := [some (.ref scr), some (.ref 0), some (.ref 20), some (.ref 37), some (.int (nI (i))), some (.int (nI (c))), none]) d_L_law_1063 rfl rfl rfl ?_
  refine AW.aload_n (pc' := 1066) d_L_law_1065 rfl rfl rfl ?_
  refine AW.aload_n (pc' := 1067) d_L_law_1066 rfl rfl rfl ?_
  refine AW.iload (pc' := 1069) d_L_law_1067 rfl rfl ?_
  refine AW.iconst (pc' := 1070) (v := nI 1) d_L_law_1069 rfl (by decide) ?_
  refine AW.iaddN (pc' := 1071) d_L_law_1070 rfl ?_
  refine AW.sldN (pc' := 1072) d_L_law_1071 rfl (by omega) (by omega) ?_
  refine AW.cV (pc' := 1075) d_L_law_1072 rfl cv_L_151 (by decide) rfl rfl rfl (hM o') rfl rfl rfl hb1 hb2 rfl rfl ?_
  refine AW.istore (pc' := 1077) (ls' := [some (.ref scr), some (.ref 0), some (.ref 20), some (.ref 37), some (.int (nI (i))), some (.int (nI (c))), some (.int (b))]) d_L_law_1075 rfl rfl rfl ?_
  refine AW.aload_n (pc' := 1078) d_L_law_1077 rfl rfl rfl ?_
  refine AW.cV (pc' := 1081) d_L_law_1078 rfl cv_L_93 (by decide) rfl rfl rfl (k_thrown X z' k' o') rfl rfl rfl hb1 hb2 rfl rfl ?_
  refine AW.top (u := .int (nI c)) (by rw [hT]) ?_
  refine AW.iload (pc' := 1083) d_L_law_1081 rfl rfl ?_
  refine AW.icmp_eqN (tgt := 1088) (pc' := 1086) d_L_law_1083 (by decide) rfl (by omega) (by omega) (fun h1083 => ?_) (fun h => absurd rfl h)
  refine AW.iload (pc' := 1090) d_L_law_1088 rfl rfl ?_
  refine AW.if_ne (tgt := 1105) (pc' := 1093) d_L_law_1090 (by decide) rfl (fun hz => ?_) (fun hz => ?_)
  · refine AW.goto (tgt := 1245) d_L_law_1105 (by decide) ?_
    exact AW.dropL (j := 5) rfl (AW.dropL (j := 6) rfl (hE z' k' o' hR hW))
  · refine AW.aload_n (pc' := 1094) d_L_law_1093 rfl rfl rfl ?_
    refine AW.iconst (pc' := 1095) (v := nI 0) d_L_law_1094 rfl (by decide) ?_
    refine AW.laldN (pc' := 1096) d_L_law_1095 rfl rfl (by omega) (by decide) ?_
    refine AW.iload (pc' := 1098) d_L_law_1096 rfl rfl ?_
    refine AW.i2l (pc' := 1099) d_L_law_1098 rfl ?_
    refine AW.lcmp (pc' := 1100) d_L_law_1099 rfl ?_
    refine AW.top (u := .int (nI 0)) (by rw [hO hz, lgc]; rfl) ?_
    refine AW.if_eq (tgt := 1105) (pc' := 1103) d_L_law_1100 (by decide) rfl (fun _ => ?_) (fun h => absurd h (by decide))
    refine AW.goto (tgt := 1245) d_L_law_1105 (by decide) ?_
    exact AW.dropL (j := 5) rfl (AW.dropL (j := 6) rfl (hE z' k' o' hR hW))
theorem lc_taskAt (X : ct_X) (z : S_c) (k : S_m) (o : Nat → Int64) (i cb sb : Nat) {Q : Option Value ⊕ Nat → ct_W → Prop} (hi : i + 3 ≤ xL X) (hL : xL X ≤ 1536) (hb1 : Nat.ble (cb + 1) 1090 = true) (hb2 : Nat.ble (sb + 6) 11814 = true) (hS : SL1 X m_L_taskAt m_M_taskAt [.int (xx X (i + 1)), .int (xx X (i + 2))] z k o) (hE : ∀ (z' : S_c) (k' : S_m) (o' : Nat → Int64), Rl z' k' → k_rows k' ≤ k_rows k + 2 → AW X m_L_law 11 1090 11814 (cb + 1) (sb + 6) 1245 [some (.ref scr), some (.ref 0), some (.ref 20), some (.ref 37), some (.int (nI (i))), none, none] [] (wL z' k' o') Q) : AW X m_L_law 11 1090 11814 cb sb 1108 [some (.ref scr), some (.ref 0), some (.ref 20), some (.ref 37), some (.int (nI (i))), none, none] [] (wL z k o) Q := by
  obtain ⟨c, b, z', k', o', hA, hM, hR, hW, hT, hc, hO⟩ := hS
  refine AW.aload_n (pc' := 1109) d_L_law_1108 rfl rfl rfl ?_
  refine AW.aload_n (pc' := 1110) d_L_law_1109 rfl rfl rfl ?_
  refine AW.iload (pc' := 1112) d_L_law_1110 rfl rfl ?_
  refine AW.iconst (pc' := 1113) (v := nI 1) d_L_law_1112 rfl (by decide) ?_
  refine AW.iaddN (pc' := 1114) d_L_law_1113 rfl ?_
  refine AW.sldN (pc' := 1115) d_L_law_1114 rfl (by omega) (by omega) ?_
  refine AW.aload_n (pc' := 1116) d_L_law_1115 rfl rfl rfl ?_
  refine AW.iload (pc' := 1118) d_L_law_1116 rfl rfl ?_
  refine AW.iconst (pc' := 1119) (v := nI 2) d_L_law_1118 rfl (by decide) ?_
  refine AW.iaddN (pc' := 1120) d_L_law_1119 rfl ?_
  refine AW.sldN (pc' := 1121) d_L_law_1120 rfl (by omega) (by omega) ?_
  refine AW.aload_n (pc' := 1122) d_L_law_1121 rfl rfl rfl ?_
  refine AW.cSm (mc' := 1) (ms' := 6) (pc' := 1125) d_L_law_1122 rfl cs_L_152 (by decide) hA rfl rfl rfl hb1 hb2 rfl rfl ?_
  refine AW.istore (pc' := 1127) (ls' := [some (.ref scr), some (.ref 0), some (.ref 20), some (.ref 37), some (.int (nI (i))), some (.int (nI (c))), none]) d_L_law_1125 rfl rfl rfl ?_
  refine AW.aload_n (pc' := 1128) d_L_law_1127 rfl rfl rfl ?_
  refine AW.aload_n (pc' := 1129) d_L_law_1128 rfl rfl rfl ?_
  refine AW.iload (pc' := 1131) d_L_law_1129 rfl rfl ?_
  refine AW.iconst (pc' := 1132) (v := nI 1) d_L_law_1131 rfl (by decide) ?_
  refine AW.iaddN (pc' := 1133) d_L_law_1132 rfl ?_
  refine AW.sldN (pc' := 1134) d_L_law_1133 rfl (by omega) (by omega) ?_
  refine AW.aload_n (pc' := 1135) d_L_law_1134 rfl rfl rfl ?_
  refine AW.iload (pc' := 1137) d_L_law_1135 rfl rfl ?_
  refine AW.iconst (pc' := 1138) (v := nI 2) d_L_law_1137 rfl (by decide) ?_
  refine AW.iaddN (pc' := 1139) d_L_law_1138 rfl ?_
  refine AW.sldN (pc' := 1140) d_L_law_1139 rfl (by omega) (by omega) ?_
  refine AW.cV (pc' := 1143) d_L_law_1140 rfl cv_L_154 (by decide) rfl rfl rfl (hM o') rfl rfl rfl hb1 hb2 rfl rfl ?_
  refine AW.istore (pc' := 1145) (ls' := [some (.ref scr), some (.ref 0), some (.ref 20), some (.ref 37), some (.int (nI (i))), some (.int (nI (c))), some (.int (b))]) d_L_law_1143 rfl rfl rfl ?_
  refine AW.aload_n (pc' := 1146) d_L_law_1145 rfl rfl rfl ?_
  refine AW.cV (pc' := 1149) d_L_law_1146 rfl cv_L_93 (by decide) rfl rfl rfl (k_thrown X z' k' o') rfl rfl rfl hb1 hb2 rfl rfl ?_
  refine AW.top (u := .int (nI c)) (by rw [hT]) ?_
  refine AW.iload (pc' := 1151) d_L_law_1149 rfl rfl ?_
  refine AW.icmp_eqN (tgt := 1156) (pc' := 1154) d_L_law_1151 (by decide) rfl (by omega) (by omega) (fun h1151 => ?_) (fun h => absurd rfl h)
  refine AW.iload (pc' := 1158) d_L_law_1156 rfl rfl ?_
  refine AW.if_ne (tgt := 1173) (pc' := 1161) d_L_law_1158 (by decide) rfl (fun hz => ?_) (fun hz => ?_)
  · refine AW.goto (tgt := 1245) d_L_law_1173 (by decide) ?_
    exact AW.dropL (j := 5) rfl (AW.dropL (j := 6) rfl (hE z' k' o' hR hW))
  · refine AW.aload_n (pc' := 1162) d_L_law_1161 rfl rfl rfl ?_
    refine AW.iconst (pc' := 1163) (v := nI 0) d_L_law_1162 rfl (by decide) ?_
    refine AW.laldN (pc' := 1164) d_L_law_1163 rfl rfl (by omega) (by decide) ?_
    refine AW.iload (pc' := 1166) d_L_law_1164 rfl rfl ?_
    refine AW.i2l (pc' := 1167) d_L_law_1166 rfl ?_
    refine AW.lcmp (pc' := 1168) d_L_law_1167 rfl ?_
    refine AW.top (u := .int (nI 0)) (by rw [hO hz, lgc]; rfl) ?_
    refine AW.if_eq (tgt := 1173) (pc' := 1171) d_L_law_1168 (by decide) rfl (fun _ => ?_) (fun h => absurd h (by decide))
    refine AW.goto (tgt := 1245) d_L_law_1173 (by decide) ?_
    exact AW.dropL (j := 5) rfl (AW.dropL (j := 6) rfl (hE z' k' o' hR hW))
theorem lc_passed (X : ct_X) (z : S_c) (k : S_m) (o : Nat → Int64) (i cb sb : Nat) {Q : Option Value ⊕ Nat → ct_W → Prop} (hi : i + 3 ≤ xL X) (hL : xL X ≤ 1536) (hb1 : Nat.ble (cb + 1) 1090 = true) (hb2 : Nat.ble (sb + 6) 11814 = true) (hS : SL1 X m_L_passed m_M_passed [.int (xx X (i + 1))] z k o) (hE : ∀ (z' : S_c) (k' : S_m) (o' : Nat → Int64), Rl z' k' → k_rows k' ≤ k_rows k + 2 → AW X m_L_law 11 1090 11814 (cb + 1) (sb + 6) 1245 [some (.ref scr), some (.ref 0), some (.ref 20), some (.ref 37), some (.int (nI (i))), none, none] [] (wL z' k' o') Q) : AW X m_L_law 11 1090 11814 cb sb 1176 [some (.ref scr), some (.ref 0), some (.ref 20), some (.ref 37), some (.int (nI (i))), none, none] [] (wL z k o) Q := by
  obtain ⟨c, b, z', k', o', hA, hM, hR, hW, hT, hc, hO⟩ := hS
  refine AW.aload_n (pc' := 1177) d_L_law_1176 rfl rfl rfl ?_
  refine AW.aload_n (pc' := 1178) d_L_law_1177 rfl rfl rfl ?_
  refine AW.iload (pc' := 1180) d_L_law_1178 rfl rfl ?_
  refine AW.iconst (pc' := 1181) (v := nI 1) d_L_law_1180 rfl (by decide) ?_
  refine AW.iaddN (pc' := 1182) d_L_law_1181 rfl ?_
  refine AW.sldN (pc' := 1183) d_L_law_1182 rfl (by omega) (by omega) ?_
  refine AW.aload_n (pc' := 1184) d_L_law_1183 rfl rfl rfl ?_
  refine AW.cSm (mc' := 1) (ms' := 6) (pc' := 1187) d_L_law_1184 rfl cs_L_155 (by decide) hA rfl rfl rfl hb1 hb2 rfl rfl ?_
  refine AW.istore (pc' := 1189) (ls' := [some (.ref scr), some (.ref 0), some (.ref 20), some (.ref 37), some (.int (nI (i))), some (.int (nI (c))), none]) d_L_law_1187 rfl rfl rfl ?_
  refine AW.aload_n (pc' := 1190) d_L_law_1189 rfl rfl rfl ?_
  refine AW.aload_n (pc' := 1191) d_L_law_1190 rfl rfl rfl ?_
  refine AW.iload (pc' := 1193) d_L_law_1191 rfl rfl ?_
  refine AW.iconst (pc' := 1194) (v := nI 1) d_L_law_1193 rfl (by decide) ?_
  refine AW.iaddN (pc' := 1195) d_L_law_1194 rfl ?_
  refine AW.sldN (pc' := 1196) d_L_law_1195 rfl (by omega) (by omega) ?_
  refine AW.cV (pc' := 1199) d_L_law_1196 rfl cv_L_157 (by decide) rfl rfl rfl (hM o') rfl rfl rfl hb1 hb2 rfl rfl ?_
  refine AW.istore (pc' := 1201) (ls' := [some (.ref scr), some (.ref 0), some (.ref 20), some (.ref 37), some (.int (nI (i))), some (.int (nI (c))), some (.int (b))]) d_L_law_1199 rfl rfl rfl ?_
  refine AW.aload_n (pc' := 1202) d_L_law_1201 rfl rfl rfl ?_
  refine AW.cV (pc' := 1205) d_L_law_1202 rfl cv_L_93 (by decide) rfl rfl rfl (k_thrown X z' k' o') rfl rfl rfl hb1 hb2 rfl rfl ?_
  refine AW.top (u := .int (nI c)) (by rw [hT]) ?_
  refine AW.iload (pc' := 1207) d_L_law_1205 rfl rfl ?_
  refine AW.icmp_eqN (tgt := 1212) (pc' := 1210) d_L_law_1207 (by decide) rfl (by omega) (by omega) (fun h1207 => ?_) (fun h => absurd rfl h)
  refine AW.iload (pc' := 1214) d_L_law_1212 rfl rfl ?_
  refine AW.if_ne (tgt := 1229) (pc' := 1217) d_L_law_1214 (by decide) rfl (fun hz => ?_) (fun hz => ?_)
  · refine AW.goto (tgt := 1245) d_L_law_1229 (by decide) ?_
    exact AW.dropL (j := 5) rfl (AW.dropL (j := 6) rfl (hE z' k' o' hR hW))
  · refine AW.aload_n (pc' := 1218) d_L_law_1217 rfl rfl rfl ?_
    refine AW.iconst (pc' := 1219) (v := nI 0) d_L_law_1218 rfl (by decide) ?_
    refine AW.laldN (pc' := 1220) d_L_law_1219 rfl rfl (by omega) (by decide) ?_
    refine AW.iload (pc' := 1222) d_L_law_1220 rfl rfl ?_
    refine AW.i2l (pc' := 1223) d_L_law_1222 rfl ?_
    refine AW.lcmp (pc' := 1224) d_L_law_1223 rfl ?_
    refine AW.top (u := .int (nI 0)) (by rw [hO hz, lgc]; rfl) ?_
    refine AW.if_eq (tgt := 1229) (pc' := 1227) d_L_law_1224 (by decide) rfl (fun _ => ?_) (fun h => absurd h (by decide))
    refine AW.goto (tgt := 1245) d_L_law_1229 (by decide) ?_
    exact AW.dropL (j := 5) rfl (AW.dropL (j := 6) rfl (hE z' k' o' hR hW))
theorem lc_clock (X : ct_X) (z : S_c) (k : S_m) (o : Nat → Int64) (i cb sb : Nat) {Q : Option Value ⊕ Nat → ct_W → Prop} (hi : i + 3 ≤ xL X) (hL : xL X ≤ 1536) (hb1 : Nat.ble (cb + 1) 1090 = true) (hb2 : Nat.ble (sb + 6) 11814 = true) (hR : Rl z k) (hE : ∀ (z' : S_c) (k' : S_m) (o' : Nat → Int64), Rl z' k' → k_rows k' ≤ k_rows k + 2 → AW X m_L_law 11 1090 11814 (cb + 1) (sb + 6) 1245 [some (.ref scr), some (.ref 0), some (.ref 20), some (.ref 37), some (.int (nI (i))), none, none] [] (wL z' k' o') Q) : AW X m_L_law 11 1090 11814 cb sb 1232 [some (.ref scr), some (.ref 0), some (.ref 20), some (.ref 37), some (.int (nI (i))), none, none] [] (wL z k o) Q := by
  have hb3 : Nat.ble cb 1090 = true := Nat.ble_eq_true_of_le (by have := Nat.le_of_ble_eq_true hb1; omega)
  have hb4 : Nat.ble sb 11814 = true := Nat.ble_eq_true_of_le (by have := Nat.le_of_ble_eq_true hb2; omega)
  refine AW.aload_n (pc' := 1233) d_L_law_1232 rfl rfl rfl ?_
  refine AW.cV (pc' := 1236) d_L_law_1233 rfl cv_L_158 (by decide) rfl rfl rfl (c_clock X z k o) rfl rfl rfl hb3 hb4 rfl rfl ?_
  refine AW.aload_n (pc' := 1237) d_L_law_1236 rfl rfl rfl ?_
  refine AW.cV (pc' := 1240) d_L_law_1237 rfl cv_L_161 (by decide) rfl rfl rfl (k_clock X z k o) rfl rfl rfl hb3 hb4 rfl rfl ?_
  refine AW.icmp_eq (tgt := 1245) (pc' := 1243) d_L_law_1240 (by decide) rfl (fun h1240 => ?_) (fun h => absurd (by rw [hR.1.1.1.1]) h)
  exact AW.lessb (by omega) (by omega) (hE z (k_thr_ k (nI 0)) o (hR.thr _) (by show k_rows k ≤ k_rows k + 2; omega))
theorem and31 (x : Int32) : ∃ j, j ≤ 31 ∧ x &&& nI 31 = nI j := ⟨x.toBitVec.toNat % 2 ^ 5, by omega, pk_and x 5 (by decide)⟩
theorem gt3 {L i : Nat} (hL : L < 2 ^ 30) (hi : i < 2 ^ 30) : nI L - nI 3 < nI i ↔ L < i + 3 := by
  rw [Int32.lt_iff_toInt_lt, pk_sub_toInt hL (by decide), nI_toInt (by omega)]
  omega
theorem lw_loop (X : ct_X) (hL : xL X ≤ 1536) : ∀ (n i : Nat) (z : S_c) (k : S_m) (o : Nat → Int64) (cb sb : Nat), xL X ≤ i + 3 * n + 2 → Rl z k → k_rows k ≤ i → 3 * cb ≤ 114 + i → sb ≤ 3454 + 2 * i → i ≤ 1536 → AW X m_L_law 11 1090 11814 cb sb 23 [some (.ref scr), some (.ref 0), some (.ref 20), some (.ref 37), some (.int (nI (i))), none, none] [] (wL z k o) (fun r _ => r = .inl (some (.int (nI 1)))) := by
  intro n
  induction n with
  | zero =>
    intro i z k o cb sb hn hR hk hcb hsb hi
    refine AW.iload (pc' := 25) d_L_law_23 rfl rfl ?_
    refine AW.aload_n (pc' := 26) d_L_law_25 rfl rfl rfl ?_
    refine AW.slen (pc' := 27) d_L_law_26 rfl ?_
    refine AW.top (u := .int (nI (xL X))) rfl ?_
    refine AW.iconst (pc' := 28) (v := nI 3) d_L_law_27 rfl (by decide) ?_
    refine AW.isub (pc' := 29) d_L_law_28 rfl ?_
    refine AW.icmp_gt (tgt := 1251) (pc' := 32) d_L_law_29 (by decide) rfl (fun h29 => ?_) (fun h => absurd ((gt3 (by omega) (by omega)).mpr (by omega)) h)
    refine AW.iconst (pc' := 1252) (v := nI 1) d_L_law_1251 rfl (by decide) ?_
    exact AW.zret d_L_law_1252 rfl (by decide) (Nat.ble_eq_true_of_le (by omega)) (Nat.ble_eq_true_of_le (by omega)) rfl
  | succ n ih =>
    intro i z k o cb sb hn hR hk hcb hsb hi
    by_cases hx : xL X < i + 3
    · refine AW.iload (pc' := 25) d_L_law_23 rfl rfl ?_
      refine AW.aload_n (pc' := 26) d_L_law_25 rfl rfl rfl ?_
      refine AW.slen (pc' := 27) d_L_law_26 rfl ?_
      refine AW.top (u := .int (nI (xL X))) rfl ?_
      refine AW.iconst (pc' := 28) (v := nI 3) d_L_law_27 rfl (by decide) ?_
      refine AW.isub (pc' := 29) d_L_law_28 rfl ?_
      refine AW.icmp_gt (tgt := 1251) (pc' := 32) d_L_law_29 (by decide) rfl (fun h29 => ?_) (fun h => absurd ((gt3 (by omega) (by omega)).mpr (by omega)) h)
      refine AW.iconst (pc' := 1252) (v := nI 1) d_L_law_1251 rfl (by decide) ?_
      exact AW.zret d_L_law_1252 rfl (by decide) (Nat.ble_eq_true_of_le (by omega)) (Nat.ble_eq_true_of_le (by omega)) rfl
    · have hb1 : Nat.ble (cb + 1) 1090 = true := Nat.ble_eq_true_of_le (by omega)
      have hb2 : Nat.ble (sb + 6) 11814 = true := Nat.ble_eq_true_of_le (by omega)
      have hi3 : i + 3 ≤ xL X := by omega
      have hr : k_rows k < 100000 := by omega
      have hE : ∀ (z' : S_c) (k' : S_m) (o' : Nat → Int64), Rl z' k' → k_rows k' ≤ k_rows k + 2 → AW X m_L_law 11 1090 11814 (cb + 1) (sb + 6) 1245 [some (.ref scr), some (.ref 0), some (.ref 20), some (.ref 37), some (.int (nI (i))), none, none] [] (wL z' k' o') (fun r _ => r = .inl (some (.int (nI 1)))) := fun z' k' o' q1 q2 => by
        refine AW.iinc (pc' := 1248) (ls' := [some (.ref scr), some (.ref 0), some (.ref 20), some (.ref 37), some (.int (nI (i + 3))), none, none]) d_L_law_1245 rfl rfl (by rw [show Int32.ofInt 3 = nI 3 from rfl, nI_add]) rfl rfl ?_
        refine AW.goto (tgt := 23) d_L_law_1248 (by decide) ?_
        exact ih (i + 3) z' k' o' (cb + 1) (sb + 6) (by omega) q1 (by omega) (by omega) (by omega) (by omega)
      obtain ⟨j, hj, ej⟩ := and31 (xx X i)
      refine AW.iload (pc' := 25) d_L_law_23 rfl rfl ?_
      refine AW.aload_n (pc' := 26) d_L_law_25 rfl rfl rfl ?_
      refine AW.slen (pc' := 27) d_L_law_26 rfl ?_
      refine AW.top (u := .int (nI (xL X))) rfl ?_
      refine AW.iconst (pc' := 28) (v := nI 3) d_L_law_27 rfl (by decide) ?_
      refine AW.isub (pc' := 29) d_L_law_28 rfl ?_
      refine AW.icmp_gt (tgt := 1251) (pc' := 32) d_L_law_29 (by decide) rfl (fun h => absurd ((gt3 (by omega) (by omega)).mp h) (by omega)) (fun h29 => ?_)
      refine AW.aload_n (pc' := 33) d_L_law_32 rfl rfl rfl ?_
      refine AW.iload (pc' := 35) d_L_law_33 rfl rfl ?_
      refine AW.sldN (pc' := 36) d_L_law_35 rfl (by omega) (by omega) ?_
      refine AW.bipush (pc' := 38) (v := nI 31) d_L_law_36 rfl (by decide) ?_
      refine AW.iand (pc' := 39) d_L_law_38 rfl ?_
      refine AW.top (u := .int (nI j)) (by rw [ej]) ?_
      have hj' : j = 0 ∨ j = 1 ∨ j = 2 ∨ j = 3 ∨ j = 4 ∨ j = 5 ∨ j = 6 ∨ j = 7 ∨ j = 8 ∨ j = 9 ∨ j = 10 ∨ j = 11 ∨ j = 12 ∨ j = 13 ∨ j = 14 ∨ j = 15 ∨ j = 16 ∨ j = 17 ∨ j = 18 ∨ j = 19 ∨ j = 20 ∨ 20 < j := by omega
      rcases hj' with rfl | rfl | rfl | rfl | rfl | rfl | rfl | rfl | rfl | rfl | rfl | rfl | rfl | rfl | rfl | rfl | rfl | rfl | rfl | rfl | rfl | hj2
      · refine AW.tableIn (off := 97) (tgt := 136) d_L_law_39 (by decide) (by decide) rfl (by decide) ?_
        exact lc_person X z k o i cb sb hi3 hL hb1 hb2 (sl_person X z k o hR (xx X (i + 1))) hE
      · refine AW.tableIn (off := 153) (tgt := 192) d_L_law_39 (by decide) (by decide) rfl (by decide) ?_
        exact lc_unit X z k o i cb sb hi3 hL hb1 hb2 (sl_unit X z k o hR ) hE
      · refine AW.tableIn (off := 197) (tgt := 236) d_L_law_39 (by decide) (by decide) rfl (by decide) ?_
        exact lc_arrive X z k o i cb sb hi3 hL hb1 hb2 (sl_arrive X z k o hR hr (xx X (i + 1))) hE
      · refine AW.tableIn (off := 233) (tgt := 272) d_L_law_39 (by decide) (by decide) rfl (by decide) ?_
        exact lc_leave X z k o i cb sb hi3 hL hb1 hb2 (sl_leave X z k o hR hr (xx X (i + 1))) hE
      · refine AW.tableIn (off := 269) (tgt := 308) d_L_law_39 (by decide) (by decide) rfl (by decide) ?_
        exact lc_go X z k o i cb sb hi3 hL hb1 hb2 (sl_go X z k o hR hr (xx X (i + 1)) (xx X (i + 2))) hE
      · refine AW.tableIn (off := 317) (tgt := 356) d_L_law_39 (by decide) (by decide) rfl (by decide) ?_
        exact lc_place X z k o i cb sb hi3 hL hb1 hb2 (sl_place X z k o hR (xx X (i + 1)) (xx X (i + 2))) hE
      · refine AW.tableIn (off := 365) (tgt := 404) d_L_law_39 (by decide) (by decide) rfl (by decide) ?_
        exact lc_split X z k o i cb sb hi3 hL hb1 hb2 (sl_split X z k o hR (xx X (i + 1))) hE
      · refine AW.tableIn (off := 421) (tgt := 460) d_L_law_39 (by decide) (by decide) rfl (by decide) ?_
        exact lc_join X z k o i cb sb hi3 hL hb1 hb2 (sl_join X z k o hR hr (xx X (i + 1)) (xx X (i + 2))) hE
      · refine AW.tableIn (off := 469) (tgt := 508) d_L_law_39 (by decide) (by decide) rfl (by decide) ?_
        exact lc_offer X z k o i cb sb hi3 hL hb1 hb2 (sl_offer X z k o hR (xx X (i + 1)) (xx X (i + 2))) hE
      · refine AW.tableIn (off := 517) (tgt := 556) d_L_law_39 (by decide) (by decide) rfl (by decide) ?_
        exact lc_take X z k o i cb sb hi3 hL hb1 hb2 (sl_take X z k o hR hr (xx X (i + 1)) (xx X (i + 2))) hE
      · refine AW.tableIn (off := 565) (tgt := 604) d_L_law_39 (by decide) (by decide) rfl (by decide) ?_
        exact lc_task X z k o i cb sb hi3 hL hb1 hb2 (sl_task X z k o hR (xx X (i + 1)) (xx X (i + 2))) hE
      · refine AW.tableIn (off := 633) (tgt := 672) d_L_law_39 (by decide) (by decide) rfl (by decide) ?_
        by_cases hd : xx X (i + 2) = 0
        · exact lc_answer_0 X z k o i cb sb hi3 hL hb1 hb2 hd (sl_answer X z k o hR (xx X (i + 1)) false) hE
        · exact lc_answer_1 X z k o i cb sb hi3 hL hb1 hb2 hd (sl_answer X z k o hR (xx X (i + 1)) true) hE
      · refine AW.tableIn (off := 697) (tgt := 736) d_L_law_39 (by decide) (by decide) rfl (by decide) ?_
        exact lc_span X z k o i cb sb hi3 hL hb1 hb2 (sl_span X z k o hR (xx X (i + 1))) hE
      · refine AW.tableIn (off := 753) (tgt := 792) d_L_law_39 (by decide) (by decide) rfl (by decide) ?_
        exact lc_tick X z k o i cb sb hi3 hL hb1 hb2 (sl_tick X z k o hR (xx X (i + 1))) hE
      · refine AW.tableIn (off := 809) (tgt := 848) d_L_law_39 (by decide) (by decide) rfl (by decide) ?_
        exact lc_led X z k o i cb sb hi3 hL hb1 hb2 (sl_led X z k o hR hr (xx X (i + 1)) (xx X (i + 2))) hE
      · refine AW.tableIn (off := 877) (tgt := 916) d_L_law_39 (by decide) (by decide) rfl (by decide) ?_
        exact lc_sectorAt X z k o i cb sb hi3 hL hb1 hb2 (sl_sectorAt X z k o hR (xx X (i + 1)) (xx X (i + 2))) hE
      · refine AW.tableIn (off := 945) (tgt := 984) d_L_law_39 (by decide) (by decide) rfl (by decide) ?_
        exact lc_personAt X z k o i cb sb hi3 hL hb1 hb2 (sl_personAt X z k o hR (xx X (i + 1)) (xx X (i + 2))) hE
      · refine AW.tableIn (off := 1013) (tgt := 1052) d_L_law_39 (by decide) (by decide) rfl (by decide) ?_
        exact lc_unitAt X z k o i cb sb hi3 hL hb1 hb2 (sl_unitAt X z k o hR (xx X (i + 1))) hE
      · refine AW.tableIn (off := 1069) (tgt := 1108) d_L_law_39 (by decide) (by decide) rfl (by decide) ?_
        exact lc_taskAt X z k o i cb sb hi3 hL hb1 hb2 (sl_taskAt X z k o hR (xx X (i + 1)) (xx X (i + 2))) hE
      · refine AW.tableIn (off := 1137) (tgt := 1176) d_L_law_39 (by decide) (by decide) rfl (by decide) ?_
        exact lc_passed X z k o i cb sb hi3 hL hb1 hb2 (sl_passed X z k o hR (xx X (i + 1))) hE
      · refine AW.tableIn (off := 1193) (tgt := 1232) d_L_law_39 (by decide) (by decide) rfl (by decide) ?_
        exact lc_clock X z k o i cb sb hi3 hL hb1 hb2 hR hE
      · refine AW.tableOut (tgt := 1245) d_L_law_39 (sw_out (n := 20) (by decide) (Or.inr ((nI_ltI (by omega) (by omega)).mpr hj2))) (by decide) ?_
        exact AW.lessb (by omega) (by omega) (hE z k o hR (by omega))
