/-! the law: each of its cases -/
abbrev lawM (nm : String) : Mt := (⟨RL, nm, "([I)Z"⟩, cL_law, 4, ret)
def lawQ : Option Value → Mem → Prop := fun r _ => r = some (.int 1)
abbrev lvL (bS x0 ar i : Nat) : List (Option Value) := [some (.ref bS), some (.ref x0), some (.ref ar), some (.int (nI i))]
theorem cmp_s (v : Int64) : lg_cmp v v = 0 := by
  unfold lg_cmp
  simp
section LC
variable {Γ : Gm} {M : Mem} {x0 bS L i cl sl : Nat} {xs : Nat → Int32} {a : Ma} {nm : String}
theorem LC_set (hi : i + 6 ≤ L) (hL : L ≤ 3072) (h : LJ M x0 a) (hcl : cl + 64 ≤ 600000) (hsl : sl + 4000 ≤ 7302250) (k : ∀ M2, LJ M2 x0 a → WL (scS bS L xs (gB Γ)) Γ (lawM nm) room_1 600000 7302250 (cl + 64) (sl + 4000) lawQ 998 (lvL bS x0 a.1 i) [] M2) : WL (scS bS L xs (gB Γ)) Γ (lawM nm) room_1 600000 7302250 cl sl lawQ 156 (lvL bS x0 a.1 i) [] M := by
  obtain ⟨hT, v, Mid, hc, hm⟩ := J_call (Γ := Γ) (J_set (xs (i + 1)) (xs (i + 2)) (xs (i + 3))) h
  refine y_aload_n (pc := 156) dL_law_156 rfl ?_
  refine y_aload_n (pc := 157) dL_law_157 rfl ?_
  refine y_iload_n (pc := 158) dL_law_158 rfl ?_
  refine y_iconst (pc := 159) (v := 1) dL_law_159 rfl ?_
  refine y_iadd (pc := 160) dL_law_160 ?_
  refine y_sld (pc := 161) (i := i + 1) dL_law_161 (nI_add i 1) (by omega) (by omega) ?_
  refine y_aload_n (pc := 162) dL_law_162 rfl ?_
  refine y_iload_n (pc := 163) dL_law_163 rfl ?_
  refine y_iconst (pc := 164) (v := 2) dL_law_164 rfl ?_
  refine y_iadd (pc := 165) dL_law_165 ?_
  refine y_sld (pc := 166) (i := i + 2) dL_law_166 (nI_add i 2) (by omega) (by omega) ?_
  refine y_aload_n (pc := 167) dL_law_167 rfl ?_
  refine y_iload_n (pc := 168) dL_law_168 rfl ?_
  refine y_iconst (pc := 169) (v := 3) dL_law_169 rfl ?_
  refine y_iadd (pc := 170) dL_law_170 ?_
  refine y_sld (pc := 171) (i := i + 3) dL_law_171 (nI_add i 3) (by omega) (by omega) ?_
  refine y_callV (pc := 172) (As := [.int (xs (i + 1)), .int (xs (i + 2)), .int (xs (i + 3))]) dL_law_172 mX11_set lk_L_13 hT hc rfl rfl (Nat.le_of_ble_eq_true rfl) ⟨by decide, by decide⟩ ⟨by show _ ≤ 600000; omega, by show _ ≤ 7302250; omega⟩ ?_
  rintro r M2 ⟨rfl, hMid⟩
  obtain ⟨hT2, hm2⟩ := hm M2 hMid
  refine y_aload_n (pc := 175) dL_law_175 rfl ?_
  refine y_aload_n (pc := 176) dL_law_176 rfl ?_
  refine y_iload_n (pc := 177) dL_law_177 rfl ?_
  refine y_iconst (pc := 178) (v := 1) dL_law_178 rfl ?_
  refine y_iadd (pc := 179) dL_law_179 ?_
  refine y_sld (pc := 180) (i := i + 1) dL_law_180 (nI_add i 1) (by omega) (by omega) ?_
  refine y_aload_n (pc := 181) dL_law_181 rfl ?_
  refine y_iload_n (pc := 182) dL_law_182 rfl ?_
  refine y_iconst (pc := 183) (v := 2) dL_law_183 rfl ?_
  refine y_iadd (pc := 184) dL_law_184 ?_
  refine y_sld (pc := 185) (i := i + 2) dL_law_185 (nI_add i 2) (by omega) (by omega) ?_
  refine y_aload_n (pc := 186) dL_law_186 rfl ?_
  refine y_iload_n (pc := 187) dL_law_187 rfl ?_
  refine y_iconst (pc := 188) (v := 3) dL_law_188 rfl ?_
  refine y_iadd (pc := 189) dL_law_189 ?_
  refine y_sld (pc := 190) (i := i + 3) dL_law_190 (nI_add i 3) (by omega) (by omega) ?_
  refine y_callV (pc := 191) (As := [.int (xs (i + 1)), .int (xs (i + 2)), .int (xs (i + 3))]) dL_law_191 mX12_set lk_L_17 hT2 hm2 rfl rfl (Nat.le_of_ble_eq_true rfl) ⟨by decide, by decide⟩ ⟨by show _ ≤ 600000; omega, by show _ ≤ 7302250; omega⟩ ?_
  rintro r M3 ⟨rfl, hLJ⟩
  refine y_icmp_eq (pc := 194) (tgt := 998) (st := []) dL_law_194 rfl (fun _ => ?_) (fun z => absurd rfl z)
  exact y_widen (by omega) (by omega) (k M3 hLJ)
theorem LC_thing (hi : i + 6 ≤ L) (hL : L ≤ 3072) (h : LJ M x0 a) (hcl : cl + 64 ≤ 600000) (hsl : sl + 4000 ≤ 7302250) (k : ∀ M2, LJ M2 x0 a → WL (scS bS L xs (gB Γ)) Γ (lawM nm) room_1 600000 7302250 (cl + 64) (sl + 4000) lawQ 998 (lvL bS x0 a.1 i) [] M2) : WL (scS bS L xs (gB Γ)) Γ (lawM nm) room_1 600000 7302250 cl sl lawQ 199 (lvL bS x0 a.1 i) [] M := by
  obtain ⟨hT, v, Mid, hc, hm⟩ := J_call (Γ := Γ) (J_thing (xs (i + 1)) (xs (i + 2)) (xs (i + 3))) h
  refine y_aload_n (pc := 199) dL_law_199 rfl ?_
  refine y_aload_n (pc := 200) dL_law_200 rfl ?_
  refine y_iload_n (pc := 201) dL_law_201 rfl ?_
  refine y_iconst (pc := 202) (v := 1) dL_law_202 rfl ?_
  refine y_iadd (pc := 203) dL_law_203 ?_
  refine y_sld (pc := 204) (i := i + 1) dL_law_204 (nI_add i 1) (by omega) (by omega) ?_
  refine y_aload_n (pc := 205) dL_law_205 rfl ?_
  refine y_iload_n (pc := 206) dL_law_206 rfl ?_
  refine y_iconst (pc := 207) (v := 2) dL_law_207 rfl ?_
  refine y_iadd (pc := 208) dL_law_208 ?_
  refine y_sld (pc := 209) (i := i + 2) dL_law_209 (nI_add i 2) (by omega) (by omega) ?_
  refine y_aload_n (pc := 210) dL_law_210 rfl ?_
  refine y_iload_n (pc := 211) dL_law_211 rfl ?_
  refine y_iconst (pc := 212) (v := 3) dL_law_212 rfl ?_
  refine y_iadd (pc := 213) dL_law_213 ?_
  refine y_sld (pc := 214) (i := i + 3) dL_law_214 (nI_add i 3) (by omega) (by omega) ?_
  refine y_callV (pc := 215) (As := [.int (xs (i + 1)), .int (xs (i + 2)), .int (xs (i + 3))]) dL_law_215 mX11_thing lk_L_18 hT hc rfl rfl (Nat.le_of_ble_eq_true rfl) ⟨by decide, by decide⟩ ⟨by show _ ≤ 600000; omega, by show _ ≤ 7302250; omega⟩ ?_
  rintro r M2 ⟨rfl, hMid⟩
  obtain ⟨hT2, hm2⟩ := hm M2 hMid
  refine y_aload_n (pc := 218) dL_law_218 rfl ?_
  refine y_aload_n (pc := 219) dL_law_219 rfl ?_
  refine y_iload_n (pc := 220) dL_law_220 rfl ?_
  refine y_iconst (pc := 221) (v := 1) dL_law_221 rfl ?_
  refine y_iadd (pc := 222) dL_law_222 ?_
  refine y_sld (pc := 223) (i := i + 1) dL_law_223 (nI_add i 1) (by omega) (by omega) ?_
  refine y_aload_n (pc := 224) dL_law_224 rfl ?_
  refine y_iload_n (pc := 225) dL_law_225 rfl ?_
  refine y_iconst (pc := 226) (v := 2) dL_law_226 rfl ?_
  refine y_iadd (pc := 227) dL_law_227 ?_
  refine y_sld (pc := 228) (i := i + 2) dL_law_228 (nI_add i 2) (by omega) (by omega) ?_
  refine y_aload_n (pc := 229) dL_law_229 rfl ?_
  refine y_iload_n (pc := 230) dL_law_230 rfl ?_
  refine y_iconst (pc := 231) (v := 3) dL_law_231 rfl ?_
  refine y_iadd (pc := 232) dL_law_232 ?_
  refine y_sld (pc := 233) (i := i + 3) dL_law_233 (nI_add i 3) (by omega) (by omega) ?_
  refine y_callV (pc := 234) (As := [.int (xs (i + 1)), .int (xs (i + 2)), .int (xs (i + 3))]) dL_law_234 mX12_thing lk_L_21 hT2 hm2 rfl rfl (Nat.le_of_ble_eq_true rfl) ⟨by decide, by decide⟩ ⟨by show _ ≤ 600000; omega, by show _ ≤ 7302250; omega⟩ ?_
  rintro r M3 ⟨rfl, hLJ⟩
  refine y_icmp_eq (pc := 237) (tgt := 998) (st := []) dL_law_237 rfl (fun _ => ?_) (fun z => absurd rfl z)
  exact y_widen (by omega) (by omega) (k M3 hLJ)
theorem LC_put (hi : i + 6 ≤ L) (hL : L ≤ 3072) (h : LJ M x0 a) (hcl : cl + 64 ≤ 600000) (hsl : sl + 4000 ≤ 7302250) (k : ∀ M2, LJ M2 x0 a → WL (scS bS L xs (gB Γ)) Γ (lawM nm) room_1 600000 7302250 (cl + 64) (sl + 4000) lawQ 998 (lvL bS x0 a.1 i) [] M2) : WL (scS bS L xs (gB Γ)) Γ (lawM nm) room_1 600000 7302250 cl sl lawQ 242 (lvL bS x0 a.1 i) [] M := by
  obtain ⟨hT, v, Mid, hc, hm⟩ := J_call (Γ := Γ) (J_put (xs (i + 1)) (xs (i + 2))) h
  refine y_aload_n (pc := 242) dL_law_242 rfl ?_
  refine y_aload_n (pc := 243) dL_law_243 rfl ?_
  refine y_iload_n (pc := 244) dL_law_244 rfl ?_
  refine y_iconst (pc := 245) (v := 1) dL_law_245 rfl ?_
  refine y_iadd (pc := 246) dL_law_246 ?_
  refine y_sld (pc := 247) (i := i + 1) dL_law_247 (nI_add i 1) (by omega) (by omega) ?_
  refine y_aload_n (pc := 248) dL_law_248 rfl ?_
  refine y_iload_n (pc := 249) dL_law_249 rfl ?_
  refine y_iconst (pc := 250) (v := 2) dL_law_250 rfl ?_
  refine y_iadd (pc := 251) dL_law_251 ?_
  refine y_sld (pc := 252) (i := i + 2) dL_law_252 (nI_add i 2) (by omega) (by omega) ?_
  refine y_callV (pc := 253) (As := [.int (xs (i + 1)), .int (xs (i + 2))]) dL_law_253 mX11_put lk_L_22 hT hc rfl rfl (Nat.le_of_ble_eq_true rfl) ⟨by decide, by decide⟩ ⟨by show _ ≤ 600000; omega, by show _ ≤ 7302250; omega⟩ ?_
  rintro r M2 ⟨rfl, hMid⟩
  obtain ⟨hT2, hm2⟩ := hm M2 hMid
  refine y_aload_n (pc := 256) dL_law_256 rfl ?_
  refine y_aload_n (pc := 257) dL_law_257 rfl ?_
  refine y_iload_n (pc := 258) dL_law_258 rfl ?_
  refine y_iconst (pc := 259) (v := 1) dL_law_259 rfl ?_
  refine y_iadd (pc := 260) dL_law_260 ?_
  refine y_sld (pc := 261) (i := i + 1) dL_law_261 (nI_add i 1) (by omega) (by omega) ?_
  refine y_aload_n (pc := 262) dL_law_262 rfl ?_
  refine y_iload_n (pc := 263) dL_law_263 rfl ?_
  refine y_iconst (pc := 264) (v := 2) dL_law_264 rfl ?_
  refine y_iadd (pc := 265) dL_law_265 ?_
  refine y_sld (pc := 266) (i := i + 2) dL_law_266 (nI_add i 2) (by omega) (by omega) ?_
  refine y_callV (pc := 267) (As := [.int (xs (i + 1)), .int (xs (i + 2))]) dL_law_267 mX12_put lk_L_26 hT2 hm2 rfl rfl (Nat.le_of_ble_eq_true rfl) ⟨by decide, by decide⟩ ⟨by show _ ≤ 600000; omega, by show _ ≤ 7302250; omega⟩ ?_
  rintro r M3 ⟨rfl, hLJ⟩
  refine y_icmp_eq (pc := 270) (tgt := 998) (st := []) dL_law_270 rfl (fun _ => ?_) (fun z => absurd rfl z)
  exact y_widen (by omega) (by omega) (k M3 hLJ)
theorem LC_told (hi : i + 6 ≤ L) (hL : L ≤ 3072) (h : LJ M x0 a) (hcl : cl + 64 ≤ 600000) (hsl : sl + 4000 ≤ 7302250) (k : ∀ M2, LJ M2 x0 a → WL (scS bS L xs (gB Γ)) Γ (lawM nm) room_1 600000 7302250 (cl + 64) (sl + 4000) lawQ 998 (lvL bS x0 a.1 i) [] M2) : WL (scS bS L xs (gB Γ)) Γ (lawM nm) room_1 600000 7302250 cl sl lawQ 275 (lvL bS x0 a.1 i) [] M := by
  obtain ⟨hT, v, Mid, hc, hm⟩ := J_call (Γ := Γ) (J_told (xs (i + 1)) (xs (i + 2))) h
  refine y_aload_n (pc := 275) dL_law_275 rfl ?_
  refine y_aload_n (pc := 276) dL_law_276 rfl ?_
  refine y_iload_n (pc := 277) dL_law_277 rfl ?_
  refine y_iconst (pc := 278) (v := 1) dL_law_278 rfl ?_
  refine y_iadd (pc := 279) dL_law_279 ?_
  refine y_sld (pc := 280) (i := i + 1) dL_law_280 (nI_add i 1) (by omega) (by omega) ?_
  refine y_aload_n (pc := 281) dL_law_281 rfl ?_
  refine y_iload_n (pc := 282) dL_law_282 rfl ?_
  refine y_iconst (pc := 283) (v := 2) dL_law_283 rfl ?_
  refine y_iadd (pc := 284) dL_law_284 ?_
  refine y_sld (pc := 285) (i := i + 2) dL_law_285 (nI_add i 2) (by omega) (by omega) ?_
  refine y_callV (pc := 286) (As := [.int (xs (i + 1)), .int (xs (i + 2))]) dL_law_286 mX11_told lk_L_27 hT hc rfl rfl (Nat.le_of_ble_eq_true rfl) ⟨by decide, by decide⟩ ⟨by show _ ≤ 600000; omega, by show _ ≤ 7302250; omega⟩ ?_
  rintro r M2 ⟨rfl, hMid⟩
  obtain ⟨hT2, hm2⟩ := hm M2 hMid
  refine y_aload_n (pc := 289) dL_law_289 rfl ?_
  refine y_aload_n (pc := 290) dL_law_290 rfl ?_
  refine y_iload_n (pc := 291) dL_law_291 rfl ?_
  refine y_iconst (pc := 292) (v := 1) dL_law_292 rfl ?_
  refine y_iadd (pc := 293) dL_law_293 ?_
  refine y_sld (pc := 294) (i := i + 1) dL_law_294 (nI_add i 1) (by omega) (by omega) ?_
  refine y_aload_n (pc := 295) dL_law_295 rfl ?_
  refine y_iload_n (pc := 296) dL_law_296 rfl ?_
  refine y_iconst (pc := 297) (v := 2) dL_law_297 rfl ?_
  refine y_iadd (pc := 298) dL_law_298 ?_
  refine y_sld (pc := 299) (i := i + 2) dL_law_299 (nI_add i 2) (by omega) (by omega) ?_
  refine y_callV (pc := 300) (As := [.int (xs (i + 1)), .int (xs (i + 2))]) dL_law_300 mX12_told lk_L_30 hT2 hm2 rfl rfl (Nat.le_of_ble_eq_true rfl) ⟨by decide, by decide⟩ ⟨by show _ ≤ 600000; omega, by show _ ≤ 7302250; omega⟩ ?_
  rintro r M3 ⟨rfl, hLJ⟩
  refine y_icmp_eq (pc := 303) (tgt := 998) (st := []) dL_law_303 rfl (fun _ => ?_) (fun z => absurd rfl z)
  exact y_widen (by omega) (by omega) (k M3 hLJ)
theorem LC_feed (hi : i + 6 ≤ L) (hL : L ≤ 3072) (h : LJ M x0 a) (hcl : cl + 64 ≤ 600000) (hsl : sl + 4000 ≤ 7302250) (k : ∀ M2, LJ M2 x0 a → WL (scS bS L xs (gB Γ)) Γ (lawM nm) room_1 600000 7302250 (cl + 64) (sl + 4000) lawQ 998 (lvL bS x0 a.1 i) [] M2) : WL (scS bS L xs (gB Γ)) Γ (lawM nm) room_1 600000 7302250 cl sl lawQ 308 (lvL bS x0 a.1 i) [] M := by
  obtain ⟨hT, v, Mid, hc, hm⟩ := J_call (Γ := Γ) (J_feed (xs (i + 1))) h
  refine y_aload_n (pc := 308) dL_law_308 rfl ?_
  refine y_aload_n (pc := 309) dL_law_309 rfl ?_
  refine y_iload_n (pc := 310) dL_law_310 rfl ?_
  refine y_iconst (pc := 311) (v := 1) dL_law_311 rfl ?_
  refine y_iadd (pc := 312) dL_law_312 ?_
  refine y_sld (pc := 313) (i := i + 1) dL_law_313 (nI_add i 1) (by omega) (by omega) ?_
  refine y_callV (pc := 314) (As := [.int (xs (i + 1))]) dL_law_314 mX11_feed lk_L_31 hT hc rfl rfl (Nat.le_of_ble_eq_true rfl) ⟨by decide, by decide⟩ ⟨by show _ ≤ 600000; omega, by show _ ≤ 7302250; omega⟩ ?_
  rintro r M2 ⟨rfl, hMid⟩
  obtain ⟨hT2, hm2⟩ := hm M2 hMid
  refine y_aload_n (pc := 317) dL_law_317 rfl ?_
  refine y_aload_n (pc := 318) dL_law_318 rfl ?_
  refine y_iload_n (pc := 319) dL_law_319 rfl ?_
  refine y_iconst (pc := 320) (v := 1) dL_law_320 rfl ?_
  refine y_iadd (pc := 321) dL_law_321 ?_
  refine y_sld (pc := 322) (i := i + 1) dL_law_322 (nI_add i 1) (by omega) (by omega) ?_
  refine y_callV (pc := 323) (As := [.int (xs (i + 1))]) dL_law_323 mX12_feed lk_L_35 hT2 hm2 rfl rfl (Nat.le_of_ble_eq_true rfl) ⟨by decide, by decide⟩ ⟨by show _ ≤ 600000; omega, by show _ ≤ 7302250; omega⟩ ?_
  rintro r M3 ⟨rfl, hLJ⟩
  refine y_icmp_eq (pc := 326) (tgt := 998) (st := []) dL_law_326 rfl (fun _ => ?_) (fun z => absurd rfl z)
  exact y_widen (by omega) (by omega) (k M3 hLJ)
theorem LC_text (hi : i + 6 ≤ L) (hL : L ≤ 3072) (h : LJ M x0 a) (hcl : cl + 64 ≤ 600000) (hsl : sl + 4000 ≤ 7302250) (k : ∀ M2, LJ M2 x0 a → WL (scS bS L xs (gB Γ)) Γ (lawM nm) room_1 600000 7302250 (cl + 64) (sl + 4000) lawQ 998 (lvL bS x0 a.1 i) [] M2) : WL (scS bS L xs (gB Γ)) Γ (lawM nm) room_1 600000 7302250 cl sl lawQ 331 (lvL bS x0 a.1 i) [] M := by
  obtain ⟨hT, v, Mid, hc, hm⟩ := J_call (Γ := Γ) (J_text ) h
  refine y_aload_n (pc := 331) dL_law_331 rfl ?_
  refine y_callV (pc := 332) (As := []) dL_law_332 mX11_text lk_L_36 hT hc rfl rfl (Nat.le_of_ble_eq_true rfl) ⟨by decide, by decide⟩ ⟨by show _ ≤ 600000; omega, by show _ ≤ 7302250; omega⟩ ?_
  rintro r M2 ⟨rfl, hMid⟩
  obtain ⟨hT2, hm2⟩ := hm M2 hMid
  refine y_aload_n (pc := 335) dL_law_335 rfl ?_
  refine y_callV (pc := 336) (As := []) dL_law_336 mX12_text lk_L_40 hT2 hm2 rfl rfl (Nat.le_of_ble_eq_true rfl) ⟨by decide, by decide⟩ ⟨by show _ ≤ 600000; omega, by show _ ≤ 7302250; omega⟩ ?_
  rintro r M3 ⟨rfl, hLJ⟩
  refine y_icmp_eq (pc := 339) (tgt := 998) (st := []) dL_law_339 rfl (fun _ => ?_) (fun z => absurd rfl z)
  exact y_widen (by omega) (by omega) (k M3 hLJ)
theorem LC_force (hi : i + 6 ≤ L) (hL : L ≤ 3072) (h : LJ M x0 a) (hcl : cl + 64 ≤ 600000) (hsl : sl + 4000 ≤ 7302250) (k : ∀ M2, LJ M2 x0 a → WL (scS bS L xs (gB Γ)) Γ (lawM nm) room_1 600000 7302250 (cl + 64) (sl + 4000) lawQ 998 (lvL bS x0 a.1 i) [] M2) : WL (scS bS L xs (gB Γ)) Γ (lawM nm) room_1 600000 7302250 cl sl lawQ 344 (lvL bS x0 a.1 i) [] M := by
  obtain ⟨hT, v, Mid, hc, hm⟩ := J_call (Γ := Γ) (J_force (xs (i + 1))) h
  refine y_aload_n (pc := 344) dL_law_344 rfl ?_
  refine y_aload_n (pc := 345) dL_law_345 rfl ?_
  refine y_iload_n (pc := 346) dL_law_346 rfl ?_
  refine y_iconst (pc := 347) (v := 1) dL_law_347 rfl ?_
  refine y_iadd (pc := 348) dL_law_348 ?_
  refine y_sld (pc := 349) (i := i + 1) dL_law_349 (nI_add i 1) (by omega) (by omega) ?_
  refine y_callV (pc := 350) (As := [.int (xs (i + 1))]) dL_law_350 mX11_force lk_L_41 hT hc rfl rfl (Nat.le_of_ble_eq_true rfl) ⟨by decide, by decide⟩ ⟨by show _ ≤ 600000; omega, by show _ ≤ 7302250; omega⟩ ?_
  rintro r M2 ⟨rfl, hMid⟩
  obtain ⟨hT2, hm2⟩ := hm M2 hMid
  refine y_aload_n (pc := 353) dL_law_353 rfl ?_
  refine y_aload_n (pc := 354) dL_law_354 rfl ?_
  refine y_iload_n (pc := 355) dL_law_355 rfl ?_
  refine y_iconst (pc := 356) (v := 1) dL_law_356 rfl ?_
  refine y_iadd (pc := 357) dL_law_357 ?_
  refine y_sld (pc := 358) (i := i + 1) dL_law_358 (nI_add i 1) (by omega) (by omega) ?_
  refine y_callV (pc := 359) (As := [.int (xs (i + 1))]) dL_law_359 mX12_force lk_L_44 hT2 hm2 rfl rfl (Nat.le_of_ble_eq_true rfl) ⟨by decide, by decide⟩ ⟨by show _ ≤ 600000; omega, by show _ ≤ 7302250; omega⟩ ?_
  rintro r M3 ⟨rfl, hLJ⟩
  refine y_icmp_eq (pc := 362) (tgt := 998) (st := []) dL_law_362 rfl (fun _ => ?_) (fun z => absurd rfl z)
  exact y_widen (by omega) (by omega) (k M3 hLJ)
theorem LC_day (hi : i + 6 ≤ L) (hL : L ≤ 3072) (h : LJ M x0 a) (hcl : cl + 64 ≤ 600000) (hsl : sl + 4000 ≤ 7302250) (k : ∀ M2, LJ M2 x0 a → WL (scS bS L xs (gB Γ)) Γ (lawM nm) room_1 600000 7302250 (cl + 64) (sl + 4000) lawQ 998 (lvL bS x0 a.1 i) [] M2) : WL (scS bS L xs (gB Γ)) Γ (lawM nm) room_1 600000 7302250 cl sl lawQ 367 (lvL bS x0 a.1 i) [] M := by
  obtain ⟨hT, v, Mid, hc, hm⟩ := J_call (Γ := Γ) (J_day (xs (i + 1)) (xs (i + 2))) h
  refine y_aload_n (pc := 367) dL_law_367 rfl ?_
  refine y_aload_n (pc := 368) dL_law_368 rfl ?_
  refine y_iload_n (pc := 369) dL_law_369 rfl ?_
  refine y_iconst (pc := 370) (v := 1) dL_law_370 rfl ?_
  refine y_iadd (pc := 371) dL_law_371 ?_
  refine y_sld (pc := 372) (i := i + 1) dL_law_372 (nI_add i 1) (by omega) (by omega) ?_
  refine y_aload_n (pc := 373) dL_law_373 rfl ?_
  refine y_iload_n (pc := 374) dL_law_374 rfl ?_
  refine y_iconst (pc := 375) (v := 2) dL_law_375 rfl ?_
  refine y_iadd (pc := 376) dL_law_376 ?_
  refine y_sld (pc := 377) (i := i + 2) dL_law_377 (nI_add i 2) (by omega) (by omega) ?_
  refine y_callV (pc := 378) (As := [.int (xs (i + 1)), .int (xs (i + 2))]) dL_law_378 mX11_day lk_L_45 hT hc rfl rfl (Nat.le_of_ble_eq_true rfl) ⟨by decide, by decide⟩ ⟨by show _ ≤ 600000; omega, by show _ ≤ 7302250; omega⟩ ?_
  rintro r M2 ⟨rfl, hMid⟩
  obtain ⟨hT2, hm2⟩ := hm M2 hMid
  refine y_aload_n (pc := 381) dL_law_381 rfl ?_
  refine y_aload_n (pc := 382) dL_law_382 rfl ?_
  refine y_iload_n (pc := 383) dL_law_383 rfl ?_
  refine y_iconst (pc := 384) (v := 1) dL_law_384 rfl ?_
  refine y_iadd (pc := 385) dL_law_385 ?_
  refine y_sld (pc := 386) (i := i + 1) dL_law_386 (nI_add i 1) (by omega) (by omega) ?_
  refine y_aload_n (pc := 387) dL_law_387 rfl ?_
  refine y_iload_n (pc := 388) dL_law_388 rfl ?_
  refine y_iconst (pc := 389) (v := 2) dL_law_389 rfl ?_
  refine y_iadd (pc := 390) dL_law_390 ?_
  refine y_sld (pc := 391) (i := i + 2) dL_law_391 (nI_add i 2) (by omega) (by omega) ?_
  refine y_callV (pc := 392) (As := [.int (xs (i + 1)), .int (xs (i + 2))]) dL_law_392 mX12_day lk_L_48 hT2 hm2 rfl rfl (Nat.le_of_ble_eq_true rfl) ⟨by decide, by decide⟩ ⟨by show _ ≤ 600000; omega, by show _ ≤ 7302250; omega⟩ ?_
  rintro r M3 ⟨rfl, hLJ⟩
  refine y_icmp_eq (pc := 395) (tgt := 998) (st := []) dL_law_395 rfl (fun _ => ?_) (fun z => absurd rfl z)
  exact y_widen (by omega) (by omega) (k M3 hLJ)
theorem LC_best (hi : i + 6 ≤ L) (hL : L ≤ 3072) (h : LJ M x0 a) (hcl : cl + 64 ≤ 600000) (hsl : sl + 4000 ≤ 7302250) (k : ∀ M2, LJ M2 x0 a → WL (scS bS L xs (gB Γ)) Γ (lawM nm) room_1 600000 7302250 (cl + 64) (sl + 4000) lawQ 998 (lvL bS x0 a.1 i) [] M2) : WL (scS bS L xs (gB Γ)) Γ (lawM nm) room_1 600000 7302250 cl sl lawQ 400 (lvL bS x0 a.1 i) [] M := by
  obtain ⟨hT, v, Mid, hc, hm⟩ := J_call (Γ := Γ) (J_best (xs (i + 1)) (xs (i + 2)) (xs (i + 3))) h
  refine y_aload_n (pc := 400) dL_law_400 rfl ?_
  refine y_aload_n (pc := 401) dL_law_401 rfl ?_
  refine y_iload_n (pc := 402) dL_law_402 rfl ?_
  refine y_iconst (pc := 403) (v := 1) dL_law_403 rfl ?_
  refine y_iadd (pc := 404) dL_law_404 ?_
  refine y_sld (pc := 405) (i := i + 1) dL_law_405 (nI_add i 1) (by omega) (by omega) ?_
  refine y_aload_n (pc := 406) dL_law_406 rfl ?_
  refine y_iload_n (pc := 407) dL_law_407 rfl ?_
  refine y_iconst (pc := 408) (v := 2) dL_law_408 rfl ?_
  refine y_iadd (pc := 409) dL_law_409 ?_
  refine y_sld (pc := 410) (i := i + 2) dL_law_410 (nI_add i 2) (by omega) (by omega) ?_
  refine y_aload_n (pc := 411) dL_law_411 rfl ?_
  refine y_iload_n (pc := 412) dL_law_412 rfl ?_
  refine y_iconst (pc := 413) (v := 3) dL_law_413 rfl ?_
  refine y_iadd (pc := 414) dL_law_414 ?_
  refine y_sld (pc := 415) (i := i + 3) dL_law_415 (nI_add i 3) (by omega) (by omega) ?_
  refine y_callV (pc := 416) (As := [.int (xs (i + 1)), .int (xs (i + 2)), .int (xs (i + 3))]) dL_law_416 mX11_best lk_L_49 hT hc rfl rfl (Nat.le_of_ble_eq_true rfl) ⟨by decide, by decide⟩ ⟨by show _ ≤ 600000; omega, by show _ ≤ 7302250; omega⟩ ?_
  rintro r M2 ⟨rfl, hMid⟩
  obtain ⟨hT2, hm2⟩ := hm M2 hMid
  refine y_aload_n (pc := 419) dL_law_419 rfl ?_
  refine y_aload_n (pc := 420) dL_law_420 rfl ?_
  refine y_iload_n (pc := 421) dL_law_421 rfl ?_
  refine y_iconst (pc := 422) (v := 1) dL_law_422 rfl ?_
  refine y_iadd (pc := 423) dL_law_423 ?_
  refine y_sld (pc := 424) (i := i + 1) dL_law_424 (nI_add i 1) (by omega) (by omega) ?_
  refine y_aload_n (pc := 425) dL_law_425 rfl ?_
  refine y_iload_n (pc := 426) dL_law_426 rfl ?_
  refine y_iconst (pc := 427) (v := 2) dL_law_427 rfl ?_
  refine y_iadd (pc := 428) dL_law_428 ?_
  refine y_sld (pc := 429) (i := i + 2) dL_law_429 (nI_add i 2) (by omega) (by omega) ?_
  refine y_aload_n (pc := 430) dL_law_430 rfl ?_
  refine y_iload_n (pc := 431) dL_law_431 rfl ?_
  refine y_iconst (pc := 432) (v := 3) dL_law_432 rfl ?_
  refine y_iadd (pc := 433) dL_law_433 ?_
  refine y_sld (pc := 434) (i := i + 3) dL_law_434 (nI_add i 3) (by omega) (by omega) ?_
  refine y_callV (pc := 435) (As := [.int (xs (i + 1)), .int (xs (i + 2)), .int (xs (i + 3))]) dL_law_435 mX12_best lk_L_52 hT2 hm2 rfl rfl (Nat.le_of_ble_eq_true rfl) ⟨by decide, by decide⟩ ⟨by show _ ≤ 600000; omega, by show _ ≤ 7302250; omega⟩ ?_
  rintro r M3 ⟨rfl, hLJ⟩
  refine y_icmp_eq (pc := 438) (tgt := 998) (st := []) dL_law_438 rfl (fun _ => ?_) (fun z => absurd rfl z)
  exact y_widen (by omega) (by omega) (k M3 hLJ)
theorem LC_tidy (hi : i + 6 ≤ L) (hL : L ≤ 3072) (h : LJ M x0 a) (hcl : cl + 64 ≤ 600000) (hsl : sl + 4000 ≤ 7302250) (k : ∀ M2, LJ M2 x0 a → WL (scS bS L xs (gB Γ)) Γ (lawM nm) room_1 600000 7302250 (cl + 64) (sl + 4000) lawQ 998 (lvL bS x0 a.1 i) [] M2) : WL (scS bS L xs (gB Γ)) Γ (lawM nm) room_1 600000 7302250 cl sl lawQ 443 (lvL bS x0 a.1 i) [] M := by
  obtain ⟨hT, v, Mid, hc, hm⟩ := J_call (Γ := Γ) (J_tidy (xs (i + 1))) h
  refine y_aload_n (pc := 443) dL_law_443 rfl ?_
  refine y_aload_n (pc := 444) dL_law_444 rfl ?_
  refine y_iload_n (pc := 445) dL_law_445 rfl ?_
  refine y_iconst (pc := 446) (v := 1) dL_law_446 rfl ?_
  refine y_iadd (pc := 447) dL_law_447 ?_
  refine y_sld (pc := 448) (i := i + 1) dL_law_448 (nI_add i 1) (by omega) (by omega) ?_
  refine y_callV (pc := 449) (As := [.int (xs (i + 1))]) dL_law_449 mX11_tidy lk_L_53 hT hc rfl rfl (Nat.le_of_ble_eq_true rfl) ⟨by decide, by decide⟩ ⟨by show _ ≤ 600000; omega, by show _ ≤ 7302250; omega⟩ ?_
  rintro r M2 ⟨rfl, hMid⟩
  obtain ⟨hT2, hm2⟩ := hm M2 hMid
  refine y_aload_n (pc := 452) dL_law_452 rfl ?_
  refine y_aload_n (pc := 453) dL_law_453 rfl ?_
  refine y_iload_n (pc := 454) dL_law_454 rfl ?_
  refine y_iconst (pc := 455) (v := 1) dL_law_455 rfl ?_
  refine y_iadd (pc := 456) dL_law_456 ?_
  refine y_sld (pc := 457) (i := i + 1) dL_law_457 (nI_add i 1) (by omega) (by omega) ?_
  refine y_callV (pc := 458) (As := [.int (xs (i + 1))]) dL_law_458 mX12_tidy lk_L_56 hT2 hm2 rfl rfl (Nat.le_of_ble_eq_true rfl) ⟨by decide, by decide⟩ ⟨by show _ ≤ 600000; omega, by show _ ≤ 7302250; omega⟩ ?_
  rintro r M3 ⟨rfl, hLJ⟩
  refine y_icmp_eq (pc := 461) (tgt := 998) (st := []) dL_law_461 rfl (fun _ => ?_) (fun z => absurd rfl z)
  exact y_widen (by omega) (by omega) (k M3 hLJ)
theorem LC_once (hi : i + 6 ≤ L) (hL : L ≤ 3072) (h : LJ M x0 a) (hcl : cl + 64 ≤ 600000) (hsl : sl + 4000 ≤ 7302250) (k : ∀ M2, LJ M2 x0 a → WL (scS bS L xs (gB Γ)) Γ (lawM nm) room_1 600000 7302250 (cl + 64) (sl + 4000) lawQ 998 (lvL bS x0 a.1 i) [] M2) : WL (scS bS L xs (gB Γ)) Γ (lawM nm) room_1 600000 7302250 cl sl lawQ 466 (lvL bS x0 a.1 i) [] M := by
  obtain ⟨hT, v, Mid, hc, hm⟩ := J_call (Γ := Γ) (J_once (xs (i + 1))) h
  refine y_aload_n (pc := 466) dL_law_466 rfl ?_
  refine y_aload_n (pc := 467) dL_law_467 rfl ?_
  refine y_iload_n (pc := 468) dL_law_468 rfl ?_
  refine y_iconst (pc := 469) (v := 1) dL_law_469 rfl ?_
  refine y_iadd (pc := 470) dL_law_470 ?_
  refine y_sld (pc := 471) (i := i + 1) dL_law_471 (nI_add i 1) (by omega) (by omega) ?_
  refine y_callV (pc := 472) (As := [.int (xs (i + 1))]) dL_law_472 mX11_once lk_L_57 hT hc rfl rfl (Nat.le_of_ble_eq_true rfl) ⟨by decide, by decide⟩ ⟨by show _ ≤ 600000; omega, by show _ ≤ 7302250; omega⟩ ?_
  rintro r M2 ⟨rfl, hMid⟩
  obtain ⟨hT2, hm2⟩ := hm M2 hMid
  refine y_aload_n (pc := 475) dL_law_475 rfl ?_
  refine y_aload_n (pc := 476) dL_law_476 rfl ?_
  refine y_iload_n (pc := 477) dL_law_477 rfl ?_
  refine y_iconst (pc := 478) (v := 1) dL_law_478 rfl ?_
  refine y_iadd (pc := 479) dL_law_479 ?_
  refine y_sld (pc := 480) (i := i + 1) dL_law_480 (nI_add i 1) (by omega) (by omega) ?_
  refine y_callV (pc := 481) (As := [.int (xs (i + 1))]) dL_law_481 mX12_once lk_L_60 hT2 hm2 rfl rfl (Nat.le_of_ble_eq_true rfl) ⟨by decide, by decide⟩ ⟨by show _ ≤ 600000; omega, by show _ ≤ 7302250; omega⟩ ?_
  rintro r M3 ⟨rfl, hLJ⟩
  refine y_icmp_eq (pc := 484) (tgt := 998) (st := []) dL_law_484 rfl (fun _ => ?_) (fun z => absurd rfl z)
  exact y_widen (by omega) (by omega) (k M3 hLJ)
theorem LC_week (hi : i + 6 ≤ L) (hL : L ≤ 3072) (h : LJ M x0 a) (hcl : cl + 64 ≤ 600000) (hsl : sl + 4000 ≤ 7302250) (k : ∀ M2, LJ M2 x0 a → WL (scS bS L xs (gB Γ)) Γ (lawM nm) room_1 600000 7302250 (cl + 64) (sl + 4000) lawQ 998 (lvL bS x0 a.1 i) [] M2) : WL (scS bS L xs (gB Γ)) Γ (lawM nm) room_1 600000 7302250 cl sl lawQ 489 (lvL bS x0 a.1 i) [] M := by
  obtain ⟨hT, v, Mid, hc, hm⟩ := J_call (Γ := Γ) (J_week (xs (i + 1))) h
  refine y_aload_n (pc := 489) dL_law_489 rfl ?_
  refine y_aload_n (pc := 490) dL_law_490 rfl ?_
  refine y_iload_n (pc := 491) dL_law_491 rfl ?_
  refine y_iconst (pc := 492) (v := 1) dL_law_492 rfl ?_
  refine y_iadd (pc := 493) dL_law_493 ?_
  refine y_sld (pc := 494) (i := i + 1) dL_law_494 (nI_add i 1) (by omega) (by omega) ?_
  refine y_callV (pc := 495) (As := [.int (xs (i + 1))]) dL_law_495 mX11_week lk_L_61 hT hc rfl rfl (Nat.le_of_ble_eq_true rfl) ⟨by decide, by decide⟩ ⟨by show _ ≤ 600000; omega, by show _ ≤ 7302250; omega⟩ ?_
  rintro r M2 ⟨rfl, hMid⟩
  obtain ⟨hT2, hm2⟩ := hm M2 hMid
  refine y_aload_n (pc := 498) dL_law_498 rfl ?_
  refine y_aload_n (pc := 499) dL_law_499 rfl ?_
  refine y_iload_n (pc := 500) dL_law_500 rfl ?_
  refine y_iconst (pc := 501) (v := 1) dL_law_501 rfl ?_
  refine y_iadd (pc := 502) dL_law_502 ?_
  refine y_sld (pc := 503) (i := i + 1) dL_law_503 (nI_add i 1) (by omega) (by omega) ?_
  refine y_callV (pc := 504) (As := [.int (xs (i + 1))]) dL_law_504 mX12_week lk_L_64 hT2 hm2 rfl rfl (Nat.le_of_ble_eq_true rfl) ⟨by decide, by decide⟩ ⟨by show _ ≤ 600000; omega, by show _ ≤ 7302250; omega⟩ ?_
  rintro r M3 ⟨rfl, hLJ⟩
  refine y_icmp_eq (pc := 507) (tgt := 998) (st := []) dL_law_507 rfl (fun _ => ?_) (fun z => absurd rfl z)
  exact y_widen (by omega) (by omega) (k M3 hLJ)
theorem LC_dearest (hi : i + 6 ≤ L) (hL : L ≤ 3072) (h : LJ M x0 a) (hcl : cl + 64 ≤ 600000) (hsl : sl + 4000 ≤ 7302250) (k : ∀ M2, LJ M2 x0 a → WL (scS bS L xs (gB Γ)) Γ (lawM nm) room_1 600000 7302250 (cl + 64) (sl + 4000) lawQ 998 (lvL bS x0 a.1 i) [] M2) : WL (scS bS L xs (gB Γ)) Γ (lawM nm) room_1 600000 7302250 cl sl lawQ 512 (lvL bS x0 a.1 i) [] M := by
  obtain ⟨hT, v, Mid, hc, hm⟩ := J_call (Γ := Γ) (J_dearest (xs (i + 1))) h
  refine y_aload_n (pc := 512) dL_law_512 rfl ?_
  refine y_aload_n (pc := 513) dL_law_513 rfl ?_
  refine y_iload_n (pc := 514) dL_law_514 rfl ?_
  refine y_iconst (pc := 515) (v := 1) dL_law_515 rfl ?_
  refine y_iadd (pc := 516) dL_law_516 ?_
  refine y_sld (pc := 517) (i := i + 1) dL_law_517 (nI_add i 1) (by omega) (by omega) ?_
  refine y_callV (pc := 518) (As := [.int (xs (i + 1))]) dL_law_518 mX11_dearest lk_L_65 hT hc rfl rfl (Nat.le_of_ble_eq_true rfl) ⟨by decide, by decide⟩ ⟨by show _ ≤ 600000; omega, by show _ ≤ 7302250; omega⟩ ?_
  rintro r M2 ⟨rfl, hMid⟩
  obtain ⟨hT2, hm2⟩ := hm M2 hMid
  refine y_aload_n (pc := 521) dL_law_521 rfl ?_
  refine y_aload_n (pc := 522) dL_law_522 rfl ?_
  refine y_iload_n (pc := 523) dL_law_523 rfl ?_
  refine y_iconst (pc := 524) (v := 1) dL_law_524 rfl ?_
  refine y_iadd (pc := 525) dL_law_525 ?_
  refine y_sld (pc := 526) (i := i + 1) dL_law_526 (nI_add i 1) (by omega) (by omega) ?_
  refine y_callV (pc := 527) (As := [.int (xs (i + 1))]) dL_law_527 mX12_dearest lk_L_68 hT2 hm2 rfl rfl (Nat.le_of_ble_eq_true rfl) ⟨by decide, by decide⟩ ⟨by show _ ≤ 600000; omega, by show _ ≤ 7302250; omega⟩ ?_
  rintro r M3 ⟨rfl, hLJ⟩
  refine y_icmp_eq (pc := 530) (tgt := 998) (st := []) dL_law_530 rfl (fun _ => ?_) (fun z => absurd rfl z)
  exact y_widen (by omega) (by omega) (k M3 hLJ)
theorem LC_give (hi : i + 6 ≤ L) (hL : L ≤ 3072) (h : LJ M x0 a) (hcl : cl + 64 ≤ 600000) (hsl : sl + 4000 ≤ 7302250) (k : ∀ M2, LJ M2 x0 a → WL (scS bS L xs (gB Γ)) Γ (lawM nm) room_1 600000 7302250 (cl + 64) (sl + 4000) lawQ 998 (lvL bS x0 a.1 i) [] M2) : WL (scS bS L xs (gB Γ)) Γ (lawM nm) room_1 600000 7302250 cl sl lawQ 535 (lvL bS x0 a.1 i) [] M := by
  obtain ⟨hT, v, Mid, hc, hm⟩ := J_call (Γ := Γ) (J_give ) h
  refine y_aload_n (pc := 535) dL_law_535 rfl ?_
  refine y_callV (pc := 536) (As := []) dL_law_536 mX11_give lk_L_69 hT hc rfl rfl (Nat.le_of_ble_eq_true rfl) ⟨by decide, by decide⟩ ⟨by show _ ≤ 600000; omega, by show _ ≤ 7302250; omega⟩ ?_
  rintro r M2 ⟨rfl, hMid⟩
  obtain ⟨hT2, hm2⟩ := hm M2 hMid
  refine y_aload_n (pc := 539) dL_law_539 rfl ?_
  refine y_callV (pc := 540) (As := []) dL_law_540 mX12_give lk_L_72 hT2 hm2 rfl rfl (Nat.le_of_ble_eq_true rfl) ⟨by decide, by decide⟩ ⟨by show _ ≤ 600000; omega, by show _ ≤ 7302250; omega⟩ ?_
  rintro r M3 ⟨rfl, hLJ⟩
  refine y_icmp_eq (pc := 543) (tgt := 998) (st := []) dL_law_543 rfl (fun _ => ?_) (fun z => absurd rfl z)
  exact y_widen (by omega) (by omega) (k M3 hLJ)
theorem LC_seat (hi : i + 6 ≤ L) (hL : L ≤ 3072) (h : LJ M x0 a) (hcl : cl + 64 ≤ 600000) (hsl : sl + 4000 ≤ 7302250) (k : ∀ M2, LJ M2 x0 a → WL (scS bS L xs (gB Γ)) Γ (lawM nm) room_1 600000 7302250 (cl + 64) (sl + 4000) lawQ 998 (lvL bS x0 a.1 i) [] M2) : WL (scS bS L xs (gB Γ)) Γ (lawM nm) room_1 600000 7302250 cl sl lawQ 548 (lvL bS x0 a.1 i) [] M := by
  obtain ⟨hT, v, Mid, hc, hm⟩ := J_call (Γ := Γ) (J_seat (xs (i + 1)) (xs (i + 2))) h
  refine y_aload_n (pc := 548) dL_law_548 rfl ?_
  refine y_aload_n (pc := 549) dL_law_549 rfl ?_
  refine y_iload_n (pc := 550) dL_law_550 rfl ?_
  refine y_iconst (pc := 551) (v := 1) dL_law_551 rfl ?_
  refine y_iadd (pc := 552) dL_law_552 ?_
  refine y_sld (pc := 553) (i := i + 1) dL_law_553 (nI_add i 1) (by omega) (by omega) ?_
  refine y_aload_n (pc := 554) dL_law_554 rfl ?_
  refine y_iload_n (pc := 555) dL_law_555 rfl ?_
  refine y_iconst (pc := 556) (v := 2) dL_law_556 rfl ?_
  refine y_iadd (pc := 557) dL_law_557 ?_
  refine y_sld (pc := 558) (i := i + 2) dL_law_558 (nI_add i 2) (by omega) (by omega) ?_
  refine y_callV (pc := 559) (As := [.int (xs (i + 1)), .int (xs (i + 2))]) dL_law_559 mX11_seat lk_L_73 hT hc rfl rfl (Nat.le_of_ble_eq_true rfl) ⟨by decide, by decide⟩ ⟨by show _ ≤ 600000; omega, by show _ ≤ 7302250; omega⟩ ?_
  rintro r M2 ⟨rfl, hMid⟩
  obtain ⟨hT2, hm2⟩ := hm M2 hMid
  refine y_aload_n (pc := 562) dL_law_562 rfl ?_
  refine y_aload_n (pc := 563) dL_law_563 rfl ?_
  refine y_iload_n (pc := 564) dL_law_564 rfl ?_
  refine y_iconst (pc := 565) (v := 1) dL_law_565 rfl ?_
  refine y_iadd (pc := 566) dL_law_566 ?_
  refine y_sld (pc := 567) (i := i + 1) dL_law_567 (nI_add i 1) (by omega) (by omega) ?_
  refine y_aload_n (pc := 568) dL_law_568 rfl ?_
  refine y_iload_n (pc := 569) dL_law_569 rfl ?_
  refine y_iconst (pc := 570) (v := 2) dL_law_570 rfl ?_
  refine y_iadd (pc := 571) dL_law_571 ?_
  refine y_sld (pc := 572) (i := i + 2) dL_law_572 (nI_add i 2) (by omega) (by omega) ?_
  refine y_callV (pc := 573) (As := [.int (xs (i + 1)), .int (xs (i + 2))]) dL_law_573 mX12_seat lk_L_76 hT2 hm2 rfl rfl (Nat.le_of_ble_eq_true rfl) ⟨by decide, by decide⟩ ⟨by show _ ≤ 600000; omega, by show _ ≤ 7302250; omega⟩ ?_
  rintro r M3 ⟨rfl, hLJ⟩
  refine y_icmp_eq (pc := 576) (tgt := 998) (st := []) dL_law_576 rfl (fun _ => ?_) (fun z => absurd rfl z)
  exact y_widen (by omega) (by omega) (k M3 hLJ)
theorem LC_seen (hi : i + 6 ≤ L) (hL : L ≤ 3072) (h : LJ M x0 a) (hcl : cl + 64 ≤ 600000) (hsl : sl + 4000 ≤ 7302250) (k : ∀ M2, LJ M2 x0 a → WL (scS bS L xs (gB Γ)) Γ (lawM nm) room_1 600000 7302250 (cl + 64) (sl + 4000) lawQ 998 (lvL bS x0 a.1 i) [] M2) : WL (scS bS L xs (gB Γ)) Γ (lawM nm) room_1 600000 7302250 cl sl lawQ 581 (lvL bS x0 a.1 i) [] M := by
  obtain ⟨hT, v, Mid, hc, hm⟩ := J_call (Γ := Γ) (J_seen (xs (i + 1)) (xs (i + 2))) h
  refine y_aload_n (pc := 581) dL_law_581 rfl ?_
  refine y_aload_n (pc := 582) dL_law_582 rfl ?_
  refine y_iload_n (pc := 583) dL_law_583 rfl ?_
  refine y_iconst (pc := 584) (v := 1) dL_law_584 rfl ?_
  refine y_iadd (pc := 585) dL_law_585 ?_
  refine y_sld (pc := 586) (i := i + 1) dL_law_586 (nI_add i 1) (by omega) (by omega) ?_
  refine y_aload_n (pc := 587) dL_law_587 rfl ?_
  refine y_iload_n (pc := 588) dL_law_588 rfl ?_
  refine y_iconst (pc := 589) (v := 2) dL_law_589 rfl ?_
  refine y_iadd (pc := 590) dL_law_590 ?_
  refine y_sld (pc := 591) (i := i + 2) dL_law_591 (nI_add i 2) (by omega) (by omega) ?_
  refine y_callV (pc := 592) (As := [.int (xs (i + 1)), .int (xs (i + 2))]) dL_law_592 mX11_seen lk_L_77 hT hc rfl rfl (Nat.le_of_ble_eq_true rfl) ⟨by decide, by decide⟩ ⟨by show _ ≤ 600000; omega, by show _ ≤ 7302250; omega⟩ ?_
  rintro r M2 ⟨rfl, hMid⟩
  obtain ⟨hT2, hm2⟩ := hm M2 hMid
  refine y_aload_n (pc := 595) dL_law_595 rfl ?_
  refine y_aload_n (pc := 596) dL_law_596 rfl ?_
  refine y_iload_n (pc := 597) dL_law_597 rfl ?_
  refine y_iconst (pc := 598) (v := 1) dL_law_598 rfl ?_
  refine y_iadd (pc := 599) dL_law_599 ?_
  refine y_sld (pc := 600) (i := i + 1) dL_law_600 (nI_add i 1) (by omega) (by omega) ?_
  refine y_aload_n (pc := 601) dL_law_601 rfl ?_
  refine y_iload_n (pc := 602) dL_law_602 rfl ?_
  refine y_iconst (pc := 603) (v := 2) dL_law_603 rfl ?_
  refine y_iadd (pc := 604) dL_law_604 ?_
  refine y_sld (pc := 605) (i := i + 2) dL_law_605 (nI_add i 2) (by omega) (by omega) ?_
  refine y_callV (pc := 606) (As := [.int (xs (i + 1)), .int (xs (i + 2))]) dL_law_606 mX12_seen lk_L_80 hT2 hm2 rfl rfl (Nat.le_of_ble_eq_true rfl) ⟨by decide, by decide⟩ ⟨by show _ ≤ 600000; omega, by show _ ≤ 7302250; omega⟩ ?_
  rintro r M3 ⟨rfl, hLJ⟩
  refine y_icmp_eq (pc := 609) (tgt := 998) (st := []) dL_law_609 rfl (fun _ => ?_) (fun z => absurd rfl z)
  exact y_widen (by omega) (by omega) (k M3 hLJ)
theorem LC_film (hi : i + 6 ≤ L) (hL : L ≤ 3072) (h : LJ M x0 a) (hcl : cl + 64 ≤ 600000) (hsl : sl + 4000 ≤ 7302250) (k : ∀ M2, LJ M2 x0 a → WL (scS bS L xs (gB Γ)) Γ (lawM nm) room_1 600000 7302250 (cl + 64) (sl + 4000) lawQ 998 (lvL bS x0 a.1 i) [] M2) : WL (scS bS L xs (gB Γ)) Γ (lawM nm) room_1 600000 7302250 cl sl lawQ 614 (lvL bS x0 a.1 i) [] M := by
  obtain ⟨hT, v, Mid, hc, hm⟩ := J_call (Γ := Γ) (J_film (xs (i + 1)) (xs (i + 2))) h
  refine y_aload_n (pc := 614) dL_law_614 rfl ?_
  refine y_aload_n (pc := 615) dL_law_615 rfl ?_
  refine y_iload_n (pc := 616) dL_law_616 rfl ?_
  refine y_iconst (pc := 617) (v := 1) dL_law_617 rfl ?_
  refine y_iadd (pc := 618) dL_law_618 ?_
  refine y_sld (pc := 619) (i := i + 1) dL_law_619 (nI_add i 1) (by omega) (by omega) ?_
  refine y_aload_n (pc := 620) dL_law_620 rfl ?_
  refine y_iload_n (pc := 621) dL_law_621 rfl ?_
  refine y_iconst (pc := 622) (v := 2) dL_law_622 rfl ?_
  refine y_iadd (pc := 623) dL_law_623 ?_
  refine y_sld (pc := 624) (i := i + 2) dL_law_624 (nI_add i 2) (by omega) (by omega) ?_
  refine y_callV (pc := 625) (As := [.int (xs (i + 1)), .int (xs (i + 2))]) dL_law_625 mX11_film lk_L_81 hT hc rfl rfl (Nat.le_of_ble_eq_true rfl) ⟨by decide, by decide⟩ ⟨by show _ ≤ 600000; omega, by show _ ≤ 7302250; omega⟩ ?_
  rintro r M2 ⟨rfl, hMid⟩
  obtain ⟨hT2, hm2⟩ := hm M2 hMid
  refine y_aload_n (pc := 628) dL_law_628 rfl ?_
  refine y_aload_n (pc := 629) dL_law_629 rfl ?_
  refine y_iload_n (pc := 630) dL_law_630 rfl ?_
  refine y_iconst (pc := 631) (v := 1) dL_law_631 rfl ?_
  refine y_iadd (pc := 632) dL_law_632 ?_
  refine y_sld (pc := 633) (i := i + 1) dL_law_633 (nI_add i 1) (by omega) (by omega) ?_
  refine y_aload_n (pc := 634) dL_law_634 rfl ?_
  refine y_iload_n (pc := 635) dL_law_635 rfl ?_
  refine y_iconst (pc := 636) (v := 2) dL_law_636 rfl ?_
  refine y_iadd (pc := 637) dL_law_637 ?_
  refine y_sld (pc := 638) (i := i + 2) dL_law_638 (nI_add i 2) (by omega) (by omega) ?_
  refine y_callV (pc := 639) (As := [.int (xs (i + 1)), .int (xs (i + 2))]) dL_law_639 mX12_film lk_L_84 hT2 hm2 rfl rfl (Nat.le_of_ble_eq_true rfl) ⟨by decide, by decide⟩ ⟨by show _ ≤ 600000; omega, by show _ ≤ 7302250; omega⟩ ?_
  rintro r M3 ⟨rfl, hLJ⟩
  refine y_icmp_eq (pc := 642) (tgt := 998) (st := []) dL_law_642 rfl (fun _ => ?_) (fun z => absurd rfl z)
  exact y_widen (by omega) (by omega) (k M3 hLJ)
theorem LC_drawn (hi : i + 6 ≤ L) (hL : L ≤ 3072) (h : LJ M x0 a) (hcl : cl + 64 ≤ 600000) (hsl : sl + 4000 ≤ 7302250) (k : ∀ M2, LJ M2 x0 a → WL (scS bS L xs (gB Γ)) Γ (lawM nm) room_1 600000 7302250 (cl + 64) (sl + 4000) lawQ 998 (lvL bS x0 a.1 i) [] M2) : WL (scS bS L xs (gB Γ)) Γ (lawM nm) room_1 600000 7302250 cl sl lawQ 647 (lvL bS x0 a.1 i) [] M := by
  obtain ⟨hT, v, Mid, hc, hm⟩ := J_call (Γ := Γ) (J_drawn (xs (i + 1))) h
  refine y_aload_n (pc := 647) dL_law_647 rfl ?_
  refine y_aload_n (pc := 648) dL_law_648 rfl ?_
  refine y_iload_n (pc := 649) dL_law_649 rfl ?_
  refine y_iconst (pc := 650) (v := 1) dL_law_650 rfl ?_
  refine y_iadd (pc := 651) dL_law_651 ?_
  refine y_sld (pc := 652) (i := i + 1) dL_law_652 (nI_add i 1) (by omega) (by omega) ?_
  refine y_callV (pc := 653) (As := [.int (xs (i + 1))]) dL_law_653 mX11_drawn lk_L_85 hT hc rfl rfl (Nat.le_of_ble_eq_true rfl) ⟨by decide, by decide⟩ ⟨by show _ ≤ 600000; omega, by show _ ≤ 7302250; omega⟩ ?_
  rintro r M2 ⟨rfl, hMid⟩
  obtain ⟨hT2, hm2⟩ := hm M2 hMid
  refine y_aload_n (pc := 656) dL_law_656 rfl ?_
  refine y_aload_n (pc := 657) dL_law_657 rfl ?_
  refine y_iload_n (pc := 658) dL_law_658 rfl ?_
  refine y_iconst (pc := 659) (v := 1) dL_law_659 rfl ?_
  refine y_iadd (pc := 660) dL_law_660 ?_
  refine y_sld (pc := 661) (i := i + 1) dL_law_661 (nI_add i 1) (by omega) (by omega) ?_
  refine y_callV (pc := 662) (As := [.int (xs (i + 1))]) dL_law_662 mX12_drawn lk_L_88 hT2 hm2 rfl rfl (Nat.le_of_ble_eq_true rfl) ⟨by decide, by decide⟩ ⟨by show _ ≤ 600000; omega, by show _ ≤ 7302250; omega⟩ ?_
  rintro r M3 ⟨rfl, hLJ⟩
  refine y_icmp_eq (pc := 665) (tgt := 998) (st := []) dL_law_665 rfl (fun _ => ?_) (fun z => absurd rfl z)
  exact y_widen (by omega) (by omega) (k M3 hLJ)
theorem LC_chance (hi : i + 6 ≤ L) (hL : L ≤ 3072) (h : LJ M x0 a) (hcl : cl + 64 ≤ 600000) (hsl : sl + 4000 ≤ 7302250) (k : ∀ M2, LJ M2 x0 a → WL (scS bS L xs (gB Γ)) Γ (lawM nm) room_1 600000 7302250 (cl + 64) (sl + 4000) lawQ 998 (lvL bS x0 a.1 i) [] M2) : WL (scS bS L xs (gB Γ)) Γ (lawM nm) room_1 600000 7302250 cl sl lawQ 670 (lvL bS x0 a.1 i) [] M := by
  obtain ⟨hT, v, Mid, hc, hm⟩ := J_call (Γ := Γ) (J_chance (xs (i + 1)) (xs (i + 2)) (xs (i + 3))) h
  refine y_aload_n (pc := 670) dL_law_670 rfl ?_
  refine y_aload_n (pc := 671) dL_law_671 rfl ?_
  refine y_iload_n (pc := 672) dL_law_672 rfl ?_
  refine y_iconst (pc := 673) (v := 1) dL_law_673 rfl ?_
  refine y_iadd (pc := 674) dL_law_674 ?_
  refine y_sld (pc := 675) (i := i + 1) dL_law_675 (nI_add i 1) (by omega) (by omega) ?_
  refine y_aload_n (pc := 676) dL_law_676 rfl ?_
  refine y_iload_n (pc := 677) dL_law_677 rfl ?_
  refine y_iconst (pc := 678) (v := 2) dL_law_678 rfl ?_
  refine y_iadd (pc := 679) dL_law_679 ?_
  refine y_sld (pc := 680) (i := i + 2) dL_law_680 (nI_add i 2) (by omega) (by omega) ?_
  refine y_aload_n (pc := 681) dL_law_681 rfl ?_
  refine y_iload_n (pc := 682) dL_law_682 rfl ?_
  refine y_iconst (pc := 683) (v := 3) dL_law_683 rfl ?_
  refine y_iadd (pc := 684) dL_law_684 ?_
  refine y_sld (pc := 685) (i := i + 3) dL_law_685 (nI_add i 3) (by omega) (by omega) ?_
  refine y_callV (pc := 686) (As := [.int (xs (i + 1)), .int (xs (i + 2)), .int (xs (i + 3))]) dL_law_686 mX11_chance lk_L_89 hT hc rfl rfl (Nat.le_of_ble_eq_true rfl) ⟨by decide, by decide⟩ ⟨by show _ ≤ 600000; omega, by show _ ≤ 7302250; omega⟩ ?_
  rintro r M2 ⟨rfl, hMid⟩
  obtain ⟨hT2, hm2⟩ := hm M2 hMid
  refine y_aload_n (pc := 689) dL_law_689 rfl ?_
  refine y_aload_n (pc := 690) dL_law_690 rfl ?_
  refine y_iload_n (pc := 691) dL_law_691 rfl ?_
  refine y_iconst (pc := 692) (v := 1) dL_law_692 rfl ?_
  refine y_iadd (pc := 693) dL_law_693 ?_
  refine y_sld (pc := 694) (i := i + 1) dL_law_694 (nI_add i 1) (by omega) (by omega) ?_
  refine y_aload_n (pc := 695) dL_law_695 rfl ?_
  refine y_iload_n (pc := 696) dL_law_696 rfl ?_
  refine y_iconst (pc := 697) (v := 2) dL_law_697 rfl ?_
  refine y_iadd (pc := 698) dL_law_698 ?_
  refine y_sld (pc := 699) (i := i + 2) dL_law_699 (nI_add i 2) (by omega) (by omega) ?_
  refine y_aload_n (pc := 700) dL_law_700 rfl ?_
  refine y_iload_n (pc := 701) dL_law_701 rfl ?_
  refine y_iconst (pc := 702) (v := 3) dL_law_702 rfl ?_
  refine y_iadd (pc := 703) dL_law_703 ?_
  refine y_sld (pc := 704) (i := i + 3) dL_law_704 (nI_add i 3) (by omega) (by omega) ?_
  refine y_callV (pc := 705) (As := [.int (xs (i + 1)), .int (xs (i + 2)), .int (xs (i + 3))]) dL_law_705 mX12_chance lk_L_93 hT2 hm2 rfl rfl (Nat.le_of_ble_eq_true rfl) ⟨by decide, by decide⟩ ⟨by show _ ≤ 600000; omega, by show _ ≤ 7302250; omega⟩ ?_
  rintro r M3 ⟨rfl, hLJ⟩
  refine y_lcmp (pc := 708) (st := []) dL_law_708 ?_
  refine y_if_eq (pc := 709) (tgt := 998) dL_law_709 rfl (fun _ => ?_) (fun z => absurd (cmp_s v) z)
  exact y_widen (by omega) (by omega) (k M3 hLJ)
theorem LC_image (hi : i + 6 ≤ L) (hL : L ≤ 3072) (h : LJ M x0 a) (hcl : cl + 64 ≤ 600000) (hsl : sl + 4000 ≤ 7302250) (k : ∀ M2, LJ M2 x0 a → WL (scS bS L xs (gB Γ)) Γ (lawM nm) room_1 600000 7302250 (cl + 64) (sl + 4000) lawQ 998 (lvL bS x0 a.1 i) [] M2) : WL (scS bS L xs (gB Γ)) Γ (lawM nm) room_1 600000 7302250 cl sl lawQ 714 (lvL bS x0 a.1 i) [] M := by
  obtain ⟨hT, v, Mid, hc, hm⟩ := J_call (Γ := Γ) (J_image ) h
  refine y_aload_n (pc := 714) dL_law_714 rfl ?_
  refine y_callV (pc := 715) (As := []) dL_law_715 mX11_image lk_L_94 hT hc rfl rfl (Nat.le_of_ble_eq_true rfl) ⟨by decide, by decide⟩ ⟨by show _ ≤ 600000; omega, by show _ ≤ 7302250; omega⟩ ?_
  rintro r M2 ⟨rfl, hMid⟩
  obtain ⟨hT2, hm2⟩ := hm M2 hMid
  refine y_aload_n (pc := 718) dL_law_718 rfl ?_
  refine y_callV (pc := 719) (As := []) dL_law_719 mX12_image lk_L_97 hT2 hm2 rfl rfl (Nat.le_of_ble_eq_true rfl) ⟨by decide, by decide⟩ ⟨by show _ ≤ 600000; omega, by show _ ≤ 7302250; omega⟩ ?_
  rintro r M3 ⟨rfl, hLJ⟩
  refine y_icmp_eq (pc := 722) (tgt := 998) (st := []) dL_law_722 rfl (fun _ => ?_) (fun z => absurd rfl z)
  exact y_widen (by omega) (by omega) (k M3 hLJ)
theorem LC_back (hi : i + 6 ≤ L) (hL : L ≤ 3072) (h : LJ M x0 a) (hcl : cl + 64 ≤ 600000) (hsl : sl + 4000 ≤ 7302250) (k : ∀ M2, LJ M2 x0 a → WL (scS bS L xs (gB Γ)) Γ (lawM nm) room_1 600000 7302250 (cl + 64) (sl + 4000) lawQ 998 (lvL bS x0 a.1 i) [] M2) : WL (scS bS L xs (gB Γ)) Γ (lawM nm) room_1 600000 7302250 cl sl lawQ 727 (lvL bS x0 a.1 i) [] M := by
  obtain ⟨hT, v, Mid, hc, hm⟩ := J_call (Γ := Γ) (J_back ) h
  refine y_aload_n (pc := 727) dL_law_727 rfl ?_
  refine y_callV (pc := 728) (As := []) dL_law_728 mX11_back lk_L_98 hT hc rfl rfl (Nat.le_of_ble_eq_true rfl) ⟨by decide, by decide⟩ ⟨by show _ ≤ 600000; omega, by show _ ≤ 7302250; omega⟩ ?_
  rintro r M2 ⟨rfl, hMid⟩
  obtain ⟨hT2, hm2⟩ := hm M2 hMid
  refine y_aload_n (pc := 731) dL_law_731 rfl ?_
  refine y_callV (pc := 732) (As := []) dL_law_732 mX12_back lk_L_101 hT2 hm2 rfl rfl (Nat.le_of_ble_eq_true rfl) ⟨by decide, by decide⟩ ⟨by show _ ≤ 600000; omega, by show _ ≤ 7302250; omega⟩ ?_
  rintro r M3 ⟨rfl, hLJ⟩
  refine y_icmp_eq (pc := 735) (tgt := 998) (st := []) dL_law_735 rfl (fun _ => ?_) (fun z => absurd rfl z)
  exact y_widen (by omega) (by omega) (k M3 hLJ)
theorem LC_count (hi : i + 6 ≤ L) (hL : L ≤ 3072) (h : LJ M x0 a) (hcl : cl + 64 ≤ 600000) (hsl : sl + 4000 ≤ 7302250) (k : ∀ M2, LJ M2 x0 a → WL (scS bS L xs (gB Γ)) Γ (lawM nm) room_1 600000 7302250 (cl + 64) (sl + 4000) lawQ 998 (lvL bS x0 a.1 i) [] M2) : WL (scS bS L xs (gB Γ)) Γ (lawM nm) room_1 600000 7302250 cl sl lawQ 740 (lvL bS x0 a.1 i) [] M := by
  obtain ⟨hT, v, Mid, hc, hm⟩ := J_call (Γ := Γ) (J_count (xs (i + 1))) h
  refine y_aload_n (pc := 740) dL_law_740 rfl ?_
  refine y_aload_n (pc := 741) dL_law_741 rfl ?_
  refine y_iload_n (pc := 742) dL_law_742 rfl ?_
  refine y_iconst (pc := 743) (v := 1) dL_law_743 rfl ?_
  refine y_iadd (pc := 744) dL_law_744 ?_
  refine y_sld (pc := 745) (i := i + 1) dL_law_745 (nI_add i 1) (by omega) (by omega) ?_
  refine y_callV (pc := 746) (As := [.int (xs (i + 1))]) dL_law_746 mX11_count lk_L_102 hT hc rfl rfl (Nat.le_of_ble_eq_true rfl) ⟨by decide, by decide⟩ ⟨by show _ ≤ 600000; omega, by show _ ≤ 7302250; omega⟩ ?_
  rintro r M2 ⟨rfl, hMid⟩
  obtain ⟨hT2, hm2⟩ := hm M2 hMid
  refine y_aload_n (pc := 749) dL_law_749 rfl ?_
  refine y_aload_n (pc := 750) dL_law_750 rfl ?_
  refine y_iload_n (pc := 751) dL_law_751 rfl ?_
  refine y_iconst (pc := 752) (v := 1) dL_law_752 rfl ?_
  refine y_iadd (pc := 753) dL_law_753 ?_
  refine y_sld (pc := 754) (i := i + 1) dL_law_754 (nI_add i 1) (by omega) (by omega) ?_
  refine y_callV (pc := 755) (As := [.int (xs (i + 1))]) dL_law_755 mX12_count lk_L_105 hT2 hm2 rfl rfl (Nat.le_of_ble_eq_true rfl) ⟨by decide, by decide⟩ ⟨by show _ ≤ 600000; omega, by show _ ≤ 7302250; omega⟩ ?_
  rintro r M3 ⟨rfl, hLJ⟩
  refine y_icmp_eq (pc := 758) (tgt := 998) (st := []) dL_law_758 rfl (fun _ => ?_) (fun z => absurd rfl z)
  exact y_widen (by omega) (by omega) (k M3 hLJ)
theorem LC_sheet (hi : i + 6 ≤ L) (hL : L ≤ 3072) (h : LJ M x0 a) (hcl : cl + 64 ≤ 600000) (hsl : sl + 4000 ≤ 7302250) (k : ∀ M2, LJ M2 x0 a → WL (scS bS L xs (gB Γ)) Γ (lawM nm) room_1 600000 7302250 (cl + 64) (sl + 4000) lawQ 998 (lvL bS x0 a.1 i) [] M2) : WL (scS bS L xs (gB Γ)) Γ (lawM nm) room_1 600000 7302250 cl sl lawQ 763 (lvL bS x0 a.1 i) [] M := by
  obtain ⟨hT, v, Mid, hc, hm⟩ := J_call (Γ := Γ) (J_sheet (xs (i + 1)) (xs (i + 2)) (xs (i + 3))) h
  refine y_aload_n (pc := 763) dL_law_763 rfl ?_
  refine y_aload_n (pc := 764) dL_law_764 rfl ?_
  refine y_iload_n (pc := 765) dL_law_765 rfl ?_
  refine y_iconst (pc := 766) (v := 1) dL_law_766 rfl ?_
  refine y_iadd (pc := 767) dL_law_767 ?_
  refine y_sld (pc := 768) (i := i + 1) dL_law_768 (nI_add i 1) (by omega) (by omega) ?_
  refine y_aload_n (pc := 769) dL_law_769 rfl ?_
  refine y_iload_n (pc := 770) dL_law_770 rfl ?_
  refine y_iconst (pc := 771) (v := 2) dL_law_771 rfl ?_
  refine y_iadd (pc := 772) dL_law_772 ?_
  refine y_sld (pc := 773) (i := i + 2) dL_law_773 (nI_add i 2) (by omega) (by omega) ?_
  refine y_aload_n (pc := 774) dL_law_774 rfl ?_
  refine y_iload_n (pc := 775) dL_law_775 rfl ?_
  refine y_iconst (pc := 776) (v := 3) dL_law_776 rfl ?_
  refine y_iadd (pc := 777) dL_law_777 ?_
  refine y_sld (pc := 778) (i := i + 3) dL_law_778 (nI_add i 3) (by omega) (by omega) ?_
  refine y_callV (pc := 779) (As := [.int (xs (i + 1)), .int (xs (i + 2)), .int (xs (i + 3))]) dL_law_779 mX11_sheet lk_L_106 hT hc rfl rfl (Nat.le_of_ble_eq_true rfl) ⟨by decide, by decide⟩ ⟨by show _ ≤ 600000; omega, by show _ ≤ 7302250; omega⟩ ?_
  rintro r M2 ⟨rfl, hMid⟩
  obtain ⟨hT2, hm2⟩ := hm M2 hMid
  refine y_aload_n (pc := 782) dL_law_782 rfl ?_
  refine y_aload_n (pc := 783) dL_law_783 rfl ?_
  refine y_iload_n (pc := 784) dL_law_784 rfl ?_
  refine y_iconst (pc := 785) (v := 1) dL_law_785 rfl ?_
  refine y_iadd (pc := 786) dL_law_786 ?_
  refine y_sld (pc := 787) (i := i + 1) dL_law_787 (nI_add i 1) (by omega) (by omega) ?_
  refine y_aload_n (pc := 788) dL_law_788 rfl ?_
  refine y_iload_n (pc := 789) dL_law_789 rfl ?_
  refine y_iconst (pc := 790) (v := 2) dL_law_790 rfl ?_
  refine y_iadd (pc := 791) dL_law_791 ?_
  refine y_sld (pc := 792) (i := i + 2) dL_law_792 (nI_add i 2) (by omega) (by omega) ?_
  refine y_aload_n (pc := 793) dL_law_793 rfl ?_
  refine y_iload_n (pc := 794) dL_law_794 rfl ?_
  refine y_iconst (pc := 795) (v := 3) dL_law_795 rfl ?_
  refine y_iadd (pc := 796) dL_law_796 ?_
  refine y_sld (pc := 797) (i := i + 3) dL_law_797 (nI_add i 3) (by omega) (by omega) ?_
  refine y_callV (pc := 798) (As := [.int (xs (i + 1)), .int (xs (i + 2)), .int (xs (i + 3))]) dL_law_798 mX12_sheet lk_L_109 hT2 hm2 rfl rfl (Nat.le_of_ble_eq_true rfl) ⟨by decide, by decide⟩ ⟨by show _ ≤ 600000; omega, by show _ ≤ 7302250; omega⟩ ?_
  rintro r M3 ⟨rfl, hLJ⟩
  refine y_icmp_eq (pc := 801) (tgt := 998) (st := []) dL_law_801 rfl (fun _ => ?_) (fun z => absurd rfl z)
  exact y_widen (by omega) (by omega) (k M3 hLJ)
theorem LC_cell (hi : i + 6 ≤ L) (hL : L ≤ 3072) (h : LJ M x0 a) (hcl : cl + 64 ≤ 600000) (hsl : sl + 4000 ≤ 7302250) (k : ∀ M2, LJ M2 x0 a → WL (scS bS L xs (gB Γ)) Γ (lawM nm) room_1 600000 7302250 (cl + 64) (sl + 4000) lawQ 998 (lvL bS x0 a.1 i) [] M2) : WL (scS bS L xs (gB Γ)) Γ (lawM nm) room_1 600000 7302250 cl sl lawQ 806 (lvL bS x0 a.1 i) [] M := by
  obtain ⟨hT, v, Mid, hc, hm⟩ := J_call (Γ := Γ) (J_cell (xs (i + 1)) (xs (i + 2)) (xs (i + 3))) h
  refine y_aload_n (pc := 806) dL_law_806 rfl ?_
  refine y_aload_n (pc := 807) dL_law_807 rfl ?_
  refine y_iload_n (pc := 808) dL_law_808 rfl ?_
  refine y_iconst (pc := 809) (v := 1) dL_law_809 rfl ?_
  refine y_iadd (pc := 810) dL_law_810 ?_
  refine y_sld (pc := 811) (i := i + 1) dL_law_811 (nI_add i 1) (by omega) (by omega) ?_
  refine y_aload_n (pc := 812) dL_law_812 rfl ?_
  refine y_iload_n (pc := 813) dL_law_813 rfl ?_
  refine y_iconst (pc := 814) (v := 2) dL_law_814 rfl ?_
  refine y_iadd (pc := 815) dL_law_815 ?_
  refine y_sld (pc := 816) (i := i + 2) dL_law_816 (nI_add i 2) (by omega) (by omega) ?_
  refine y_aload_n (pc := 817) dL_law_817 rfl ?_
  refine y_iload_n (pc := 818) dL_law_818 rfl ?_
  refine y_iconst (pc := 819) (v := 3) dL_law_819 rfl ?_
  refine y_iadd (pc := 820) dL_law_820 ?_
  refine y_sld (pc := 821) (i := i + 3) dL_law_821 (nI_add i 3) (by omega) (by omega) ?_
  refine y_callV (pc := 822) (As := [.int (xs (i + 1)), .int (xs (i + 2)), .int (xs (i + 3))]) dL_law_822 mX11_cell lk_L_110 hT hc rfl rfl (Nat.le_of_ble_eq_true rfl) ⟨by decide, by decide⟩ ⟨by show _ ≤ 600000; omega, by show _ ≤ 7302250; omega⟩ ?_
  rintro r M2 ⟨rfl, hMid⟩
  obtain ⟨hT2, hm2⟩ := hm M2 hMid
  refine y_aload_n (pc := 825) dL_law_825 rfl ?_
  refine y_aload_n (pc := 826) dL_law_826 rfl ?_
  refine y_iload_n (pc := 827) dL_law_827 rfl ?_
  refine y_iconst (pc := 828) (v := 1) dL_law_828 rfl ?_
  refine y_iadd (pc := 829) dL_law_829 ?_
  refine y_sld (pc := 830) (i := i + 1) dL_law_830 (nI_add i 1) (by omega) (by omega) ?_
  refine y_aload_n (pc := 831) dL_law_831 rfl ?_
  refine y_iload_n (pc := 832) dL_law_832 rfl ?_
  refine y_iconst (pc := 833) (v := 2) dL_law_833 rfl ?_
  refine y_iadd (pc := 834) dL_law_834 ?_
  refine y_sld (pc := 835) (i := i + 2) dL_law_835 (nI_add i 2) (by omega) (by omega) ?_
  refine y_aload_n (pc := 836) dL_law_836 rfl ?_
  refine y_iload_n (pc := 837) dL_law_837 rfl ?_
  refine y_iconst (pc := 838) (v := 3) dL_law_838 rfl ?_
  refine y_iadd (pc := 839) dL_law_839 ?_
  refine y_sld (pc := 840) (i := i + 3) dL_law_840 (nI_add i 3) (by omega) (by omega) ?_
  refine y_callV (pc := 841) (As := [.int (xs (i + 1)), .int (xs (i + 2)), .int (xs (i + 3))]) dL_law_841 mX12_cell lk_L_113 hT2 hm2 rfl rfl (Nat.le_of_ble_eq_true rfl) ⟨by decide, by decide⟩ ⟨by show _ ≤ 600000; omega, by show _ ≤ 7302250; omega⟩ ?_
  rintro r M3 ⟨rfl, hLJ⟩
  refine y_icmp_eq (pc := 844) (tgt := 998) (st := []) dL_law_844 rfl (fun _ => ?_) (fun z => absurd rfl z)
  exact y_widen (by omega) (by omega) (k M3 hLJ)
theorem LC_copy (hi : i + 6 ≤ L) (hL : L ≤ 3072) (h : LJ M x0 a) (hcl : cl + 64 ≤ 600000) (hsl : sl + 4000 ≤ 7302250) (k : ∀ M2, LJ M2 x0 a → WL (scS bS L xs (gB Γ)) Γ (lawM nm) room_1 600000 7302250 (cl + 64) (sl + 4000) lawQ 998 (lvL bS x0 a.1 i) [] M2) : WL (scS bS L xs (gB Γ)) Γ (lawM nm) room_1 600000 7302250 cl sl lawQ 849 (lvL bS x0 a.1 i) [] M := by
  obtain ⟨hT, v, Mid, hc, hm⟩ := J_call (Γ := Γ) (J_copy (xs (i + 1)) (xs (i + 2)) (xs (i + 3)) (xs (i + 4)) (xs (i + 5))) h
  refine y_aload_n (pc := 849) dL_law_849 rfl ?_
  refine y_aload_n (pc := 850) dL_law_850 rfl ?_
  refine y_iload_n (pc := 851) dL_law_851 rfl ?_
  refine y_iconst (pc := 852) (v := 1) dL_law_852 rfl ?_
  refine y_iadd (pc := 853) dL_law_853 ?_
  refine y_sld (pc := 854) (i := i + 1) dL_law_854 (nI_add i 1) (by omega) (by omega) ?_
  refine y_aload_n (pc := 855) dL_law_855 rfl ?_
  refine y_iload_n (pc := 856) dL_law_856 rfl ?_
  refine y_iconst (pc := 857) (v := 2) dL_law_857 rfl ?_
  refine y_iadd (pc := 858) dL_law_858 ?_
  refine y_sld (pc := 859) (i := i + 2) dL_law_859 (nI_add i 2) (by omega) (by omega) ?_
  refine y_aload_n (pc := 860) dL_law_860 rfl ?_
  refine y_iload_n (pc := 861) dL_law_861 rfl ?_
  refine y_iconst (pc := 862) (v := 3) dL_law_862 rfl ?_
  refine y_iadd (pc := 863) dL_law_863 ?_
  refine y_sld (pc := 864) (i := i + 3) dL_law_864 (nI_add i 3) (by omega) (by omega) ?_
  refine y_aload_n (pc := 865) dL_law_865 rfl ?_
  refine y_iload_n (pc := 866) dL_law_866 rfl ?_
  refine y_iconst (pc := 867) (v := 4) dL_law_867 rfl ?_
  refine y_iadd (pc := 868) dL_law_868 ?_
  refine y_sld (pc := 869) (i := i + 4) dL_law_869 (nI_add i 4) (by omega) (by omega) ?_
  refine y_aload_n (pc := 870) dL_law_870 rfl ?_
  refine y_iload_n (pc := 871) dL_law_871 rfl ?_
  refine y_iconst (pc := 872) (v := 5) dL_law_872 rfl ?_
  refine y_iadd (pc := 873) dL_law_873 ?_
  refine y_sld (pc := 874) (i := i + 5) dL_law_874 (nI_add i 5) (by omega) (by omega) ?_
  refine y_callV (pc := 875) (As := [.int (xs (i + 1)), .int (xs (i + 2)), .int (xs (i + 3)), .int (xs (i + 4)), .int (xs (i + 5))]) dL_law_875 mX11_copy lk_L_114 hT hc rfl rfl (Nat.le_of_ble_eq_true rfl) ⟨by decide, by decide⟩ ⟨by show _ ≤ 600000; omega, by show _ ≤ 7302250; omega⟩ ?_
  rintro r M2 ⟨rfl, hMid⟩
  obtain ⟨hT2, hm2⟩ := hm M2 hMid
  refine y_aload_n (pc := 878) dL_law_878 rfl ?_
  refine y_aload_n (pc := 879) dL_law_879 rfl ?_
  refine y_iload_n (pc := 880) dL_law_880 rfl ?_
  refine y_iconst (pc := 881) (v := 1) dL_law_881 rfl ?_
  refine y_iadd (pc := 882) dL_law_882 ?_
  refine y_sld (pc := 883) (i := i + 1) dL_law_883 (nI_add i 1) (by omega) (by omega) ?_
  refine y_aload_n (pc := 884) dL_law_884 rfl ?_
  refine y_iload_n (pc := 885) dL_law_885 rfl ?_
  refine y_iconst (pc := 886) (v := 2) dL_law_886 rfl ?_
  refine y_iadd (pc := 887) dL_law_887 ?_
  refine y_sld (pc := 888) (i := i + 2) dL_law_888 (nI_add i 2) (by omega) (by omega) ?_
  refine y_aload_n (pc := 889) dL_law_889 rfl ?_
  refine y_iload_n (pc := 890) dL_law_890 rfl ?_
  refine y_iconst (pc := 891) (v := 3) dL_law_891 rfl ?_
  refine y_iadd (pc := 892) dL_law_892 ?_
  refine y_sld (pc := 893) (i := i + 3) dL_law_893 (nI_add i 3) (by omega) (by omega) ?_
  refine y_aload_n (pc := 894) dL_law_894 rfl ?_
  refine y_iload_n (pc := 895) dL_law_895 rfl ?_
  refine y_iconst (pc := 896) (v := 4) dL_law_896 rfl ?_
  refine y_iadd (pc := 897) dL_law_897 ?_
  refine y_sld (pc := 898) (i := i + 4) dL_law_898 (nI_add i 4) (by omega) (by omega) ?_
  refine y_aload_n (pc := 899) dL_law_899 rfl ?_
  refine y_iload_n (pc := 900) dL_law_900 rfl ?_
  refine y_iconst (pc := 901) (v := 5) dL_law_901 rfl ?_
  refine y_iadd (pc := 902) dL_law_902 ?_
  refine y_sld (pc := 903) (i := i + 5) dL_law_903 (nI_add i 5) (by omega) (by omega) ?_
  refine y_callV (pc := 904) (As := [.int (xs (i + 1)), .int (xs (i + 2)), .int (xs (i + 3)), .int (xs (i + 4)), .int (xs (i + 5))]) dL_law_904 mX12_copy lk_L_118 hT2 hm2 rfl rfl (Nat.le_of_ble_eq_true rfl) ⟨by decide, by decide⟩ ⟨by show _ ≤ 600000; omega, by show _ ≤ 7302250; omega⟩ ?_
  rintro r M3 ⟨rfl, hLJ⟩
  refine y_icmp_eq (pc := 907) (tgt := 998) (st := []) dL_law_907 rfl (fun _ => ?_) (fun z => absurd rfl z)
  exact y_widen (by omega) (by omega) (k M3 hLJ)
theorem LC_things (hi : i + 6 ≤ L) (hL : L ≤ 3072) (h : LJ M x0 a) (hcl : cl + 64 ≤ 600000) (hsl : sl + 4000 ≤ 7302250) (k : ∀ M2, LJ M2 x0 a → WL (scS bS L xs (gB Γ)) Γ (lawM nm) room_1 600000 7302250 (cl + 64) (sl + 4000) lawQ 998 (lvL bS x0 a.1 i) [] M2) : WL (scS bS L xs (gB Γ)) Γ (lawM nm) room_1 600000 7302250 cl sl lawQ 912 (lvL bS x0 a.1 i) [] M := by
  obtain ⟨hT, v, Mid, hc, hm⟩ := J_call (Γ := Γ) (J_things (xs (i + 1)) (xs (i + 2)) (xs (i + 3)) (xs (i + 4))) h
  refine y_aload_n (pc := 912) dL_law_912 rfl ?_
  refine y_aload_n (pc := 913) dL_law_913 rfl ?_
  refine y_iload_n (pc := 914) dL_law_914 rfl ?_
  refine y_iconst (pc := 915) (v := 1) dL_law_915 rfl ?_
  refine y_iadd (pc := 916) dL_law_916 ?_
  refine y_sld (pc := 917) (i := i + 1) dL_law_917 (nI_add i 1) (by omega) (by omega) ?_
  refine y_aload_n (pc := 918) dL_law_918 rfl ?_
  refine y_iload_n (pc := 919) dL_law_919 rfl ?_
  refine y_iconst (pc := 920) (v := 2) dL_law_920 rfl ?_
  refine y_iadd (pc := 921) dL_law_921 ?_
  refine y_sld (pc := 922) (i := i + 2) dL_law_922 (nI_add i 2) (by omega) (by omega) ?_
  refine y_aload_n (pc := 923) dL_law_923 rfl ?_
  refine y_iload_n (pc := 924) dL_law_924 rfl ?_
  refine y_iconst (pc := 925) (v := 3) dL_law_925 rfl ?_
  refine y_iadd (pc := 926) dL_law_926 ?_
  refine y_sld (pc := 927) (i := i + 3) dL_law_927 (nI_add i 3) (by omega) (by omega) ?_
  refine y_aload_n (pc := 928) dL_law_928 rfl ?_
  refine y_iload_n (pc := 929) dL_law_929 rfl ?_
  refine y_iconst (pc := 930) (v := 4) dL_law_930 rfl ?_
  refine y_iadd (pc := 931) dL_law_931 ?_
  refine y_sld (pc := 932) (i := i + 4) dL_law_932 (nI_add i 4) (by omega) (by omega) ?_
  refine y_callV (pc := 933) (As := [.int (xs (i + 1)), .int (xs (i + 2)), .int (xs (i + 3)), .int (xs (i + 4))]) dL_law_933 mX11_things lk_L_119 hT hc rfl rfl (Nat.le_of_ble_eq_true rfl) ⟨by decide, by decide⟩ ⟨by show _ ≤ 600000; omega, by show _ ≤ 7302250; omega⟩ ?_
  rintro r M2 ⟨rfl, hMid⟩
  obtain ⟨hT2, hm2⟩ := hm M2 hMid
  refine y_aload_n (pc := 936) dL_law_936 rfl ?_
  refine y_aload_n (pc := 937) dL_law_937 rfl ?_
  refine y_iload_n (pc := 938) dL_law_938 rfl ?_
  refine y_iconst (pc := 939) (v := 1) dL_law_939 rfl ?_
  refine y_iadd (pc := 940) dL_law_940 ?_
  refine y_sld (pc := 941) (i := i + 1) dL_law_941 (nI_add i 1) (by omega) (by omega) ?_
  refine y_aload_n (pc := 942) dL_law_942 rfl ?_
  refine y_iload_n (pc := 943) dL_law_943 rfl ?_
  refine y_iconst (pc := 944) (v := 2) dL_law_944 rfl ?_
  refine y_iadd (pc := 945) dL_law_945 ?_
  refine y_sld (pc := 946) (i := i + 2) dL_law_946 (nI_add i 2) (by omega) (by omega) ?_
  refine y_aload_n (pc := 947) dL_law_947 rfl ?_
  refine y_iload_n (pc := 948) dL_law_948 rfl ?_
  refine y_iconst (pc := 949) (v := 3) dL_law_949 rfl ?_
  refine y_iadd (pc := 950) dL_law_950 ?_
  refine y_sld (pc := 951) (i := i + 3) dL_law_951 (nI_add i 3) (by omega) (by omega) ?_
  refine y_aload_n (pc := 952) dL_law_952 rfl ?_
  refine y_iload_n (pc := 953) dL_law_953 rfl ?_
  refine y_iconst (pc := 954) (v := 4) dL_law_954 rfl ?_
  refine y_iadd (pc := 955) dL_law_955 ?_
  refine y_sld (pc := 956) (i := i + 4) dL_law_956 (nI_add i 4) (by omega) (by omega) ?_
  refine y_callV (pc := 957) (As := [.int (xs (i + 1)), .int (xs (i + 2)), .int (xs (i + 3)), .int (xs (i + 4))]) dL_law_957 mX12_things lk_L_123 hT2 hm2 rfl rfl (Nat.le_of_ble_eq_true rfl) ⟨by decide, by decide⟩ ⟨by show _ ≤ 600000; omega, by show _ ≤ 7302250; omega⟩ ?_
  rintro r M3 ⟨rfl, hLJ⟩
  refine y_icmp_eq (pc := 960) (tgt := 998) (st := []) dL_law_960 rfl (fun _ => ?_) (fun z => absurd rfl z)
  exact y_widen (by omega) (by omega) (k M3 hLJ)
theorem LC_taken (hi : i + 6 ≤ L) (hL : L ≤ 3072) (h : LJ M x0 a) (hcl : cl + 64 ≤ 600000) (hsl : sl + 4000 ≤ 7302250) (k : ∀ M2, LJ M2 x0 a → WL (scS bS L xs (gB Γ)) Γ (lawM nm) room_1 600000 7302250 (cl + 64) (sl + 4000) lawQ 998 (lvL bS x0 a.1 i) [] M2) : WL (scS bS L xs (gB Γ)) Γ (lawM nm) room_1 600000 7302250 cl sl lawQ 965 (lvL bS x0 a.1 i) [] M := by
  obtain ⟨hT, v, Mid, hc, hm⟩ := J_call (Γ := Γ) (J_taken (xs (i + 1)) (xs (i + 2))) h
  refine y_aload_n (pc := 965) dL_law_965 rfl ?_
  refine y_aload_n (pc := 966) dL_law_966 rfl ?_
  refine y_iload_n (pc := 967) dL_law_967 rfl ?_
  refine y_iconst (pc := 968) (v := 1) dL_law_968 rfl ?_
  refine y_iadd (pc := 969) dL_law_969 ?_
  refine y_sld (pc := 970) (i := i + 1) dL_law_970 (nI_add i 1) (by omega) (by omega) ?_
  refine y_aload_n (pc := 971) dL_law_971 rfl ?_
  refine y_iload_n (pc := 972) dL_law_972 rfl ?_
  refine y_iconst (pc := 973) (v := 2) dL_law_973 rfl ?_
  refine y_iadd (pc := 974) dL_law_974 ?_
  refine y_sld (pc := 975) (i := i + 2) dL_law_975 (nI_add i 2) (by omega) (by omega) ?_
  refine y_callV (pc := 976) (As := [.int (xs (i + 1)), .int (xs (i + 2))]) dL_law_976 mX11_taken lk_L_124 hT hc rfl rfl (Nat.le_of_ble_eq_true rfl) ⟨by decide, by decide⟩ ⟨by show _ ≤ 600000; omega, by show _ ≤ 7302250; omega⟩ ?_
  rintro r M2 ⟨rfl, hMid⟩
  obtain ⟨hT2, hm2⟩ := hm M2 hMid
  refine y_aload_n (pc := 979) dL_law_979 rfl ?_
  refine y_aload_n (pc := 980) dL_law_980 rfl ?_
  refine y_iload_n (pc := 981) dL_law_981 rfl ?_
  refine y_iconst (pc := 982) (v := 1) dL_law_982 rfl ?_
  refine y_iadd (pc := 983) dL_law_983 ?_
  refine y_sld (pc := 984) (i := i + 1) dL_law_984 (nI_add i 1) (by omega) (by omega) ?_
  refine y_aload_n (pc := 985) dL_law_985 rfl ?_
  refine y_iload_n (pc := 986) dL_law_986 rfl ?_
  refine y_iconst (pc := 987) (v := 2) dL_law_987 rfl ?_
  refine y_iadd (pc := 988) dL_law_988 ?_
  refine y_sld (pc := 989) (i := i + 2) dL_law_989 (nI_add i 2) (by omega) (by omega) ?_
  refine y_callV (pc := 990) (As := [.int (xs (i + 1)), .int (xs (i + 2))]) dL_law_990 mX12_taken lk_L_127 hT2 hm2 rfl rfl (Nat.le_of_ble_eq_true rfl) ⟨by decide, by decide⟩ ⟨by show _ ≤ 600000; omega, by show _ ≤ 7302250; omega⟩ ?_
  rintro r M3 ⟨rfl, hLJ⟩
  refine y_icmp_eq (pc := 993) (tgt := 998) (st := []) dL_law_993 rfl (fun _ => ?_) (fun z => absurd rfl z)
  exact y_widen (by omega) (by omega) (k M3 hLJ)
end LC
