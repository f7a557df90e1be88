/-! ===== the law's loop ===== -/
def Y_L_law (nm : String) : YM := (⟨"HutLiftLaw", nm, "([I)Z"⟩, cL_law, 4, some .boolean)
section LJ
variable {Y : YM} {d kc ks pc : Nat} {G : Nat → Nat} {lv : List (Option Value)} {st : List Value} {h : AH} {post : Option Value → AH → Prop}
theorem J.sld {i : Int32} (hin : vp_in i (G 5)) (pn : Nat) (hd : decode Y.2.1 pc = .ok (.iaload, 1)) (hn : pc + 1 = pn) (k : J Y d G kc ks pn lv (.int (Int32.ofNat (G (6 + i.toNatClampNeg))) :: st) h post) : J Y d G kc ks pc lv (.int i :: .ref (G 4) :: st) h post := by
  subst hn
  intro A D p l e s m args below meth c mc ms H locs cells slots ls C hR hS h1 h2 hl
  exact va_ti C.1 C.2.1 C.2.2.2.2.2.2.2.2.1.2.2.2.2.2.2.2.2.2.2.2 hS hin rfl hd (k A D p l e s m args below meth c mc ms H locs cells slots ls C hR hS h1 h2 hl)
theorem J.slen (pn : Nat) (hd : decode Y.2.1 pc = .ok (.arraylength, 1)) (hn : pc + 1 = pn) (k : J Y d G kc ks pn lv (.int (nI (G 5)) :: st) h post) : J Y d G kc ks pc lv (.ref (G 4) :: st) h post := by
  subst hn
  intro A D p l e s m args below meth c mc ms H locs cells slots ls C hR hS h1 h2 hl
  exact va_tlen C.1 C.2.1 C.2.2.2.2.2.2.2.2.1.2.2.2.2.2.2.2.2.2.2.2 hS rfl hd (k A D p l e s m args below meth c mc ms H locs cells slots ls C hR hS h1 h2 hl)
end LJ
theorem sc_in {k c n : Nat} {v : Int32} (hv : v = nI c) (h : 5 * k + c < n) (hn : n ≤ 100000) : vp_in (nI (5 * k) + v) n := by
  rw [hv, nI_add]
  exact vp_in_nI h (by omega)
theorem law_0 {nm : String} {G : Nat → Nat} {x0 m0 : Nat} {adm : Nat → Nat} {h : AH} {k kc ks : Nat} {post : Option Value → AH → Prop} (hS : Stt G x0 m0 adm h) (hk : 5 * k + 5 ≤ G 5) (hn : G 5 ≤ 100000) (kk : ∀ h3, Stt G x0 m0 adm h3 → J (Y_L_law nm) 21 G kc ks 963 [some (.ref (G 4)), some (.ref x0), some (.ref m0), some (.int (nI (5 * k)))] [] h3 post) : J (Y_L_law nm) 21 G (kc + 90) (ks + 14100) 148 [some (.ref (G 4)), some (.ref x0), some (.ref m0), some (.int (nI (5 * k)))] [] h post := by
  refine J.aload_n 149 dL_law_148 rfl rfl ?_
  refine J.aload_n 150 dL_law_149 rfl rfl ?_
  refine J.iload_n 151 dL_law_150 rfl rfl ?_
  refine J.iconst 1 152 dL_law_151 rfl (by decide) ?_
  refine J.iadd 153 dL_law_152 rfl ?_
  refine J.sld (sc_in (c := 1) rfl (by omega) hn) 154 dL_law_153 rfl ?_
  refine J.aload_n 155 dL_law_154 rfl rfl ?_
  refine J.iload_n 156 dL_law_155 rfl rfl ?_
  refine J.iconst 2 157 dL_law_156 rfl (by decide) ?_
  refine J.iadd 158 dL_law_157 rfl ?_
  refine J.sld (sc_in (c := 2) rfl (by omega) hn) 159 dL_law_158 rfl ?_
  obtain ⟨S, X, L, wn, sl, fl, ad, hM, hK, ha, hI⟩ := hS
  have tw : Two G x0 m0 adm Y_X11_place Y_X12_place [.int (Int32.ofNat (G (6 + (nI (5 * k) + 1).toNatClampNeg))), .int (Int32.ofNat (G (6 + (nI (5 * k) + 2).toNatClampNeg)))] h := t_place hM hK ha hI
  obtain ⟨v, mc, ms, hmc, hms, ct⟩ := tw
  refine cv_L_13 rfl 162 ct dL_law_159 rfl (by rw [← ha]; exact hK.hut) rfl rfl (Nat.le_of_ble_eq_true rfl) (by omega) (by omega) (fun r h2 hp => ?_)
  obtain ⟨rfl, ⟨fs2, hm0⟩, ct2⟩ := hp
  refine J.aload_n 163 dL_law_162 rfl rfl ?_
  refine J.aload_n 164 dL_law_163 rfl rfl ?_
  refine J.iload_n 165 dL_law_164 rfl rfl ?_
  refine J.iconst 1 166 dL_law_165 rfl (by decide) ?_
  refine J.iadd 167 dL_law_166 rfl ?_
  refine J.sld (sc_in (c := 1) rfl (by omega) hn) 168 dL_law_167 rfl ?_
  refine J.aload_n 169 dL_law_168 rfl rfl ?_
  refine J.iload_n 170 dL_law_169 rfl rfl ?_
  refine J.iconst 2 171 dL_law_170 rfl (by decide) ?_
  refine J.iadd 172 dL_law_171 rfl ?_
  refine J.sld (sc_in (c := 2) rfl (by omega) hn) 173 dL_law_172 rfl ?_
  refine cv_L_17 rfl 176 ct2 dL_law_173 rfl hm0 rfl rfl (Nat.le_of_ble_eq_true rfl) (Nat.zero_le _) (Nat.zero_le _) (fun r2 h3 hp => ?_)
  obtain ⟨rfl, hS3⟩ := hp
  refine J.icmp_eq 963 179 dL_law_176 (by decide) rfl (fun _ => ?_) (fun c => absurd rfl c)
  exact J.room (by omega) (by omega) (kk h3 hS3)
theorem law_1 {nm : String} {G : Nat → Nat} {x0 m0 : Nat} {adm : Nat → Nat} {h : AH} {k kc ks : Nat} {post : Option Value → AH → Prop} (hS : Stt G x0 m0 adm h) (hk : 5 * k + 5 ≤ G 5) (hn : G 5 ≤ 100000) (kk : ∀ h3, Stt G x0 m0 adm h3 → J (Y_L_law nm) 21 G kc ks 963 [some (.ref (G 4)), some (.ref x0), some (.ref m0), some (.int (nI (5 * k)))] [] h3 post) : J (Y_L_law nm) 21 G (kc + 90) (ks + 14100) 181 [some (.ref (G 4)), some (.ref x0), some (.ref m0), some (.int (nI (5 * k)))] [] h post := by
  refine J.aload_n 182 dL_law_181 rfl rfl ?_
  refine J.aload_n 183 dL_law_182 rfl rfl ?_
  refine J.iload_n 184 dL_law_183 rfl rfl ?_
  refine J.iconst 1 185 dL_law_184 rfl (by decide) ?_
  refine J.iadd 186 dL_law_185 rfl ?_
  refine J.sld (sc_in (c := 1) rfl (by omega) hn) 187 dL_law_186 rfl ?_
  refine J.aload_n 188 dL_law_187 rfl rfl ?_
  refine J.iload_n 189 dL_law_188 rfl rfl ?_
  refine J.iconst 2 190 dL_law_189 rfl (by decide) ?_
  refine J.iadd 191 dL_law_190 rfl ?_
  refine J.sld (sc_in (c := 2) rfl (by omega) hn) 192 dL_law_191 rfl ?_
  obtain ⟨S, X, L, wn, sl, fl, ad, hM, hK, ha, hI⟩ := hS
  have tw : Two G x0 m0 adm Y_X11_machine Y_X12_machine [.int (Int32.ofNat (G (6 + (nI (5 * k) + 1).toNatClampNeg))), .int (Int32.ofNat (G (6 + (nI (5 * k) + 2).toNatClampNeg)))] h := t_machine hM hK ha hI
  obtain ⟨v, mc, ms, hmc, hms, ct⟩ := tw
  refine cv_L_18 rfl 195 ct dL_law_192 rfl (by rw [← ha]; exact hK.hut) rfl rfl (Nat.le_of_ble_eq_true rfl) (by omega) (by omega) (fun r h2 hp => ?_)
  obtain ⟨rfl, ⟨fs2, hm0⟩, ct2⟩ := hp
  refine J.aload_n 196 dL_law_195 rfl rfl ?_
  refine J.aload_n 197 dL_law_196 rfl rfl ?_
  refine J.iload_n 198 dL_law_197 rfl rfl ?_
  refine J.iconst 1 199 dL_law_198 rfl (by decide) ?_
  refine J.iadd 200 dL_law_199 rfl ?_
  refine J.sld (sc_in (c := 1) rfl (by omega) hn) 201 dL_law_200 rfl ?_
  refine J.aload_n 202 dL_law_201 rfl rfl ?_
  refine J.iload_n 203 dL_law_202 rfl rfl ?_
  refine J.iconst 2 204 dL_law_203 rfl (by decide) ?_
  refine J.iadd 205 dL_law_204 rfl ?_
  refine J.sld (sc_in (c := 2) rfl (by omega) hn) 206 dL_law_205 rfl ?_
  refine cv_L_21 rfl 209 ct2 dL_law_206 rfl hm0 rfl rfl (Nat.le_of_ble_eq_true rfl) (Nat.zero_le _) (Nat.zero_le _) (fun r2 h3 hp => ?_)
  obtain ⟨rfl, hS3⟩ := hp
  refine J.icmp_eq 963 212 dL_law_209 (by decide) rfl (fun _ => ?_) (fun c => absurd rfl c)
  exact J.room (by omega) (by omega) (kk h3 hS3)
theorem law_2 {nm : String} {G : Nat → Nat} {x0 m0 : Nat} {adm : Nat → Nat} {h : AH} {k kc ks : Nat} {post : Option Value → AH → Prop} (hS : Stt G x0 m0 adm h) (hk : 5 * k + 5 ≤ G 5) (hn : G 5 ≤ 100000) (kk : ∀ h3, Stt G x0 m0 adm h3 → J (Y_L_law nm) 21 G kc ks 963 [some (.ref (G 4)), some (.ref x0), some (.ref m0), some (.int (nI (5 * k)))] [] h3 post) : J (Y_L_law nm) 21 G (kc + 90) (ks + 14100) 214 [some (.ref (G 4)), some (.ref x0), some (.ref m0), some (.int (nI (5 * k)))] [] h post := by
  refine J.aload_n 215 dL_law_214 rfl rfl ?_
  refine J.aload_n 216 dL_law_215 rfl rfl ?_
  refine J.iload_n 217 dL_law_216 rfl rfl ?_
  refine J.iconst 1 218 dL_law_217 rfl (by decide) ?_
  refine J.iadd 219 dL_law_218 rfl ?_
  refine J.sld (sc_in (c := 1) rfl (by omega) hn) 220 dL_law_219 rfl ?_
  refine J.aload_n 221 dL_law_220 rfl rfl ?_
  refine J.iload_n 222 dL_law_221 rfl rfl ?_
  refine J.iconst 2 223 dL_law_222 rfl (by decide) ?_
  refine J.iadd 224 dL_law_223 rfl ?_
  refine J.sld (sc_in (c := 2) rfl (by omega) hn) 225 dL_law_224 rfl ?_
  obtain ⟨S, X, L, wn, sl, fl, ad, hM, hK, ha, hI⟩ := hS
  have tw : Two G x0 m0 adm Y_X11_pilot Y_X12_pilot [.int (Int32.ofNat (G (6 + (nI (5 * k) + 1).toNatClampNeg))), .int (Int32.ofNat (G (6 + (nI (5 * k) + 2).toNatClampNeg)))] h := t_pilot hM hK ha hI
  obtain ⟨v, mc, ms, hmc, hms, ct⟩ := tw
  refine cv_L_22 rfl 228 ct dL_law_225 rfl (by rw [← ha]; exact hK.hut) rfl rfl (Nat.le_of_ble_eq_true rfl) (by omega) (by omega) (fun r h2 hp => ?_)
  obtain ⟨rfl, ⟨fs2, hm0⟩, ct2⟩ := hp
  refine J.aload_n 229 dL_law_228 rfl rfl ?_
  refine J.aload_n 230 dL_law_229 rfl rfl ?_
  refine J.iload_n 231 dL_law_230 rfl rfl ?_
  refine J.iconst 1 232 dL_law_231 rfl (by decide) ?_
  refine J.iadd 233 dL_law_232 rfl ?_
  refine J.sld (sc_in (c := 1) rfl (by omega) hn) 234 dL_law_233 rfl ?_
  refine J.aload_n 235 dL_law_234 rfl rfl ?_
  refine J.iload_n 236 dL_law_235 rfl rfl ?_
  refine J.iconst 2 237 dL_law_236 rfl (by decide) ?_
  refine J.iadd 238 dL_law_237 rfl ?_
  refine J.sld (sc_in (c := 2) rfl (by omega) hn) 239 dL_law_238 rfl ?_
  refine cv_L_25 rfl 242 ct2 dL_law_239 rfl hm0 rfl rfl (Nat.le_of_ble_eq_true rfl) (Nat.zero_le _) (Nat.zero_le _) (fun r2 h3 hp => ?_)
  obtain ⟨rfl, hS3⟩ := hp
  refine J.icmp_eq 963 245 dL_law_242 (by decide) rfl (fun _ => ?_) (fun c => absurd rfl c)
  exact J.room (by omega) (by omega) (kk h3 hS3)
theorem law_3 {nm : String} {G : Nat → Nat} {x0 m0 : Nat} {adm : Nat → Nat} {h : AH} {k kc ks : Nat} {post : Option Value → AH → Prop} (hS : Stt G x0 m0 adm h) (hk : 5 * k + 5 ≤ G 5) (hn : G 5 ≤ 100000) (kk : ∀ h3, Stt G x0 m0 adm h3 → J (Y_L_law nm) 21 G kc ks 963 [some (.ref (G 4)), some (.ref x0), some (.ref m0), some (.int (nI (5 * k)))] [] h3 post) : J (Y_L_law nm) 21 G (kc + 90) (ks + 14100) 247 [some (.ref (G 4)), some (.ref x0), some (.ref m0), some (.int (nI (5 * k)))] [] h post := by
  refine J.aload_n 248 dL_law_247 rfl rfl ?_
  refine J.aload_n 249 dL_law_248 rfl rfl ?_
  refine J.iload_n 250 dL_law_249 rfl rfl ?_
  refine J.iconst 1 251 dL_law_250 rfl (by decide) ?_
  refine J.iadd 252 dL_law_251 rfl ?_
  refine J.sld (sc_in (c := 1) rfl (by omega) hn) 253 dL_law_252 rfl ?_
  refine J.aload_n 254 dL_law_253 rfl rfl ?_
  refine J.iload_n 255 dL_law_254 rfl rfl ?_
  refine J.iconst 2 256 dL_law_255 rfl (by decide) ?_
  refine J.iadd 257 dL_law_256 rfl ?_
  refine J.sld (sc_in (c := 2) rfl (by omega) hn) 258 dL_law_257 rfl ?_
  refine J.aload_n 259 dL_law_258 rfl rfl ?_
  refine J.iload_n 260 dL_law_259 rfl rfl ?_
  refine J.iconst 3 261 dL_law_260 rfl (by decide) ?_
  refine J.iadd 262 dL_law_261 rfl ?_
  refine J.sld (sc_in (c := 3) rfl (by omega) hn) 263 dL_law_262 rfl ?_
  refine J.aload_n 264 dL_law_263 rfl rfl ?_
  refine J.iload_n 265 dL_law_264 rfl rfl ?_
  refine J.iconst 4 266 dL_law_265 rfl (by decide) ?_
  refine J.iadd 267 dL_law_266 rfl ?_
  refine J.sld (sc_in (c := 4) rfl (by omega) hn) 268 dL_law_267 rfl ?_
  obtain ⟨S, X, L, wn, sl, fl, ad, hM, hK, ha, hI⟩ := hS
  have tw : Two G x0 m0 adm Y_X11_load Y_X12_load [.int (Int32.ofNat (G (6 + (nI (5 * k) + 1).toNatClampNeg))), .int (Int32.ofNat (G (6 + (nI (5 * k) + 2).toNatClampNeg))), .int (Int32.ofNat (G (6 + (nI (5 * k) + 3).toNatClampNeg))), .int (Int32.ofNat (G (6 + (nI (5 * k) + 4).toNatClampNeg)))] h := t_load hM hK ha hI
  obtain ⟨v, mc, ms, hmc, hms, ct⟩ := tw
  refine cv_L_26 rfl 271 ct dL_law_268 rfl (by rw [← ha]; exact hK.hut) rfl rfl (Nat.le_of_ble_eq_true rfl) (by omega) (by omega) (fun r h2 hp => ?_)
  obtain ⟨rfl, ⟨fs2, hm0⟩, ct2⟩ := hp
  refine J.aload_n 272 dL_law_271 rfl rfl ?_
  refine J.aload_n 273 dL_law_272 rfl rfl ?_
  refine J.iload_n 274 dL_law_273 rfl rfl ?_
  refine J.iconst 1 275 dL_law_274 rfl (by decide) ?_
  refine J.iadd 276 dL_law_275 rfl ?_
  refine J.sld (sc_in (c := 1) rfl (by omega) hn) 277 dL_law_276 rfl ?_
  refine J.aload_n 278 dL_law_277 rfl rfl ?_
  refine J.iload_n 279 dL_law_278 rfl rfl ?_
  refine J.iconst 2 280 dL_law_279 rfl (by decide) ?_
  refine J.iadd 281 dL_law_280 rfl ?_
  refine J.sld (sc_in (c := 2) rfl (by omega) hn) 282 dL_law_281 rfl ?_
  refine J.aload_n 283 dL_law_282 rfl rfl ?_
  refine J.iload_n 284 dL_law_283 rfl rfl ?_
  refine J.iconst 3 285 dL_law_284 rfl (by decide) ?_
  refine J.iadd 286 dL_law_285 rfl ?_
  refine J.sld (sc_in (c := 3) rfl (by omega) hn) 287 dL_law_286 rfl ?_
  refine J.aload_n 288 dL_law_287 rfl rfl ?_
  refine J.iload_n 289 dL_law_288 rfl rfl ?_
  refine J.iconst 4 290 dL_law_289 rfl (by decide) ?_
  refine J.iadd 291 dL_law_290 rfl ?_
  refine J.sld (sc_in (c := 4) rfl (by omega) hn) 292 dL_law_291 rfl ?_
  refine cv_L_30 rfl 295 ct2 dL_law_292 rfl hm0 rfl rfl (Nat.le_of_ble_eq_true rfl) (Nat.zero_le _) (Nat.zero_le _) (fun r2 h3 hp => ?_)
  obtain ⟨rfl, hS3⟩ := hp
  refine J.icmp_eq 963 298 dL_law_295 (by decide) rfl (fun _ => ?_) (fun c => absurd rfl c)
  exact J.room (by omega) (by omega) (kk h3 hS3)
theorem law_4 {nm : String} {G : Nat → Nat} {x0 m0 : Nat} {adm : Nat → Nat} {h : AH} {k kc ks : Nat} {post : Option Value → AH → Prop} (hS : Stt G x0 m0 adm h) (hk : 5 * k + 5 ≤ G 5) (hn : G 5 ≤ 100000) (kk : ∀ h3, Stt G x0 m0 adm h3 → J (Y_L_law nm) 21 G kc ks 963 [some (.ref (G 4)), some (.ref x0), some (.ref m0), some (.int (nI (5 * k)))] [] h3 post) : J (Y_L_law nm) 21 G (kc + 90) (ks + 14100) 300 [some (.ref (G 4)), some (.ref x0), some (.ref m0), some (.int (nI (5 * k)))] [] h post := by
  refine J.aload_n 301 dL_law_300 rfl rfl ?_
  refine J.aload_n 302 dL_law_301 rfl rfl ?_
  refine J.iload_n 303 dL_law_302 rfl rfl ?_
  refine J.iconst 1 304 dL_law_303 rfl (by decide) ?_
  refine J.iadd 305 dL_law_304 rfl ?_
  refine J.sld (sc_in (c := 1) rfl (by omega) hn) 306 dL_law_305 rfl ?_
  refine J.aload_n 307 dL_law_306 rfl rfl ?_
  refine J.iload_n 308 dL_law_307 rfl rfl ?_
  refine J.iconst 2 309 dL_law_308 rfl (by decide) ?_
  refine J.iadd 310 dL_law_309 rfl ?_
  refine J.sld (sc_in (c := 2) rfl (by omega) hn) 311 dL_law_310 rfl ?_
  refine J.aload_n 312 dL_law_311 rfl rfl ?_
  refine J.iload_n 313 dL_law_312 rfl rfl ?_
  refine J.iconst 3 314 dL_law_313 rfl (by decide) ?_
  refine J.iadd 315 dL_law_314 rfl ?_
  refine J.sld (sc_in (c := 3) rfl (by omega) hn) 316 dL_law_315 rfl ?_
  refine J.aload_n 317 dL_law_316 rfl rfl ?_
  refine J.iload_n 318 dL_law_317 rfl rfl ?_
  refine J.iconst 4 319 dL_law_318 rfl (by decide) ?_
  refine J.iadd 320 dL_law_319 rfl ?_
  refine J.sld (sc_in (c := 4) rfl (by omega) hn) 321 dL_law_320 rfl ?_
  obtain ⟨S, X, L, wn, sl, fl, ad, hM, hK, ha, hI⟩ := hS
  have tw : Two G x0 m0 adm Y_X11_hour Y_X12_hour [.int (Int32.ofNat (G (6 + (nI (5 * k) + 1).toNatClampNeg))), .int (Int32.ofNat (G (6 + (nI (5 * k) + 2).toNatClampNeg))), .int (Int32.ofNat (G (6 + (nI (5 * k) + 3).toNatClampNeg))), .int (Int32.ofNat (G (6 + (nI (5 * k) + 4).toNatClampNeg)))] h := t_hour hM hK ha hI
  obtain ⟨v, mc, ms, hmc, hms, ct⟩ := tw
  refine cv_L_31 rfl 324 ct dL_law_321 rfl (by rw [← ha]; exact hK.hut) rfl rfl (Nat.le_of_ble_eq_true rfl) (by omega) (by omega) (fun r h2 hp => ?_)
  obtain ⟨rfl, ⟨fs2, hm0⟩, ct2⟩ := hp
  refine J.aload_n 325 dL_law_324 rfl rfl ?_
  refine J.aload_n 326 dL_law_325 rfl rfl ?_
  refine J.iload_n 327 dL_law_326 rfl rfl ?_
  refine J.iconst 1 328 dL_law_327 rfl (by decide) ?_
  refine J.iadd 329 dL_law_328 rfl ?_
  refine J.sld (sc_in (c := 1) rfl (by omega) hn) 330 dL_law_329 rfl ?_
  refine J.aload_n 331 dL_law_330 rfl rfl ?_
  refine J.iload_n 332 dL_law_331 rfl rfl ?_
  refine J.iconst 2 333 dL_law_332 rfl (by decide) ?_
  refine J.iadd 334 dL_law_333 rfl ?_
  refine J.sld (sc_in (c := 2) rfl (by omega) hn) 335 dL_law_334 rfl ?_
  refine J.aload_n 336 dL_law_335 rfl rfl ?_
  refine J.iload_n 337 dL_law_336 rfl rfl ?_
  refine J.iconst 3 338 dL_law_337 rfl (by decide) ?_
  refine J.iadd 339 dL_law_338 rfl ?_
  refine J.sld (sc_in (c := 3) rfl (by omega) hn) 340 dL_law_339 rfl ?_
  refine J.aload_n 341 dL_law_340 rfl rfl ?_
  refine J.iload_n 342 dL_law_341 rfl rfl ?_
  refine J.iconst 4 343 dL_law_342 rfl (by decide) ?_
  refine J.iadd 344 dL_law_343 rfl ?_
  refine J.sld (sc_in (c := 4) rfl (by omega) hn) 345 dL_law_344 rfl ?_
  refine cv_L_34 rfl 348 ct2 dL_law_345 rfl hm0 rfl rfl (Nat.le_of_ble_eq_true rfl) (Nat.zero_le _) (Nat.zero_le _) (fun r2 h3 hp => ?_)
  obtain ⟨rfl, hS3⟩ := hp
  refine J.icmp_eq 963 351 dL_law_348 (by decide) rfl (fun _ => ?_) (fun c => absurd rfl c)
  exact J.room (by omega) (by omega) (kk h3 hS3)
theorem law_5 {nm : String} {G : Nat → Nat} {x0 m0 : Nat} {adm : Nat → Nat} {h : AH} {k kc ks : Nat} {post : Option Value → AH → Prop} (hS : Stt G x0 m0 adm h) (hk : 5 * k + 5 ≤ G 5) (hn : G 5 ≤ 100000) (kk : ∀ h3, Stt G x0 m0 adm h3 → J (Y_L_law nm) 21 G kc ks 963 [some (.ref (G 4)), some (.ref x0), some (.ref m0), some (.int (nI (5 * k)))] [] h3 post) : J (Y_L_law nm) 21 G (kc + 90) (ks + 14100) 353 [some (.ref (G 4)), some (.ref x0), some (.ref m0), some (.int (nI (5 * k)))] [] h post := by
  refine J.aload_n 354 dL_law_353 rfl rfl ?_
  refine J.aload_n 355 dL_law_354 rfl rfl ?_
  refine J.iload_n 356 dL_law_355 rfl rfl ?_
  refine J.iconst 1 357 dL_law_356 rfl (by decide) ?_
  refine J.iadd 358 dL_law_357 rfl ?_
  refine J.sld (sc_in (c := 1) rfl (by omega) hn) 359 dL_law_358 rfl ?_
  refine J.aload_n 360 dL_law_359 rfl rfl ?_
  refine J.iload_n 361 dL_law_360 rfl rfl ?_
  refine J.iconst 2 362 dL_law_361 rfl (by decide) ?_
  refine J.iadd 363 dL_law_362 rfl ?_
  refine J.sld (sc_in (c := 2) rfl (by omega) hn) 364 dL_law_363 rfl ?_
  obtain ⟨S, X, L, wn, sl, fl, ad, hM, hK, ha, hI⟩ := hS
  have tw : Two G x0 m0 adm Y_X11_feed Y_X12_feed [.int (Int32.ofNat (G (6 + (nI (5 * k) + 1).toNatClampNeg))), .int (Int32.ofNat (G (6 + (nI (5 * k) + 2).toNatClampNeg)))] h := t_feed hM hK ha hI
  obtain ⟨v, mc, ms, hmc, hms, ct⟩ := tw
  refine cv_L_35 rfl 367 ct dL_law_364 rfl (by rw [← ha]; exact hK.hut) rfl rfl (Nat.le_of_ble_eq_true rfl) (by omega) (by omega) (fun r h2 hp => ?_)
  obtain ⟨rfl, ⟨fs2, hm0⟩, ct2⟩ := hp
  refine J.aload_n 368 dL_law_367 rfl rfl ?_
  refine J.aload_n 369 dL_law_368 rfl rfl ?_
  refine J.iload_n 370 dL_law_369 rfl rfl ?_
  refine J.iconst 1 371 dL_law_370 rfl (by decide) ?_
  refine J.iadd 372 dL_law_371 rfl ?_
  refine J.sld (sc_in (c := 1) rfl (by omega) hn) 373 dL_law_372 rfl ?_
  refine J.aload_n 374 dL_law_373 rfl rfl ?_
  refine J.iload_n 375 dL_law_374 rfl rfl ?_
  refine J.iconst 2 376 dL_law_375 rfl (by decide) ?_
  refine J.iadd 377 dL_law_376 rfl ?_
  refine J.sld (sc_in (c := 2) rfl (by omega) hn) 378 dL_law_377 rfl ?_
  refine cv_L_38 rfl 381 ct2 dL_law_378 rfl hm0 rfl rfl (Nat.le_of_ble_eq_true rfl) (Nat.zero_le _) (Nat.zero_le _) (fun r2 h3 hp => ?_)
  obtain ⟨rfl, hS3⟩ := hp
  refine J.icmp_eq 963 384 dL_law_381 (by decide) rfl (fun _ => ?_) (fun c => absurd rfl c)
  exact J.room (by omega) (by omega) (kk h3 hS3)
theorem law_6 {nm : String} {G : Nat → Nat} {x0 m0 : Nat} {adm : Nat → Nat} {h : AH} {k kc ks : Nat} {post : Option Value → AH → Prop} (hS : Stt G x0 m0 adm h) (hk : 5 * k + 5 ≤ G 5) (hn : G 5 ≤ 100000) (kk : ∀ h3, Stt G x0 m0 adm h3 → J (Y_L_law nm) 21 G kc ks 963 [some (.ref (G 4)), some (.ref x0), some (.ref m0), some (.int (nI (5 * k)))] [] h3 post) : J (Y_L_law nm) 21 G (kc + 90) (ks + 14100) 386 [some (.ref (G 4)), some (.ref x0), some (.ref m0), some (.int (nI (5 * k)))] [] h post := by
  refine J.aload_n 387 dL_law_386 rfl rfl ?_
  obtain ⟨S, X, L, wn, sl, fl, ad, hM, hK, ha, hI⟩ := hS
  have tw : Two G x0 m0 adm Y_X11_rule Y_X12_rule [] h := t_rule hM hK ha hI
  obtain ⟨v, mc, ms, hmc, hms, ct⟩ := tw
  refine cv_L_39 rfl 390 ct dL_law_387 rfl (by rw [← ha]; exact hK.hut) rfl rfl (Nat.le_of_ble_eq_true rfl) (by omega) (by omega) (fun r h2 hp => ?_)
  obtain ⟨rfl, ⟨fs2, hm0⟩, ct2⟩ := hp
  refine J.aload_n 391 dL_law_390 rfl rfl ?_
  refine cv_L_43 rfl 394 ct2 dL_law_391 rfl hm0 rfl rfl (Nat.le_of_ble_eq_true rfl) (Nat.zero_le _) (Nat.zero_le _) (fun r2 h3 hp => ?_)
  obtain ⟨rfl, hS3⟩ := hp
  refine J.icmp_eq 963 397 dL_law_394 (by decide) rfl (fun _ => ?_) (fun c => absurd rfl c)
  exact J.room (by omega) (by omega) (kk h3 hS3)
theorem law_7 {nm : String} {G : Nat → Nat} {x0 m0 : Nat} {adm : Nat → Nat} {h : AH} {k kc ks : Nat} {post : Option Value → AH → Prop} (hS : Stt G x0 m0 adm h) (hk : 5 * k + 5 ≤ G 5) (hn : G 5 ≤ 100000) (kk : ∀ h3, Stt G x0 m0 adm h3 → J (Y_L_law nm) 21 G kc ks 963 [some (.ref (G 4)), some (.ref x0), some (.ref m0), some (.int (nI (5 * k)))] [] h3 post) : J (Y_L_law nm) 21 G (kc + 90) (ks + 14100) 399 [some (.ref (G 4)), some (.ref x0), some (.ref m0), some (.int (nI (5 * k)))] [] h post := by
  refine J.aload_n 400 dL_law_399 rfl rfl ?_
  obtain ⟨S, X, L, wn, sl, fl, ad, hM, hK, ha, hI⟩ := hS
  have tw : Two G x0 m0 adm Y_X11_drop Y_X12_drop [] h := t_drop hM hK ha hI
  obtain ⟨v, mc, ms, hmc, hms, ct⟩ := tw
  refine cv_L_44 rfl 403 ct dL_law_400 rfl (by rw [← ha]; exact hK.hut) rfl rfl (Nat.le_of_ble_eq_true rfl) (by omega) (by omega) (fun r h2 hp => ?_)
  obtain ⟨rfl, ⟨fs2, hm0⟩, ct2⟩ := hp
  refine J.aload_n 404 dL_law_403 rfl rfl ?_
  refine cv_L_47 rfl 407 ct2 dL_law_404 rfl hm0 rfl rfl (Nat.le_of_ble_eq_true rfl) (Nat.zero_le _) (Nat.zero_le _) (fun r2 h3 hp => ?_)
  obtain ⟨rfl, hS3⟩ := hp
  refine J.icmp_eq 963 410 dL_law_407 (by decide) rfl (fun _ => ?_) (fun c => absurd rfl c)
  exact J.room (by omega) (by omega) (kk h3 hS3)
theorem law_8 {nm : String} {G : Nat → Nat} {x0 m0 : Nat} {adm : Nat → Nat} {h : AH} {k kc ks : Nat} {post : Option Value → AH → Prop} (hS : Stt G x0 m0 adm h) (hk : 5 * k + 5 ≤ G 5) (hn : G 5 ≤ 100000) (kk : ∀ h3, Stt G x0 m0 adm h3 → J (Y_L_law nm) 21 G kc ks 963 [some (.ref (G 4)), some (.ref x0), some (.ref m0), some (.int (nI (5 * k)))] [] h3 post) : J (Y_L_law nm) 21 G (kc + 90) (ks + 14100) 412 [some (.ref (G 4)), some (.ref x0), some (.ref m0), some (.int (nI (5 * k)))] [] h post := by
  refine J.aload_n 413 dL_law_412 rfl rfl ?_
  refine J.aload_n 414 dL_law_413 rfl rfl ?_
  refine J.iload_n 415 dL_law_414 rfl rfl ?_
  refine J.iconst 1 416 dL_law_415 rfl (by decide) ?_
  refine J.iadd 417 dL_law_416 rfl ?_
  refine J.sld (sc_in (c := 1) rfl (by omega) hn) 418 dL_law_417 rfl ?_
  refine J.aload_n 419 dL_law_418 rfl rfl ?_
  refine J.iload_n 420 dL_law_419 rfl rfl ?_
  refine J.iconst 2 421 dL_law_420 rfl (by decide) ?_
  refine J.iadd 422 dL_law_421 rfl ?_
  refine J.sld (sc_in (c := 2) rfl (by omega) hn) 423 dL_law_422 rfl ?_
  refine J.aload_n 424 dL_law_423 rfl rfl ?_
  refine J.iload_n 425 dL_law_424 rfl rfl ?_
  refine J.iconst 3 426 dL_law_425 rfl (by decide) ?_
  refine J.iadd 427 dL_law_426 rfl ?_
  refine J.sld (sc_in (c := 3) rfl (by omega) hn) 428 dL_law_427 rfl ?_
  refine J.aload_n 429 dL_law_428 rfl rfl ?_
  refine J.iload_n 430 dL_law_429 rfl rfl ?_
  refine J.iconst 4 431 dL_law_430 rfl (by decide) ?_
  refine J.iadd 432 dL_law_431 rfl ?_
  refine J.sld (sc_in (c := 4) rfl (by omega) hn) 433 dL_law_432 rfl ?_
  obtain ⟨S, X, L, wn, sl, fl, ad, hM, hK, ha, hI⟩ := hS
  have tw : Two G x0 m0 adm Y_X11_says Y_X12_says [.int (Int32.ofNat (G (6 + (nI (5 * k) + 1).toNatClampNeg))), .int (Int32.ofNat (G (6 + (nI (5 * k) + 2).toNatClampNeg))), .int (Int32.ofNat (G (6 + (nI (5 * k) + 3).toNatClampNeg))), .int (Int32.ofNat (G (6 + (nI (5 * k) + 4).toNatClampNeg)))] h := t_says hM hK ha hI
  obtain ⟨v, mc, ms, hmc, hms, ct⟩ := tw
  refine cv_L_48 rfl 436 ct dL_law_433 rfl (by rw [← ha]; exact hK.hut) rfl rfl (Nat.le_of_ble_eq_true rfl) (by omega) (by omega) (fun r h2 hp => ?_)
  obtain ⟨rfl, ⟨fs2, hm0⟩, ct2⟩ := hp
  refine J.aload_n 437 dL_law_436 rfl rfl ?_
  refine J.aload_n 438 dL_law_437 rfl rfl ?_
  refine J.iload_n 439 dL_law_438 rfl rfl ?_
  refine J.iconst 1 440 dL_law_439 rfl (by decide) ?_
  refine J.iadd 441 dL_law_440 rfl ?_
  refine J.sld (sc_in (c := 1) rfl (by omega) hn) 442 dL_law_441 rfl ?_
  refine J.aload_n 443 dL_law_442 rfl rfl ?_
  refine J.iload_n 444 dL_law_443 rfl rfl ?_
  refine J.iconst 2 445 dL_law_444 rfl (by decide) ?_
  refine J.iadd 446 dL_law_445 rfl ?_
  refine J.sld (sc_in (c := 2) rfl (by omega) hn) 447 dL_law_446 rfl ?_
  refine J.aload_n 448 dL_law_447 rfl rfl ?_
  refine J.iload_n 449 dL_law_448 rfl rfl ?_
  refine J.iconst 3 450 dL_law_449 rfl (by decide) ?_
  refine J.iadd 451 dL_law_450 rfl ?_
  refine J.sld (sc_in (c := 3) rfl (by omega) hn) 452 dL_law_451 rfl ?_
  refine J.aload_n 453 dL_law_452 rfl rfl ?_
  refine J.iload_n 454 dL_law_453 rfl rfl ?_
  refine J.iconst 4 455 dL_law_454 rfl (by decide) ?_
  refine J.iadd 456 dL_law_455 rfl ?_
  refine J.sld (sc_in (c := 4) rfl (by omega) hn) 457 dL_law_456 rfl ?_
  refine cv_L_51 rfl 460 ct2 dL_law_457 rfl hm0 rfl rfl (Nat.le_of_ble_eq_true rfl) (Nat.zero_le _) (Nat.zero_le _) (fun r2 h3 hp => ?_)
  obtain ⟨rfl, hS3⟩ := hp
  refine J.icmp_eq 963 463 dL_law_460 (by decide) rfl (fun _ => ?_) (fun c => absurd rfl c)
  exact J.room (by omega) (by omega) (kk h3 hS3)
theorem law_9 {nm : String} {G : Nat → Nat} {x0 m0 : Nat} {adm : Nat → Nat} {h : AH} {k kc ks : Nat} {post : Option Value → AH → Prop} (hS : Stt G x0 m0 adm h) (hk : 5 * k + 5 ≤ G 5) (hn : G 5 ≤ 100000) (kk : ∀ h3, Stt G x0 m0 adm h3 → J (Y_L_law nm) 21 G kc ks 963 [some (.ref (G 4)), some (.ref x0), some (.ref m0), some (.int (nI (5 * k)))] [] h3 post) : J (Y_L_law nm) 21 G (kc + 90) (ks + 14100) 465 [some (.ref (G 4)), some (.ref x0), some (.ref m0), some (.int (nI (5 * k)))] [] h post := by
  refine J.aload_n 466 dL_law_465 rfl rfl ?_
  refine J.aload_n 467 dL_law_466 rfl rfl ?_
  refine J.iload_n 468 dL_law_467 rfl rfl ?_
  refine J.iconst 1 469 dL_law_468 rfl (by decide) ?_
  refine J.iadd 470 dL_law_469 rfl ?_
  refine J.sld (sc_in (c := 1) rfl (by omega) hn) 471 dL_law_470 rfl ?_
  refine J.aload_n 472 dL_law_471 rfl rfl ?_
  refine J.iload_n 473 dL_law_472 rfl rfl ?_
  refine J.iconst 2 474 dL_law_473 rfl (by decide) ?_
  refine J.iadd 475 dL_law_474 rfl ?_
  refine J.sld (sc_in (c := 2) rfl (by omega) hn) 476 dL_law_475 rfl ?_
  obtain ⟨S, X, L, wn, sl, fl, ad, hM, hK, ha, hI⟩ := hS
  have tw : Two G x0 m0 adm Y_X11_hang Y_X12_hang [.int (Int32.ofNat (G (6 + (nI (5 * k) + 1).toNatClampNeg))), .int (Int32.ofNat (G (6 + (nI (5 * k) + 2).toNatClampNeg)))] h := t_hang hM hK ha hI
  obtain ⟨v, mc, ms, hmc, hms, ct⟩ := tw
  refine cv_L_52 rfl 479 ct dL_law_476 rfl (by rw [← ha]; exact hK.hut) rfl rfl (Nat.le_of_ble_eq_true rfl) (by omega) (by omega) (fun r h2 hp => ?_)
  obtain ⟨rfl, ⟨fs2, hm0⟩, ct2⟩ := hp
  refine J.aload_n 480 dL_law_479 rfl rfl ?_
  refine J.aload_n 481 dL_law_480 rfl rfl ?_
  refine J.iload_n 482 dL_law_481 rfl rfl ?_
  refine J.iconst 1 483 dL_law_482 rfl (by decide) ?_
  refine J.iadd 484 dL_law_483 rfl ?_
  refine J.sld (sc_in (c := 1) rfl (by omega) hn) 485 dL_law_484 rfl ?_
  refine J.aload_n 486 dL_law_485 rfl rfl ?_
  refine J.iload_n 487 dL_law_486 rfl rfl ?_
  refine J.iconst 2 488 dL_law_487 rfl (by decide) ?_
  refine J.iadd 489 dL_law_488 rfl ?_
  refine J.sld (sc_in (c := 2) rfl (by omega) hn) 490 dL_law_489 rfl ?_
  refine cv_L_55 rfl 493 ct2 dL_law_490 rfl hm0 rfl rfl (Nat.le_of_ble_eq_true rfl) (Nat.zero_le _) (Nat.zero_le _) (fun r2 h3 hp => ?_)
  obtain ⟨rfl, hS3⟩ := hp
  refine J.icmp_eq 963 496 dL_law_493 (by decide) rfl (fun _ => ?_) (fun c => absurd rfl c)
  exact J.room (by omega) (by omega) (kk h3 hS3)
theorem law_10 {nm : String} {G : Nat → Nat} {x0 m0 : Nat} {adm : Nat → Nat} {h : AH} {k kc ks : Nat} {post : Option Value → AH → Prop} (hS : Stt G x0 m0 adm h) (hk : 5 * k + 5 ≤ G 5) (hn : G 5 ≤ 100000) (kk : ∀ h3, Stt G x0 m0 adm h3 → J (Y_L_law nm) 21 G kc ks 963 [some (.ref (G 4)), some (.ref x0), some (.ref m0), some (.int (nI (5 * k)))] [] h3 post) : J (Y_L_law nm) 21 G (kc + 90) (ks + 14100) 498 [some (.ref (G 4)), some (.ref x0), some (.ref m0), some (.int (nI (5 * k)))] [] h post := by
  refine J.aload_n 499 dL_law_498 rfl rfl ?_
  refine J.aload_n 500 dL_law_499 rfl rfl ?_
  refine J.iload_n 501 dL_law_500 rfl rfl ?_
  refine J.iconst 1 502 dL_law_501 rfl (by decide) ?_
  refine J.iadd 503 dL_law_502 rfl ?_
  refine J.sld (sc_in (c := 1) rfl (by omega) hn) 504 dL_law_503 rfl ?_
  obtain ⟨S, X, L, wn, sl, fl, ad, hM, hK, ha, hI⟩ := hS
  have tw : Two G x0 m0 adm Y_X11_off Y_X12_off [.int (Int32.ofNat (G (6 + (nI (5 * k) + 1).toNatClampNeg)))] h := t_off hM hK ha hI
  obtain ⟨v, mc, ms, hmc, hms, ct⟩ := tw
  refine cv_L_56 rfl 507 ct dL_law_504 rfl (by rw [← ha]; exact hK.hut) rfl rfl (Nat.le_of_ble_eq_true rfl) (by omega) (by omega) (fun r h2 hp => ?_)
  obtain ⟨rfl, ⟨fs2, hm0⟩, ct2⟩ := hp
  refine J.aload_n 508 dL_law_507 rfl rfl ?_
  refine J.aload_n 509 dL_law_508 rfl rfl ?_
  refine J.iload_n 510 dL_law_509 rfl rfl ?_
  refine J.iconst 1 511 dL_law_510 rfl (by decide) ?_
  refine J.iadd 512 dL_law_511 rfl ?_
  refine J.sld (sc_in (c := 1) rfl (by omega) hn) 513 dL_law_512 rfl ?_
  refine cv_L_60 rfl 516 ct2 dL_law_513 rfl hm0 rfl rfl (Nat.le_of_ble_eq_true rfl) (Nat.zero_le _) (Nat.zero_le _) (fun r2 h3 hp => ?_)
  obtain ⟨rfl, hS3⟩ := hp
  refine J.icmp_eq 963 519 dL_law_516 (by decide) rfl (fun _ => ?_) (fun c => absurd rfl c)
  exact J.room (by omega) (by omega) (kk h3 hS3)
theorem law_11 {nm : String} {G : Nat → Nat} {x0 m0 : Nat} {adm : Nat → Nat} {h : AH} {k kc ks : Nat} {post : Option Value → AH → Prop} (hS : Stt G x0 m0 adm h) (hk : 5 * k + 5 ≤ G 5) (hn : G 5 ≤ 100000) (kk : ∀ h3, Stt G x0 m0 adm h3 → J (Y_L_law nm) 21 G kc ks 963 [some (.ref (G 4)), some (.ref x0), some (.ref m0), some (.int (nI (5 * k)))] [] h3 post) : J (Y_L_law nm) 21 G (kc + 90) (ks + 14100) 521 [some (.ref (G 4)), some (.ref x0), some (.ref m0), some (.int (nI (5 * k)))] [] h post := by
  refine J.aload_n 522 dL_law_521 rfl rfl ?_
  refine J.aload_n 523 dL_law_522 rfl rfl ?_
  refine J.iload_n 524 dL_law_523 rfl rfl ?_
  refine J.iconst 1 525 dL_law_524 rfl (by decide) ?_
  refine J.iadd 526 dL_law_525 rfl ?_
  refine J.sld (sc_in (c := 1) rfl (by omega) hn) 527 dL_law_526 rfl ?_
  refine J.aload_n 528 dL_law_527 rfl rfl ?_
  refine J.iload_n 529 dL_law_528 rfl rfl ?_
  refine J.iconst 2 530 dL_law_529 rfl (by decide) ?_
  refine J.iadd 531 dL_law_530 rfl ?_
  refine J.sld (sc_in (c := 2) rfl (by omega) hn) 532 dL_law_531 rfl ?_
  refine J.aload_n 533 dL_law_532 rfl rfl ?_
  refine J.iload_n 534 dL_law_533 rfl rfl ?_
  refine J.iconst 3 535 dL_law_534 rfl (by decide) ?_
  refine J.iadd 536 dL_law_535 rfl ?_
  refine J.sld (sc_in (c := 3) rfl (by omega) hn) 537 dL_law_536 rfl ?_
  obtain ⟨S, X, L, wn, sl, fl, ad, hM, hK, ha, hI⟩ := hS
  have tw : Two G x0 m0 adm Y_X11_may Y_X12_may [.int (Int32.ofNat (G (6 + (nI (5 * k) + 1).toNatClampNeg))), .int (Int32.ofNat (G (6 + (nI (5 * k) + 2).toNatClampNeg))), .int (Int32.ofNat (G (6 + (nI (5 * k) + 3).toNatClampNeg)))] h := t_may hM hK ha hI
  obtain ⟨v, mc, ms, hmc, hms, ct⟩ := tw
  refine cv_L_61 rfl 540 ct dL_law_537 rfl (by rw [← ha]; exact hK.hut) rfl rfl (Nat.le_of_ble_eq_true rfl) (by omega) (by omega) (fun r h2 hp => ?_)
  obtain ⟨rfl, ⟨fs2, hm0⟩, ct2⟩ := hp
  refine J.aload_n 541 dL_law_540 rfl rfl ?_
  refine J.aload_n 542 dL_law_541 rfl rfl ?_
  refine J.iload_n 543 dL_law_542 rfl rfl ?_
  refine J.iconst 1 544 dL_law_543 rfl (by decide) ?_
  refine J.iadd 545 dL_law_544 rfl ?_
  refine J.sld (sc_in (c := 1) rfl (by omega) hn) 546 dL_law_545 rfl ?_
  refine J.aload_n 547 dL_law_546 rfl rfl ?_
  refine J.iload_n 548 dL_law_547 rfl rfl ?_
  refine J.iconst 2 549 dL_law_548 rfl (by decide) ?_
  refine J.iadd 550 dL_law_549 rfl ?_
  refine J.sld (sc_in (c := 2) rfl (by omega) hn) 551 dL_law_550 rfl ?_
  refine J.aload_n 552 dL_law_551 rfl rfl ?_
  refine J.iload_n 553 dL_law_552 rfl rfl ?_
  refine J.iconst 3 554 dL_law_553 rfl (by decide) ?_
  refine J.iadd 555 dL_law_554 rfl ?_
  refine J.sld (sc_in (c := 3) rfl (by omega) hn) 556 dL_law_555 rfl ?_
  refine cv_L_65 rfl 559 ct2 dL_law_556 rfl hm0 rfl rfl (Nat.le_of_ble_eq_true rfl) (Nat.zero_le _) (Nat.zero_le _) (fun r2 h3 hp => ?_)
  obtain ⟨rfl, hS3⟩ := hp
  refine J.icmp_eq 963 562 dL_law_559 (by decide) rfl (fun _ => ?_) (fun c => absurd rfl c)
  exact J.room (by omega) (by omega) (kk h3 hS3)
theorem law_12 {nm : String} {G : Nat → Nat} {x0 m0 : Nat} {adm : Nat → Nat} {h : AH} {k kc ks : Nat} {post : Option Value → AH → Prop} (hS : Stt G x0 m0 adm h) (hk : 5 * k + 5 ≤ G 5) (hn : G 5 ≤ 100000) (kk : ∀ h3, Stt G x0 m0 adm h3 → J (Y_L_law nm) 21 G kc ks 963 [some (.ref (G 4)), some (.ref x0), some (.ref m0), some (.int (nI (5 * k)))] [] h3 post) : J (Y_L_law nm) 21 G (kc + 90) (ks + 14100) 564 [some (.ref (G 4)), some (.ref x0), some (.ref m0), some (.int (nI (5 * k)))] [] h post := by
  refine J.aload_n 565 dL_law_564 rfl rfl ?_
  refine J.aload_n 566 dL_law_565 rfl rfl ?_
  refine J.iload_n 567 dL_law_566 rfl rfl ?_
  refine J.iconst 1 568 dL_law_567 rfl (by decide) ?_
  refine J.iadd 569 dL_law_568 rfl ?_
  refine J.sld (sc_in (c := 1) rfl (by omega) hn) 570 dL_law_569 rfl ?_
  refine J.aload_n 571 dL_law_570 rfl rfl ?_
  refine J.iload_n 572 dL_law_571 rfl rfl ?_
  refine J.iconst 2 573 dL_law_572 rfl (by decide) ?_
  refine J.iadd 574 dL_law_573 rfl ?_
  refine J.sld (sc_in (c := 2) rfl (by omega) hn) 575 dL_law_574 rfl ?_
  refine J.aload_n 576 dL_law_575 rfl rfl ?_
  refine J.iload_n 577 dL_law_576 rfl rfl ?_
  refine J.iconst 3 578 dL_law_577 rfl (by decide) ?_
  refine J.iadd 579 dL_law_578 rfl ?_
  refine J.sld (sc_in (c := 3) rfl (by omega) hn) 580 dL_law_579 rfl ?_
  obtain ⟨S, X, L, wn, sl, fl, ad, hM, hK, ha, hI⟩ := hS
  have tw : Two G x0 m0 adm Y_X11_fly Y_X12_fly [.int (Int32.ofNat (G (6 + (nI (5 * k) + 1).toNatClampNeg))), .int (Int32.ofNat (G (6 + (nI (5 * k) + 2).toNatClampNeg))), .int (Int32.ofNat (G (6 + (nI (5 * k) + 3).toNatClampNeg)))] h := t_fly hM hK ha hI
  obtain ⟨v, mc, ms, hmc, hms, ct⟩ := tw
  refine cv_L_66 rfl 583 ct dL_law_580 rfl (by rw [← ha]; exact hK.hut) rfl rfl (Nat.le_of_ble_eq_true rfl) (by omega) (by omega) (fun r h2 hp => ?_)
  obtain ⟨rfl, ⟨fs2, hm0⟩, ct2⟩ := hp
  refine J.aload_n 584 dL_law_583 rfl rfl ?_
  refine J.aload_n 585 dL_law_584 rfl rfl ?_
  refine J.iload_n 586 dL_law_585 rfl rfl ?_
  refine J.iconst 1 587 dL_law_586 rfl (by decide) ?_
  refine J.iadd 588 dL_law_587 rfl ?_
  refine J.sld (sc_in (c := 1) rfl (by omega) hn) 589 dL_law_588 rfl ?_
  refine J.aload_n 590 dL_law_589 rfl rfl ?_
  refine J.iload_n 591 dL_law_590 rfl rfl ?_
  refine J.iconst 2 592 dL_law_591 rfl (by decide) ?_
  refine J.iadd 593 dL_law_592 rfl ?_
  refine J.sld (sc_in (c := 2) rfl (by omega) hn) 594 dL_law_593 rfl ?_
  refine J.aload_n 595 dL_law_594 rfl rfl ?_
  refine J.iload_n 596 dL_law_595 rfl rfl ?_
  refine J.iconst 3 597 dL_law_596 rfl (by decide) ?_
  refine J.iadd 598 dL_law_597 rfl ?_
  refine J.sld (sc_in (c := 3) rfl (by omega) hn) 599 dL_law_598 rfl ?_
  refine cv_L_69 rfl 602 ct2 dL_law_599 rfl hm0 rfl rfl (Nat.le_of_ble_eq_true rfl) (Nat.zero_le _) (Nat.zero_le _) (fun r2 h3 hp => ?_)
  obtain ⟨rfl, hS3⟩ := hp
  refine J.icmp_eq 963 605 dL_law_602 (by decide) rfl (fun _ => ?_) (fun c => absurd rfl c)
  exact J.room (by omega) (by omega) (kk h3 hS3)
theorem law_13 {nm : String} {G : Nat → Nat} {x0 m0 : Nat} {adm : Nat → Nat} {h : AH} {k kc ks : Nat} {post : Option Value → AH → Prop} (hS : Stt G x0 m0 adm h) (hk : 5 * k + 5 ≤ G 5) (hn : G 5 ≤ 100000) (kk : ∀ h3, Stt G x0 m0 adm h3 → J (Y_L_law nm) 21 G kc ks 963 [some (.ref (G 4)), some (.ref x0), some (.ref m0), some (.int (nI (5 * k)))] [] h3 post) : J (Y_L_law nm) 21 G (kc + 90) (ks + 14100) 607 [some (.ref (G 4)), some (.ref x0), some (.ref m0), some (.int (nI (5 * k)))] [] h post := by
  refine J.aload_n 608 dL_law_607 rfl rfl ?_
  refine J.aload_n 609 dL_law_608 rfl rfl ?_
  refine J.iload_n 610 dL_law_609 rfl rfl ?_
  refine J.iconst 1 611 dL_law_610 rfl (by decide) ?_
  refine J.iadd 612 dL_law_611 rfl ?_
  refine J.sld (sc_in (c := 1) rfl (by omega) hn) 613 dL_law_612 rfl ?_
  obtain ⟨S, X, L, wn, sl, fl, ad, hM, hK, ha, hI⟩ := hS
  have tw : Two G x0 m0 adm Y_X11_fuel Y_X12_fuel [.int (Int32.ofNat (G (6 + (nI (5 * k) + 1).toNatClampNeg)))] h := t_fuel hM hK ha hI
  obtain ⟨v, mc, ms, hmc, hms, ct⟩ := tw
  refine cv_L_70 rfl 616 ct dL_law_613 rfl (by rw [← ha]; exact hK.hut) rfl rfl (Nat.le_of_ble_eq_true rfl) (by omega) (by omega) (fun r h2 hp => ?_)
  obtain ⟨rfl, ⟨fs2, hm0⟩, ct2⟩ := hp
  refine J.aload_n 617 dL_law_616 rfl rfl ?_
  refine J.aload_n 618 dL_law_617 rfl rfl ?_
  refine J.iload_n 619 dL_law_618 rfl rfl ?_
  refine J.iconst 1 620 dL_law_619 rfl (by decide) ?_
  refine J.iadd 621 dL_law_620 rfl ?_
  refine J.sld (sc_in (c := 1) rfl (by omega) hn) 622 dL_law_621 rfl ?_
  refine cv_L_73 rfl 625 ct2 dL_law_622 rfl hm0 rfl rfl (Nat.le_of_ble_eq_true rfl) (Nat.zero_le _) (Nat.zero_le _) (fun r2 h3 hp => ?_)
  obtain ⟨rfl, hS3⟩ := hp
  refine J.icmp_eq 963 628 dL_law_625 (by decide) rfl (fun _ => ?_) (fun c => absurd rfl c)
  exact J.room (by omega) (by omega) (kk h3 hS3)
theorem law_14 {nm : String} {G : Nat → Nat} {x0 m0 : Nat} {adm : Nat → Nat} {h : AH} {k kc ks : Nat} {post : Option Value → AH → Prop} (hS : Stt G x0 m0 adm h) (hk : 5 * k + 5 ≤ G 5) (hn : G 5 ≤ 100000) (kk : ∀ h3, Stt G x0 m0 adm h3 → J (Y_L_law nm) 21 G kc ks 963 [some (.ref (G 4)), some (.ref x0), some (.ref m0), some (.int (nI (5 * k)))] [] h3 post) : J (Y_L_law nm) 21 G (kc + 90) (ks + 14100) 630 [some (.ref (G 4)), some (.ref x0), some (.ref m0), some (.int (nI (5 * k)))] [] h post := by
  refine J.aload_n 631 dL_law_630 rfl rfl ?_
  refine J.aload_n 632 dL_law_631 rfl rfl ?_
  refine J.iload_n 633 dL_law_632 rfl rfl ?_
  refine J.iconst 1 634 dL_law_633 rfl (by decide) ?_
  refine J.iadd 635 dL_law_634 rfl ?_
  refine J.sld (sc_in (c := 1) rfl (by omega) hn) 636 dL_law_635 rfl ?_
  obtain ⟨S, X, L, wn, sl, fl, ad, hM, hK, ha, hI⟩ := hS
  have tw : Two G x0 m0 adm Y_X11_minute Y_X12_minute [.int (Int32.ofNat (G (6 + (nI (5 * k) + 1).toNatClampNeg)))] h := t_minute hM hK ha hI
  obtain ⟨v, mc, ms, hmc, hms, ct⟩ := tw
  refine cv_L_74 rfl 639 ct dL_law_636 rfl (by rw [← ha]; exact hK.hut) rfl rfl (Nat.le_of_ble_eq_true rfl) (by omega) (by omega) (fun r h2 hp => ?_)
  obtain ⟨rfl, ⟨fs2, hm0⟩, ct2⟩ := hp
  refine J.aload_n 640 dL_law_639 rfl rfl ?_
  refine J.aload_n 641 dL_law_640 rfl rfl ?_
  refine J.iload_n 642 dL_law_641 rfl rfl ?_
  refine J.iconst 1 643 dL_law_642 rfl (by decide) ?_
  refine J.iadd 644 dL_law_643 rfl ?_
  refine J.sld (sc_in (c := 1) rfl (by omega) hn) 645 dL_law_644 rfl ?_
  refine cv_L_77 rfl 648 ct2 dL_law_645 rfl hm0 rfl rfl (Nat.le_of_ble_eq_true rfl) (Nat.zero_le _) (Nat.zero_le _) (fun r2 h3 hp => ?_)
  obtain ⟨rfl, hS3⟩ := hp
  refine J.icmp_eq 963 651 dL_law_648 (by decide) rfl (fun _ => ?_) (fun c => absurd rfl c)
  exact J.room (by omega) (by omega) (kk h3 hS3)
theorem law_15 {nm : String} {G : Nat → Nat} {x0 m0 : Nat} {adm : Nat → Nat} {h : AH} {k kc ks : Nat} {post : Option Value → AH → Prop} (hS : Stt G x0 m0 adm h) (hk : 5 * k + 5 ≤ G 5) (hn : G 5 ≤ 100000) (kk : ∀ h3, Stt G x0 m0 adm h3 → J (Y_L_law nm) 21 G kc ks 963 [some (.ref (G 4)), some (.ref x0), some (.ref m0), some (.int (nI (5 * k)))] [] h3 post) : J (Y_L_law nm) 21 G (kc + 90) (ks + 14100) 653 [some (.ref (G 4)), some (.ref x0), some (.ref m0), some (.int (nI (5 * k)))] [] h post := by
  refine J.aload_n 654 dL_law_653 rfl rfl ?_
  refine J.aload_n 655 dL_law_654 rfl rfl ?_
  refine J.iload_n 656 dL_law_655 rfl rfl ?_
  refine J.iconst 1 657 dL_law_656 rfl (by decide) ?_
  refine J.iadd 658 dL_law_657 rfl ?_
  refine J.sld (sc_in (c := 1) rfl (by omega) hn) 659 dL_law_658 rfl ?_
  refine J.aload_n 660 dL_law_659 rfl rfl ?_
  refine J.iload_n 661 dL_law_660 rfl rfl ?_
  refine J.iconst 2 662 dL_law_661 rfl (by decide) ?_
  refine J.iadd 663 dL_law_662 rfl ?_
  refine J.sld (sc_in (c := 2) rfl (by omega) hn) 664 dL_law_663 rfl ?_
  obtain ⟨S, X, L, wn, sl, fl, ad, hM, hK, ha, hI⟩ := hS
  have tw : Two G x0 m0 adm Y_X11_about Y_X12_about [.int (Int32.ofNat (G (6 + (nI (5 * k) + 1).toNatClampNeg))), .int (Int32.ofNat (G (6 + (nI (5 * k) + 2).toNatClampNeg)))] h := t_about hM hK ha hI
  obtain ⟨v, mc, ms, hmc, hms, ct⟩ := tw
  refine cv_L_78 rfl 667 ct dL_law_664 rfl (by rw [← ha]; exact hK.hut) rfl rfl (Nat.le_of_ble_eq_true rfl) (by omega) (by omega) (fun r h2 hp => ?_)
  obtain ⟨rfl, ⟨fs2, hm0⟩, ct2⟩ := hp
  refine J.aload_n 668 dL_law_667 rfl rfl ?_
  refine J.aload_n 669 dL_law_668 rfl rfl ?_
  refine J.iload_n 670 dL_law_669 rfl rfl ?_
  refine J.iconst 1 671 dL_law_670 rfl (by decide) ?_
  refine J.iadd 672 dL_law_671 rfl ?_
  refine J.sld (sc_in (c := 1) rfl (by omega) hn) 673 dL_law_672 rfl ?_
  refine J.aload_n 674 dL_law_673 rfl rfl ?_
  refine J.iload_n 675 dL_law_674 rfl rfl ?_
  refine J.iconst 2 676 dL_law_675 rfl (by decide) ?_
  refine J.iadd 677 dL_law_676 rfl ?_
  refine J.sld (sc_in (c := 2) rfl (by omega) hn) 678 dL_law_677 rfl ?_
  refine cv_L_81 rfl 681 ct2 dL_law_678 rfl hm0 rfl rfl (Nat.le_of_ble_eq_true rfl) (Nat.zero_le _) (Nat.zero_le _) (fun r2 h3 hp => ?_)
  obtain ⟨rfl, hS3⟩ := hp
  refine J.icmp_eq 963 684 dL_law_681 (by decide) rfl (fun _ => ?_) (fun c => absurd rfl c)
  exact J.room (by omega) (by omega) (kk h3 hS3)
theorem law_16 {nm : String} {G : Nat → Nat} {x0 m0 : Nat} {adm : Nat → Nat} {h : AH} {k kc ks : Nat} {post : Option Value → AH → Prop} (hS : Stt G x0 m0 adm h) (hk : 5 * k + 5 ≤ G 5) (hn : G 5 ≤ 100000) (kk : ∀ h3, Stt G x0 m0 adm h3 → J (Y_L_law nm) 21 G kc ks 963 [some (.ref (G 4)), some (.ref x0), some (.ref m0), some (.int (nI (5 * k)))] [] h3 post) : J (Y_L_law nm) 21 G (kc + 90) (ks + 14100) 686 [some (.ref (G 4)), some (.ref x0), some (.ref m0), some (.int (nI (5 * k)))] [] h post := by
  refine J.aload_n 687 dL_law_686 rfl rfl ?_
  refine J.aload_n 688 dL_law_687 rfl rfl ?_
  refine J.iload_n 689 dL_law_688 rfl rfl ?_
  refine J.iconst 1 690 dL_law_689 rfl (by decide) ?_
  refine J.iadd 691 dL_law_690 rfl ?_
  refine J.sld (sc_in (c := 1) rfl (by omega) hn) 692 dL_law_691 rfl ?_
  refine J.aload_n 693 dL_law_692 rfl rfl ?_
  refine J.iload_n 694 dL_law_693 rfl rfl ?_
  refine J.iconst 2 695 dL_law_694 rfl (by decide) ?_
  refine J.iadd 696 dL_law_695 rfl ?_
  refine J.sld (sc_in (c := 2) rfl (by omega) hn) 697 dL_law_696 rfl ?_
  obtain ⟨S, X, L, wn, sl, fl, ad, hM, hK, ha, hI⟩ := hS
  have tw : Two G x0 m0 adm Y_X11_pilotOf Y_X12_pilotOf [.int (Int32.ofNat (G (6 + (nI (5 * k) + 1).toNatClampNeg))), .int (Int32.ofNat (G (6 + (nI (5 * k) + 2).toNatClampNeg)))] h := t_pilotOf hM hK ha hI
  obtain ⟨v, mc, ms, hmc, hms, ct⟩ := tw
  refine cv_L_82 rfl 700 ct dL_law_697 rfl (by rw [← ha]; exact hK.hut) rfl rfl (Nat.le_of_ble_eq_true rfl) (by omega) (by omega) (fun r h2 hp => ?_)
  obtain ⟨rfl, ⟨fs2, hm0⟩, ct2⟩ := hp
  refine J.aload_n 701 dL_law_700 rfl rfl ?_
  refine J.aload_n 702 dL_law_701 rfl rfl ?_
  refine J.iload_n 703 dL_law_702 rfl rfl ?_
  refine J.iconst 1 704 dL_law_703 rfl (by decide) ?_
  refine J.iadd 705 dL_law_704 rfl ?_
  refine J.sld (sc_in (c := 1) rfl (by omega) hn) 706 dL_law_705 rfl ?_
  refine J.aload_n 707 dL_law_706 rfl rfl ?_
  refine J.iload_n 708 dL_law_707 rfl rfl ?_
  refine J.iconst 2 709 dL_law_708 rfl (by decide) ?_
  refine J.iadd 710 dL_law_709 rfl ?_
  refine J.sld (sc_in (c := 2) rfl (by omega) hn) 711 dL_law_710 rfl ?_
  refine cv_L_85 rfl 714 ct2 dL_law_711 rfl hm0 rfl rfl (Nat.le_of_ble_eq_true rfl) (Nat.zero_le _) (Nat.zero_le _) (fun r2 h3 hp => ?_)
  obtain ⟨rfl, hS3⟩ := hp
  refine J.icmp_eq 963 717 dL_law_714 (by decide) rfl (fun _ => ?_) (fun c => absurd rfl c)
  exact J.room (by omega) (by omega) (kk h3 hS3)
theorem law_17 {nm : String} {G : Nat → Nat} {x0 m0 : Nat} {adm : Nat → Nat} {h : AH} {k kc ks : Nat} {post : Option Value → AH → Prop} (hS : Stt G x0 m0 adm h) (hk : 5 * k + 5 ≤ G 5) (hn : G 5 ≤ 100000) (kk : ∀ h3, Stt G x0 m0 adm h3 → J (Y_L_law nm) 21 G kc ks 963 [some (.ref (G 4)), some (.ref x0), some (.ref m0), some (.int (nI (5 * k)))] [] h3 post) : J (Y_L_law nm) 21 G (kc + 90) (ks + 14100) 719 [some (.ref (G 4)), some (.ref x0), some (.ref m0), some (.int (nI (5 * k)))] [] h post := by
  refine J.aload_n 720 dL_law_719 rfl rfl ?_
  refine J.aload_n 721 dL_law_720 rfl rfl ?_
  refine J.iload_n 722 dL_law_721 rfl rfl ?_
  refine J.iconst 1 723 dL_law_722 rfl (by decide) ?_
  refine J.iadd 724 dL_law_723 rfl ?_
  refine J.sld (sc_in (c := 1) rfl (by omega) hn) 725 dL_law_724 rfl ?_
  refine J.aload_n 726 dL_law_725 rfl rfl ?_
  refine J.iload_n 727 dL_law_726 rfl rfl ?_
  refine J.iconst 2 728 dL_law_727 rfl (by decide) ?_
  refine J.iadd 729 dL_law_728 rfl ?_
  refine J.sld (sc_in (c := 2) rfl (by omega) hn) 730 dL_law_729 rfl ?_
  obtain ⟨S, X, L, wn, sl, fl, ad, hM, hK, ha, hI⟩ := hS
  have tw : Two G x0 m0 adm Y_X11_cargo Y_X12_cargo [.int (Int32.ofNat (G (6 + (nI (5 * k) + 1).toNatClampNeg))), .int (Int32.ofNat (G (6 + (nI (5 * k) + 2).toNatClampNeg)))] h := t_cargo hM hK ha hI
  obtain ⟨v, mc, ms, hmc, hms, ct⟩ := tw
  refine cv_L_86 rfl 733 ct dL_law_730 rfl (by rw [← ha]; exact hK.hut) rfl rfl (Nat.le_of_ble_eq_true rfl) (by omega) (by omega) (fun r h2 hp => ?_)
  obtain ⟨rfl, ⟨fs2, hm0⟩, ct2⟩ := hp
  refine J.aload_n 734 dL_law_733 rfl rfl ?_
  refine J.aload_n 735 dL_law_734 rfl rfl ?_
  refine J.iload_n 736 dL_law_735 rfl rfl ?_
  refine J.iconst 1 737 dL_law_736 rfl (by decide) ?_
  refine J.iadd 738 dL_law_737 rfl ?_
  refine J.sld (sc_in (c := 1) rfl (by omega) hn) 739 dL_law_738 rfl ?_
  refine J.aload_n 740 dL_law_739 rfl rfl ?_
  refine J.iload_n 741 dL_law_740 rfl rfl ?_
  refine J.iconst 2 742 dL_law_741 rfl (by decide) ?_
  refine J.iadd 743 dL_law_742 rfl ?_
  refine J.sld (sc_in (c := 2) rfl (by omega) hn) 744 dL_law_743 rfl ?_
  refine cv_L_89 rfl 747 ct2 dL_law_744 rfl hm0 rfl rfl (Nat.le_of_ble_eq_true rfl) (Nat.zero_le _) (Nat.zero_le _) (fun r2 h3 hp => ?_)
  obtain ⟨rfl, hS3⟩ := hp
  refine J.icmp_eq 963 750 dL_law_747 (by decide) rfl (fun _ => ?_) (fun c => absurd rfl c)
  exact J.room (by omega) (by omega) (kk h3 hS3)
theorem law_18 {nm : String} {G : Nat → Nat} {x0 m0 : Nat} {adm : Nat → Nat} {h : AH} {k kc ks : Nat} {post : Option Value → AH → Prop} (hS : Stt G x0 m0 adm h) (hk : 5 * k + 5 ≤ G 5) (hn : G 5 ≤ 100000) (kk : ∀ h3, Stt G x0 m0 adm h3 → J (Y_L_law nm) 21 G kc ks 963 [some (.ref (G 4)), some (.ref x0), some (.ref m0), some (.int (nI (5 * k)))] [] h3 post) : J (Y_L_law nm) 21 G (kc + 90) (ks + 14100) 752 [some (.ref (G 4)), some (.ref x0), some (.ref m0), some (.int (nI (5 * k)))] [] h post := by
  refine J.aload_n 753 dL_law_752 rfl rfl ?_
  refine J.aload_n 754 dL_law_753 rfl rfl ?_
  refine J.iload_n 755 dL_law_754 rfl rfl ?_
  refine J.iconst 1 756 dL_law_755 rfl (by decide) ?_
  refine J.iadd 757 dL_law_756 rfl ?_
  refine J.sld (sc_in (c := 1) rfl (by omega) hn) 758 dL_law_757 rfl ?_
  refine J.aload_n 759 dL_law_758 rfl rfl ?_
  refine J.iload_n 760 dL_law_759 rfl rfl ?_
  refine J.iconst 2 761 dL_law_760 rfl (by decide) ?_
  refine J.iadd 762 dL_law_761 rfl ?_
  refine J.sld (sc_in (c := 2) rfl (by omega) hn) 763 dL_law_762 rfl ?_
  obtain ⟨S, X, L, wn, sl, fl, ad, hM, hK, ha, hI⟩ := hS
  have tw : Two G x0 m0 adm Y_X11_flight Y_X12_flight [.int (Int32.ofNat (G (6 + (nI (5 * k) + 1).toNatClampNeg))), .int (Int32.ofNat (G (6 + (nI (5 * k) + 2).toNatClampNeg)))] h := t_flight hM hK ha hI
  obtain ⟨v, mc, ms, hmc, hms, ct⟩ := tw
  refine cv_L_90 rfl 766 ct dL_law_763 rfl (by rw [← ha]; exact hK.hut) rfl rfl (Nat.le_of_ble_eq_true rfl) (by omega) (by omega) (fun r h2 hp => ?_)
  obtain ⟨rfl, ⟨fs2, hm0⟩, ct2⟩ := hp
  refine J.aload_n 767 dL_law_766 rfl rfl ?_
  refine J.aload_n 768 dL_law_767 rfl rfl ?_
  refine J.iload_n 769 dL_law_768 rfl rfl ?_
  refine J.iconst 1 770 dL_law_769 rfl (by decide) ?_
  refine J.iadd 771 dL_law_770 rfl ?_
  refine J.sld (sc_in (c := 1) rfl (by omega) hn) 772 dL_law_771 rfl ?_
  refine J.aload_n 773 dL_law_772 rfl rfl ?_
  refine J.iload_n 774 dL_law_773 rfl rfl ?_
  refine J.iconst 2 775 dL_law_774 rfl (by decide) ?_
  refine J.iadd 776 dL_law_775 rfl ?_
  refine J.sld (sc_in (c := 2) rfl (by omega) hn) 777 dL_law_776 rfl ?_
  refine cv_L_93 rfl 780 ct2 dL_law_777 rfl hm0 rfl rfl (Nat.le_of_ble_eq_true rfl) (Nat.zero_le _) (Nat.zero_le _) (fun r2 h3 hp => ?_)
  obtain ⟨rfl, hS3⟩ := hp
  refine J.icmp_eq 963 783 dL_law_780 (by decide) rfl (fun _ => ?_) (fun c => absurd rfl c)
  exact J.room (by omega) (by omega) (kk h3 hS3)
theorem law_19 {nm : String} {G : Nat → Nat} {x0 m0 : Nat} {adm : Nat → Nat} {h : AH} {k kc ks : Nat} {post : Option Value → AH → Prop} (hS : Stt G x0 m0 adm h) (hk : 5 * k + 5 ≤ G 5) (hn : G 5 ≤ 100000) (kk : ∀ h3, Stt G x0 m0 adm h3 → J (Y_L_law nm) 21 G kc ks 963 [some (.ref (G 4)), some (.ref x0), some (.ref m0), some (.int (nI (5 * k)))] [] h3 post) : J (Y_L_law nm) 21 G (kc + 90) (ks + 14100) 785 [some (.ref (G 4)), some (.ref x0), some (.ref m0), some (.int (nI (5 * k)))] [] h post := by
  refine J.aload_n 786 dL_law_785 rfl rfl ?_
  refine J.aload_n 787 dL_law_786 rfl rfl ?_
  refine J.iload_n 788 dL_law_787 rfl rfl ?_
  refine J.iconst 1 789 dL_law_788 rfl (by decide) ?_
  refine J.iadd 790 dL_law_789 rfl ?_
  refine J.sld (sc_in (c := 1) rfl (by omega) hn) 791 dL_law_790 rfl ?_
  refine J.aload_n 792 dL_law_791 rfl rfl ?_
  refine J.iload_n 793 dL_law_792 rfl rfl ?_
  refine J.iconst 2 794 dL_law_793 rfl (by decide) ?_
  refine J.iadd 795 dL_law_794 rfl ?_
  refine J.sld (sc_in (c := 2) rfl (by omega) hn) 796 dL_law_795 rfl ?_
  refine J.aload_n 797 dL_law_796 rfl rfl ?_
  refine J.iload_n 798 dL_law_797 rfl rfl ?_
  refine J.iconst 3 799 dL_law_798 rfl (by decide) ?_
  refine J.iadd 800 dL_law_799 rfl ?_
  refine J.sld (sc_in (c := 3) rfl (by omega) hn) 801 dL_law_800 rfl ?_
  obtain ⟨S, X, L, wn, sl, fl, ad, hM, hK, ha, hI⟩ := hS
  have tw : Two G x0 m0 adm Y_X11_lift Y_X12_lift [.int (Int32.ofNat (G (6 + (nI (5 * k) + 1).toNatClampNeg))), .int (Int32.ofNat (G (6 + (nI (5 * k) + 2).toNatClampNeg))), .int (Int32.ofNat (G (6 + (nI (5 * k) + 3).toNatClampNeg)))] h := t_lift hM hK ha hI
  obtain ⟨v, mc, ms, hmc, hms, ct⟩ := tw
  refine cv_L_94 rfl 804 ct dL_law_801 rfl (by rw [← ha]; exact hK.hut) rfl rfl (Nat.le_of_ble_eq_true rfl) (by omega) (by omega) (fun r h2 hp => ?_)
  obtain ⟨rfl, ⟨fs2, hm0⟩, ct2⟩ := hp
  refine J.aload_n 805 dL_law_804 rfl rfl ?_
  refine J.aload_n 806 dL_law_805 rfl rfl ?_
  refine J.iload_n 807 dL_law_806 rfl rfl ?_
  refine J.iconst 1 808 dL_law_807 rfl (by decide) ?_
  refine J.iadd 809 dL_law_808 rfl ?_
  refine J.sld (sc_in (c := 1) rfl (by omega) hn) 810 dL_law_809 rfl ?_
  refine J.aload_n 811 dL_law_810 rfl rfl ?_
  refine J.iload_n 812 dL_law_811 rfl rfl ?_
  refine J.iconst 2 813 dL_law_812 rfl (by decide) ?_
  refine J.iadd 814 dL_law_813 rfl ?_
  refine J.sld (sc_in (c := 2) rfl (by omega) hn) 815 dL_law_814 rfl ?_
  refine J.aload_n 816 dL_law_815 rfl rfl ?_
  refine J.iload_n 817 dL_law_816 rfl rfl ?_
  refine J.iconst 3 818 dL_law_817 rfl (by decide) ?_
  refine J.iadd 819 dL_law_818 rfl ?_
  refine J.sld (sc_in (c := 3) rfl (by omega) hn) 820 dL_law_819 rfl ?_
  refine cv_L_97 rfl 823 ct2 dL_law_820 rfl hm0 rfl rfl (Nat.le_of_ble_eq_true rfl) (Nat.zero_le _) (Nat.zero_le _) (fun r2 h3 hp => ?_)
  obtain ⟨rfl, hS3⟩ := hp
  refine J.icmp_eq 963 826 dL_law_823 (by decide) rfl (fun _ => ?_) (fun c => absurd rfl c)
  exact J.room (by omega) (by omega) (kk h3 hS3)
theorem law_20 {nm : String} {G : Nat → Nat} {x0 m0 : Nat} {adm : Nat → Nat} {h : AH} {k kc ks : Nat} {post : Option Value → AH → Prop} (hS : Stt G x0 m0 adm h) (hk : 5 * k + 5 ≤ G 5) (hn : G 5 ≤ 100000) (kk : ∀ h3, Stt G x0 m0 adm h3 → J (Y_L_law nm) 21 G kc ks 963 [some (.ref (G 4)), some (.ref x0), some (.ref m0), some (.int (nI (5 * k)))] [] h3 post) : J (Y_L_law nm) 21 G (kc + 90) (ks + 14100) 828 [some (.ref (G 4)), some (.ref x0), some (.ref m0), some (.int (nI (5 * k)))] [] h post := by
  refine J.aload_n 829 dL_law_828 rfl rfl ?_
  refine J.aload_n 830 dL_law_829 rfl rfl ?_
  refine J.iload_n 831 dL_law_830 rfl rfl ?_
  refine J.iconst 1 832 dL_law_831 rfl (by decide) ?_
  refine J.iadd 833 dL_law_832 rfl ?_
  refine J.sld (sc_in (c := 1) rfl (by omega) hn) 834 dL_law_833 rfl ?_
  refine J.aload_n 835 dL_law_834 rfl rfl ?_
  refine J.iload_n 836 dL_law_835 rfl rfl ?_
  refine J.iconst 2 837 dL_law_836 rfl (by decide) ?_
  refine J.iadd 838 dL_law_837 rfl ?_
  refine J.sld (sc_in (c := 2) rfl (by omega) hn) 839 dL_law_838 rfl ?_
  obtain ⟨S, X, L, wn, sl, fl, ad, hM, hK, ha, hI⟩ := hS
  have tw : Two G x0 m0 adm Y_X11_pack Y_X12_pack [.int (Int32.ofNat (G (6 + (nI (5 * k) + 1).toNatClampNeg))), .int (Int32.ofNat (G (6 + (nI (5 * k) + 2).toNatClampNeg)))] h := t_pack hM hK ha hI
  obtain ⟨v, mc, ms, hmc, hms, ct⟩ := tw
  refine cv_L_98 rfl 842 ct dL_law_839 rfl (by rw [← ha]; exact hK.hut) rfl rfl (Nat.le_of_ble_eq_true rfl) (by omega) (by omega) (fun r h2 hp => ?_)
  obtain ⟨rfl, ⟨fs2, hm0⟩, ct2⟩ := hp
  refine J.aload_n 843 dL_law_842 rfl rfl ?_
  refine J.aload_n 844 dL_law_843 rfl rfl ?_
  refine J.iload_n 845 dL_law_844 rfl rfl ?_
  refine J.iconst 1 846 dL_law_845 rfl (by decide) ?_
  refine J.iadd 847 dL_law_846 rfl ?_
  refine J.sld (sc_in (c := 1) rfl (by omega) hn) 848 dL_law_847 rfl ?_
  refine J.aload_n 849 dL_law_848 rfl rfl ?_
  refine J.iload_n 850 dL_law_849 rfl rfl ?_
  refine J.iconst 2 851 dL_law_850 rfl (by decide) ?_
  refine J.iadd 852 dL_law_851 rfl ?_
  refine J.sld (sc_in (c := 2) rfl (by omega) hn) 853 dL_law_852 rfl ?_
  refine cv_L_101 rfl 856 ct2 dL_law_853 rfl hm0 rfl rfl (Nat.le_of_ble_eq_true rfl) (Nat.zero_le _) (Nat.zero_le _) (fun r2 h3 hp => ?_)
  obtain ⟨rfl, hS3⟩ := hp
  refine J.icmp_eq 963 859 dL_law_856 (by decide) rfl (fun _ => ?_) (fun c => absurd rfl c)
  exact J.room (by omega) (by omega) (kk h3 hS3)
theorem law_21 {nm : String} {G : Nat → Nat} {x0 m0 : Nat} {adm : Nat → Nat} {h : AH} {k kc ks : Nat} {post : Option Value → AH → Prop} (hS : Stt G x0 m0 adm h) (hk : 5 * k + 5 ≤ G 5) (hn : G 5 ≤ 100000) (kk : ∀ h3, Stt G x0 m0 adm h3 → J (Y_L_law nm) 21 G kc ks 963 [some (.ref (G 4)), some (.ref x0), some (.ref m0), some (.int (nI (5 * k)))] [] h3 post) : J (Y_L_law nm) 21 G (kc + 90) (ks + 14100) 861 [some (.ref (G 4)), some (.ref x0), some (.ref m0), some (.int (nI (5 * k)))] [] h post := by
  refine J.aload_n 862 dL_law_861 rfl rfl ?_
  refine J.aload_n 863 dL_law_862 rfl rfl ?_
  refine J.iload_n 864 dL_law_863 rfl rfl ?_
  refine J.iconst 1 865 dL_law_864 rfl (by decide) ?_
  refine J.iadd 866 dL_law_865 rfl ?_
  refine J.sld (sc_in (c := 1) rfl (by omega) hn) 867 dL_law_866 rfl ?_
  obtain ⟨S, X, L, wn, sl, fl, ad, hM, hK, ha, hI⟩ := hS
  have tw : Two G x0 m0 adm Y_X11_list Y_X12_list [.int (Int32.ofNat (G (6 + (nI (5 * k) + 1).toNatClampNeg)))] h := t_list hM hK ha hI
  obtain ⟨v, mc, ms, hmc, hms, ct⟩ := tw
  refine cv_L_102 rfl 870 ct dL_law_867 rfl (by rw [← ha]; exact hK.hut) rfl rfl (Nat.le_of_ble_eq_true rfl) (by omega) (by omega) (fun r h2 hp => ?_)
  obtain ⟨rfl, ⟨fs2, hm0⟩, ct2⟩ := hp
  refine J.aload_n 871 dL_law_870 rfl rfl ?_
  refine J.aload_n 872 dL_law_871 rfl rfl ?_
  refine J.iload_n 873 dL_law_872 rfl rfl ?_
  refine J.iconst 1 874 dL_law_873 rfl (by decide) ?_
  refine J.iadd 875 dL_law_874 rfl ?_
  refine J.sld (sc_in (c := 1) rfl (by omega) hn) 876 dL_law_875 rfl ?_
  refine cv_L_105 rfl 879 ct2 dL_law_876 rfl hm0 rfl rfl (Nat.le_of_ble_eq_true rfl) (Nat.zero_le _) (Nat.zero_le _) (fun r2 h3 hp => ?_)
  obtain ⟨rfl, hS3⟩ := hp
  refine J.icmp_eq 963 882 dL_law_879 (by decide) rfl (fun _ => ?_) (fun c => absurd rfl c)
  exact J.room (by omega) (by omega) (kk h3 hS3)
theorem law_22 {nm : String} {G : Nat → Nat} {x0 m0 : Nat} {adm : Nat → Nat} {h : AH} {k kc ks : Nat} {post : Option Value → AH → Prop} (hS : Stt G x0 m0 adm h) (hk : 5 * k + 5 ≤ G 5) (hn : G 5 ≤ 100000) (kk : ∀ h3, Stt G x0 m0 adm h3 → J (Y_L_law nm) 21 G kc ks 963 [some (.ref (G 4)), some (.ref x0), some (.ref m0), some (.int (nI (5 * k)))] [] h3 post) : J (Y_L_law nm) 21 G (kc + 90) (ks + 14100) 884 [some (.ref (G 4)), some (.ref x0), some (.ref m0), some (.int (nI (5 * k)))] [] h post := by
  refine J.aload_n 885 dL_law_884 rfl rfl ?_
  refine J.aload_n 886 dL_law_885 rfl rfl ?_
  refine J.iload_n 887 dL_law_886 rfl rfl ?_
  refine J.iconst 1 888 dL_law_887 rfl (by decide) ?_
  refine J.iadd 889 dL_law_888 rfl ?_
  refine J.sld (sc_in (c := 1) rfl (by omega) hn) 890 dL_law_889 rfl ?_
  refine J.aload_n 891 dL_law_890 rfl rfl ?_
  refine J.iload_n 892 dL_law_891 rfl rfl ?_
  refine J.iconst 2 893 dL_law_892 rfl (by decide) ?_
  refine J.iadd 894 dL_law_893 rfl ?_
  refine J.sld (sc_in (c := 2) rfl (by omega) hn) 895 dL_law_894 rfl ?_
  obtain ⟨S, X, L, wn, sl, fl, ad, hM, hK, ha, hI⟩ := hS
  have tw : Two G x0 m0 adm Y_X11_order Y_X12_order [.int (Int32.ofNat (G (6 + (nI (5 * k) + 1).toNatClampNeg))), .int (Int32.ofNat (G (6 + (nI (5 * k) + 2).toNatClampNeg)))] h := t_order hM hK ha hI
  obtain ⟨v, mc, ms, hmc, hms, ct⟩ := tw
  refine cv_L_106 rfl 898 ct dL_law_895 rfl (by rw [← ha]; exact hK.hut) rfl rfl (Nat.le_of_ble_eq_true rfl) (by omega) (by omega) (fun r h2 hp => ?_)
  obtain ⟨rfl, ⟨fs2, hm0⟩, ct2⟩ := hp
  refine J.aload_n 899 dL_law_898 rfl rfl ?_
  refine J.aload_n 900 dL_law_899 rfl rfl ?_
  refine J.iload_n 901 dL_law_900 rfl rfl ?_
  refine J.iconst 1 902 dL_law_901 rfl (by decide) ?_
  refine J.iadd 903 dL_law_902 rfl ?_
  refine J.sld (sc_in (c := 1) rfl (by omega) hn) 904 dL_law_903 rfl ?_
  refine J.aload_n 905 dL_law_904 rfl rfl ?_
  refine J.iload_n 906 dL_law_905 rfl rfl ?_
  refine J.iconst 2 907 dL_law_906 rfl (by decide) ?_
  refine J.iadd 908 dL_law_907 rfl ?_
  refine J.sld (sc_in (c := 2) rfl (by omega) hn) 909 dL_law_908 rfl ?_
  refine cv_L_109 rfl 912 ct2 dL_law_909 rfl hm0 rfl rfl (Nat.le_of_ble_eq_true rfl) (Nat.zero_le _) (Nat.zero_le _) (fun r2 h3 hp => ?_)
  obtain ⟨rfl, hS3⟩ := hp
  refine J.icmp_eq 963 915 dL_law_912 (by decide) rfl (fun _ => ?_) (fun c => absurd rfl c)
  exact J.room (by omega) (by omega) (kk h3 hS3)
theorem law_23 {nm : String} {G : Nat → Nat} {x0 m0 : Nat} {adm : Nat → Nat} {h : AH} {k kc ks : Nat} {post : Option Value → AH → Prop} (hS : Stt G x0 m0 adm h) (hk : 5 * k + 5 ≤ G 5) (hn : G 5 ≤ 100000) (kk : ∀ h3, Stt G x0 m0 adm h3 → J (Y_L_law nm) 21 G kc ks 963 [some (.ref (G 4)), some (.ref x0), some (.ref m0), some (.int (nI (5 * k)))] [] h3 post) : J (Y_L_law nm) 21 G (kc + 90) (ks + 14100) 917 [some (.ref (G 4)), some (.ref x0), some (.ref m0), some (.int (nI (5 * k)))] [] h post := by
  refine J.aload_n 918 dL_law_917 rfl rfl ?_
  refine J.aload_n 919 dL_law_918 rfl rfl ?_
  refine J.iload_n 920 dL_law_919 rfl rfl ?_
  refine J.iconst 1 921 dL_law_920 rfl (by decide) ?_
  refine J.iadd 922 dL_law_921 rfl ?_
  refine J.sld (sc_in (c := 1) rfl (by omega) hn) 923 dL_law_922 rfl ?_
  obtain ⟨S, X, L, wn, sl, fl, ad, hM, hK, ha, hI⟩ := hS
  have tw : Two G x0 m0 adm Y_X11_ordered Y_X12_ordered [.int (Int32.ofNat (G (6 + (nI (5 * k) + 1).toNatClampNeg)))] h := t_ordered hM hK ha hI
  obtain ⟨v, mc, ms, hmc, hms, ct⟩ := tw
  refine cv_L_110 rfl 926 ct dL_law_923 rfl (by rw [← ha]; exact hK.hut) rfl rfl (Nat.le_of_ble_eq_true rfl) (by omega) (by omega) (fun r h2 hp => ?_)
  obtain ⟨rfl, ⟨fs2, hm0⟩, ct2⟩ := hp
  refine J.aload_n 927 dL_law_926 rfl rfl ?_
  refine J.aload_n 928 dL_law_927 rfl rfl ?_
  refine J.iload_n 929 dL_law_928 rfl rfl ?_
  refine J.iconst 1 930 dL_law_929 rfl (by decide) ?_
  refine J.iadd 931 dL_law_930 rfl ?_
  refine J.sld (sc_in (c := 1) rfl (by omega) hn) 932 dL_law_931 rfl ?_
  refine cv_L_113 rfl 935 ct2 dL_law_932 rfl hm0 rfl rfl (Nat.le_of_ble_eq_true rfl) (Nat.zero_le _) (Nat.zero_le _) (fun r2 h3 hp => ?_)
  obtain ⟨rfl, hS3⟩ := hp
  refine J.icmp_eq 963 938 dL_law_935 (by decide) rfl (fun _ => ?_) (fun c => absurd rfl c)
  exact J.room (by omega) (by omega) (kk h3 hS3)
theorem law_24 {nm : String} {G : Nat → Nat} {x0 m0 : Nat} {adm : Nat → Nat} {h : AH} {k kc ks : Nat} {post : Option Value → AH → Prop} (hS : Stt G x0 m0 adm h) (hk : 5 * k + 5 ≤ G 5) (hn : G 5 ≤ 100000) (kk : ∀ h3, Stt G x0 m0 adm h3 → J (Y_L_law nm) 21 G kc ks 963 [some (.ref (G 4)), some (.ref x0), some (.ref m0), some (.int (nI (5 * k)))] [] h3 post) : J (Y_L_law nm) 21 G (kc + 90) (ks + 14100) 940 [some (.ref (G 4)), some (.ref x0), some (.ref m0), some (.int (nI (5 * k)))] [] h post := by
  refine J.aload_n 941 dL_law_940 rfl rfl ?_
  refine J.aload_n 942 dL_law_941 rfl rfl ?_
  refine J.iload_n 943 dL_law_942 rfl rfl ?_
  refine J.iconst 1 944 dL_law_943 rfl (by decide) ?_
  refine J.iadd 945 dL_law_944 rfl ?_
  refine J.sld (sc_in (c := 1) rfl (by omega) hn) 946 dL_law_945 rfl ?_
  obtain ⟨S, X, L, wn, sl, fl, ad, hM, hK, ha, hI⟩ := hS
  have tw : Two G x0 m0 adm Y_X11_count Y_X12_count [.int (Int32.ofNat (G (6 + (nI (5 * k) + 1).toNatClampNeg)))] h := t_count hM hK ha hI
  obtain ⟨v, mc, ms, hmc, hms, ct⟩ := tw
  refine cv_L_114 rfl 949 ct dL_law_946 rfl (by rw [← ha]; exact hK.hut) rfl rfl (Nat.le_of_ble_eq_true rfl) (by omega) (by omega) (fun r h2 hp => ?_)
  obtain ⟨rfl, ⟨fs2, hm0⟩, ct2⟩ := hp
  refine J.aload_n 950 dL_law_949 rfl rfl ?_
  refine J.aload_n 951 dL_law_950 rfl rfl ?_
  refine J.iload_n 952 dL_law_951 rfl rfl ?_
  refine J.iconst 1 953 dL_law_952 rfl (by decide) ?_
  refine J.iadd 954 dL_law_953 rfl ?_
  refine J.sld (sc_in (c := 1) rfl (by omega) hn) 955 dL_law_954 rfl ?_
  refine cv_L_117 rfl 958 ct2 dL_law_955 rfl hm0 rfl rfl (Nat.le_of_ble_eq_true rfl) (Nat.zero_le _) (Nat.zero_le _) (fun r2 h3 hp => ?_)
  obtain ⟨rfl, hS3⟩ := hp
  refine J.icmp_eq 963 961 dL_law_958 (by decide) rfl (fun _ => ?_) (fun c => absurd rfl c)
  exact J.room (by omega) (by omega) (kk h3 hS3)
theorem en_int {n k : Nat} (hn : n ≤ 100000) : (nI n - 5).toInt = (n : Int) - 5 := by
  rw [sub_toInt (by rw [nI_toInt (by omega), show (5 : Int32).toInt = 5 from rfl]; omega) (by rw [nI_toInt (by omega), show (5 : Int32).toInt = 5 from rfl]; omega), nI_toInt (by omega)]
  rfl
theorem lt_end {n k : Nat} (hn : n ≤ 100000) (hk : k ≤ 20000) (h : n < 5 * k + 5 * 0 + 5) : nI n - 5 < nI (5 * k) := by
  rw [Int32.lt_iff_toInt_lt, en_int (k := k) hn, nI_toInt (by omega)]
  omega
theorem ge_end {n k : Nat} (hn : n ≤ 100000) (hk : k ≤ 20000) (h : ¬ nI n - 5 < nI (5 * k)) : 5 * k + 5 ≤ n := by
  rw [Int32.lt_iff_toInt_lt, en_int (k := k) hn, nI_toInt (by omega)] at h
  omega
theorem law_loop {nm : String} {G : Nat → Nat} {x0 m0 : Nat} {adm : Nat → Nat} (hn : G 5 ≤ 100000) : ∀ (j k : Nat) (h : AH), k ≤ 20000 → G 5 < 5 * k + 5 * j + 5 → Stt G x0 m0 adm h → J (Y_L_law nm) 21 G (90 * j) (14100 * j) 18 [some (.ref (G 4)), some (.ref x0), some (.ref m0), some (.int (nI (5 * k)))] [] h (fun r _ => r = some (.int 1)) := by
  intro j
  induction j with
  | zero =>
    intro k h hk20 hj hS
    refine J.iload_n 19 dL_law_18 rfl rfl ?_
    refine J.aload_n 20 dL_law_19 rfl rfl ?_
    refine J.slen 21 dL_law_20 rfl ?_
    refine J.iconst 5 22 dL_law_21 rfl (by decide) ?_
    refine J.isub 23 dL_law_22 rfl ?_
    refine J.icmp_gt 969 26 dL_law_23 (by decide) rfl (fun _ => ?_) (fun c => absurd (lt_end hn hk20 hj) c)
    refine J.iconst 1 970 dL_law_969 rfl (by decide) ?_
    exact J.zret dL_law_970 rfl (Or.inr rfl) rfl
  | succ j ih =>
    intro k h hk20 hj hS
    refine J.iload_n 19 dL_law_18 rfl rfl ?_
    refine J.aload_n 20 dL_law_19 rfl rfl ?_
    refine J.slen 21 dL_law_20 rfl ?_
    refine J.iconst 5 22 dL_law_21 rfl (by decide) ?_
    refine J.isub 23 dL_law_22 rfl ?_
    refine J.icmp_gt 969 26 dL_law_23 (by decide) rfl (fun _ => ?_) (fun c => ?_)
    · refine J.iconst 1 970 dL_law_969 rfl (by decide) ?_
      exact J.zret dL_law_970 rfl (Or.inr rfl) rfl
    · have hk : 5 * k + 5 ≤ G 5 := ge_end hn hk20 c
      have next : ∀ h3, Stt G x0 m0 adm h3 → J (Y_L_law nm) 21 G (90 * j) (14100 * j) 963 [some (.ref (G 4)), some (.ref x0), some (.ref m0), some (.int (nI (5 * k)))] [] h3 (fun r _ => r = some (.int 1)) := by
        intro h3 hS3
        refine J.iinc_3 5 966 dL_law_963 rfl (by decide) (show 3 < 4 by decide) ?_
        refine J.goto 18 dL_law_966 (by decide) ?_
        rw [show (nI (5 * k) + 5 : Int32) = nI (5 * (k + 1)) from by rw [show (5 : Int32) = nI 5 from rfl, nI_add]; rfl]
        exact ih (k + 1) h3 (by omega) (by omega) hS3
      refine J.aload_n 27 dL_law_26 rfl rfl ?_
      refine J.iload_n 28 dL_law_27 rfl rfl ?_
      have hi0 : vp_in (nI (5 * k)) (G 5) := vp_in_nI (by omega) (by omega)
      refine J.sld hi0 29 dL_law_28 rfl ?_
      refine J.bipush 31 31 dL_law_29 rfl (by decide) ?_
      refine J.iand 32 dL_law_31 rfl ?_
      rw [Nat.mul_succ, Nat.mul_succ]
      generalize (Int32.ofNat (G (6 + (nI (5 * k)).toNatClampNeg)) &&& 31) = z
      by_cases cz : z.toInt < 0 ∨ 24 < z.toInt
      · refine J.tsOut 963 dL_law_32 cz (by decide) ?_
        exact J.room (by omega) (by omega) (next h hS)
      have q : z.toInt = 0 ∨ z.toInt = 1 ∨ z.toInt = 2 ∨ z.toInt = 3 ∨ z.toInt = 4 ∨ z.toInt = 5 ∨ z.toInt = 6 ∨ z.toInt = 7 ∨ z.toInt = 8 ∨ z.toInt = 9 ∨ z.toInt = 10 ∨ z.toInt = 11 ∨ z.toInt = 12 ∨ z.toInt = 13 ∨ z.toInt = 14 ∨ z.toInt = 15 ∨ z.toInt = 16 ∨ z.toInt = 17 ∨ z.toInt = 18 ∨ z.toInt = 19 ∨ z.toInt = 20 ∨ z.toInt = 21 ∨ z.toInt = 22 ∨ z.toInt = 23 ∨ z.toInt = 24 := by omega
      rcases q with q | q | q | q | q | q | q | q | q | q | q | q | q | q | q | q | q | q | q | q | q | q | q | q | q
      · refine J.tsIn (k := 0) 148 dL_law_32 q (by decide) (by decide) rfl (by decide) ?_
        exact law_0 hS hk hn next
      · refine J.tsIn (k := 1) 181 dL_law_32 q (by decide) (by decide) rfl (by decide) ?_
        exact law_1 hS hk hn next
      · refine J.tsIn (k := 2) 214 dL_law_32 q (by decide) (by decide) rfl (by decide) ?_
        exact law_2 hS hk hn next
      · refine J.tsIn (k := 3) 247 dL_law_32 q (by decide) (by decide) rfl (by decide) ?_
        exact law_3 hS hk hn next
      · refine J.tsIn (k := 4) 300 dL_law_32 q (by decide) (by decide) rfl (by decide) ?_
        exact law_4 hS hk hn next
      · refine J.tsIn (k := 5) 353 dL_law_32 q (by decide) (by decide) rfl (by decide) ?_
        exact law_5 hS hk hn next
      · refine J.tsIn (k := 6) 386 dL_law_32 q (by decide) (by decide) rfl (by decide) ?_
        exact law_6 hS hk hn next
      · refine J.tsIn (k := 7) 399 dL_law_32 q (by decide) (by decide) rfl (by decide) ?_
        exact law_7 hS hk hn next
      · refine J.tsIn (k := 8) 412 dL_law_32 q (by decide) (by decide) rfl (by decide) ?_
        exact law_8 hS hk hn next
      · refine J.tsIn (k := 9) 465 dL_law_32 q (by decide) (by decide) rfl (by decide) ?_
        exact law_9 hS hk hn next
      · refine J.tsIn (k := 10) 498 dL_law_32 q (by decide) (by decide) rfl (by decide) ?_
        exact law_10 hS hk hn next
      · refine J.tsIn (k := 11) 521 dL_law_32 q (by decide) (by decide) rfl (by decide) ?_
        exact law_11 hS hk hn next
      · refine J.tsIn (k := 12) 564 dL_law_32 q (by decide) (by decide) rfl (by decide) ?_
        exact law_12 hS hk hn next
      · refine J.tsIn (k := 13) 607 dL_law_32 q (by decide) (by decide) rfl (by decide) ?_
        exact law_13 hS hk hn next
      · refine J.tsIn (k := 14) 630 dL_law_32 q (by decide) (by decide) rfl (by decide) ?_
        exact law_14 hS hk hn next
      · refine J.tsIn (k := 15) 653 dL_law_32 q (by decide) (by decide) rfl (by decide) ?_
        exact law_15 hS hk hn next
      · refine J.tsIn (k := 16) 686 dL_law_32 q (by decide) (by decide) rfl (by decide) ?_
        exact law_16 hS hk hn next
      · refine J.tsIn (k := 17) 719 dL_law_32 q (by decide) (by decide) rfl (by decide) ?_
        exact law_17 hS hk hn next
      · refine J.tsIn (k := 18) 752 dL_law_32 q (by decide) (by decide) rfl (by decide) ?_
        exact law_18 hS hk hn next
      · refine J.tsIn (k := 19) 785 dL_law_32 q (by decide) (by decide) rfl (by decide) ?_
        exact law_19 hS hk hn next
      · refine J.tsIn (k := 20) 828 dL_law_32 q (by decide) (by decide) rfl (by decide) ?_
        exact law_20 hS hk hn next
      · refine J.tsIn (k := 21) 861 dL_law_32 q (by decide) (by decide) rfl (by decide) ?_
        exact law_21 hS hk hn next
      · refine J.tsIn (k := 22) 884 dL_law_32 q (by decide) (by decide) rfl (by decide) ?_
        exact law_22 hS hk hn next
      · refine J.tsIn (k := 23) 917 dL_law_32 q (by decide) (by decide) rfl (by decide) ?_
        exact law_23 hS hk hn next
      · refine J.tsIn (k := 24) 940 dL_law_32 q (by decide) (by decide) rfl (by decide) ?_
        exact law_24 hS hk hn next
