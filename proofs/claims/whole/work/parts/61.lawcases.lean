/-! THE LAW: its 31 cases, each by the two contracts; what a step is; the loop -/
theorem l_tabN {x : Cx} {l : Launch} {y1 y2 : Ly} {b L : Nat} {xs : Nat → Int32} {cells slots : Nat} {M1 M2 : QM} {pc : Nat} {lv : List (Nat × Value)} {st : List Value} (K : VKL x l y1 y2 b L xs) {dflt lo hi : Int} {offs : Array Int} {len : Nat} {v k : Int32} (tgt : Nat) (hv : v = k) (hd : decode cL_law pc = .ok (.tableswitch dflt lo hi offs, len)) (h : k.toInt < lo ∨ hi < k.toInt) (ht : (pc : Int) + dflt = (tgt : Int)) (kk : VL x y1 y2 cells slots M1 M2 tgt lv st) : VL x y1 y2 cells slots M1 M2 pc lv (.int v :: st) :=
  fun H locs ls g1 g2 hS hl => lv_tableOut K.1 K.2.1 hd (by rw [hv]; exact h) ht (kk H locs ls g1 g2 hS hl)
theorem q_ld {k j L : Nat} {x3 : Int32} (hk : 9 * k + 9 ≤ L) (hL : L ≤ 4608) (hx : x3 = nI (9 * k)) (hj : j < 9) : vp_in (x3 + nI j) L ∧ (x3 + nI j).toNatClampNeg = 9 * k + j := by
  subst hx
  rw [nI_add]
  exact ⟨vp_in_nI (by omega) (by omega), nI_clamp (by omega)⟩
theorem q_ld0 {k L : Nat} {x3 : Int32} (hk : 9 * k + 9 ≤ L) (hL : L ≤ 4608) (hx : x3 = nI (9 * k)) : vp_in x3 L ∧ x3.toNatClampNeg = 9 * k := by
  subst hx
  exact ⟨vp_in_nI (by omega) (by omega), nI_clamp (by omega)⟩
theorem q_cmp0 (r : Int64) : lg_cmp r r = 0 := by
  unfold lg_cmp
  rw [if_neg (by exact Int64.lt_irrefl), if_pos rfl]
set_option maxRecDepth 100000 in
set_option maxHeartbeats 4000000 in
theorem l_case_0 {x : Cx} {l : Launch} {y1 y2 : Ly} {b L k : Nat} {xs : Nat → Int32} {cells slots : Nat} {M1 M2 N1 N2 : QM} {x3 : Int32} (hin : ∀ w ∈ wsL_law, w ∈ lw_tbl) (K : VKL x l y1 y2 b L xs) (hk : 9 * k + 9 ≤ L) (hL : L ≤ 4608) (hx3 : x3 = nI (9 * k)) (hcs : cells ≤ 600000 ∧ slots ≤ 7302250) {r : Int32} (h1 : fX11_person M1 (xs (9 * k + 1)) (xs (9 * k + 2)) (xs (9 * k + 3)) = some (r, N1)) (h2 : fX12_person M2 (xs (9 * k + 1)) (xs (9 * k + 2)) (xs (9 * k + 3)) = some (r, N2)) (kk : VL x y1 y2 cells slots N1 N2 1288 [(0, .ref b), (1, .ref (ly_o y1 0)), (2, .ref (ly_o y2 1000)), (3, .int x3)] []) : VL x y1 y2 cells slots M1 M2 172 [(0, .ref b), (1, .ref (ly_o y1 0)), (2, .ref (ly_o y2 1000)), (3, .int x3)] [] := by
  obtain ⟨-, -, -, -, -, -, -, -, hJ1, hJ2, -, -, -, -, -, -, -, hs1, hs2, -, -⟩ := id K
  refine l_aload_n (pc := 172) K dL_law_172 1 rfl ?_
  refine l_aload_n (pc := 173) K dL_law_173 0 rfl ?_
  refine l_iload_n (pc := 174) K dL_law_174 3 rfl ?_
  refine l_iconst (pc := 175) (v := 1) K dL_law_175 rfl ?_
  refine l_iadd (pc := 176) K dL_law_176 ?_
  refine l_sld (pc := 177) K (9 * k + 1) (q_ld hk hL hx3 (j := 1) (by decide)).1 (q_ld hk hL hx3 (j := 1) (by decide)).2 dL_law_177 ?_
  refine l_aload_n (pc := 178) K dL_law_178 0 rfl ?_
  refine l_iload_n (pc := 179) K dL_law_179 3 rfl ?_
  refine l_iconst (pc := 180) (v := 2) K dL_law_180 rfl ?_
  refine l_iadd (pc := 181) K dL_law_181 ?_
  refine l_sld (pc := 182) K (9 * k + 2) (q_ld hk hL hx3 (j := 2) (by decide)).1 (q_ld hk hL hx3 (j := 2) (by decide)).2 dL_law_182 ?_
  refine l_aload_n (pc := 183) K dL_law_183 0 rfl ?_
  refine l_iload_n (pc := 184) K dL_law_184 3 rfl ?_
  refine l_iconst (pc := 185) (v := 3) K dL_law_185 rfl ?_
  refine l_iadd (pc := 186) K dL_law_186 ?_
  refine l_sld (pc := 187) K (9 * k + 3) (q_ld hk hL hx3 (j := 3) (by decide)).1 (q_ld hk hL hx3 (j := 3) (by decide)).2 dL_law_187 ?_
  refine l_call1 (pc := 188) (As := [.int (xs (9 * k + 1)), .int (xs (9 * k + 2)), .int (xs (9 * k + 3))]) (rest := []) (st' := [.int r]) (r := .int r) (N1 := N1) K (kX11_person l hJ1 hs1 h1) (jg_L hin jl_L_13 jw_i_X11_person jw_s_X11_person jw_n_X11 jw_c_X11_person) rfl rfl rfl jd_X11_person ⟨Nat.le_of_ble_eq_true rfl, Nat.le_of_ble_eq_true rfl⟩ rfl rfl (Nat.le_of_ble_eq_true rfl) rfl hcs dL_law_188 rfl ?_
  refine l_aload_n (pc := 191) K dL_law_191 2 rfl ?_
  refine l_aload_n (pc := 192) K dL_law_192 0 rfl ?_
  refine l_iload_n (pc := 193) K dL_law_193 3 rfl ?_
  refine l_iconst (pc := 194) (v := 1) K dL_law_194 rfl ?_
  refine l_iadd (pc := 195) K dL_law_195 ?_
  refine l_sld (pc := 196) K (9 * k + 1) (q_ld hk hL hx3 (j := 1) (by decide)).1 (q_ld hk hL hx3 (j := 1) (by decide)).2 dL_law_196 ?_
  refine l_aload_n (pc := 197) K dL_law_197 0 rfl ?_
  refine l_iload_n (pc := 198) K dL_law_198 3 rfl ?_
  refine l_iconst (pc := 199) (v := 2) K dL_law_199 rfl ?_
  refine l_iadd (pc := 200) K dL_law_200 ?_
  refine l_sld (pc := 201) K (9 * k + 2) (q_ld hk hL hx3 (j := 2) (by decide)).1 (q_ld hk hL hx3 (j := 2) (by decide)).2 dL_law_201 ?_
  refine l_aload_n (pc := 202) K dL_law_202 0 rfl ?_
  refine l_iload_n (pc := 203) K dL_law_203 3 rfl ?_
  refine l_iconst (pc := 204) (v := 3) K dL_law_204 rfl ?_
  refine l_iadd (pc := 205) K dL_law_205 ?_
  refine l_sld (pc := 206) K (9 * k + 3) (q_ld hk hL hx3 (j := 3) (by decide)).1 (q_ld hk hL hx3 (j := 3) (by decide)).2 dL_law_206 ?_
  refine l_call2 (pc := 207) (As := [.int (xs (9 * k + 1)), .int (xs (9 * k + 2)), .int (xs (9 * k + 3))]) (rest := [.int r]) (st' := [.int r, .int r]) (r := .int r) (N1 := N2) K (kX12_person l hJ2 hs2 h2) (jg_L hin jl_L_17 jw_i_X12_person jw_s_X12_person jw_n_X12 jw_c_X12_person) rfl rfl rfl jd_X12_person ⟨Nat.le_of_ble_eq_true rfl, Nat.le_of_ble_eq_true rfl⟩ rfl rfl (Nat.le_of_ble_eq_true rfl) rfl hcs dL_law_207 rfl ?_
  refine l_eqT (pc := 210) (tgt := 1288) K dL_law_210 (by decide) rfl ?_
  exact kk
set_option maxRecDepth 100000 in
set_option maxHeartbeats 4000000 in
theorem l_case_1 {x : Cx} {l : Launch} {y1 y2 : Ly} {b L k : Nat} {xs : Nat → Int32} {cells slots : Nat} {M1 M2 N1 N2 : QM} {x3 : Int32} (hin : ∀ w ∈ wsL_law, w ∈ lw_tbl) (K : VKL x l y1 y2 b L xs) (hk : 9 * k + 9 ≤ L) (hL : L ≤ 4608) (hx3 : x3 = nI (9 * k)) (hcs : cells ≤ 600000 ∧ slots ≤ 7302250) {r : Int32} (h1 : fX11_debt M1 (xs (9 * k + 1)) (xs (9 * k + 2)) (if (xs (9 * k + 3)) = 0 then 0 else 1) = some (r, N1)) (h2 : fX12_debt M2 (xs (9 * k + 1)) (xs (9 * k + 2)) (if (xs (9 * k + 3)) = 0 then 0 else 1) = some (r, N2)) (kk : VL x y1 y2 cells slots N1 N2 1288 [(0, .ref b), (1, .ref (ly_o y1 0)), (2, .ref (ly_o y2 1000)), (3, .int x3)] []) : VL x y1 y2 cells slots M1 M2 215 [(0, .ref b), (1, .ref (ly_o y1 0)), (2, .ref (ly_o y2 1000)), (3, .int x3)] [] := by
  obtain ⟨-, -, -, -, -, -, -, -, hJ1, hJ2, -, -, -, -, -, -, -, hs1, hs2, -, -⟩ := id K
  refine l_aload_n (pc := 215) K dL_law_215 1 rfl ?_
  refine l_aload_n (pc := 216) K dL_law_216 0 rfl ?_
  refine l_iload_n (pc := 217) K dL_law_217 3 rfl ?_
  refine l_iconst (pc := 218) (v := 1) K dL_law_218 rfl ?_
  refine l_iadd (pc := 219) K dL_law_219 ?_
  refine l_sld (pc := 220) K (9 * k + 1) (q_ld hk hL hx3 (j := 1) (by decide)).1 (q_ld hk hL hx3 (j := 1) (by decide)).2 dL_law_220 ?_
  refine l_aload_n (pc := 221) K dL_law_221 0 rfl ?_
  refine l_iload_n (pc := 222) K dL_law_222 3 rfl ?_
  refine l_iconst (pc := 223) (v := 2) K dL_law_223 rfl ?_
  refine l_iadd (pc := 224) K dL_law_224 ?_
  refine l_sld (pc := 225) K (9 * k + 2) (q_ld hk hL hx3 (j := 2) (by decide)).1 (q_ld hk hL hx3 (j := 2) (by decide)).2 dL_law_225 ?_
  refine l_aload_n (pc := 226) K dL_law_226 0 rfl ?_
  refine l_iload_n (pc := 227) K dL_law_227 3 rfl ?_
  refine l_iconst (pc := 228) (v := 3) K dL_law_228 rfl ?_
  refine l_iadd (pc := 229) K dL_law_229 ?_
  refine l_sld (pc := 230) K (9 * k + 3) (q_ld hk hL hx3 (j := 3) (by decide)).1 (q_ld hk hL hx3 (j := 3) (by decide)).2 dL_law_230 ?_
  by_cases hz : xs (9 * k + 3) = 0
  · rw [if_pos hz] at h1 h2
    refine l_ifeqT (pc := 231) (tgt := 238) K dL_law_231 (by decide) hz ?_
    refine l_iconst (pc := 238) (v := 0) K dL_law_238 rfl ?_
    refine l_call1 (pc := 239) (As := [.int (xs (9 * k + 1)), .int (xs (9 * k + 2)), .int (0 : Int32)]) (rest := []) (st' := [.int r]) (r := .int r) (N1 := N1) K (kX11_debt l hJ1 hs1 h1) (jg_L hin jl_L_18 jw_i_X11_debt jw_s_X11_debt jw_n_X11 jw_c_X11_debt) rfl rfl rfl jd_X11_debt ⟨Nat.le_of_ble_eq_true rfl, Nat.le_of_ble_eq_true rfl⟩ rfl rfl (Nat.le_of_ble_eq_true rfl) rfl hcs dL_law_239 rfl ?_
    refine l_aload_n (pc := 242) K dL_law_242 2 rfl ?_
    refine l_aload_n (pc := 243) K dL_law_243 0 rfl ?_
    refine l_iload_n (pc := 244) K dL_law_244 3 rfl ?_
    refine l_iconst (pc := 245) (v := 1) K dL_law_245 rfl ?_
    refine l_iadd (pc := 246) K dL_law_246 ?_
    refine l_sld (pc := 247) K (9 * k + 1) (q_ld hk hL hx3 (j := 1) (by decide)).1 (q_ld hk hL hx3 (j := 1) (by decide)).2 dL_law_247 ?_
    refine l_aload_n (pc := 248) K dL_law_248 0 rfl ?_
    refine l_iload_n (pc := 249) K dL_law_249 3 rfl ?_
    refine l_iconst (pc := 250) (v := 2) K dL_law_250 rfl ?_
    refine l_iadd (pc := 251) K dL_law_251 ?_
    refine l_sld (pc := 252) K (9 * k + 2) (q_ld hk hL hx3 (j := 2) (by decide)).1 (q_ld hk hL hx3 (j := 2) (by decide)).2 dL_law_252 ?_
    refine l_aload_n (pc := 253) K dL_law_253 0 rfl ?_
    refine l_iload_n (pc := 254) K dL_law_254 3 rfl ?_
    refine l_iconst (pc := 255) (v := 3) K dL_law_255 rfl ?_
    refine l_iadd (pc := 256) K dL_law_256 ?_
    refine l_sld (pc := 257) K (9 * k + 3) (q_ld hk hL hx3 (j := 3) (by decide)).1 (q_ld hk hL hx3 (j := 3) (by decide)).2 dL_law_257 ?_
    refine l_ifeqT (pc := 258) (tgt := 265) K dL_law_258 (by decide) hz ?_
    refine l_iconst (pc := 265) (v := 0) K dL_law_265 rfl ?_
    refine l_call2 (pc := 266) (As := [.int (xs (9 * k + 1)), .int (xs (9 * k + 2)), .int (0 : Int32)]) (rest := [.int r]) (st' := [.int r, .int r]) (r := .int r) (N1 := N2) K (kX12_debt l hJ2 hs2 h2) (jg_L hin jl_L_22 jw_i_X12_debt jw_s_X12_debt jw_n_X12 jw_c_X12_debt) rfl rfl rfl jd_X12_debt ⟨Nat.le_of_ble_eq_true rfl, Nat.le_of_ble_eq_true rfl⟩ rfl rfl (Nat.le_of_ble_eq_true rfl) rfl hcs dL_law_266 rfl ?_
    refine l_eqT (pc := 269) (tgt := 1288) K dL_law_269 (by decide) rfl ?_
    exact kk
  · rw [if_neg hz] at h1 h2
    refine l_ifeqF (pc := 231) (tgt := 238) K dL_law_231 (by decide) hz ?_
    refine l_iconst (pc := 234) (v := 1) K dL_law_234 rfl ?_
    refine l_goto (pc := 235) (tgt := 239) K dL_law_235 (by decide) ?_
    refine l_call1 (pc := 239) (As := [.int (xs (9 * k + 1)), .int (xs (9 * k + 2)), .int (1 : Int32)]) (rest := []) (st' := [.int r]) (r := .int r) (N1 := N1) K (kX11_debt l hJ1 hs1 h1) (jg_L hin jl_L_18 jw_i_X11_debt jw_s_X11_debt jw_n_X11 jw_c_X11_debt) rfl rfl rfl jd_X11_debt ⟨Nat.le_of_ble_eq_true rfl, Nat.le_of_ble_eq_true rfl⟩ rfl rfl (Nat.le_of_ble_eq_true rfl) rfl hcs dL_law_239 rfl ?_
    refine l_aload_n (pc := 242) K dL_law_242 2 rfl ?_
    refine l_aload_n (pc := 243) K dL_law_243 0 rfl ?_
    refine l_iload_n (pc := 244) K dL_law_244 3 rfl ?_
    refine l_iconst (pc := 245) (v := 1) K dL_law_245 rfl ?_
    refine l_iadd (pc := 246) K dL_law_246 ?_
    refine l_sld (pc := 247) K (9 * k + 1) (q_ld hk hL hx3 (j := 1) (by decide)).1 (q_ld hk hL hx3 (j := 1) (by decide)).2 dL_law_247 ?_
    refine l_aload_n (pc := 248) K dL_law_248 0 rfl ?_
    refine l_iload_n (pc := 249) K dL_law_249 3 rfl ?_
    refine l_iconst (pc := 250) (v := 2) K dL_law_250 rfl ?_
    refine l_iadd (pc := 251) K dL_law_251 ?_
    refine l_sld (pc := 252) K (9 * k + 2) (q_ld hk hL hx3 (j := 2) (by decide)).1 (q_ld hk hL hx3 (j := 2) (by decide)).2 dL_law_252 ?_
    refine l_aload_n (pc := 253) K dL_law_253 0 rfl ?_
    refine l_iload_n (pc := 254) K dL_law_254 3 rfl ?_
    refine l_iconst (pc := 255) (v := 3) K dL_law_255 rfl ?_
    refine l_iadd (pc := 256) K dL_law_256 ?_
    refine l_sld (pc := 257) K (9 * k + 3) (q_ld hk hL hx3 (j := 3) (by decide)).1 (q_ld hk hL hx3 (j := 3) (by decide)).2 dL_law_257 ?_
    refine l_ifeqF (pc := 258) (tgt := 265) K dL_law_258 (by decide) hz ?_
    refine l_iconst (pc := 261) (v := 1) K dL_law_261 rfl ?_
    refine l_goto (pc := 262) (tgt := 266) K dL_law_262 (by decide) ?_
    refine l_call2 (pc := 266) (As := [.int (xs (9 * k + 1)), .int (xs (9 * k + 2)), .int (1 : Int32)]) (rest := [.int r]) (st' := [.int r, .int r]) (r := .int r) (N1 := N2) K (kX12_debt l hJ2 hs2 h2) (jg_L hin jl_L_22 jw_i_X12_debt jw_s_X12_debt jw_n_X12 jw_c_X12_debt) rfl rfl rfl jd_X12_debt ⟨Nat.le_of_ble_eq_true rfl, Nat.le_of_ble_eq_true rfl⟩ rfl rfl (Nat.le_of_ble_eq_true rfl) rfl hcs dL_law_266 rfl ?_
    refine l_eqT (pc := 269) (tgt := 1288) K dL_law_269 (by decide) rfl ?_
    exact kk
set_option maxRecDepth 100000 in
set_option maxHeartbeats 4000000 in
theorem l_case_2 {x : Cx} {l : Launch} {y1 y2 : Ly} {b L k : Nat} {xs : Nat → Int32} {cells slots : Nat} {M1 M2 N1 N2 : QM} {x3 : Int32} (hin : ∀ w ∈ wsL_law, w ∈ lw_tbl) (K : VKL x l y1 y2 b L xs) (hk : 9 * k + 9 ≤ L) (hL : L ≤ 4608) (hx3 : x3 = nI (9 * k)) (hcs : cells ≤ 600000 ∧ slots ≤ 7302250) {r : Int32} (h1 : fX11_feed M1 (xs (9 * k + 1)) (xs (9 * k + 2)) (xs (9 * k + 3)) (xs (9 * k + 4)) (xs (9 * k + 5)) = some (r, N1)) (h2 : fX12_feed M2 (xs (9 * k + 1)) (xs (9 * k + 2)) (xs (9 * k + 3)) (xs (9 * k + 4)) (xs (9 * k + 5)) = some (r, N2)) (kk : VL x y1 y2 cells slots N1 N2 1288 [(0, .ref b), (1, .ref (ly_o y1 0)), (2, .ref (ly_o y2 1000)), (3, .int x3)] []) : VL x y1 y2 cells slots M1 M2 274 [(0, .ref b), (1, .ref (ly_o y1 0)), (2, .ref (ly_o y2 1000)), (3, .int x3)] [] := by
  obtain ⟨-, -, -, -, -, -, -, -, hJ1, hJ2, -, -, -, -, -, -, -, hs1, hs2, -, -⟩ := id K
  refine l_aload_n (pc := 274) K dL_law_274 1 rfl ?_
  refine l_aload_n (pc := 275) K dL_law_275 0 rfl ?_
  refine l_iload_n (pc := 276) K dL_law_276 3 rfl ?_
  refine l_iconst (pc := 277) (v := 1) K dL_law_277 rfl ?_
  refine l_iadd (pc := 278) K dL_law_278 ?_
  refine l_sld (pc := 279) K (9 * k + 1) (q_ld hk hL hx3 (j := 1) (by decide)).1 (q_ld hk hL hx3 (j := 1) (by decide)).2 dL_law_279 ?_
  refine l_aload_n (pc := 280) K dL_law_280 0 rfl ?_
  refine l_iload_n (pc := 281) K dL_law_281 3 rfl ?_
  refine l_iconst (pc := 282) (v := 2) K dL_law_282 rfl ?_
  refine l_iadd (pc := 283) K dL_law_283 ?_
  refine l_sld (pc := 284) K (9 * k + 2) (q_ld hk hL hx3 (j := 2) (by decide)).1 (q_ld hk hL hx3 (j := 2) (by decide)).2 dL_law_284 ?_
  refine l_aload_n (pc := 285) K dL_law_285 0 rfl ?_
  refine l_iload_n (pc := 286) K dL_law_286 3 rfl ?_
  refine l_iconst (pc := 287) (v := 3) K dL_law_287 rfl ?_
  refine l_iadd (pc := 288) K dL_law_288 ?_
  refine l_sld (pc := 289) K (9 * k + 3) (q_ld hk hL hx3 (j := 3) (by decide)).1 (q_ld hk hL hx3 (j := 3) (by decide)).2 dL_law_289 ?_
  refine l_aload_n (pc := 290) K dL_law_290 0 rfl ?_
  refine l_iload_n (pc := 291) K dL_law_291 3 rfl ?_
  refine l_iconst (pc := 292) (v := 4) K dL_law_292 rfl ?_
  refine l_iadd (pc := 293) K dL_law_293 ?_
  refine l_sld (pc := 294) K (9 * k + 4) (q_ld hk hL hx3 (j := 4) (by decide)).1 (q_ld hk hL hx3 (j := 4) (by decide)).2 dL_law_294 ?_
  refine l_aload_n (pc := 295) K dL_law_295 0 rfl ?_
  refine l_iload_n (pc := 296) K dL_law_296 3 rfl ?_
  refine l_iconst (pc := 297) (v := 5) K dL_law_297 rfl ?_
  refine l_iadd (pc := 298) K dL_law_298 ?_
  refine l_sld (pc := 299) K (9 * k + 5) (q_ld hk hL hx3 (j := 5) (by decide)).1 (q_ld hk hL hx3 (j := 5) (by decide)).2 dL_law_299 ?_
  refine l_call1 (pc := 300) (As := [.int (xs (9 * k + 1)), .int (xs (9 * k + 2)), .int (xs (9 * k + 3)), .int (xs (9 * k + 4)), .int (xs (9 * k + 5))]) (rest := []) (st' := [.int r]) (r := .int r) (N1 := N1) K (kX11_feed l hJ1 hs1 h1) (jg_L hin jl_L_23 jw_i_X11_feed jw_s_X11_feed jw_n_X11 jw_c_X11_feed) rfl rfl rfl jd_X11_feed ⟨Nat.le_of_ble_eq_true rfl, Nat.le_of_ble_eq_true rfl⟩ rfl rfl (Nat.le_of_ble_eq_true rfl) rfl hcs dL_law_300 rfl ?_
  refine l_aload_n (pc := 303) K dL_law_303 2 rfl ?_
  refine l_aload_n (pc := 304) K dL_law_304 0 rfl ?_
  refine l_iload_n (pc := 305) K dL_law_305 3 rfl ?_
  refine l_iconst (pc := 306) (v := 1) K dL_law_306 rfl ?_
  refine l_iadd (pc := 307) K dL_law_307 ?_
  refine l_sld (pc := 308) K (9 * k + 1) (q_ld hk hL hx3 (j := 1) (by decide)).1 (q_ld hk hL hx3 (j := 1) (by decide)).2 dL_law_308 ?_
  refine l_aload_n (pc := 309) K dL_law_309 0 rfl ?_
  refine l_iload_n (pc := 310) K dL_law_310 3 rfl ?_
  refine l_iconst (pc := 311) (v := 2) K dL_law_311 rfl ?_
  refine l_iadd (pc := 312) K dL_law_312 ?_
  refine l_sld (pc := 313) K (9 * k + 2) (q_ld hk hL hx3 (j := 2) (by decide)).1 (q_ld hk hL hx3 (j := 2) (by decide)).2 dL_law_313 ?_
  refine l_aload_n (pc := 314) K dL_law_314 0 rfl ?_
  refine l_iload_n (pc := 315) K dL_law_315 3 rfl ?_
  refine l_iconst (pc := 316) (v := 3) K dL_law_316 rfl ?_
  refine l_iadd (pc := 317) K dL_law_317 ?_
  refine l_sld (pc := 318) K (9 * k + 3) (q_ld hk hL hx3 (j := 3) (by decide)).1 (q_ld hk hL hx3 (j := 3) (by decide)).2 dL_law_318 ?_
  refine l_aload_n (pc := 319) K dL_law_319 0 rfl ?_
  refine l_iload_n (pc := 320) K dL_law_320 3 rfl ?_
  refine l_iconst (pc := 321) (v := 4) K dL_law_321 rfl ?_
  refine l_iadd (pc := 322) K dL_law_322 ?_
  refine l_sld (pc := 323) K (9 * k + 4) (q_ld hk hL hx3 (j := 4) (by decide)).1 (q_ld hk hL hx3 (j := 4) (by decide)).2 dL_law_323 ?_
  refine l_aload_n (pc := 324) K dL_law_324 0 rfl ?_
  refine l_iload_n (pc := 325) K dL_law_325 3 rfl ?_
  refine l_iconst (pc := 326) (v := 5) K dL_law_326 rfl ?_
  refine l_iadd (pc := 327) K dL_law_327 ?_
  refine l_sld (pc := 328) K (9 * k + 5) (q_ld hk hL hx3 (j := 5) (by decide)).1 (q_ld hk hL hx3 (j := 5) (by decide)).2 dL_law_328 ?_
  refine l_call2 (pc := 329) (As := [.int (xs (9 * k + 1)), .int (xs (9 * k + 2)), .int (xs (9 * k + 3)), .int (xs (9 * k + 4)), .int (xs (9 * k + 5))]) (rest := [.int r]) (st' := [.int r, .int r]) (r := .int r) (N1 := N2) K (kX12_feed l hJ2 hs2 h2) (jg_L hin jl_L_27 jw_i_X12_feed jw_s_X12_feed jw_n_X12 jw_c_X12_feed) rfl rfl rfl jd_X12_feed ⟨Nat.le_of_ble_eq_true rfl, Nat.le_of_ble_eq_true rfl⟩ rfl rfl (Nat.le_of_ble_eq_true rfl) rfl hcs dL_law_329 rfl ?_
  refine l_eqT (pc := 332) (tgt := 1288) K dL_law_332 (by decide) rfl ?_
  exact kk
set_option maxRecDepth 100000 in
set_option maxHeartbeats 4000000 in
theorem l_case_3 {x : Cx} {l : Launch} {y1 y2 : Ly} {b L k : Nat} {xs : Nat → Int32} {cells slots : Nat} {M1 M2 N1 N2 : QM} {x3 : Int32} (hin : ∀ w ∈ wsL_law, w ∈ lw_tbl) (K : VKL x l y1 y2 b L xs) (hk : 9 * k + 9 ≤ L) (hL : L ≤ 4608) (hx3 : x3 = nI (9 * k)) (hcs : cells ≤ 600000 ∧ slots ≤ 7302250) {r : Int32} (h1 : fX11_end M1 (xs (9 * k + 1)) = some (r, N1)) (h2 : fX12_end M2 (xs (9 * k + 1)) = some (r, N2)) (kk : VL x y1 y2 cells slots N1 N2 1288 [(0, .ref b), (1, .ref (ly_o y1 0)), (2, .ref (ly_o y2 1000)), (3, .int x3)] []) : VL x y1 y2 cells slots M1 M2 337 [(0, .ref b), (1, .ref (ly_o y1 0)), (2, .ref (ly_o y2 1000)), (3, .int x3)] [] := by
  obtain ⟨-, -, -, -, -, -, -, -, hJ1, hJ2, -, -, -, -, -, -, -, hs1, hs2, -, -⟩ := id K
  refine l_aload_n (pc := 337) K dL_law_337 1 rfl ?_
  refine l_aload_n (pc := 338) K dL_law_338 0 rfl ?_
  refine l_iload_n (pc := 339) K dL_law_339 3 rfl ?_
  refine l_iconst (pc := 340) (v := 1) K dL_law_340 rfl ?_
  refine l_iadd (pc := 341) K dL_law_341 ?_
  refine l_sld (pc := 342) K (9 * k + 1) (q_ld hk hL hx3 (j := 1) (by decide)).1 (q_ld hk hL hx3 (j := 1) (by decide)).2 dL_law_342 ?_
  refine l_call1 (pc := 343) (As := [.int (xs (9 * k + 1))]) (rest := []) (st' := [.int r]) (r := .int r) (N1 := N1) K (kX11_end l hJ1 hs1 h1) (jg_L hin jl_L_28 jw_i_X11_end jw_s_X11_end jw_n_X11 jw_c_X11_end) rfl rfl rfl jd_X11_end ⟨Nat.le_of_ble_eq_true rfl, Nat.le_of_ble_eq_true rfl⟩ rfl rfl (Nat.le_of_ble_eq_true rfl) rfl hcs dL_law_343 rfl ?_
  refine l_aload_n (pc := 346) K dL_law_346 2 rfl ?_
  refine l_aload_n (pc := 347) K dL_law_347 0 rfl ?_
  refine l_iload_n (pc := 348) K dL_law_348 3 rfl ?_
  refine l_iconst (pc := 349) (v := 1) K dL_law_349 rfl ?_
  refine l_iadd (pc := 350) K dL_law_350 ?_
  refine l_sld (pc := 351) K (9 * k + 1) (q_ld hk hL hx3 (j := 1) (by decide)).1 (q_ld hk hL hx3 (j := 1) (by decide)).2 dL_law_351 ?_
  refine l_call2 (pc := 352) (As := [.int (xs (9 * k + 1))]) (rest := [.int r]) (st' := [.int r, .int r]) (r := .int r) (N1 := N2) K (kX12_end l hJ2 hs2 h2) (jg_L hin jl_L_32 jw_i_X12_end jw_s_X12_end jw_n_X12 jw_c_X12_end) rfl rfl rfl jd_X12_end ⟨Nat.le_of_ble_eq_true rfl, Nat.le_of_ble_eq_true rfl⟩ rfl rfl (Nat.le_of_ble_eq_true rfl) rfl hcs dL_law_352 rfl ?_
  refine l_eqT (pc := 355) (tgt := 1288) K dL_law_355 (by decide) rfl ?_
  exact kk
set_option maxRecDepth 100000 in
set_option maxHeartbeats 4000000 in
theorem l_case_4 {x : Cx} {l : Launch} {y1 y2 : Ly} {b L k : Nat} {xs : Nat → Int32} {cells slots : Nat} {M1 M2 N1 N2 : QM} {x3 : Int32} (hin : ∀ w ∈ wsL_law, w ∈ lw_tbl) (K : VKL x l y1 y2 b L xs) (hk : 9 * k + 9 ≤ L) (hL : L ≤ 4608) (hx3 : x3 = nI (9 * k)) (hcs : cells ≤ 600000 ∧ slots ≤ 7302250) {r : Int32} (h1 : fX11_code M1  = some (r, N1)) (h2 : fX12_code M2  = some (r, N2)) (kk : VL x y1 y2 cells slots N1 N2 1288 [(0, .ref b), (1, .ref (ly_o y1 0)), (2, .ref (ly_o y2 1000)), (3, .int x3)] []) : VL x y1 y2 cells slots M1 M2 360 [(0, .ref b), (1, .ref (ly_o y1 0)), (2, .ref (ly_o y2 1000)), (3, .int x3)] [] := by
  obtain ⟨-, -, -, -, -, -, -, -, hJ1, hJ2, -, -, -, -, -, -, -, hs1, hs2, -, -⟩ := id K
  refine l_aload_n (pc := 360) K dL_law_360 1 rfl ?_
  refine l_call1 (pc := 361) (As := []) (rest := []) (st' := [.int r]) (r := .int r) (N1 := N1) K (kX11_code l hJ1 hs1 h1) (jg_L hin jl_L_33 jw_i_X11_code jw_s_X11_code jw_n_X11 jw_c_X11_code) rfl rfl rfl jd_X11_code ⟨Nat.le_of_ble_eq_true rfl, Nat.le_of_ble_eq_true rfl⟩ rfl rfl (Nat.le_of_ble_eq_true rfl) rfl hcs dL_law_361 rfl ?_
  refine l_aload_n (pc := 364) K dL_law_364 2 rfl ?_
  refine l_call2 (pc := 365) (As := []) (rest := [.int r]) (st' := [.int r, .int r]) (r := .int r) (N1 := N2) K (kX12_code l hJ2 hs2 h2) (jg_L hin jl_L_37 jw_i_X12_code jw_s_X12_code jw_n_X12 jw_c_X12_code) rfl rfl rfl jd_X12_code ⟨Nat.le_of_ble_eq_true rfl, Nat.le_of_ble_eq_true rfl⟩ rfl rfl (Nat.le_of_ble_eq_true rfl) rfl hcs dL_law_365 rfl ?_
  refine l_eqT (pc := 368) (tgt := 1288) K dL_law_368 (by decide) rfl ?_
  exact kk
set_option maxRecDepth 100000 in
set_option maxHeartbeats 4000000 in
theorem l_case_5 {x : Cx} {l : Launch} {y1 y2 : Ly} {b L k : Nat} {xs : Nat → Int32} {cells slots : Nat} {M1 M2 N1 N2 : QM} {x3 : Int32} (hin : ∀ w ∈ wsL_law, w ∈ lw_tbl) (K : VKL x l y1 y2 b L xs) (hk : 9 * k + 9 ≤ L) (hL : L ≤ 4608) (hx3 : x3 = nI (9 * k)) (hcs : cells ≤ 600000 ∧ slots ≤ 7302250) {r : Int32} (h1 : fX11_keeps M1 (xs (9 * k + 1)) (xs (9 * k + 2)) = some (r, N1)) (h2 : fX12_keeps M2 (xs (9 * k + 1)) (xs (9 * k + 2)) = some (r, N2)) (kk : VL x y1 y2 cells slots N1 N2 1288 [(0, .ref b), (1, .ref (ly_o y1 0)), (2, .ref (ly_o y2 1000)), (3, .int x3)] []) : VL x y1 y2 cells slots M1 M2 373 [(0, .ref b), (1, .ref (ly_o y1 0)), (2, .ref (ly_o y2 1000)), (3, .int x3)] [] := by
  obtain ⟨-, -, -, -, -, -, -, -, hJ1, hJ2, -, -, -, -, -, -, -, hs1, hs2, -, -⟩ := id K
  refine l_aload_n (pc := 373) K dL_law_373 1 rfl ?_
  refine l_aload_n (pc := 374) K dL_law_374 0 rfl ?_
  refine l_iload_n (pc := 375) K dL_law_375 3 rfl ?_
  refine l_iconst (pc := 376) (v := 1) K dL_law_376 rfl ?_
  refine l_iadd (pc := 377) K dL_law_377 ?_
  refine l_sld (pc := 378) K (9 * k + 1) (q_ld hk hL hx3 (j := 1) (by decide)).1 (q_ld hk hL hx3 (j := 1) (by decide)).2 dL_law_378 ?_
  refine l_aload_n (pc := 379) K dL_law_379 0 rfl ?_
  refine l_iload_n (pc := 380) K dL_law_380 3 rfl ?_
  refine l_iconst (pc := 381) (v := 2) K dL_law_381 rfl ?_
  refine l_iadd (pc := 382) K dL_law_382 ?_
  refine l_sld (pc := 383) K (9 * k + 2) (q_ld hk hL hx3 (j := 2) (by decide)).1 (q_ld hk hL hx3 (j := 2) (by decide)).2 dL_law_383 ?_
  refine l_call1 (pc := 384) (As := [.int (xs (9 * k + 1)), .int (xs (9 * k + 2))]) (rest := []) (st' := [.int r]) (r := .int r) (N1 := N1) K (kX11_keeps l hJ1 hs1 h1) (jg_L hin jl_L_38 jw_i_X11_keeps jw_s_X11_keeps jw_n_X11 jw_c_X11_keeps) rfl rfl rfl jd_X11_keeps ⟨Nat.le_of_ble_eq_true rfl, Nat.le_of_ble_eq_true rfl⟩ rfl rfl (Nat.le_of_ble_eq_true rfl) rfl hcs dL_law_384 rfl ?_
  refine l_aload_n (pc := 387) K dL_law_387 2 rfl ?_
  refine l_aload_n (pc := 388) K dL_law_388 0 rfl ?_
  refine l_iload_n (pc := 389) K dL_law_389 3 rfl ?_
  refine l_iconst (pc := 390) (v := 1) K dL_law_390 rfl ?_
  refine l_iadd (pc := 391) K dL_law_391 ?_
  refine l_sld (pc := 392) K (9 * k + 1) (q_ld hk hL hx3 (j := 1) (by decide)).1 (q_ld hk hL hx3 (j := 1) (by decide)).2 dL_law_392 ?_
  refine l_aload_n (pc := 393) K dL_law_393 0 rfl ?_
  refine l_iload_n (pc := 394) K dL_law_394 3 rfl ?_
  refine l_iconst (pc := 395) (v := 2) K dL_law_395 rfl ?_
  refine l_iadd (pc := 396) K dL_law_396 ?_
  refine l_sld (pc := 397) K (9 * k + 2) (q_ld hk hL hx3 (j := 2) (by decide)).1 (q_ld hk hL hx3 (j := 2) (by decide)).2 dL_law_397 ?_
  refine l_call2 (pc := 398) (As := [.int (xs (9 * k + 1)), .int (xs (9 * k + 2))]) (rest := [.int r]) (st' := [.int r, .int r]) (r := .int r) (N1 := N2) K (kX12_keeps l hJ2 hs2 h2) (jg_L hin jl_L_42 jw_i_X12_keeps jw_s_X12_keeps jw_n_X12 jw_c_X12_keeps) rfl rfl rfl jd_X12_keeps ⟨Nat.le_of_ble_eq_true rfl, Nat.le_of_ble_eq_true rfl⟩ rfl rfl (Nat.le_of_ble_eq_true rfl) rfl hcs dL_law_398 rfl ?_
  refine l_eqT (pc := 401) (tgt := 1288) K dL_law_401 (by decide) rfl ?_
  exact kk
set_option maxRecDepth 100000 in
set_option maxHeartbeats 4000000 in
theorem l_case_6 {x : Cx} {l : Launch} {y1 y2 : Ly} {b L k : Nat} {xs : Nat → Int32} {cells slots : Nat} {M1 M2 N1 N2 : QM} {x3 : Int32} (hin : ∀ w ∈ wsL_law, w ∈ lw_tbl) (K : VKL x l y1 y2 b L xs) (hk : 9 * k + 9 ≤ L) (hL : L ≤ 4608) (hx3 : x3 = nI (9 * k)) (hcs : cells ≤ 600000 ∧ slots ≤ 7302250) {r : Int32} (h1 : fX11_told M1 (xs (9 * k + 1)) (xs (9 * k + 2)) = some (r, N1)) (h2 : fX12_told M2 (xs (9 * k + 1)) (xs (9 * k + 2)) = some (r, N2)) (kk : VL x y1 y2 cells slots N1 N2 1288 [(0, .ref b), (1, .ref (ly_o y1 0)), (2, .ref (ly_o y2 1000)), (3, .int x3)] []) : VL x y1 y2 cells slots M1 M2 406 [(0, .ref b), (1, .ref (ly_o y1 0)), (2, .ref (ly_o y2 1000)), (3, .int x3)] [] := by
  obtain ⟨-, -, -, -, -, -, -, -, hJ1, hJ2, -, -, -, -, -, -, -, hs1, hs2, -, -⟩ := id K
  refine l_aload_n (pc := 406) K dL_law_406 1 rfl ?_
  refine l_aload_n (pc := 407) K dL_law_407 0 rfl ?_
  refine l_iload_n (pc := 408) K dL_law_408 3 rfl ?_
  refine l_iconst (pc := 409) (v := 1) K dL_law_409 rfl ?_
  refine l_iadd (pc := 410) K dL_law_410 ?_
  refine l_sld (pc := 411) K (9 * k + 1) (q_ld hk hL hx3 (j := 1) (by decide)).1 (q_ld hk hL hx3 (j := 1) (by decide)).2 dL_law_411 ?_
  refine l_aload_n (pc := 412) K dL_law_412 0 rfl ?_
  refine l_iload_n (pc := 413) K dL_law_413 3 rfl ?_
  refine l_iconst (pc := 414) (v := 2) K dL_law_414 rfl ?_
  refine l_iadd (pc := 415) K dL_law_415 ?_
  refine l_sld (pc := 416) K (9 * k + 2) (q_ld hk hL hx3 (j := 2) (by decide)).1 (q_ld hk hL hx3 (j := 2) (by decide)).2 dL_law_416 ?_
  refine l_call1 (pc := 417) (As := [.int (xs (9 * k + 1)), .int (xs (9 * k + 2))]) (rest := []) (st' := [.int r]) (r := .int r) (N1 := N1) K (kX11_told l hJ1 hs1 h1) (jg_L hin jl_L_43 jw_i_X11_told jw_s_X11_told jw_n_X11 jw_c_X11_told) rfl rfl rfl jd_X11_told ⟨Nat.le_of_ble_eq_true rfl, Nat.le_of_ble_eq_true rfl⟩ rfl rfl (Nat.le_of_ble_eq_true rfl) rfl hcs dL_law_417 rfl ?_
  refine l_aload_n (pc := 420) K dL_law_420 2 rfl ?_
  refine l_aload_n (pc := 421) K dL_law_421 0 rfl ?_
  refine l_iload_n (pc := 422) K dL_law_422 3 rfl ?_
  refine l_iconst (pc := 423) (v := 1) K dL_law_423 rfl ?_
  refine l_iadd (pc := 424) K dL_law_424 ?_
  refine l_sld (pc := 425) K (9 * k + 1) (q_ld hk hL hx3 (j := 1) (by decide)).1 (q_ld hk hL hx3 (j := 1) (by decide)).2 dL_law_425 ?_
  refine l_aload_n (pc := 426) K dL_law_426 0 rfl ?_
  refine l_iload_n (pc := 427) K dL_law_427 3 rfl ?_
  refine l_iconst (pc := 428) (v := 2) K dL_law_428 rfl ?_
  refine l_iadd (pc := 429) K dL_law_429 ?_
  refine l_sld (pc := 430) K (9 * k + 2) (q_ld hk hL hx3 (j := 2) (by decide)).1 (q_ld hk hL hx3 (j := 2) (by decide)).2 dL_law_430 ?_
  refine l_call2 (pc := 431) (As := [.int (xs (9 * k + 1)), .int (xs (9 * k + 2))]) (rest := [.int r]) (st' := [.int r, .int r]) (r := .int r) (N1 := N2) K (kX12_told l hJ2 hs2 h2) (jg_L hin jl_L_47 jw_i_X12_told jw_s_X12_told jw_n_X12 jw_c_X12_told) rfl rfl rfl jd_X12_told ⟨Nat.le_of_ble_eq_true rfl, Nat.le_of_ble_eq_true rfl⟩ rfl rfl (Nat.le_of_ble_eq_true rfl) rfl hcs dL_law_431 rfl ?_
  refine l_eqT (pc := 434) (tgt := 1288) K dL_law_434 (by decide) rfl ?_
  exact kk
set_option maxRecDepth 100000 in
set_option maxHeartbeats 4000000 in
theorem l_case_7 {x : Cx} {l : Launch} {y1 y2 : Ly} {b L k : Nat} {xs : Nat → Int32} {cells slots : Nat} {M1 M2 N1 N2 : QM} {x3 : Int32} (hin : ∀ w ∈ wsL_law, w ∈ lw_tbl) (K : VKL x l y1 y2 b L xs) (hk : 9 * k + 9 ≤ L) (hL : L ≤ 4608) (hx3 : x3 = nI (9 * k)) (hcs : cells ≤ 600000 ∧ slots ≤ 7302250) {r : Int32} (h1 : fX11_weighs M1 (xs (9 * k + 1)) (xs (9 * k + 2)) (xs (9 * k + 3)) (xs (9 * k + 4)) (xs (9 * k + 5)) (xs (9 * k + 6)) (xs (9 * k + 7)) (xs (9 * k + 8)) = some (r, N1)) (h2 : fX12_weighs M2 (xs (9 * k + 1)) (xs (9 * k + 2)) (xs (9 * k + 3)) (xs (9 * k + 4)) (xs (9 * k + 5)) (xs (9 * k + 6)) (xs (9 * k + 7)) (xs (9 * k + 8)) = some (r, N2)) (kk : VL x y1 y2 cells slots N1 N2 1288 [(0, .ref b), (1, .ref (ly_o y1 0)), (2, .ref (ly_o y2 1000)), (3, .int x3)] []) : VL x y1 y2 cells slots M1 M2 439 [(0, .ref b), (1, .ref (ly_o y1 0)), (2, .ref (ly_o y2 1000)), (3, .int x3)] [] := by
  obtain ⟨-, -, -, -, -, -, -, -, hJ1, hJ2, -, -, -, -, -, -, -, hs1, hs2, -, -⟩ := id K
  refine l_aload_n (pc := 439) K dL_law_439 1 rfl ?_
  refine l_aload_n (pc := 440) K dL_law_440 0 rfl ?_
  refine l_iload_n (pc := 441) K dL_law_441 3 rfl ?_
  refine l_iconst (pc := 442) (v := 1) K dL_law_442 rfl ?_
  refine l_iadd (pc := 443) K dL_law_443 ?_
  refine l_sld (pc := 444) K (9 * k + 1) (q_ld hk hL hx3 (j := 1) (by decide)).1 (q_ld hk hL hx3 (j := 1) (by decide)).2 dL_law_444 ?_
  refine l_aload_n (pc := 445) K dL_law_445 0 rfl ?_
  refine l_iload_n (pc := 446) K dL_law_446 3 rfl ?_
  refine l_iconst (pc := 447) (v := 2) K dL_law_447 rfl ?_
  refine l_iadd (pc := 448) K dL_law_448 ?_
  refine l_sld (pc := 449) K (9 * k + 2) (q_ld hk hL hx3 (j := 2) (by decide)).1 (q_ld hk hL hx3 (j := 2) (by decide)).2 dL_law_449 ?_
  refine l_aload_n (pc := 450) K dL_law_450 0 rfl ?_
  refine l_iload_n (pc := 451) K dL_law_451 3 rfl ?_
  refine l_iconst (pc := 452) (v := 3) K dL_law_452 rfl ?_
  refine l_iadd (pc := 453) K dL_law_453 ?_
  refine l_sld (pc := 454) K (9 * k + 3) (q_ld hk hL hx3 (j := 3) (by decide)).1 (q_ld hk hL hx3 (j := 3) (by decide)).2 dL_law_454 ?_
  refine l_aload_n (pc := 455) K dL_law_455 0 rfl ?_
  refine l_iload_n (pc := 456) K dL_law_456 3 rfl ?_
  refine l_iconst (pc := 457) (v := 4) K dL_law_457 rfl ?_
  refine l_iadd (pc := 458) K dL_law_458 ?_
  refine l_sld (pc := 459) K (9 * k + 4) (q_ld hk hL hx3 (j := 4) (by decide)).1 (q_ld hk hL hx3 (j := 4) (by decide)).2 dL_law_459 ?_
  refine l_aload_n (pc := 460) K dL_law_460 0 rfl ?_
  refine l_iload_n (pc := 461) K dL_law_461 3 rfl ?_
  refine l_iconst (pc := 462) (v := 5) K dL_law_462 rfl ?_
  refine l_iadd (pc := 463) K dL_law_463 ?_
  refine l_sld (pc := 464) K (9 * k + 5) (q_ld hk hL hx3 (j := 5) (by decide)).1 (q_ld hk hL hx3 (j := 5) (by decide)).2 dL_law_464 ?_
  refine l_aload_n (pc := 465) K dL_law_465 0 rfl ?_
  refine l_iload_n (pc := 466) K dL_law_466 3 rfl ?_
  refine l_bipush (pc := 467) (v := 6) K dL_law_467 rfl ?_
  refine l_iadd (pc := 469) K dL_law_469 ?_
  refine l_sld (pc := 470) K (9 * k + 6) (q_ld hk hL hx3 (j := 6) (by decide)).1 (q_ld hk hL hx3 (j := 6) (by decide)).2 dL_law_470 ?_
  refine l_aload_n (pc := 471) K dL_law_471 0 rfl ?_
  refine l_iload_n (pc := 472) K dL_law_472 3 rfl ?_
  refine l_bipush (pc := 473) (v := 7) K dL_law_473 rfl ?_
  refine l_iadd (pc := 475) K dL_law_475 ?_
  refine l_sld (pc := 476) K (9 * k + 7) (q_ld hk hL hx3 (j := 7) (by decide)).1 (q_ld hk hL hx3 (j := 7) (by decide)).2 dL_law_476 ?_
  refine l_aload_n (pc := 477) K dL_law_477 0 rfl ?_
  refine l_iload_n (pc := 478) K dL_law_478 3 rfl ?_
  refine l_bipush (pc := 479) (v := 8) K dL_law_479 rfl ?_
  refine l_iadd (pc := 481) K dL_law_481 ?_
  refine l_sld (pc := 482) K (9 * k + 8) (q_ld hk hL hx3 (j := 8) (by decide)).1 (q_ld hk hL hx3 (j := 8) (by decide)).2 dL_law_482 ?_
  refine l_call1 (pc := 483) (As := [.int (xs (9 * k + 1)), .int (xs (9 * k + 2)), .int (xs (9 * k + 3)), .int (xs (9 * k + 4)), .int (xs (9 * k + 5)), .int (xs (9 * k + 6)), .int (xs (9 * k + 7)), .int (xs (9 * k + 8))]) (rest := []) (st' := [.int r]) (r := .int r) (N1 := N1) K (kX11_weighs l hJ1 hs1 h1) (jg_L hin jl_L_48 jw_i_X11_weighs jw_s_X11_weighs jw_n_X11 jw_c_X11_weighs) rfl rfl rfl jd_X11_weighs ⟨Nat.le_of_ble_eq_true rfl, Nat.le_of_ble_eq_true rfl⟩ rfl rfl (Nat.le_of_ble_eq_true rfl) rfl hcs dL_law_483 rfl ?_
  refine l_aload_n (pc := 486) K dL_law_486 2 rfl ?_
  refine l_aload_n (pc := 487) K dL_law_487 0 rfl ?_
  refine l_iload_n (pc := 488) K dL_law_488 3 rfl ?_
  refine l_iconst (pc := 489) (v := 1) K dL_law_489 rfl ?_
  refine l_iadd (pc := 490) K dL_law_490 ?_
  refine l_sld (pc := 491) K (9 * k + 1) (q_ld hk hL hx3 (j := 1) (by decide)).1 (q_ld hk hL hx3 (j := 1) (by decide)).2 dL_law_491 ?_
  refine l_aload_n (pc := 492) K dL_law_492 0 rfl ?_
  refine l_iload_n (pc := 493) K dL_law_493 3 rfl ?_
  refine l_iconst (pc := 494) (v := 2) K dL_law_494 rfl ?_
  refine l_iadd (pc := 495) K dL_law_495 ?_
  refine l_sld (pc := 496) K (9 * k + 2) (q_ld hk hL hx3 (j := 2) (by decide)).1 (q_ld hk hL hx3 (j := 2) (by decide)).2 dL_law_496 ?_
  refine l_aload_n (pc := 497) K dL_law_497 0 rfl ?_
  refine l_iload_n (pc := 498) K dL_law_498 3 rfl ?_
  refine l_iconst (pc := 499) (v := 3) K dL_law_499 rfl ?_
  refine l_iadd (pc := 500) K dL_law_500 ?_
  refine l_sld (pc := 501) K (9 * k + 3) (q_ld hk hL hx3 (j := 3) (by decide)).1 (q_ld hk hL hx3 (j := 3) (by decide)).2 dL_law_501 ?_
  refine l_aload_n (pc := 502) K dL_law_502 0 rfl ?_
  refine l_iload_n (pc := 503) K dL_law_503 3 rfl ?_
  refine l_iconst (pc := 504) (v := 4) K dL_law_504 rfl ?_
  refine l_iadd (pc := 505) K dL_law_505 ?_
  refine l_sld (pc := 506) K (9 * k + 4) (q_ld hk hL hx3 (j := 4) (by decide)).1 (q_ld hk hL hx3 (j := 4) (by decide)).2 dL_law_506 ?_
  refine l_aload_n (pc := 507) K dL_law_507 0 rfl ?_
  refine l_iload_n (pc := 508) K dL_law_508 3 rfl ?_
  refine l_iconst (pc := 509) (v := 5) K dL_law_509 rfl ?_
  refine l_iadd (pc := 510) K dL_law_510 ?_
  refine l_sld (pc := 511) K (9 * k + 5) (q_ld hk hL hx3 (j := 5) (by decide)).1 (q_ld hk hL hx3 (j := 5) (by decide)).2 dL_law_511 ?_
  refine l_aload_n (pc := 512) K dL_law_512 0 rfl ?_
  refine l_iload_n (pc := 513) K dL_law_513 3 rfl ?_
  refine l_bipush (pc := 514) (v := 6) K dL_law_514 rfl ?_
  refine l_iadd (pc := 516) K dL_law_516 ?_
  refine l_sld (pc := 517) K (9 * k + 6) (q_ld hk hL hx3 (j := 6) (by decide)).1 (q_ld hk hL hx3 (j := 6) (by decide)).2 dL_law_517 ?_
  refine l_aload_n (pc := 518) K dL_law_518 0 rfl ?_
  refine l_iload_n (pc := 519) K dL_law_519 3 rfl ?_
  refine l_bipush (pc := 520) (v := 7) K dL_law_520 rfl ?_
  refine l_iadd (pc := 522) K dL_law_522 ?_
  refine l_sld (pc := 523) K (9 * k + 7) (q_ld hk hL hx3 (j := 7) (by decide)).1 (q_ld hk hL hx3 (j := 7) (by decide)).2 dL_law_523 ?_
  refine l_aload_n (pc := 524) K dL_law_524 0 rfl ?_
  refine l_iload_n (pc := 525) K dL_law_525 3 rfl ?_
  refine l_bipush (pc := 526) (v := 8) K dL_law_526 rfl ?_
  refine l_iadd (pc := 528) K dL_law_528 ?_
  refine l_sld (pc := 529) K (9 * k + 8) (q_ld hk hL hx3 (j := 8) (by decide)).1 (q_ld hk hL hx3 (j := 8) (by decide)).2 dL_law_529 ?_
  refine l_call2 (pc := 530) (As := [.int (xs (9 * k + 1)), .int (xs (9 * k + 2)), .int (xs (9 * k + 3)), .int (xs (9 * k + 4)), .int (xs (9 * k + 5)), .int (xs (9 * k + 6)), .int (xs (9 * k + 7)), .int (xs (9 * k + 8))]) (rest := [.int r]) (st' := [.int r, .int r]) (r := .int r) (N1 := N2) K (kX12_weighs l hJ2 hs2 h2) (jg_L hin jl_L_52 jw_i_X12_weighs jw_s_X12_weighs jw_n_X12 jw_c_X12_weighs) rfl rfl rfl jd_X12_weighs ⟨Nat.le_of_ble_eq_true rfl, Nat.le_of_ble_eq_true rfl⟩ rfl rfl (Nat.le_of_ble_eq_true rfl) rfl hcs dL_law_530 rfl ?_
  refine l_eqT (pc := 533) (tgt := 1288) K dL_law_533 (by decide) rfl ?_
  exact kk
set_option maxRecDepth 100000 in
set_option maxHeartbeats 4000000 in
theorem l_case_8 {x : Cx} {l : Launch} {y1 y2 : Ly} {b L k : Nat} {xs : Nat → Int32} {cells slots : Nat} {M1 M2 N1 N2 : QM} {x3 : Int32} (hin : ∀ w ∈ wsL_law, w ∈ lw_tbl) (K : VKL x l y1 y2 b L xs) (hk : 9 * k + 9 ≤ L) (hL : L ≤ 4608) (hx3 : x3 = nI (9 * k)) (hcs : cells ≤ 600000 ∧ slots ≤ 7302250) {r : Int32} (h1 : fX11_quarrel M1 (xs (9 * k + 1)) (xs (9 * k + 2)) (xs (9 * k + 3)) (xs (9 * k + 4)) = some (r, N1)) (h2 : fX12_quarrel M2 (xs (9 * k + 1)) (xs (9 * k + 2)) (xs (9 * k + 3)) (xs (9 * k + 4)) = some (r, N2)) (kk : VL x y1 y2 cells slots N1 N2 1288 [(0, .ref b), (1, .ref (ly_o y1 0)), (2, .ref (ly_o y2 1000)), (3, .int x3)] []) : VL x y1 y2 cells slots M1 M2 538 [(0, .ref b), (1, .ref (ly_o y1 0)), (2, .ref (ly_o y2 1000)), (3, .int x3)] [] := by
  obtain ⟨-, -, -, -, -, -, -, -, hJ1, hJ2, -, -, -, -, -, -, -, hs1, hs2, -, -⟩ := id K
  refine l_aload_n (pc := 538) K dL_law_538 1 rfl ?_
  refine l_aload_n (pc := 539) K dL_law_539 0 rfl ?_
  refine l_iload_n (pc := 540) K dL_law_540 3 rfl ?_
  refine l_iconst (pc := 541) (v := 1) K dL_law_541 rfl ?_
  refine l_iadd (pc := 542) K dL_law_542 ?_
  refine l_sld (pc := 543) K (9 * k + 1) (q_ld hk hL hx3 (j := 1) (by decide)).1 (q_ld hk hL hx3 (j := 1) (by decide)).2 dL_law_543 ?_
  refine l_aload_n (pc := 544) K dL_law_544 0 rfl ?_
  refine l_iload_n (pc := 545) K dL_law_545 3 rfl ?_
  refine l_iconst (pc := 546) (v := 2) K dL_law_546 rfl ?_
  refine l_iadd (pc := 547) K dL_law_547 ?_
  refine l_sld (pc := 548) K (9 * k + 2) (q_ld hk hL hx3 (j := 2) (by decide)).1 (q_ld hk hL hx3 (j := 2) (by decide)).2 dL_law_548 ?_
  refine l_aload_n (pc := 549) K dL_law_549 0 rfl ?_
  refine l_iload_n (pc := 550) K dL_law_550 3 rfl ?_
  refine l_iconst (pc := 551) (v := 3) K dL_law_551 rfl ?_
  refine l_iadd (pc := 552) K dL_law_552 ?_
  refine l_sld (pc := 553) K (9 * k + 3) (q_ld hk hL hx3 (j := 3) (by decide)).1 (q_ld hk hL hx3 (j := 3) (by decide)).2 dL_law_553 ?_
  refine l_aload_n (pc := 554) K dL_law_554 0 rfl ?_
  refine l_iload_n (pc := 555) K dL_law_555 3 rfl ?_
  refine l_iconst (pc := 556) (v := 4) K dL_law_556 rfl ?_
  refine l_iadd (pc := 557) K dL_law_557 ?_
  refine l_sld (pc := 558) K (9 * k + 4) (q_ld hk hL hx3 (j := 4) (by decide)).1 (q_ld hk hL hx3 (j := 4) (by decide)).2 dL_law_558 ?_
  refine l_call1 (pc := 559) (As := [.int (xs (9 * k + 1)), .int (xs (9 * k + 2)), .int (xs (9 * k + 3)), .int (xs (9 * k + 4))]) (rest := []) (st' := [.int r]) (r := .int r) (N1 := N1) K (kX11_quarrel l hJ1 hs1 h1) (jg_L hin jl_L_53 jw_i_X11_quarrel jw_s_X11_quarrel jw_n_X11 jw_c_X11_quarrel) rfl rfl rfl jd_X11_quarrel ⟨Nat.le_of_ble_eq_true rfl, Nat.le_of_ble_eq_true rfl⟩ rfl rfl (Nat.le_of_ble_eq_true rfl) rfl hcs dL_law_559 rfl ?_
  refine l_aload_n (pc := 562) K dL_law_562 2 rfl ?_
  refine l_aload_n (pc := 563) K dL_law_563 0 rfl ?_
  refine l_iload_n (pc := 564) K dL_law_564 3 rfl ?_
  refine l_iconst (pc := 565) (v := 1) K dL_law_565 rfl ?_
  refine l_iadd (pc := 566) K dL_law_566 ?_
  refine l_sld (pc := 567) K (9 * k + 1) (q_ld hk hL hx3 (j := 1) (by decide)).1 (q_ld hk hL hx3 (j := 1) (by decide)).2 dL_law_567 ?_
  refine l_aload_n (pc := 568) K dL_law_568 0 rfl ?_
  refine l_iload_n (pc := 569) K dL_law_569 3 rfl ?_
  refine l_iconst (pc := 570) (v := 2) K dL_law_570 rfl ?_
  refine l_iadd (pc := 571) K dL_law_571 ?_
  refine l_sld (pc := 572) K (9 * k + 2) (q_ld hk hL hx3 (j := 2) (by decide)).1 (q_ld hk hL hx3 (j := 2) (by decide)).2 dL_law_572 ?_
  refine l_aload_n (pc := 573) K dL_law_573 0 rfl ?_
  refine l_iload_n (pc := 574) K dL_law_574 3 rfl ?_
  refine l_iconst (pc := 575) (v := 3) K dL_law_575 rfl ?_
  refine l_iadd (pc := 576) K dL_law_576 ?_
  refine l_sld (pc := 577) K (9 * k + 3) (q_ld hk hL hx3 (j := 3) (by decide)).1 (q_ld hk hL hx3 (j := 3) (by decide)).2 dL_law_577 ?_
  refine l_aload_n (pc := 578) K dL_law_578 0 rfl ?_
  refine l_iload_n (pc := 579) K dL_law_579 3 rfl ?_
  refine l_iconst (pc := 580) (v := 4) K dL_law_580 rfl ?_
  refine l_iadd (pc := 581) K dL_law_581 ?_
  refine l_sld (pc := 582) K (9 * k + 4) (q_ld hk hL hx3 (j := 4) (by decide)).1 (q_ld hk hL hx3 (j := 4) (by decide)).2 dL_law_582 ?_
  refine l_call2 (pc := 583) (As := [.int (xs (9 * k + 1)), .int (xs (9 * k + 2)), .int (xs (9 * k + 3)), .int (xs (9 * k + 4))]) (rest := [.int r]) (st' := [.int r, .int r]) (r := .int r) (N1 := N2) K (kX12_quarrel l hJ2 hs2 h2) (jg_L hin jl_L_57 jw_i_X12_quarrel jw_s_X12_quarrel jw_n_X12 jw_c_X12_quarrel) rfl rfl rfl jd_X12_quarrel ⟨Nat.le_of_ble_eq_true rfl, Nat.le_of_ble_eq_true rfl⟩ rfl rfl (Nat.le_of_ble_eq_true rfl) rfl hcs dL_law_583 rfl ?_
  refine l_eqT (pc := 586) (tgt := 1288) K dL_law_586 (by decide) rfl ?_
  exact kk
set_option maxRecDepth 100000 in
set_option maxHeartbeats 4000000 in
theorem l_case_9 {x : Cx} {l : Launch} {y1 y2 : Ly} {b L k : Nat} {xs : Nat → Int32} {cells slots : Nat} {M1 M2 N1 N2 : QM} {x3 : Int32} (hin : ∀ w ∈ wsL_law, w ∈ lw_tbl) (K : VKL x l y1 y2 b L xs) (hk : 9 * k + 9 ≤ L) (hL : L ≤ 4608) (hx3 : x3 = nI (9 * k)) (hcs : cells ≤ 600000 ∧ slots ≤ 7302250) {r : Int32} (h1 : fX11_state M1 (xs (9 * k + 1)) (xs (9 * k + 2)) = some (r, N1)) (h2 : fX12_state M2 (xs (9 * k + 1)) (xs (9 * k + 2)) = some (r, N2)) (kk : VL x y1 y2 cells slots N1 N2 1288 [(0, .ref b), (1, .ref (ly_o y1 0)), (2, .ref (ly_o y2 1000)), (3, .int x3)] []) : VL x y1 y2 cells slots M1 M2 591 [(0, .ref b), (1, .ref (ly_o y1 0)), (2, .ref (ly_o y2 1000)), (3, .int x3)] [] := by
  obtain ⟨-, -, -, -, -, -, -, -, hJ1, hJ2, -, -, -, -, -, -, -, hs1, hs2, -, -⟩ := id K
  refine l_aload_n (pc := 591) K dL_law_591 1 rfl ?_
  refine l_aload_n (pc := 592) K dL_law_592 0 rfl ?_
  refine l_iload_n (pc := 593) K dL_law_593 3 rfl ?_
  refine l_iconst (pc := 594) (v := 1) K dL_law_594 rfl ?_
  refine l_iadd (pc := 595) K dL_law_595 ?_
  refine l_sld (pc := 596) K (9 * k + 1) (q_ld hk hL hx3 (j := 1) (by decide)).1 (q_ld hk hL hx3 (j := 1) (by decide)).2 dL_law_596 ?_
  refine l_aload_n (pc := 597) K dL_law_597 0 rfl ?_
  refine l_iload_n (pc := 598) K dL_law_598 3 rfl ?_
  refine l_iconst (pc := 599) (v := 2) K dL_law_599 rfl ?_
  refine l_iadd (pc := 600) K dL_law_600 ?_
  refine l_sld (pc := 601) K (9 * k + 2) (q_ld hk hL hx3 (j := 2) (by decide)).1 (q_ld hk hL hx3 (j := 2) (by decide)).2 dL_law_601 ?_
  refine l_call1 (pc := 602) (As := [.int (xs (9 * k + 1)), .int (xs (9 * k + 2))]) (rest := []) (st' := [.int r]) (r := .int r) (N1 := N1) K (kX11_state l hJ1 hs1 h1) (jg_L hin jl_L_58 jw_i_X11_state jw_s_X11_state jw_n_X11 jw_c_X11_state) rfl rfl rfl jd_X11_state ⟨Nat.le_of_ble_eq_true rfl, Nat.le_of_ble_eq_true rfl⟩ rfl rfl (Nat.le_of_ble_eq_true rfl) rfl hcs dL_law_602 rfl ?_
  refine l_aload_n (pc := 605) K dL_law_605 2 rfl ?_
  refine l_aload_n (pc := 606) K dL_law_606 0 rfl ?_
  refine l_iload_n (pc := 607) K dL_law_607 3 rfl ?_
  refine l_iconst (pc := 608) (v := 1) K dL_law_608 rfl ?_
  refine l_iadd (pc := 609) K dL_law_609 ?_
  refine l_sld (pc := 610) K (9 * k + 1) (q_ld hk hL hx3 (j := 1) (by decide)).1 (q_ld hk hL hx3 (j := 1) (by decide)).2 dL_law_610 ?_
  refine l_aload_n (pc := 611) K dL_law_611 0 rfl ?_
  refine l_iload_n (pc := 612) K dL_law_612 3 rfl ?_
  refine l_iconst (pc := 613) (v := 2) K dL_law_613 rfl ?_
  refine l_iadd (pc := 614) K dL_law_614 ?_
  refine l_sld (pc := 615) K (9 * k + 2) (q_ld hk hL hx3 (j := 2) (by decide)).1 (q_ld hk hL hx3 (j := 2) (by decide)).2 dL_law_615 ?_
  refine l_call2 (pc := 616) (As := [.int (xs (9 * k + 1)), .int (xs (9 * k + 2))]) (rest := [.int r]) (st' := [.int r, .int r]) (r := .int r) (N1 := N2) K (kX12_state l hJ2 hs2 h2) (jg_L hin jl_L_61 jw_i_X12_state jw_s_X12_state jw_n_X12 jw_c_X12_state) rfl rfl rfl jd_X12_state ⟨Nat.le_of_ble_eq_true rfl, Nat.le_of_ble_eq_true rfl⟩ rfl rfl (Nat.le_of_ble_eq_true rfl) rfl hcs dL_law_616 rfl ?_
  refine l_eqT (pc := 619) (tgt := 1288) K dL_law_619 (by decide) rfl ?_
  exact kk
set_option maxRecDepth 100000 in
set_option maxHeartbeats 4000000 in
theorem l_case_10 {x : Cx} {l : Launch} {y1 y2 : Ly} {b L k : Nat} {xs : Nat → Int32} {cells slots : Nat} {M1 M2 N1 N2 : QM} {x3 : Int32} (hin : ∀ w ∈ wsL_law, w ∈ lw_tbl) (K : VKL x l y1 y2 b L xs) (hk : 9 * k + 9 ≤ L) (hL : L ≤ 4608) (hx3 : x3 = nI (9 * k)) (hcs : cells ≤ 600000 ∧ slots ≤ 7302250) {r : Int32} (h1 : fX11_may M1 (xs (9 * k + 1)) = some (r, N1)) (h2 : fX12_may M2 (xs (9 * k + 1)) = some (r, N2)) (kk : VL x y1 y2 cells slots N1 N2 1288 [(0, .ref b), (1, .ref (ly_o y1 0)), (2, .ref (ly_o y2 1000)), (3, .int x3)] []) : VL x y1 y2 cells slots M1 M2 624 [(0, .ref b), (1, .ref (ly_o y1 0)), (2, .ref (ly_o y2 1000)), (3, .int x3)] [] := by
  obtain ⟨-, -, -, -, -, -, -, -, hJ1, hJ2, -, -, -, -, -, -, -, hs1, hs2, -, -⟩ := id K
  refine l_aload_n (pc := 624) K dL_law_624 1 rfl ?_
  refine l_aload_n (pc := 625) K dL_law_625 0 rfl ?_
  refine l_iload_n (pc := 626) K dL_law_626 3 rfl ?_
  refine l_iconst (pc := 627) (v := 1) K dL_law_627 rfl ?_
  refine l_iadd (pc := 628) K dL_law_628 ?_
  refine l_sld (pc := 629) K (9 * k + 1) (q_ld hk hL hx3 (j := 1) (by decide)).1 (q_ld hk hL hx3 (j := 1) (by decide)).2 dL_law_629 ?_
  refine l_call1 (pc := 630) (As := [.int (xs (9 * k + 1))]) (rest := []) (st' := [.int r]) (r := .int r) (N1 := N1) K (kX11_may l hJ1 hs1 h1) (jg_L hin jl_L_62 jw_i_X11_may jw_s_X11_may jw_n_X11 jw_c_X11_may) rfl rfl rfl jd_X11_may ⟨Nat.le_of_ble_eq_true rfl, Nat.le_of_ble_eq_true rfl⟩ rfl rfl (Nat.le_of_ble_eq_true rfl) rfl hcs dL_law_630 rfl ?_
  refine l_aload_n (pc := 633) K dL_law_633 2 rfl ?_
  refine l_aload_n (pc := 634) K dL_law_634 0 rfl ?_
  refine l_iload_n (pc := 635) K dL_law_635 3 rfl ?_
  refine l_iconst (pc := 636) (v := 1) K dL_law_636 rfl ?_
  refine l_iadd (pc := 637) K dL_law_637 ?_
  refine l_sld (pc := 638) K (9 * k + 1) (q_ld hk hL hx3 (j := 1) (by decide)).1 (q_ld hk hL hx3 (j := 1) (by decide)).2 dL_law_638 ?_
  refine l_call2 (pc := 639) (As := [.int (xs (9 * k + 1))]) (rest := [.int r]) (st' := [.int r, .int r]) (r := .int r) (N1 := N2) K (kX12_may l hJ2 hs2 h2) (jg_L hin jl_L_65 jw_i_X12_may jw_s_X12_may jw_n_X12 jw_c_X12_may) rfl rfl rfl jd_X12_may ⟨Nat.le_of_ble_eq_true rfl, Nat.le_of_ble_eq_true rfl⟩ rfl rfl (Nat.le_of_ble_eq_true rfl) rfl hcs dL_law_639 rfl ?_
  refine l_eqT (pc := 642) (tgt := 1288) K dL_law_642 (by decide) rfl ?_
  exact kk
set_option maxRecDepth 100000 in
set_option maxHeartbeats 4000000 in
theorem l_case_11 {x : Cx} {l : Launch} {y1 y2 : Ly} {b L k : Nat} {xs : Nat → Int32} {cells slots : Nat} {M1 M2 N1 N2 : QM} {x3 : Int32} (hin : ∀ w ∈ wsL_law, w ∈ lw_tbl) (K : VKL x l y1 y2 b L xs) (hk : 9 * k + 9 ≤ L) (hL : L ≤ 4608) (hx3 : x3 = nI (9 * k)) (hcs : cells ≤ 600000 ∧ slots ≤ 7302250) {r : Int32} (h1 : fX11_move M1 (xs (9 * k + 1)) (xs (9 * k + 2)) = some (r, N1)) (h2 : fX12_move M2 (xs (9 * k + 1)) (xs (9 * k + 2)) = some (r, N2)) (kk : VL x y1 y2 cells slots N1 N2 1288 [(0, .ref b), (1, .ref (ly_o y1 0)), (2, .ref (ly_o y2 1000)), (3, .int x3)] []) : VL x y1 y2 cells slots M1 M2 647 [(0, .ref b), (1, .ref (ly_o y1 0)), (2, .ref (ly_o y2 1000)), (3, .int x3)] [] := by
  obtain ⟨-, -, -, -, -, -, -, -, hJ1, hJ2, -, -, -, -, -, -, -, hs1, hs2, -, -⟩ := id K
  refine l_aload_n (pc := 647) K dL_law_647 1 rfl ?_
  refine l_aload_n (pc := 648) K dL_law_648 0 rfl ?_
  refine l_iload_n (pc := 649) K dL_law_649 3 rfl ?_
  refine l_iconst (pc := 650) (v := 1) K dL_law_650 rfl ?_
  refine l_iadd (pc := 651) K dL_law_651 ?_
  refine l_sld (pc := 652) K (9 * k + 1) (q_ld hk hL hx3 (j := 1) (by decide)).1 (q_ld hk hL hx3 (j := 1) (by decide)).2 dL_law_652 ?_
  refine l_aload_n (pc := 653) K dL_law_653 0 rfl ?_
  refine l_iload_n (pc := 654) K dL_law_654 3 rfl ?_
  refine l_iconst (pc := 655) (v := 2) K dL_law_655 rfl ?_
  refine l_iadd (pc := 656) K dL_law_656 ?_
  refine l_sld (pc := 657) K (9 * k + 2) (q_ld hk hL hx3 (j := 2) (by decide)).1 (q_ld hk hL hx3 (j := 2) (by decide)).2 dL_law_657 ?_
  refine l_call1 (pc := 658) (As := [.int (xs (9 * k + 1)), .int (xs (9 * k + 2))]) (rest := []) (st' := [.int r]) (r := .int r) (N1 := N1) K (kX11_move l hJ1 hs1 h1) (jg_L hin jl_L_66 jw_i_X11_move jw_s_X11_move jw_n_X11 jw_c_X11_move) rfl rfl rfl jd_X11_move ⟨Nat.le_of_ble_eq_true rfl, Nat.le_of_ble_eq_true rfl⟩ rfl rfl (Nat.le_of_ble_eq_true rfl) rfl hcs dL_law_658 rfl ?_
  refine l_aload_n (pc := 661) K dL_law_661 2 rfl ?_
  refine l_aload_n (pc := 662) K dL_law_662 0 rfl ?_
  refine l_iload_n (pc := 663) K dL_law_663 3 rfl ?_
  refine l_iconst (pc := 664) (v := 1) K dL_law_664 rfl ?_
  refine l_iadd (pc := 665) K dL_law_665 ?_
  refine l_sld (pc := 666) K (9 * k + 1) (q_ld hk hL hx3 (j := 1) (by decide)).1 (q_ld hk hL hx3 (j := 1) (by decide)).2 dL_law_666 ?_
  refine l_aload_n (pc := 667) K dL_law_667 0 rfl ?_
  refine l_iload_n (pc := 668) K dL_law_668 3 rfl ?_
  refine l_iconst (pc := 669) (v := 2) K dL_law_669 rfl ?_
  refine l_iadd (pc := 670) K dL_law_670 ?_
  refine l_sld (pc := 671) K (9 * k + 2) (q_ld hk hL hx3 (j := 2) (by decide)).1 (q_ld hk hL hx3 (j := 2) (by decide)).2 dL_law_671 ?_
  refine l_call2 (pc := 672) (As := [.int (xs (9 * k + 1)), .int (xs (9 * k + 2))]) (rest := [.int r]) (st' := [.int r, .int r]) (r := .int r) (N1 := N2) K (kX12_move l hJ2 hs2 h2) (jg_L hin jl_L_69 jw_i_X12_move jw_s_X12_move jw_n_X12 jw_c_X12_move) rfl rfl rfl jd_X12_move ⟨Nat.le_of_ble_eq_true rfl, Nat.le_of_ble_eq_true rfl⟩ rfl rfl (Nat.le_of_ble_eq_true rfl) rfl hcs dL_law_672 rfl ?_
  refine l_eqT (pc := 675) (tgt := 1288) K dL_law_675 (by decide) rfl ?_
  exact kk
set_option maxRecDepth 100000 in
set_option maxHeartbeats 4000000 in
theorem l_case_12 {x : Cx} {l : Launch} {y1 y2 : Ly} {b L k : Nat} {xs : Nat → Int32} {cells slots : Nat} {M1 M2 N1 N2 : QM} {x3 : Int32} (hin : ∀ w ∈ wsL_law, w ∈ lw_tbl) (K : VKL x l y1 y2 b L xs) (hk : 9 * k + 9 ≤ L) (hL : L ≤ 4608) (hx3 : x3 = nI (9 * k)) (hcs : cells ≤ 600000 ∧ slots ≤ 7302250) {r : Int32} (h1 : fX11_history M1 (xs (9 * k + 1)) (xs (9 * k + 2)) = some (r, N1)) (h2 : fX12_history M2 (xs (9 * k + 1)) (xs (9 * k + 2)) = some (r, N2)) (kk : VL x y1 y2 cells slots N1 N2 1288 [(0, .ref b), (1, .ref (ly_o y1 0)), (2, .ref (ly_o y2 1000)), (3, .int x3)] []) : VL x y1 y2 cells slots M1 M2 680 [(0, .ref b), (1, .ref (ly_o y1 0)), (2, .ref (ly_o y2 1000)), (3, .int x3)] [] := by
  obtain ⟨-, -, -, -, -, -, -, -, hJ1, hJ2, -, -, -, -, -, -, -, hs1, hs2, -, -⟩ := id K
  refine l_aload_n (pc := 680) K dL_law_680 1 rfl ?_
  refine l_aload_n (pc := 681) K dL_law_681 0 rfl ?_
  refine l_iload_n (pc := 682) K dL_law_682 3 rfl ?_
  refine l_iconst (pc := 683) (v := 1) K dL_law_683 rfl ?_
  refine l_iadd (pc := 684) K dL_law_684 ?_
  refine l_sld (pc := 685) K (9 * k + 1) (q_ld hk hL hx3 (j := 1) (by decide)).1 (q_ld hk hL hx3 (j := 1) (by decide)).2 dL_law_685 ?_
  refine l_aload_n (pc := 686) K dL_law_686 0 rfl ?_
  refine l_iload_n (pc := 687) K dL_law_687 3 rfl ?_
  refine l_iconst (pc := 688) (v := 2) K dL_law_688 rfl ?_
  refine l_iadd (pc := 689) K dL_law_689 ?_
  refine l_sld (pc := 690) K (9 * k + 2) (q_ld hk hL hx3 (j := 2) (by decide)).1 (q_ld hk hL hx3 (j := 2) (by decide)).2 dL_law_690 ?_
  refine l_call1 (pc := 691) (As := [.int (xs (9 * k + 1)), .int (xs (9 * k + 2))]) (rest := []) (st' := [.int r]) (r := .int r) (N1 := N1) K (kX11_history l hJ1 hs1 h1) (jg_L hin jl_L_70 jw_i_X11_history jw_s_X11_history jw_n_X11 jw_c_X11_history) rfl rfl rfl jd_X11_history ⟨Nat.le_of_ble_eq_true rfl, Nat.le_of_ble_eq_true rfl⟩ rfl rfl (Nat.le_of_ble_eq_true rfl) rfl hcs dL_law_691 rfl ?_
  refine l_aload_n (pc := 694) K dL_law_694 2 rfl ?_
  refine l_aload_n (pc := 695) K dL_law_695 0 rfl ?_
  refine l_iload_n (pc := 696) K dL_law_696 3 rfl ?_
  refine l_iconst (pc := 697) (v := 1) K dL_law_697 rfl ?_
  refine l_iadd (pc := 698) K dL_law_698 ?_
  refine l_sld (pc := 699) K (9 * k + 1) (q_ld hk hL hx3 (j := 1) (by decide)).1 (q_ld hk hL hx3 (j := 1) (by decide)).2 dL_law_699 ?_
  refine l_aload_n (pc := 700) K dL_law_700 0 rfl ?_
  refine l_iload_n (pc := 701) K dL_law_701 3 rfl ?_
  refine l_iconst (pc := 702) (v := 2) K dL_law_702 rfl ?_
  refine l_iadd (pc := 703) K dL_law_703 ?_
  refine l_sld (pc := 704) K (9 * k + 2) (q_ld hk hL hx3 (j := 2) (by decide)).1 (q_ld hk hL hx3 (j := 2) (by decide)).2 dL_law_704 ?_
  refine l_call2 (pc := 705) (As := [.int (xs (9 * k + 1)), .int (xs (9 * k + 2))]) (rest := [.int r]) (st' := [.int r, .int r]) (r := .int r) (N1 := N2) K (kX12_history l hJ2 hs2 h2) (jg_L hin jl_L_73 jw_i_X12_history jw_s_X12_history jw_n_X12 jw_c_X12_history) rfl rfl rfl jd_X12_history ⟨Nat.le_of_ble_eq_true rfl, Nat.le_of_ble_eq_true rfl⟩ rfl rfl (Nat.le_of_ble_eq_true rfl) rfl hcs dL_law_705 rfl ?_
  refine l_eqT (pc := 708) (tgt := 1288) K dL_law_708 (by decide) rfl ?_
  exact kk
set_option maxRecDepth 100000 in
set_option maxHeartbeats 4000000 in
theorem l_case_13 {x : Cx} {l : Launch} {y1 y2 : Ly} {b L k : Nat} {xs : Nat → Int32} {cells slots : Nat} {M1 M2 N1 N2 : QM} {x3 : Int32} (hin : ∀ w ∈ wsL_law, w ∈ lw_tbl) (K : VKL x l y1 y2 b L xs) (hk : 9 * k + 9 ≤ L) (hL : L ≤ 4608) (hx3 : x3 = nI (9 * k)) (hcs : cells ≤ 600000 ∧ slots ≤ 7302250) {r : Int32} (h1 : fX11_ends M1 (xs (9 * k + 1)) = some (r, N1)) (h2 : fX12_ends M2 (xs (9 * k + 1)) = some (r, N2)) (kk : VL x y1 y2 cells slots N1 N2 1288 [(0, .ref b), (1, .ref (ly_o y1 0)), (2, .ref (ly_o y2 1000)), (3, .int x3)] []) : VL x y1 y2 cells slots M1 M2 713 [(0, .ref b), (1, .ref (ly_o y1 0)), (2, .ref (ly_o y2 1000)), (3, .int x3)] [] := by
  obtain ⟨-, -, -, -, -, -, -, -, hJ1, hJ2, -, -, -, -, -, -, -, hs1, hs2, -, -⟩ := id K
  refine l_aload_n (pc := 713) K dL_law_713 1 rfl ?_
  refine l_aload_n (pc := 714) K dL_law_714 0 rfl ?_
  refine l_iload_n (pc := 715) K dL_law_715 3 rfl ?_
  refine l_iconst (pc := 716) (v := 1) K dL_law_716 rfl ?_
  refine l_iadd (pc := 717) K dL_law_717 ?_
  refine l_sld (pc := 718) K (9 * k + 1) (q_ld hk hL hx3 (j := 1) (by decide)).1 (q_ld hk hL hx3 (j := 1) (by decide)).2 dL_law_718 ?_
  refine l_call1 (pc := 719) (As := [.int (xs (9 * k + 1))]) (rest := []) (st' := [.int r]) (r := .int r) (N1 := N1) K (kX11_ends l hJ1 hs1 h1) (jg_L hin jl_L_74 jw_i_X11_ends jw_s_X11_ends jw_n_X11 jw_c_X11_ends) rfl rfl rfl jd_X11_ends ⟨Nat.le_of_ble_eq_true rfl, Nat.le_of_ble_eq_true rfl⟩ rfl rfl (Nat.le_of_ble_eq_true rfl) rfl hcs dL_law_719 rfl ?_
  refine l_aload_n (pc := 722) K dL_law_722 2 rfl ?_
  refine l_aload_n (pc := 723) K dL_law_723 0 rfl ?_
  refine l_iload_n (pc := 724) K dL_law_724 3 rfl ?_
  refine l_iconst (pc := 725) (v := 1) K dL_law_725 rfl ?_
  refine l_iadd (pc := 726) K dL_law_726 ?_
  refine l_sld (pc := 727) K (9 * k + 1) (q_ld hk hL hx3 (j := 1) (by decide)).1 (q_ld hk hL hx3 (j := 1) (by decide)).2 dL_law_727 ?_
  refine l_call2 (pc := 728) (As := [.int (xs (9 * k + 1))]) (rest := [.int r]) (st' := [.int r, .int r]) (r := .int r) (N1 := N2) K (kX12_ends l hJ2 hs2 h2) (jg_L hin jl_L_77 jw_i_X12_ends jw_s_X12_ends jw_n_X12 jw_c_X12_ends) rfl rfl rfl jd_X12_ends ⟨Nat.le_of_ble_eq_true rfl, Nat.le_of_ble_eq_true rfl⟩ rfl rfl (Nat.le_of_ble_eq_true rfl) rfl hcs dL_law_728 rfl ?_
  refine l_eqT (pc := 731) (tgt := 1288) K dL_law_731 (by decide) rfl ?_
  exact kk
set_option maxRecDepth 100000 in
set_option maxHeartbeats 4000000 in
theorem l_case_14 {x : Cx} {l : Launch} {y1 y2 : Ly} {b L k : Nat} {xs : Nat → Int32} {cells slots : Nat} {M1 M2 N1 N2 : QM} {x3 : Int32} (hin : ∀ w ∈ wsL_law, w ∈ lw_tbl) (K : VKL x l y1 y2 b L xs) (hk : 9 * k + 9 ≤ L) (hL : L ≤ 4608) (hx3 : x3 = nI (9 * k)) (hcs : cells ≤ 600000 ∧ slots ≤ 7302250) {r : Int64} (h1 : fX11_ways M1 (xs (9 * k + 1)) (xs (9 * k + 2)) = some (r, N1)) (h2 : fX12_ways M2 (xs (9 * k + 1)) (xs (9 * k + 2)) = some (r, N2)) (kk : VL x y1 y2 cells slots N1 N2 1288 [(0, .ref b), (1, .ref (ly_o y1 0)), (2, .ref (ly_o y2 1000)), (3, .int x3)] []) : VL x y1 y2 cells slots M1 M2 736 [(0, .ref b), (1, .ref (ly_o y1 0)), (2, .ref (ly_o y2 1000)), (3, .int x3)] [] := by
  obtain ⟨-, -, -, -, -, -, -, -, hJ1, hJ2, -, -, -, -, -, -, -, hs1, hs2, -, -⟩ := id K
  refine l_aload_n (pc := 736) K dL_law_736 1 rfl ?_
  refine l_aload_n (pc := 737) K dL_law_737 0 rfl ?_
  refine l_iload_n (pc := 738) K dL_law_738 3 rfl ?_
  refine l_iconst (pc := 739) (v := 1) K dL_law_739 rfl ?_
  refine l_iadd (pc := 740) K dL_law_740 ?_
  refine l_sld (pc := 741) K (9 * k + 1) (q_ld hk hL hx3 (j := 1) (by decide)).1 (q_ld hk hL hx3 (j := 1) (by decide)).2 dL_law_741 ?_
  refine l_aload_n (pc := 742) K dL_law_742 0 rfl ?_
  refine l_iload_n (pc := 743) K dL_law_743 3 rfl ?_
  refine l_iconst (pc := 744) (v := 2) K dL_law_744 rfl ?_
  refine l_iadd (pc := 745) K dL_law_745 ?_
  refine l_sld (pc := 746) K (9 * k + 2) (q_ld hk hL hx3 (j := 2) (by decide)).1 (q_ld hk hL hx3 (j := 2) (by decide)).2 dL_law_746 ?_
  refine l_call1 (pc := 747) (As := [.int (xs (9 * k + 1)), .int (xs (9 * k + 2))]) (rest := []) (st' := [.long r]) (r := .long r) (N1 := N1) K (kX11_ways l hJ1 hs1 h1) (jg_L hin jl_L_78 jw_i_X11_ways jw_s_X11_ways jw_n_X11 jw_c_X11_ways) rfl rfl rfl jd_X11_ways ⟨Nat.le_of_ble_eq_true rfl, Nat.le_of_ble_eq_true rfl⟩ rfl rfl (Nat.le_of_ble_eq_true rfl) rfl hcs dL_law_747 rfl ?_
  refine l_aload_n (pc := 750) K dL_law_750 2 rfl ?_
  refine l_aload_n (pc := 751) K dL_law_751 0 rfl ?_
  refine l_iload_n (pc := 752) K dL_law_752 3 rfl ?_
  refine l_iconst (pc := 753) (v := 1) K dL_law_753 rfl ?_
  refine l_iadd (pc := 754) K dL_law_754 ?_
  refine l_sld (pc := 755) K (9 * k + 1) (q_ld hk hL hx3 (j := 1) (by decide)).1 (q_ld hk hL hx3 (j := 1) (by decide)).2 dL_law_755 ?_
  refine l_aload_n (pc := 756) K dL_law_756 0 rfl ?_
  refine l_iload_n (pc := 757) K dL_law_757 3 rfl ?_
  refine l_iconst (pc := 758) (v := 2) K dL_law_758 rfl ?_
  refine l_iadd (pc := 759) K dL_law_759 ?_
  refine l_sld (pc := 760) K (9 * k + 2) (q_ld hk hL hx3 (j := 2) (by decide)).1 (q_ld hk hL hx3 (j := 2) (by decide)).2 dL_law_760 ?_
  refine l_call2 (pc := 761) (As := [.int (xs (9 * k + 1)), .int (xs (9 * k + 2))]) (rest := [.long r]) (st' := [.long r, .long r]) (r := .long r) (N1 := N2) K (kX12_ways l hJ2 hs2 h2) (jg_L hin jl_L_82 jw_i_X12_ways jw_s_X12_ways jw_n_X12 jw_c_X12_ways) rfl rfl rfl jd_X12_ways ⟨Nat.le_of_ble_eq_true rfl, Nat.le_of_ble_eq_true rfl⟩ rfl rfl (Nat.le_of_ble_eq_true rfl) rfl hcs dL_law_761 rfl ?_
  refine l_lcmp (pc := 764) K dL_law_764 ?_
  refine l_ifeqT (pc := 765) (tgt := 1288) K dL_law_765 (by decide) (q_cmp0 _) ?_
  exact kk
set_option maxRecDepth 100000 in
set_option maxHeartbeats 4000000 in
theorem l_case_15 {x : Cx} {l : Launch} {y1 y2 : Ly} {b L k : Nat} {xs : Nat → Int32} {cells slots : Nat} {M1 M2 N1 N2 : QM} {x3 : Int32} (hin : ∀ w ∈ wsL_law, w ∈ lw_tbl) (K : VKL x l y1 y2 b L xs) (hk : 9 * k + 9 ≤ L) (hL : L ≤ 4608) (hx3 : x3 = nI (9 * k)) (hcs : cells ≤ 600000 ∧ slots ≤ 7302250) {r : Int32} (h1 : fX11_brief M1 (xs (9 * k + 1)) (xs (9 * k + 2)) (xs (9 * k + 3)) = some (r, N1)) (h2 : fX12_brief M2 (xs (9 * k + 1)) (xs (9 * k + 2)) (xs (9 * k + 3)) = some (r, N2)) (kk : VL x y1 y2 cells slots N1 N2 1288 [(0, .ref b), (1, .ref (ly_o y1 0)), (2, .ref (ly_o y2 1000)), (3, .int x3)] []) : VL x y1 y2 cells slots M1 M2 770 [(0, .ref b), (1, .ref (ly_o y1 0)), (2, .ref (ly_o y2 1000)), (3, .int x3)] [] := by
  obtain ⟨-, -, -, -, -, -, -, -, hJ1, hJ2, -, -, -, -, -, -, -, hs1, hs2, -, -⟩ := id K
  refine l_aload_n (pc := 770) K dL_law_770 1 rfl ?_
  refine l_aload_n (pc := 771) K dL_law_771 0 rfl ?_
  refine l_iload_n (pc := 772) K dL_law_772 3 rfl ?_
  refine l_iconst (pc := 773) (v := 1) K dL_law_773 rfl ?_
  refine l_iadd (pc := 774) K dL_law_774 ?_
  refine l_sld (pc := 775) K (9 * k + 1) (q_ld hk hL hx3 (j := 1) (by decide)).1 (q_ld hk hL hx3 (j := 1) (by decide)).2 dL_law_775 ?_
  refine l_aload_n (pc := 776) K dL_law_776 0 rfl ?_
  refine l_iload_n (pc := 777) K dL_law_777 3 rfl ?_
  refine l_iconst (pc := 778) (v := 2) K dL_law_778 rfl ?_
  refine l_iadd (pc := 779) K dL_law_779 ?_
  refine l_sld (pc := 780) K (9 * k + 2) (q_ld hk hL hx3 (j := 2) (by decide)).1 (q_ld hk hL hx3 (j := 2) (by decide)).2 dL_law_780 ?_
  refine l_aload_n (pc := 781) K dL_law_781 0 rfl ?_
  refine l_iload_n (pc := 782) K dL_law_782 3 rfl ?_
  refine l_iconst (pc := 783) (v := 3) K dL_law_783 rfl ?_
  refine l_iadd (pc := 784) K dL_law_784 ?_
  refine l_sld (pc := 785) K (9 * k + 3) (q_ld hk hL hx3 (j := 3) (by decide)).1 (q_ld hk hL hx3 (j := 3) (by decide)).2 dL_law_785 ?_
  refine l_call1 (pc := 786) (As := [.int (xs (9 * k + 1)), .int (xs (9 * k + 2)), .int (xs (9 * k + 3))]) (rest := []) (st' := [.int r]) (r := .int r) (N1 := N1) K (kX11_brief l hJ1 hs1 h1) (jg_L hin jl_L_83 jw_i_X11_brief jw_s_X11_brief jw_n_X11 jw_c_X11_brief) rfl rfl rfl jd_X11_brief ⟨Nat.le_of_ble_eq_true rfl, Nat.le_of_ble_eq_true rfl⟩ rfl rfl (Nat.le_of_ble_eq_true rfl) rfl hcs dL_law_786 rfl ?_
  refine l_aload_n (pc := 789) K dL_law_789 2 rfl ?_
  refine l_aload_n (pc := 790) K dL_law_790 0 rfl ?_
  refine l_iload_n (pc := 791) K dL_law_791 3 rfl ?_
  refine l_iconst (pc := 792) (v := 1) K dL_law_792 rfl ?_
  refine l_iadd (pc := 793) K dL_law_793 ?_
  refine l_sld (pc := 794) K (9 * k + 1) (q_ld hk hL hx3 (j := 1) (by decide)).1 (q_ld hk hL hx3 (j := 1) (by decide)).2 dL_law_794 ?_
  refine l_aload_n (pc := 795) K dL_law_795 0 rfl ?_
  refine l_iload_n (pc := 796) K dL_law_796 3 rfl ?_
  refine l_iconst (pc := 797) (v := 2) K dL_law_797 rfl ?_
  refine l_iadd (pc := 798) K dL_law_798 ?_
  refine l_sld (pc := 799) K (9 * k + 2) (q_ld hk hL hx3 (j := 2) (by decide)).1 (q_ld hk hL hx3 (j := 2) (by decide)).2 dL_law_799 ?_
  refine l_aload_n (pc := 800) K dL_law_800 0 rfl ?_
  refine l_iload_n (pc := 801) K dL_law_801 3 rfl ?_
  refine l_iconst (pc := 802) (v := 3) K dL_law_802 rfl ?_
  refine l_iadd (pc := 803) K dL_law_803 ?_
  refine l_sld (pc := 804) K (9 * k + 3) (q_ld hk hL hx3 (j := 3) (by decide)).1 (q_ld hk hL hx3 (j := 3) (by decide)).2 dL_law_804 ?_
  refine l_call2 (pc := 805) (As := [.int (xs (9 * k + 1)), .int (xs (9 * k + 2)), .int (xs (9 * k + 3))]) (rest := [.int r]) (st' := [.int r, .int r]) (r := .int r) (N1 := N2) K (kX12_brief l hJ2 hs2 h2) (jg_L hin jl_L_86 jw_i_X12_brief jw_s_X12_brief jw_n_X12 jw_c_X12_brief) rfl rfl rfl jd_X12_brief ⟨Nat.le_of_ble_eq_true rfl, Nat.le_of_ble_eq_true rfl⟩ rfl rfl (Nat.le_of_ble_eq_true rfl) rfl hcs dL_law_805 rfl ?_
  refine l_eqT (pc := 808) (tgt := 1288) K dL_law_808 (by decide) rfl ?_
  exact kk
set_option maxRecDepth 100000 in
set_option maxHeartbeats 4000000 in
theorem l_case_16 {x : Cx} {l : Launch} {y1 y2 : Ly} {b L k : Nat} {xs : Nat → Int32} {cells slots : Nat} {M1 M2 N1 N2 : QM} {x3 : Int32} (hin : ∀ w ∈ wsL_law, w ∈ lw_tbl) (K : VKL x l y1 y2 b L xs) (hk : 9 * k + 9 ≤ L) (hL : L ≤ 4608) (hx3 : x3 = nI (9 * k)) (hcs : cells ≤ 600000 ∧ slots ≤ 7302250) {r : Int32} (h1 : fX11_must M1 (xs (9 * k + 1)) = some (r, N1)) (h2 : fX12_must M2 (xs (9 * k + 1)) = some (r, N2)) (kk : VL x y1 y2 cells slots N1 N2 1288 [(0, .ref b), (1, .ref (ly_o y1 0)), (2, .ref (ly_o y2 1000)), (3, .int x3)] []) : VL x y1 y2 cells slots M1 M2 813 [(0, .ref b), (1, .ref (ly_o y1 0)), (2, .ref (ly_o y2 1000)), (3, .int x3)] [] := by
  obtain ⟨-, -, -, -, -, -, -, -, hJ1, hJ2, -, -, -, -, -, -, -, hs1, hs2, -, -⟩ := id K
  refine l_aload_n (pc := 813) K dL_law_813 1 rfl ?_
  refine l_aload_n (pc := 814) K dL_law_814 0 rfl ?_
  refine l_iload_n (pc := 815) K dL_law_815 3 rfl ?_
  refine l_iconst (pc := 816) (v := 1) K dL_law_816 rfl ?_
  refine l_iadd (pc := 817) K dL_law_817 ?_
  refine l_sld (pc := 818) K (9 * k + 1) (q_ld hk hL hx3 (j := 1) (by decide)).1 (q_ld hk hL hx3 (j := 1) (by decide)).2 dL_law_818 ?_
  refine l_call1 (pc := 819) (As := [.int (xs (9 * k + 1))]) (rest := []) (st' := [.int r]) (r := .int r) (N1 := N1) K (kX11_must l hJ1 hs1 h1) (jg_L hin jl_L_87 jw_i_X11_must jw_s_X11_must jw_n_X11 jw_c_X11_must) rfl rfl rfl jd_X11_must ⟨Nat.le_of_ble_eq_true rfl, Nat.le_of_ble_eq_true rfl⟩ rfl rfl (Nat.le_of_ble_eq_true rfl) rfl hcs dL_law_819 rfl ?_
  refine l_aload_n (pc := 822) K dL_law_822 2 rfl ?_
  refine l_aload_n (pc := 823) K dL_law_823 0 rfl ?_
  refine l_iload_n (pc := 824) K dL_law_824 3 rfl ?_
  refine l_iconst (pc := 825) (v := 1) K dL_law_825 rfl ?_
  refine l_iadd (pc := 826) K dL_law_826 ?_
  refine l_sld (pc := 827) K (9 * k + 1) (q_ld hk hL hx3 (j := 1) (by decide)).1 (q_ld hk hL hx3 (j := 1) (by decide)).2 dL_law_827 ?_
  refine l_call2 (pc := 828) (As := [.int (xs (9 * k + 1))]) (rest := [.int r]) (st' := [.int r, .int r]) (r := .int r) (N1 := N2) K (kX12_must l hJ2 hs2 h2) (jg_L hin jl_L_90 jw_i_X12_must jw_s_X12_must jw_n_X12 jw_c_X12_must) rfl rfl rfl jd_X12_must ⟨Nat.le_of_ble_eq_true rfl, Nat.le_of_ble_eq_true rfl⟩ rfl rfl (Nat.le_of_ble_eq_true rfl) rfl hcs dL_law_828 rfl ?_
  refine l_eqT (pc := 831) (tgt := 1288) K dL_law_831 (by decide) rfl ?_
  exact kk
set_option maxRecDepth 100000 in
set_option maxHeartbeats 4000000 in
theorem l_case_17 {x : Cx} {l : Launch} {y1 y2 : Ly} {b L k : Nat} {xs : Nat → Int32} {cells slots : Nat} {M1 M2 N1 N2 : QM} {x3 : Int32} (hin : ∀ w ∈ wsL_law, w ∈ lw_tbl) (K : VKL x l y1 y2 b L xs) (hk : 9 * k + 9 ≤ L) (hL : L ≤ 4608) (hx3 : x3 = nI (9 * k)) (hcs : cells ≤ 600000 ∧ slots ≤ 7302250) {r : Int32} (h1 : fX11_late M1 (xs (9 * k + 1)) = some (r, N1)) (h2 : fX12_late M2 (xs (9 * k + 1)) = some (r, N2)) (kk : VL x y1 y2 cells slots N1 N2 1288 [(0, .ref b), (1, .ref (ly_o y1 0)), (2, .ref (ly_o y2 1000)), (3, .int x3)] []) : VL x y1 y2 cells slots M1 M2 836 [(0, .ref b), (1, .ref (ly_o y1 0)), (2, .ref (ly_o y2 1000)), (3, .int x3)] [] := by
  obtain ⟨-, -, -, -, -, -, -, -, hJ1, hJ2, -, -, -, -, -, -, -, hs1, hs2, -, -⟩ := id K
  refine l_aload_n (pc := 836) K dL_law_836 1 rfl ?_
  refine l_aload_n (pc := 837) K dL_law_837 0 rfl ?_
  refine l_iload_n (pc := 838) K dL_law_838 3 rfl ?_
  refine l_iconst (pc := 839) (v := 1) K dL_law_839 rfl ?_
  refine l_iadd (pc := 840) K dL_law_840 ?_
  refine l_sld (pc := 841) K (9 * k + 1) (q_ld hk hL hx3 (j := 1) (by decide)).1 (q_ld hk hL hx3 (j := 1) (by decide)).2 dL_law_841 ?_
  refine l_call1 (pc := 842) (As := [.int (xs (9 * k + 1))]) (rest := []) (st' := [.int r]) (r := .int r) (N1 := N1) K (kX11_late l hJ1 hs1 h1) (jg_L hin jl_L_91 jw_i_X11_late jw_s_X11_late jw_n_X11 jw_c_X11_late) rfl rfl rfl jd_X11_late ⟨Nat.le_of_ble_eq_true rfl, Nat.le_of_ble_eq_true rfl⟩ rfl rfl (Nat.le_of_ble_eq_true rfl) rfl hcs dL_law_842 rfl ?_
  refine l_aload_n (pc := 845) K dL_law_845 2 rfl ?_
  refine l_aload_n (pc := 846) K dL_law_846 0 rfl ?_
  refine l_iload_n (pc := 847) K dL_law_847 3 rfl ?_
  refine l_iconst (pc := 848) (v := 1) K dL_law_848 rfl ?_
  refine l_iadd (pc := 849) K dL_law_849 ?_
  refine l_sld (pc := 850) K (9 * k + 1) (q_ld hk hL hx3 (j := 1) (by decide)).1 (q_ld hk hL hx3 (j := 1) (by decide)).2 dL_law_850 ?_
  refine l_call2 (pc := 851) (As := [.int (xs (9 * k + 1))]) (rest := [.int r]) (st' := [.int r, .int r]) (r := .int r) (N1 := N2) K (kX12_late l hJ2 hs2 h2) (jg_L hin jl_L_94 jw_i_X12_late jw_s_X12_late jw_n_X12 jw_c_X12_late) rfl rfl rfl jd_X12_late ⟨Nat.le_of_ble_eq_true rfl, Nat.le_of_ble_eq_true rfl⟩ rfl rfl (Nat.le_of_ble_eq_true rfl) rfl hcs dL_law_851 rfl ?_
  refine l_eqT (pc := 854) (tgt := 1288) K dL_law_854 (by decide) rfl ?_
  exact kk
set_option maxRecDepth 100000 in
set_option maxHeartbeats 4000000 in
theorem l_case_18 {x : Cx} {l : Launch} {y1 y2 : Ly} {b L k : Nat} {xs : Nat → Int32} {cells slots : Nat} {M1 M2 N1 N2 : QM} {x3 : Int32} (hin : ∀ w ∈ wsL_law, w ∈ lw_tbl) (K : VKL x l y1 y2 b L xs) (hk : 9 * k + 9 ≤ L) (hL : L ≤ 4608) (hx3 : x3 = nI (9 * k)) (hcs : cells ≤ 600000 ∧ slots ≤ 7302250) {r : Int32} (h1 : fX11_game M1 (xs (9 * k + 1)) (xs (9 * k + 2)) = some (r, N1)) (h2 : fX12_game M2 (xs (9 * k + 1)) (xs (9 * k + 2)) = some (r, N2)) (kk : VL x y1 y2 cells slots N1 N2 1288 [(0, .ref b), (1, .ref (ly_o y1 0)), (2, .ref (ly_o y2 1000)), (3, .int x3)] []) : VL x y1 y2 cells slots M1 M2 859 [(0, .ref b), (1, .ref (ly_o y1 0)), (2, .ref (ly_o y2 1000)), (3, .int x3)] [] := by
  obtain ⟨-, -, -, -, -, -, -, -, hJ1, hJ2, -, -, -, -, -, -, -, hs1, hs2, -, -⟩ := id K
  refine l_aload_n (pc := 859) K dL_law_859 1 rfl ?_
  refine l_aload_n (pc := 860) K dL_law_860 0 rfl ?_
  refine l_iload_n (pc := 861) K dL_law_861 3 rfl ?_
  refine l_iconst (pc := 862) (v := 1) K dL_law_862 rfl ?_
  refine l_iadd (pc := 863) K dL_law_863 ?_
  refine l_sld (pc := 864) K (9 * k + 1) (q_ld hk hL hx3 (j := 1) (by decide)).1 (q_ld hk hL hx3 (j := 1) (by decide)).2 dL_law_864 ?_
  refine l_aload_n (pc := 865) K dL_law_865 0 rfl ?_
  refine l_iload_n (pc := 866) K dL_law_866 3 rfl ?_
  refine l_iconst (pc := 867) (v := 2) K dL_law_867 rfl ?_
  refine l_iadd (pc := 868) K dL_law_868 ?_
  refine l_sld (pc := 869) K (9 * k + 2) (q_ld hk hL hx3 (j := 2) (by decide)).1 (q_ld hk hL hx3 (j := 2) (by decide)).2 dL_law_869 ?_
  refine l_call1 (pc := 870) (As := [.int (xs (9 * k + 1)), .int (xs (9 * k + 2))]) (rest := []) (st' := [.int r]) (r := .int r) (N1 := N1) K (kX11_game l hJ1 hs1 h1) (jg_L hin jl_L_95 jw_i_X11_game jw_s_X11_game jw_n_X11 jw_c_X11_game) rfl rfl rfl jd_X11_game ⟨Nat.le_of_ble_eq_true rfl, Nat.le_of_ble_eq_true rfl⟩ rfl rfl (Nat.le_of_ble_eq_true rfl) rfl hcs dL_law_870 rfl ?_
  refine l_aload_n (pc := 873) K dL_law_873 2 rfl ?_
  refine l_aload_n (pc := 874) K dL_law_874 0 rfl ?_
  refine l_iload_n (pc := 875) K dL_law_875 3 rfl ?_
  refine l_iconst (pc := 876) (v := 1) K dL_law_876 rfl ?_
  refine l_iadd (pc := 877) K dL_law_877 ?_
  refine l_sld (pc := 878) K (9 * k + 1) (q_ld hk hL hx3 (j := 1) (by decide)).1 (q_ld hk hL hx3 (j := 1) (by decide)).2 dL_law_878 ?_
  refine l_aload_n (pc := 879) K dL_law_879 0 rfl ?_
  refine l_iload_n (pc := 880) K dL_law_880 3 rfl ?_
  refine l_iconst (pc := 881) (v := 2) K dL_law_881 rfl ?_
  refine l_iadd (pc := 882) K dL_law_882 ?_
  refine l_sld (pc := 883) K (9 * k + 2) (q_ld hk hL hx3 (j := 2) (by decide)).1 (q_ld hk hL hx3 (j := 2) (by decide)).2 dL_law_883 ?_
  refine l_call2 (pc := 884) (As := [.int (xs (9 * k + 1)), .int (xs (9 * k + 2))]) (rest := [.int r]) (st' := [.int r, .int r]) (r := .int r) (N1 := N2) K (kX12_game l hJ2 hs2 h2) (jg_L hin jl_L_98 jw_i_X12_game jw_s_X12_game jw_n_X12 jw_c_X12_game) rfl rfl rfl jd_X12_game ⟨Nat.le_of_ble_eq_true rfl, Nat.le_of_ble_eq_true rfl⟩ rfl rfl (Nat.le_of_ble_eq_true rfl) rfl hcs dL_law_884 rfl ?_
  refine l_eqT (pc := 887) (tgt := 1288) K dL_law_887 (by decide) rfl ?_
  exact kk
set_option maxRecDepth 100000 in
set_option maxHeartbeats 4000000 in
theorem l_case_19 {x : Cx} {l : Launch} {y1 y2 : Ly} {b L k : Nat} {xs : Nat → Int32} {cells slots : Nat} {M1 M2 N1 N2 : QM} {x3 : Int32} (hin : ∀ w ∈ wsL_law, w ∈ lw_tbl) (K : VKL x l y1 y2 b L xs) (hk : 9 * k + 9 ≤ L) (hL : L ≤ 4608) (hx3 : x3 = nI (9 * k)) (hcs : cells ≤ 600000 ∧ slots ≤ 7302250) {r : Int32} (h1 : fX11_otherwise M1 (xs (9 * k + 1)) (xs (9 * k + 2)) (xs (9 * k + 3)) = some (r, N1)) (h2 : fX12_otherwise M2 (xs (9 * k + 1)) (xs (9 * k + 2)) (xs (9 * k + 3)) = some (r, N2)) (kk : VL x y1 y2 cells slots N1 N2 1288 [(0, .ref b), (1, .ref (ly_o y1 0)), (2, .ref (ly_o y2 1000)), (3, .int x3)] []) : VL x y1 y2 cells slots M1 M2 892 [(0, .ref b), (1, .ref (ly_o y1 0)), (2, .ref (ly_o y2 1000)), (3, .int x3)] [] := by
  obtain ⟨-, -, -, -, -, -, -, -, hJ1, hJ2, -, -, -, -, -, -, -, hs1, hs2, -, -⟩ := id K
  refine l_aload_n (pc := 892) K dL_law_892 1 rfl ?_
  refine l_aload_n (pc := 893) K dL_law_893 0 rfl ?_
  refine l_iload_n (pc := 894) K dL_law_894 3 rfl ?_
  refine l_iconst (pc := 895) (v := 1) K dL_law_895 rfl ?_
  refine l_iadd (pc := 896) K dL_law_896 ?_
  refine l_sld (pc := 897) K (9 * k + 1) (q_ld hk hL hx3 (j := 1) (by decide)).1 (q_ld hk hL hx3 (j := 1) (by decide)).2 dL_law_897 ?_
  refine l_aload_n (pc := 898) K dL_law_898 0 rfl ?_
  refine l_iload_n (pc := 899) K dL_law_899 3 rfl ?_
  refine l_iconst (pc := 900) (v := 2) K dL_law_900 rfl ?_
  refine l_iadd (pc := 901) K dL_law_901 ?_
  refine l_sld (pc := 902) K (9 * k + 2) (q_ld hk hL hx3 (j := 2) (by decide)).1 (q_ld hk hL hx3 (j := 2) (by decide)).2 dL_law_902 ?_
  refine l_aload_n (pc := 903) K dL_law_903 0 rfl ?_
  refine l_iload_n (pc := 904) K dL_law_904 3 rfl ?_
  refine l_iconst (pc := 905) (v := 3) K dL_law_905 rfl ?_
  refine l_iadd (pc := 906) K dL_law_906 ?_
  refine l_sld (pc := 907) K (9 * k + 3) (q_ld hk hL hx3 (j := 3) (by decide)).1 (q_ld hk hL hx3 (j := 3) (by decide)).2 dL_law_907 ?_
  refine l_call1 (pc := 908) (As := [.int (xs (9 * k + 1)), .int (xs (9 * k + 2)), .int (xs (9 * k + 3))]) (rest := []) (st' := [.int r]) (r := .int r) (N1 := N1) K (kX11_otherwise l hJ1 hs1 h1) (jg_L hin jl_L_99 jw_i_X11_otherwise jw_s_X11_otherwise jw_n_X11 jw_c_X11_otherwise) rfl rfl rfl jd_X11_otherwise ⟨Nat.le_of_ble_eq_true rfl, Nat.le_of_ble_eq_true rfl⟩ rfl rfl (Nat.le_of_ble_eq_true rfl) rfl hcs dL_law_908 rfl ?_
  refine l_aload_n (pc := 911) K dL_law_911 2 rfl ?_
  refine l_aload_n (pc := 912) K dL_law_912 0 rfl ?_
  refine l_iload_n (pc := 913) K dL_law_913 3 rfl ?_
  refine l_iconst (pc := 914) (v := 1) K dL_law_914 rfl ?_
  refine l_iadd (pc := 915) K dL_law_915 ?_
  refine l_sld (pc := 916) K (9 * k + 1) (q_ld hk hL hx3 (j := 1) (by decide)).1 (q_ld hk hL hx3 (j := 1) (by decide)).2 dL_law_916 ?_
  refine l_aload_n (pc := 917) K dL_law_917 0 rfl ?_
  refine l_iload_n (pc := 918) K dL_law_918 3 rfl ?_
  refine l_iconst (pc := 919) (v := 2) K dL_law_919 rfl ?_
  refine l_iadd (pc := 920) K dL_law_920 ?_
  refine l_sld (pc := 921) K (9 * k + 2) (q_ld hk hL hx3 (j := 2) (by decide)).1 (q_ld hk hL hx3 (j := 2) (by decide)).2 dL_law_921 ?_
  refine l_aload_n (pc := 922) K dL_law_922 0 rfl ?_
  refine l_iload_n (pc := 923) K dL_law_923 3 rfl ?_
  refine l_iconst (pc := 924) (v := 3) K dL_law_924 rfl ?_
  refine l_iadd (pc := 925) K dL_law_925 ?_
  refine l_sld (pc := 926) K (9 * k + 3) (q_ld hk hL hx3 (j := 3) (by decide)).1 (q_ld hk hL hx3 (j := 3) (by decide)).2 dL_law_926 ?_
  refine l_call2 (pc := 927) (As := [.int (xs (9 * k + 1)), .int (xs (9 * k + 2)), .int (xs (9 * k + 3))]) (rest := [.int r]) (st' := [.int r, .int r]) (r := .int r) (N1 := N2) K (kX12_otherwise l hJ2 hs2 h2) (jg_L hin jl_L_102 jw_i_X12_otherwise jw_s_X12_otherwise jw_n_X12 jw_c_X12_otherwise) rfl rfl rfl jd_X12_otherwise ⟨Nat.le_of_ble_eq_true rfl, Nat.le_of_ble_eq_true rfl⟩ rfl rfl (Nat.le_of_ble_eq_true rfl) rfl hcs dL_law_927 rfl ?_
  refine l_eqT (pc := 930) (tgt := 1288) K dL_law_930 (by decide) rfl ?_
  exact kk
set_option maxRecDepth 100000 in
set_option maxHeartbeats 4000000 in
theorem l_case_20 {x : Cx} {l : Launch} {y1 y2 : Ly} {b L k : Nat} {xs : Nat → Int32} {cells slots : Nat} {M1 M2 N1 N2 : QM} {x3 : Int32} (hin : ∀ w ∈ wsL_law, w ∈ lw_tbl) (K : VKL x l y1 y2 b L xs) (hk : 9 * k + 9 ≤ L) (hL : L ≤ 4608) (hx3 : x3 = nI (9 * k)) (hcs : cells ≤ 600000 ∧ slots ≤ 7302250) {r : Int32} (h1 : fX11_doubt M1 (xs (9 * k + 1)) (xs (9 * k + 2)) = some (r, N1)) (h2 : fX12_doubt M2 (xs (9 * k + 1)) (xs (9 * k + 2)) = some (r, N2)) (kk : VL x y1 y2 cells slots N1 N2 1288 [(0, .ref b), (1, .ref (ly_o y1 0)), (2, .ref (ly_o y2 1000)), (3, .int x3)] []) : VL x y1 y2 cells slots M1 M2 935 [(0, .ref b), (1, .ref (ly_o y1 0)), (2, .ref (ly_o y2 1000)), (3, .int x3)] [] := by
  obtain ⟨-, -, -, -, -, -, -, -, hJ1, hJ2, -, -, -, -, -, -, -, hs1, hs2, -, -⟩ := id K
  refine l_aload_n (pc := 935) K dL_law_935 1 rfl ?_
  refine l_aload_n (pc := 936) K dL_law_936 0 rfl ?_
  refine l_iload_n (pc := 937) K dL_law_937 3 rfl ?_
  refine l_iconst (pc := 938) (v := 1) K dL_law_938 rfl ?_
  refine l_iadd (pc := 939) K dL_law_939 ?_
  refine l_sld (pc := 940) K (9 * k + 1) (q_ld hk hL hx3 (j := 1) (by decide)).1 (q_ld hk hL hx3 (j := 1) (by decide)).2 dL_law_940 ?_
  refine l_aload_n (pc := 941) K dL_law_941 0 rfl ?_
  refine l_iload_n (pc := 942) K dL_law_942 3 rfl ?_
  refine l_iconst (pc := 943) (v := 2) K dL_law_943 rfl ?_
  refine l_iadd (pc := 944) K dL_law_944 ?_
  refine l_sld (pc := 945) K (9 * k + 2) (q_ld hk hL hx3 (j := 2) (by decide)).1 (q_ld hk hL hx3 (j := 2) (by decide)).2 dL_law_945 ?_
  refine l_call1 (pc := 946) (As := [.int (xs (9 * k + 1)), .int (xs (9 * k + 2))]) (rest := []) (st' := [.int r]) (r := .int r) (N1 := N1) K (kX11_doubt l hJ1 hs1 h1) (jg_L hin jl_L_103 jw_i_X11_doubt jw_s_X11_doubt jw_n_X11 jw_c_X11_doubt) rfl rfl rfl jd_X11_doubt ⟨Nat.le_of_ble_eq_true rfl, Nat.le_of_ble_eq_true rfl⟩ rfl rfl (Nat.le_of_ble_eq_true rfl) rfl hcs dL_law_946 rfl ?_
  refine l_aload_n (pc := 949) K dL_law_949 2 rfl ?_
  refine l_aload_n (pc := 950) K dL_law_950 0 rfl ?_
  refine l_iload_n (pc := 951) K dL_law_951 3 rfl ?_
  refine l_iconst (pc := 952) (v := 1) K dL_law_952 rfl ?_
  refine l_iadd (pc := 953) K dL_law_953 ?_
  refine l_sld (pc := 954) K (9 * k + 1) (q_ld hk hL hx3 (j := 1) (by decide)).1 (q_ld hk hL hx3 (j := 1) (by decide)).2 dL_law_954 ?_
  refine l_aload_n (pc := 955) K dL_law_955 0 rfl ?_
  refine l_iload_n (pc := 956) K dL_law_956 3 rfl ?_
  refine l_iconst (pc := 957) (v := 2) K dL_law_957 rfl ?_
  refine l_iadd (pc := 958) K dL_law_958 ?_
  refine l_sld (pc := 959) K (9 * k + 2) (q_ld hk hL hx3 (j := 2) (by decide)).1 (q_ld hk hL hx3 (j := 2) (by decide)).2 dL_law_959 ?_
  refine l_call2 (pc := 960) (As := [.int (xs (9 * k + 1)), .int (xs (9 * k + 2))]) (rest := [.int r]) (st' := [.int r, .int r]) (r := .int r) (N1 := N2) K (kX12_doubt l hJ2 hs2 h2) (jg_L hin jl_L_106 jw_i_X12_doubt jw_s_X12_doubt jw_n_X12 jw_c_X12_doubt) rfl rfl rfl jd_X12_doubt ⟨Nat.le_of_ble_eq_true rfl, Nat.le_of_ble_eq_true rfl⟩ rfl rfl (Nat.le_of_ble_eq_true rfl) rfl hcs dL_law_960 rfl ?_
  refine l_eqT (pc := 963) (tgt := 1288) K dL_law_963 (by decide) rfl ?_
  exact kk
set_option maxRecDepth 100000 in
set_option maxHeartbeats 4000000 in
theorem l_case_21 {x : Cx} {l : Launch} {y1 y2 : Ly} {b L k : Nat} {xs : Nat → Int32} {cells slots : Nat} {M1 M2 N1 N2 : QM} {x3 : Int32} (hin : ∀ w ∈ wsL_law, w ∈ lw_tbl) (K : VKL x l y1 y2 b L xs) (hk : 9 * k + 9 ≤ L) (hL : L ≤ 4608) (hx3 : x3 = nI (9 * k)) (hcs : cells ≤ 600000 ∧ slots ≤ 7302250) {r : Int32} (h1 : fX11_hangs M1 (xs (9 * k + 1)) = some (r, N1)) (h2 : fX12_hangs M2 (xs (9 * k + 1)) = some (r, N2)) (kk : VL x y1 y2 cells slots N1 N2 1288 [(0, .ref b), (1, .ref (ly_o y1 0)), (2, .ref (ly_o y2 1000)), (3, .int x3)] []) : VL x y1 y2 cells slots M1 M2 968 [(0, .ref b), (1, .ref (ly_o y1 0)), (2, .ref (ly_o y2 1000)), (3, .int x3)] [] := by
  obtain ⟨-, -, -, -, -, -, -, -, hJ1, hJ2, -, -, -, -, -, -, -, hs1, hs2, -, -⟩ := id K
  refine l_aload_n (pc := 968) K dL_law_968 1 rfl ?_
  refine l_aload_n (pc := 969) K dL_law_969 0 rfl ?_
  refine l_iload_n (pc := 970) K dL_law_970 3 rfl ?_
  refine l_iconst (pc := 971) (v := 1) K dL_law_971 rfl ?_
  refine l_iadd (pc := 972) K dL_law_972 ?_
  refine l_sld (pc := 973) K (9 * k + 1) (q_ld hk hL hx3 (j := 1) (by decide)).1 (q_ld hk hL hx3 (j := 1) (by decide)).2 dL_law_973 ?_
  refine l_call1 (pc := 974) (As := [.int (xs (9 * k + 1))]) (rest := []) (st' := [.int r]) (r := .int r) (N1 := N1) K (kX11_hangs l hJ1 hs1 h1) (jg_L hin jl_L_107 jw_i_X11_hangs jw_s_X11_hangs jw_n_X11 jw_c_X11_hangs) rfl rfl rfl jd_X11_hangs ⟨Nat.le_of_ble_eq_true rfl, Nat.le_of_ble_eq_true rfl⟩ rfl rfl (Nat.le_of_ble_eq_true rfl) rfl hcs dL_law_974 rfl ?_
  refine l_aload_n (pc := 977) K dL_law_977 2 rfl ?_
  refine l_aload_n (pc := 978) K dL_law_978 0 rfl ?_
  refine l_iload_n (pc := 979) K dL_law_979 3 rfl ?_
  refine l_iconst (pc := 980) (v := 1) K dL_law_980 rfl ?_
  refine l_iadd (pc := 981) K dL_law_981 ?_
  refine l_sld (pc := 982) K (9 * k + 1) (q_ld hk hL hx3 (j := 1) (by decide)).1 (q_ld hk hL hx3 (j := 1) (by decide)).2 dL_law_982 ?_
  refine l_call2 (pc := 983) (As := [.int (xs (9 * k + 1))]) (rest := [.int r]) (st' := [.int r, .int r]) (r := .int r) (N1 := N2) K (kX12_hangs l hJ2 hs2 h2) (jg_L hin jl_L_110 jw_i_X12_hangs jw_s_X12_hangs jw_n_X12 jw_c_X12_hangs) rfl rfl rfl jd_X12_hangs ⟨Nat.le_of_ble_eq_true rfl, Nat.le_of_ble_eq_true rfl⟩ rfl rfl (Nat.le_of_ble_eq_true rfl) rfl hcs dL_law_983 rfl ?_
  refine l_eqT (pc := 986) (tgt := 1288) K dL_law_986 (by decide) rfl ?_
  exact kk
set_option maxRecDepth 100000 in
set_option maxHeartbeats 4000000 in
theorem l_case_22 {x : Cx} {l : Launch} {y1 y2 : Ly} {b L k : Nat} {xs : Nat → Int32} {cells slots : Nat} {M1 M2 N1 N2 : QM} {x3 : Int32} (hin : ∀ w ∈ wsL_law, w ∈ lw_tbl) (K : VKL x l y1 y2 b L xs) (hk : 9 * k + 9 ≤ L) (hL : L ≤ 4608) (hx3 : x3 = nI (9 * k)) (hcs : cells ≤ 600000 ∧ slots ≤ 7302250) {r : Int32} (h1 : fX11_thinks M1 (xs (9 * k + 1)) (xs (9 * k + 2)) (xs (9 * k + 3)) = some (r, N1)) (h2 : fX12_thinks M2 (xs (9 * k + 1)) (xs (9 * k + 2)) (xs (9 * k + 3)) = some (r, N2)) (kk : VL x y1 y2 cells slots N1 N2 1288 [(0, .ref b), (1, .ref (ly_o y1 0)), (2, .ref (ly_o y2 1000)), (3, .int x3)] []) : VL x y1 y2 cells slots M1 M2 991 [(0, .ref b), (1, .ref (ly_o y1 0)), (2, .ref (ly_o y2 1000)), (3, .int x3)] [] := by
  obtain ⟨-, -, -, -, -, -, -, -, hJ1, hJ2, -, -, -, -, -, -, -, hs1, hs2, -, -⟩ := id K
  refine l_aload_n (pc := 991) K dL_law_991 1 rfl ?_
  refine l_aload_n (pc := 992) K dL_law_992 0 rfl ?_
  refine l_iload_n (pc := 993) K dL_law_993 3 rfl ?_
  refine l_iconst (pc := 994) (v := 1) K dL_law_994 rfl ?_
  refine l_iadd (pc := 995) K dL_law_995 ?_
  refine l_sld (pc := 996) K (9 * k + 1) (q_ld hk hL hx3 (j := 1) (by decide)).1 (q_ld hk hL hx3 (j := 1) (by decide)).2 dL_law_996 ?_
  refine l_aload_n (pc := 997) K dL_law_997 0 rfl ?_
  refine l_iload_n (pc := 998) K dL_law_998 3 rfl ?_
  refine l_iconst (pc := 999) (v := 2) K dL_law_999 rfl ?_
  refine l_iadd (pc := 1000) K dL_law_1000 ?_
  refine l_sld (pc := 1001) K (9 * k + 2) (q_ld hk hL hx3 (j := 2) (by decide)).1 (q_ld hk hL hx3 (j := 2) (by decide)).2 dL_law_1001 ?_
  refine l_aload_n (pc := 1002) K dL_law_1002 0 rfl ?_
  refine l_iload_n (pc := 1003) K dL_law_1003 3 rfl ?_
  refine l_iconst (pc := 1004) (v := 3) K dL_law_1004 rfl ?_
  refine l_iadd (pc := 1005) K dL_law_1005 ?_
  refine l_sld (pc := 1006) K (9 * k + 3) (q_ld hk hL hx3 (j := 3) (by decide)).1 (q_ld hk hL hx3 (j := 3) (by decide)).2 dL_law_1006 ?_
  refine l_call1 (pc := 1007) (As := [.int (xs (9 * k + 1)), .int (xs (9 * k + 2)), .int (xs (9 * k + 3))]) (rest := []) (st' := [.int r]) (r := .int r) (N1 := N1) K (kX11_thinks l hJ1 hs1 h1) (jg_L hin jl_L_111 jw_i_X11_thinks jw_s_X11_thinks jw_n_X11 jw_c_X11_thinks) rfl rfl rfl jd_X11_thinks ⟨Nat.le_of_ble_eq_true rfl, Nat.le_of_ble_eq_true rfl⟩ rfl rfl (Nat.le_of_ble_eq_true rfl) rfl hcs dL_law_1007 rfl ?_
  refine l_aload_n (pc := 1010) K dL_law_1010 2 rfl ?_
  refine l_aload_n (pc := 1011) K dL_law_1011 0 rfl ?_
  refine l_iload_n (pc := 1012) K dL_law_1012 3 rfl ?_
  refine l_iconst (pc := 1013) (v := 1) K dL_law_1013 rfl ?_
  refine l_iadd (pc := 1014) K dL_law_1014 ?_
  refine l_sld (pc := 1015) K (9 * k + 1) (q_ld hk hL hx3 (j := 1) (by decide)).1 (q_ld hk hL hx3 (j := 1) (by decide)).2 dL_law_1015 ?_
  refine l_aload_n (pc := 1016) K dL_law_1016 0 rfl ?_
  refine l_iload_n (pc := 1017) K dL_law_1017 3 rfl ?_
  refine l_iconst (pc := 1018) (v := 2) K dL_law_1018 rfl ?_
  refine l_iadd (pc := 1019) K dL_law_1019 ?_
  refine l_sld (pc := 1020) K (9 * k + 2) (q_ld hk hL hx3 (j := 2) (by decide)).1 (q_ld hk hL hx3 (j := 2) (by decide)).2 dL_law_1020 ?_
  refine l_aload_n (pc := 1021) K dL_law_1021 0 rfl ?_
  refine l_iload_n (pc := 1022) K dL_law_1022 3 rfl ?_
  refine l_iconst (pc := 1023) (v := 3) K dL_law_1023 rfl ?_
  refine l_iadd (pc := 1024) K dL_law_1024 ?_
  refine l_sld (pc := 1025) K (9 * k + 3) (q_ld hk hL hx3 (j := 3) (by decide)).1 (q_ld hk hL hx3 (j := 3) (by decide)).2 dL_law_1025 ?_
  refine l_call2 (pc := 1026) (As := [.int (xs (9 * k + 1)), .int (xs (9 * k + 2)), .int (xs (9 * k + 3))]) (rest := [.int r]) (st' := [.int r, .int r]) (r := .int r) (N1 := N2) K (kX12_thinks l hJ2 hs2 h2) (jg_L hin jl_L_114 jw_i_X12_thinks jw_s_X12_thinks jw_n_X12 jw_c_X12_thinks) rfl rfl rfl jd_X12_thinks ⟨Nat.le_of_ble_eq_true rfl, Nat.le_of_ble_eq_true rfl⟩ rfl rfl (Nat.le_of_ble_eq_true rfl) rfl hcs dL_law_1026 rfl ?_
  refine l_eqT (pc := 1029) (tgt := 1288) K dL_law_1029 (by decide) rfl ?_
  exact kk
set_option maxRecDepth 100000 in
set_option maxHeartbeats 4000000 in
theorem l_case_23 {x : Cx} {l : Launch} {y1 y2 : Ly} {b L k : Nat} {xs : Nat → Int32} {cells slots : Nat} {M1 M2 N1 N2 : QM} {x3 : Int32} (hin : ∀ w ∈ wsL_law, w ∈ lw_tbl) (K : VKL x l y1 y2 b L xs) (hk : 9 * k + 9 ≤ L) (hL : L ≤ 4608) (hx3 : x3 = nI (9 * k)) (hcs : cells ≤ 600000 ∧ slots ≤ 7302250) {r : Int32} (h1 : fX11_waits M1 (xs (9 * k + 1)) = some (r, N1)) (h2 : fX12_waits M2 (xs (9 * k + 1)) = some (r, N2)) (kk : VL x y1 y2 cells slots N1 N2 1288 [(0, .ref b), (1, .ref (ly_o y1 0)), (2, .ref (ly_o y2 1000)), (3, .int x3)] []) : VL x y1 y2 cells slots M1 M2 1034 [(0, .ref b), (1, .ref (ly_o y1 0)), (2, .ref (ly_o y2 1000)), (3, .int x3)] [] := by
  obtain ⟨-, -, -, -, -, -, -, -, hJ1, hJ2, -, -, -, -, -, -, -, hs1, hs2, -, -⟩ := id K
  refine l_aload_n (pc := 1034) K dL_law_1034 1 rfl ?_
  refine l_aload_n (pc := 1035) K dL_law_1035 0 rfl ?_
  refine l_iload_n (pc := 1036) K dL_law_1036 3 rfl ?_
  refine l_iconst (pc := 1037) (v := 1) K dL_law_1037 rfl ?_
  refine l_iadd (pc := 1038) K dL_law_1038 ?_
  refine l_sld (pc := 1039) K (9 * k + 1) (q_ld hk hL hx3 (j := 1) (by decide)).1 (q_ld hk hL hx3 (j := 1) (by decide)).2 dL_law_1039 ?_
  refine l_call1 (pc := 1040) (As := [.int (xs (9 * k + 1))]) (rest := []) (st' := [.int r]) (r := .int r) (N1 := N1) K (kX11_waits l hJ1 hs1 h1) (jg_L hin jl_L_115 jw_i_X11_waits jw_s_X11_waits jw_n_X11 jw_c_X11_waits) rfl rfl rfl jd_X11_waits ⟨Nat.le_of_ble_eq_true rfl, Nat.le_of_ble_eq_true rfl⟩ rfl rfl (Nat.le_of_ble_eq_true rfl) rfl hcs dL_law_1040 rfl ?_
  refine l_aload_n (pc := 1043) K dL_law_1043 2 rfl ?_
  refine l_aload_n (pc := 1044) K dL_law_1044 0 rfl ?_
  refine l_iload_n (pc := 1045) K dL_law_1045 3 rfl ?_
  refine l_iconst (pc := 1046) (v := 1) K dL_law_1046 rfl ?_
  refine l_iadd (pc := 1047) K dL_law_1047 ?_
  refine l_sld (pc := 1048) K (9 * k + 1) (q_ld hk hL hx3 (j := 1) (by decide)).1 (q_ld hk hL hx3 (j := 1) (by decide)).2 dL_law_1048 ?_
  refine l_call2 (pc := 1049) (As := [.int (xs (9 * k + 1))]) (rest := [.int r]) (st' := [.int r, .int r]) (r := .int r) (N1 := N2) K (kX12_waits l hJ2 hs2 h2) (jg_L hin jl_L_118 jw_i_X12_waits jw_s_X12_waits jw_n_X12 jw_c_X12_waits) rfl rfl rfl jd_X12_waits ⟨Nat.le_of_ble_eq_true rfl, Nat.le_of_ble_eq_true rfl⟩ rfl rfl (Nat.le_of_ble_eq_true rfl) rfl hcs dL_law_1049 rfl ?_
  refine l_eqT (pc := 1052) (tgt := 1288) K dL_law_1052 (by decide) rfl ?_
  exact kk
set_option maxRecDepth 100000 in
set_option maxHeartbeats 4000000 in
theorem l_case_24 {x : Cx} {l : Launch} {y1 y2 : Ly} {b L k : Nat} {xs : Nat → Int32} {cells slots : Nat} {M1 M2 N1 N2 : QM} {x3 : Int32} (hin : ∀ w ∈ wsL_law, w ∈ lw_tbl) (K : VKL x l y1 y2 b L xs) (hk : 9 * k + 9 ≤ L) (hL : L ≤ 4608) (hx3 : x3 = nI (9 * k)) (hcs : cells ≤ 600000 ∧ slots ≤ 7302250) {r : Int32} (h1 : fX11_ring M1 (xs (9 * k + 1)) = some (r, N1)) (h2 : fX12_ring M2 (xs (9 * k + 1)) = some (r, N2)) (kk : VL x y1 y2 cells slots N1 N2 1288 [(0, .ref b), (1, .ref (ly_o y1 0)), (2, .ref (ly_o y2 1000)), (3, .int x3)] []) : VL x y1 y2 cells slots M1 M2 1057 [(0, .ref b), (1, .ref (ly_o y1 0)), (2, .ref (ly_o y2 1000)), (3, .int x3)] [] := by
  obtain ⟨-, -, -, -, -, -, -, -, hJ1, hJ2, -, -, -, -, -, -, -, hs1, hs2, -, -⟩ := id K
  refine l_aload_n (pc := 1057) K dL_law_1057 1 rfl ?_
  refine l_aload_n (pc := 1058) K dL_law_1058 0 rfl ?_
  refine l_iload_n (pc := 1059) K dL_law_1059 3 rfl ?_
  refine l_iconst (pc := 1060) (v := 1) K dL_law_1060 rfl ?_
  refine l_iadd (pc := 1061) K dL_law_1061 ?_
  refine l_sld (pc := 1062) K (9 * k + 1) (q_ld hk hL hx3 (j := 1) (by decide)).1 (q_ld hk hL hx3 (j := 1) (by decide)).2 dL_law_1062 ?_
  refine l_call1 (pc := 1063) (As := [.int (xs (9 * k + 1))]) (rest := []) (st' := [.int r]) (r := .int r) (N1 := N1) K (kX11_ring l hJ1 hs1 h1) (jg_L hin jl_L_119 jw_i_X11_ring jw_s_X11_ring jw_n_X11 jw_c_X11_ring) rfl rfl rfl jd_X11_ring ⟨Nat.le_of_ble_eq_true rfl, Nat.le_of_ble_eq_true rfl⟩ rfl rfl (Nat.le_of_ble_eq_true rfl) rfl hcs dL_law_1063 rfl ?_
  refine l_aload_n (pc := 1066) K dL_law_1066 2 rfl ?_
  refine l_aload_n (pc := 1067) K dL_law_1067 0 rfl ?_
  refine l_iload_n (pc := 1068) K dL_law_1068 3 rfl ?_
  refine l_iconst (pc := 1069) (v := 1) K dL_law_1069 rfl ?_
  refine l_iadd (pc := 1070) K dL_law_1070 ?_
  refine l_sld (pc := 1071) K (9 * k + 1) (q_ld hk hL hx3 (j := 1) (by decide)).1 (q_ld hk hL hx3 (j := 1) (by decide)).2 dL_law_1071 ?_
  refine l_call2 (pc := 1072) (As := [.int (xs (9 * k + 1))]) (rest := [.int r]) (st' := [.int r, .int r]) (r := .int r) (N1 := N2) K (kX12_ring l hJ2 hs2 h2) (jg_L hin jl_L_122 jw_i_X12_ring jw_s_X12_ring jw_n_X12 jw_c_X12_ring) rfl rfl rfl jd_X12_ring ⟨Nat.le_of_ble_eq_true rfl, Nat.le_of_ble_eq_true rfl⟩ rfl rfl (Nat.le_of_ble_eq_true rfl) rfl hcs dL_law_1072 rfl ?_
  refine l_eqT (pc := 1075) (tgt := 1288) K dL_law_1075 (by decide) rfl ?_
  exact kk
set_option maxRecDepth 100000 in
set_option maxHeartbeats 4000000 in
theorem l_case_25 {x : Cx} {l : Launch} {y1 y2 : Ly} {b L k : Nat} {xs : Nat → Int32} {cells slots : Nat} {M1 M2 N1 N2 : QM} {x3 : Int32} (hin : ∀ w ∈ wsL_law, w ∈ lw_tbl) (K : VKL x l y1 y2 b L xs) (hk : 9 * k + 9 ≤ L) (hL : L ≤ 4608) (hx3 : x3 = nI (9 * k)) (hcs : cells ≤ 600000 ∧ slots ≤ 7302250) {r : Int32} (h1 : fX11_first M1 (xs (9 * k + 1)) = some (r, N1)) (h2 : fX12_first M2 (xs (9 * k + 1)) = some (r, N2)) (kk : VL x y1 y2 cells slots N1 N2 1288 [(0, .ref b), (1, .ref (ly_o y1 0)), (2, .ref (ly_o y2 1000)), (3, .int x3)] []) : VL x y1 y2 cells slots M1 M2 1080 [(0, .ref b), (1, .ref (ly_o y1 0)), (2, .ref (ly_o y2 1000)), (3, .int x3)] [] := by
  obtain ⟨-, -, -, -, -, -, -, -, hJ1, hJ2, -, -, -, -, -, -, -, hs1, hs2, -, -⟩ := id K
  refine l_aload_n (pc := 1080) K dL_law_1080 1 rfl ?_
  refine l_aload_n (pc := 1081) K dL_law_1081 0 rfl ?_
  refine l_iload_n (pc := 1082) K dL_law_1082 3 rfl ?_
  refine l_iconst (pc := 1083) (v := 1) K dL_law_1083 rfl ?_
  refine l_iadd (pc := 1084) K dL_law_1084 ?_
  refine l_sld (pc := 1085) K (9 * k + 1) (q_ld hk hL hx3 (j := 1) (by decide)).1 (q_ld hk hL hx3 (j := 1) (by decide)).2 dL_law_1085 ?_
  refine l_call1 (pc := 1086) (As := [.int (xs (9 * k + 1))]) (rest := []) (st' := [.int r]) (r := .int r) (N1 := N1) K (kX11_first l hJ1 hs1 h1) (jg_L hin jl_L_123 jw_i_X11_first jw_s_X11_first jw_n_X11 jw_c_X11_first) rfl rfl rfl jd_X11_first ⟨Nat.le_of_ble_eq_true rfl, Nat.le_of_ble_eq_true rfl⟩ rfl rfl (Nat.le_of_ble_eq_true rfl) rfl hcs dL_law_1086 rfl ?_
  refine l_aload_n (pc := 1089) K dL_law_1089 2 rfl ?_
  refine l_aload_n (pc := 1090) K dL_law_1090 0 rfl ?_
  refine l_iload_n (pc := 1091) K dL_law_1091 3 rfl ?_
  refine l_iconst (pc := 1092) (v := 1) K dL_law_1092 rfl ?_
  refine l_iadd (pc := 1093) K dL_law_1093 ?_
  refine l_sld (pc := 1094) K (9 * k + 1) (q_ld hk hL hx3 (j := 1) (by decide)).1 (q_ld hk hL hx3 (j := 1) (by decide)).2 dL_law_1094 ?_
  refine l_call2 (pc := 1095) (As := [.int (xs (9 * k + 1))]) (rest := [.int r]) (st' := [.int r, .int r]) (r := .int r) (N1 := N2) K (kX12_first l hJ2 hs2 h2) (jg_L hin jl_L_126 jw_i_X12_first jw_s_X12_first jw_n_X12 jw_c_X12_first) rfl rfl rfl jd_X12_first ⟨Nat.le_of_ble_eq_true rfl, Nat.le_of_ble_eq_true rfl⟩ rfl rfl (Nat.le_of_ble_eq_true rfl) rfl hcs dL_law_1095 rfl ?_
  refine l_eqT (pc := 1098) (tgt := 1288) K dL_law_1098 (by decide) rfl ?_
  exact kk
set_option maxRecDepth 100000 in
set_option maxHeartbeats 4000000 in
theorem l_case_26 {x : Cx} {l : Launch} {y1 y2 : Ly} {b L k : Nat} {xs : Nat → Int32} {cells slots : Nat} {M1 M2 N1 N2 : QM} {x3 : Int32} (hin : ∀ w ∈ wsL_law, w ∈ lw_tbl) (K : VKL x l y1 y2 b L xs) (hk : 9 * k + 9 ≤ L) (hL : L ≤ 4608) (hx3 : x3 = nI (9 * k)) (hcs : cells ≤ 600000 ∧ slots ≤ 7302250) {r : Int32} (h1 : fX11_harsh M1 (xs (9 * k + 1)) (xs (9 * k + 2)) (xs (9 * k + 3)) (xs (9 * k + 4)) = some (r, N1)) (h2 : fX12_harsh M2 (xs (9 * k + 1)) (xs (9 * k + 2)) (xs (9 * k + 3)) (xs (9 * k + 4)) = some (r, N2)) (kk : VL x y1 y2 cells slots N1 N2 1288 [(0, .ref b), (1, .ref (ly_o y1 0)), (2, .ref (ly_o y2 1000)), (3, .int x3)] []) : VL x y1 y2 cells slots M1 M2 1103 [(0, .ref b), (1, .ref (ly_o y1 0)), (2, .ref (ly_o y2 1000)), (3, .int x3)] [] := by
  obtain ⟨-, -, -, -, -, -, -, -, hJ1, hJ2, -, -, -, -, -, -, -, hs1, hs2, -, -⟩ := id K
  refine l_aload_n (pc := 1103) K dL_law_1103 1 rfl ?_
  refine l_aload_n (pc := 1104) K dL_law_1104 0 rfl ?_
  refine l_iload_n (pc := 1105) K dL_law_1105 3 rfl ?_
  refine l_iconst (pc := 1106) (v := 1) K dL_law_1106 rfl ?_
  refine l_iadd (pc := 1107) K dL_law_1107 ?_
  refine l_sld (pc := 1108) K (9 * k + 1) (q_ld hk hL hx3 (j := 1) (by decide)).1 (q_ld hk hL hx3 (j := 1) (by decide)).2 dL_law_1108 ?_
  refine l_aload_n (pc := 1109) K dL_law_1109 0 rfl ?_
  refine l_iload_n (pc := 1110) K dL_law_1110 3 rfl ?_
  refine l_iconst (pc := 1111) (v := 2) K dL_law_1111 rfl ?_
  refine l_iadd (pc := 1112) K dL_law_1112 ?_
  refine l_sld (pc := 1113) K (9 * k + 2) (q_ld hk hL hx3 (j := 2) (by decide)).1 (q_ld hk hL hx3 (j := 2) (by decide)).2 dL_law_1113 ?_
  refine l_aload_n (pc := 1114) K dL_law_1114 0 rfl ?_
  refine l_iload_n (pc := 1115) K dL_law_1115 3 rfl ?_
  refine l_iconst (pc := 1116) (v := 3) K dL_law_1116 rfl ?_
  refine l_iadd (pc := 1117) K dL_law_1117 ?_
  refine l_sld (pc := 1118) K (9 * k + 3) (q_ld hk hL hx3 (j := 3) (by decide)).1 (q_ld hk hL hx3 (j := 3) (by decide)).2 dL_law_1118 ?_
  refine l_aload_n (pc := 1119) K dL_law_1119 0 rfl ?_
  refine l_iload_n (pc := 1120) K dL_law_1120 3 rfl ?_
  refine l_iconst (pc := 1121) (v := 4) K dL_law_1121 rfl ?_
  refine l_iadd (pc := 1122) K dL_law_1122 ?_
  refine l_sld (pc := 1123) K (9 * k + 4) (q_ld hk hL hx3 (j := 4) (by decide)).1 (q_ld hk hL hx3 (j := 4) (by decide)).2 dL_law_1123 ?_
  refine l_call1 (pc := 1124) (As := [.int (xs (9 * k + 1)), .int (xs (9 * k + 2)), .int (xs (9 * k + 3)), .int (xs (9 * k + 4))]) (rest := []) (st' := [.int r]) (r := .int r) (N1 := N1) K (kX11_harsh l hJ1 hs1 h1) (jg_L hin jl_L_127 jw_i_X11_harsh jw_s_X11_harsh jw_n_X11 jw_c_X11_harsh) rfl rfl rfl jd_X11_harsh ⟨Nat.le_of_ble_eq_true rfl, Nat.le_of_ble_eq_true rfl⟩ rfl rfl (Nat.le_of_ble_eq_true rfl) rfl hcs dL_law_1124 rfl ?_
  refine l_aload_n (pc := 1127) K dL_law_1127 2 rfl ?_
  refine l_aload_n (pc := 1128) K dL_law_1128 0 rfl ?_
  refine l_iload_n (pc := 1129) K dL_law_1129 3 rfl ?_
  refine l_iconst (pc := 1130) (v := 1) K dL_law_1130 rfl ?_
  refine l_iadd (pc := 1131) K dL_law_1131 ?_
  refine l_sld (pc := 1132) K (9 * k + 1) (q_ld hk hL hx3 (j := 1) (by decide)).1 (q_ld hk hL hx3 (j := 1) (by decide)).2 dL_law_1132 ?_
  refine l_aload_n (pc := 1133) K dL_law_1133 0 rfl ?_
  refine l_iload_n (pc := 1134) K dL_law_1134 3 rfl ?_
  refine l_iconst (pc := 1135) (v := 2) K dL_law_1135 rfl ?_
  refine l_iadd (pc := 1136) K dL_law_1136 ?_
  refine l_sld (pc := 1137) K (9 * k + 2) (q_ld hk hL hx3 (j := 2) (by decide)).1 (q_ld hk hL hx3 (j := 2) (by decide)).2 dL_law_1137 ?_
  refine l_aload_n (pc := 1138) K dL_law_1138 0 rfl ?_
  refine l_iload_n (pc := 1139) K dL_law_1139 3 rfl ?_
  refine l_iconst (pc := 1140) (v := 3) K dL_law_1140 rfl ?_
  refine l_iadd (pc := 1141) K dL_law_1141 ?_
  refine l_sld (pc := 1142) K (9 * k + 3) (q_ld hk hL hx3 (j := 3) (by decide)).1 (q_ld hk hL hx3 (j := 3) (by decide)).2 dL_law_1142 ?_
  refine l_aload_n (pc := 1143) K dL_law_1143 0 rfl ?_
  refine l_iload_n (pc := 1144) K dL_law_1144 3 rfl ?_
  refine l_iconst (pc := 1145) (v := 4) K dL_law_1145 rfl ?_
  refine l_iadd (pc := 1146) K dL_law_1146 ?_
  refine l_sld (pc := 1147) K (9 * k + 4) (q_ld hk hL hx3 (j := 4) (by decide)).1 (q_ld hk hL hx3 (j := 4) (by decide)).2 dL_law_1147 ?_
  refine l_call2 (pc := 1148) (As := [.int (xs (9 * k + 1)), .int (xs (9 * k + 2)), .int (xs (9 * k + 3)), .int (xs (9 * k + 4))]) (rest := [.int r]) (st' := [.int r, .int r]) (r := .int r) (N1 := N2) K (kX12_harsh l hJ2 hs2 h2) (jg_L hin jl_L_130 jw_i_X12_harsh jw_s_X12_harsh jw_n_X12 jw_c_X12_harsh) rfl rfl rfl jd_X12_harsh ⟨Nat.le_of_ble_eq_true rfl, Nat.le_of_ble_eq_true rfl⟩ rfl rfl (Nat.le_of_ble_eq_true rfl) rfl hcs dL_law_1148 rfl ?_
  refine l_eqT (pc := 1151) (tgt := 1288) K dL_law_1151 (by decide) rfl ?_
  exact kk
set_option maxRecDepth 100000 in
set_option maxHeartbeats 4000000 in
theorem l_case_27 {x : Cx} {l : Launch} {y1 y2 : Ly} {b L k : Nat} {xs : Nat → Int32} {cells slots : Nat} {M1 M2 N1 N2 : QM} {x3 : Int32} (hin : ∀ w ∈ wsL_law, w ∈ lw_tbl) (K : VKL x l y1 y2 b L xs) (hk : 9 * k + 9 ≤ L) (hL : L ≤ 4608) (hx3 : x3 = nI (9 * k)) (hcs : cells ≤ 600000 ∧ slots ≤ 7302250) {r : Int32} (h1 : fX11_mend M1 (xs (9 * k + 1)) (xs (9 * k + 2)) (xs (9 * k + 3)) (xs (9 * k + 4)) (xs (9 * k + 5)) = some (r, N1)) (h2 : fX12_mend M2 (xs (9 * k + 1)) (xs (9 * k + 2)) (xs (9 * k + 3)) (xs (9 * k + 4)) (xs (9 * k + 5)) = some (r, N2)) (kk : VL x y1 y2 cells slots N1 N2 1288 [(0, .ref b), (1, .ref (ly_o y1 0)), (2, .ref (ly_o y2 1000)), (3, .int x3)] []) : VL x y1 y2 cells slots M1 M2 1156 [(0, .ref b), (1, .ref (ly_o y1 0)), (2, .ref (ly_o y2 1000)), (3, .int x3)] [] := by
  obtain ⟨-, -, -, -, -, -, -, -, hJ1, hJ2, -, -, -, -, -, -, -, hs1, hs2, -, -⟩ := id K
  refine l_aload_n (pc := 1156) K dL_law_1156 1 rfl ?_
  refine l_aload_n (pc := 1157) K dL_law_1157 0 rfl ?_
  refine l_iload_n (pc := 1158) K dL_law_1158 3 rfl ?_
  refine l_iconst (pc := 1159) (v := 1) K dL_law_1159 rfl ?_
  refine l_iadd (pc := 1160) K dL_law_1160 ?_
  refine l_sld (pc := 1161) K (9 * k + 1) (q_ld hk hL hx3 (j := 1) (by decide)).1 (q_ld hk hL hx3 (j := 1) (by decide)).2 dL_law_1161 ?_
  refine l_aload_n (pc := 1162) K dL_law_1162 0 rfl ?_
  refine l_iload_n (pc := 1163) K dL_law_1163 3 rfl ?_
  refine l_iconst (pc := 1164) (v := 2) K dL_law_1164 rfl ?_
  refine l_iadd (pc := 1165) K dL_law_1165 ?_
  refine l_sld (pc := 1166) K (9 * k + 2) (q_ld hk hL hx3 (j := 2) (by decide)).1 (q_ld hk hL hx3 (j := 2) (by decide)).2 dL_law_1166 ?_
  refine l_aload_n (pc := 1167) K dL_law_1167 0 rfl ?_
  refine l_iload_n (pc := 1168) K dL_law_1168 3 rfl ?_
  refine l_iconst (pc := 1169) (v := 3) K dL_law_1169 rfl ?_
  refine l_iadd (pc := 1170) K dL_law_1170 ?_
  refine l_sld (pc := 1171) K (9 * k + 3) (q_ld hk hL hx3 (j := 3) (by decide)).1 (q_ld hk hL hx3 (j := 3) (by decide)).2 dL_law_1171 ?_
  refine l_aload_n (pc := 1172) K dL_law_1172 0 rfl ?_
  refine l_iload_n (pc := 1173) K dL_law_1173 3 rfl ?_
  refine l_iconst (pc := 1174) (v := 4) K dL_law_1174 rfl ?_
  refine l_iadd (pc := 1175) K dL_law_1175 ?_
  refine l_sld (pc := 1176) K (9 * k + 4) (q_ld hk hL hx3 (j := 4) (by decide)).1 (q_ld hk hL hx3 (j := 4) (by decide)).2 dL_law_1176 ?_
  refine l_aload_n (pc := 1177) K dL_law_1177 0 rfl ?_
  refine l_iload_n (pc := 1178) K dL_law_1178 3 rfl ?_
  refine l_iconst (pc := 1179) (v := 5) K dL_law_1179 rfl ?_
  refine l_iadd (pc := 1180) K dL_law_1180 ?_
  refine l_sld (pc := 1181) K (9 * k + 5) (q_ld hk hL hx3 (j := 5) (by decide)).1 (q_ld hk hL hx3 (j := 5) (by decide)).2 dL_law_1181 ?_
  refine l_call1 (pc := 1182) (As := [.int (xs (9 * k + 1)), .int (xs (9 * k + 2)), .int (xs (9 * k + 3)), .int (xs (9 * k + 4)), .int (xs (9 * k + 5))]) (rest := []) (st' := [.int r]) (r := .int r) (N1 := N1) K (kX11_mend l hJ1 hs1 h1) (jg_L hin jl_L_131 jw_i_X11_mend jw_s_X11_mend jw_n_X11 jw_c_X11_mend) rfl rfl rfl jd_X11_mend ⟨Nat.le_of_ble_eq_true rfl, Nat.le_of_ble_eq_true rfl⟩ rfl rfl (Nat.le_of_ble_eq_true rfl) rfl hcs dL_law_1182 rfl ?_
  refine l_aload_n (pc := 1185) K dL_law_1185 2 rfl ?_
  refine l_aload_n (pc := 1186) K dL_law_1186 0 rfl ?_
  refine l_iload_n (pc := 1187) K dL_law_1187 3 rfl ?_
  refine l_iconst (pc := 1188) (v := 1) K dL_law_1188 rfl ?_
  refine l_iadd (pc := 1189) K dL_law_1189 ?_
  refine l_sld (pc := 1190) K (9 * k + 1) (q_ld hk hL hx3 (j := 1) (by decide)).1 (q_ld hk hL hx3 (j := 1) (by decide)).2 dL_law_1190 ?_
  refine l_aload_n (pc := 1191) K dL_law_1191 0 rfl ?_
  refine l_iload_n (pc := 1192) K dL_law_1192 3 rfl ?_
  refine l_iconst (pc := 1193) (v := 2) K dL_law_1193 rfl ?_
  refine l_iadd (pc := 1194) K dL_law_1194 ?_
  refine l_sld (pc := 1195) K (9 * k + 2) (q_ld hk hL hx3 (j := 2) (by decide)).1 (q_ld hk hL hx3 (j := 2) (by decide)).2 dL_law_1195 ?_
  refine l_aload_n (pc := 1196) K dL_law_1196 0 rfl ?_
  refine l_iload_n (pc := 1197) K dL_law_1197 3 rfl ?_
  refine l_iconst (pc := 1198) (v := 3) K dL_law_1198 rfl ?_
  refine l_iadd (pc := 1199) K dL_law_1199 ?_
  refine l_sld (pc := 1200) K (9 * k + 3) (q_ld hk hL hx3 (j := 3) (by decide)).1 (q_ld hk hL hx3 (j := 3) (by decide)).2 dL_law_1200 ?_
  refine l_aload_n (pc := 1201) K dL_law_1201 0 rfl ?_
  refine l_iload_n (pc := 1202) K dL_law_1202 3 rfl ?_
  refine l_iconst (pc := 1203) (v := 4) K dL_law_1203 rfl ?_
  refine l_iadd (pc := 1204) K dL_law_1204 ?_
  refine l_sld (pc := 1205) K (9 * k + 4) (q_ld hk hL hx3 (j := 4) (by decide)).1 (q_ld hk hL hx3 (j := 4) (by decide)).2 dL_law_1205 ?_
  refine l_aload_n (pc := 1206) K dL_law_1206 0 rfl ?_
  refine l_iload_n (pc := 1207) K dL_law_1207 3 rfl ?_
  refine l_iconst (pc := 1208) (v := 5) K dL_law_1208 rfl ?_
  refine l_iadd (pc := 1209) K dL_law_1209 ?_
  refine l_sld (pc := 1210) K (9 * k + 5) (q_ld hk hL hx3 (j := 5) (by decide)).1 (q_ld hk hL hx3 (j := 5) (by decide)).2 dL_law_1210 ?_
  refine l_call2 (pc := 1211) (As := [.int (xs (9 * k + 1)), .int (xs (9 * k + 2)), .int (xs (9 * k + 3)), .int (xs (9 * k + 4)), .int (xs (9 * k + 5))]) (rest := [.int r]) (st' := [.int r, .int r]) (r := .int r) (N1 := N2) K (kX12_mend l hJ2 hs2 h2) (jg_L hin jl_L_134 jw_i_X12_mend jw_s_X12_mend jw_n_X12 jw_c_X12_mend) rfl rfl rfl jd_X12_mend ⟨Nat.le_of_ble_eq_true rfl, Nat.le_of_ble_eq_true rfl⟩ rfl rfl (Nat.le_of_ble_eq_true rfl) rfl hcs dL_law_1211 rfl ?_
  refine l_eqT (pc := 1214) (tgt := 1288) K dL_law_1214 (by decide) rfl ?_
  exact kk
set_option maxRecDepth 100000 in
set_option maxHeartbeats 4000000 in
theorem l_case_28 {x : Cx} {l : Launch} {y1 y2 : Ly} {b L k : Nat} {xs : Nat → Int32} {cells slots : Nat} {M1 M2 N1 N2 : QM} {x3 : Int32} (hin : ∀ w ∈ wsL_law, w ∈ lw_tbl) (K : VKL x l y1 y2 b L xs) (hk : 9 * k + 9 ≤ L) (hL : L ≤ 4608) (hx3 : x3 = nI (9 * k)) (hcs : cells ≤ 600000 ∧ slots ≤ 7302250) {r : Int32} (h1 : fX11_image M1 (xs (9 * k + 1)) = some (r, N1)) (h2 : fX12_image M2 (xs (9 * k + 1)) = some (r, N2)) (kk : VL x y1 y2 cells slots N1 N2 1288 [(0, .ref b), (1, .ref (ly_o y1 0)), (2, .ref (ly_o y2 1000)), (3, .int x3)] []) : VL x y1 y2 cells slots M1 M2 1219 [(0, .ref b), (1, .ref (ly_o y1 0)), (2, .ref (ly_o y2 1000)), (3, .int x3)] [] := by
  obtain ⟨-, -, -, -, -, -, -, -, hJ1, hJ2, -, -, -, -, -, -, -, hs1, hs2, -, -⟩ := id K
  refine l_aload_n (pc := 1219) K dL_law_1219 1 rfl ?_
  refine l_aload_n (pc := 1220) K dL_law_1220 0 rfl ?_
  refine l_iload_n (pc := 1221) K dL_law_1221 3 rfl ?_
  refine l_iconst (pc := 1222) (v := 1) K dL_law_1222 rfl ?_
  refine l_iadd (pc := 1223) K dL_law_1223 ?_
  refine l_sld (pc := 1224) K (9 * k + 1) (q_ld hk hL hx3 (j := 1) (by decide)).1 (q_ld hk hL hx3 (j := 1) (by decide)).2 dL_law_1224 ?_
  refine l_call1 (pc := 1225) (As := [.int (xs (9 * k + 1))]) (rest := []) (st' := [.int r]) (r := .int r) (N1 := N1) K (kX11_image l hJ1 hs1 h1) (jg_L hin jl_L_135 jw_i_X11_image jw_s_X11_image jw_n_X11 jw_c_X11_image) rfl rfl rfl jd_X11_image ⟨Nat.le_of_ble_eq_true rfl, Nat.le_of_ble_eq_true rfl⟩ rfl rfl (Nat.le_of_ble_eq_true rfl) rfl hcs dL_law_1225 rfl ?_
  refine l_aload_n (pc := 1228) K dL_law_1228 2 rfl ?_
  refine l_aload_n (pc := 1229) K dL_law_1229 0 rfl ?_
  refine l_iload_n (pc := 1230) K dL_law_1230 3 rfl ?_
  refine l_iconst (pc := 1231) (v := 1) K dL_law_1231 rfl ?_
  refine l_iadd (pc := 1232) K dL_law_1232 ?_
  refine l_sld (pc := 1233) K (9 * k + 1) (q_ld hk hL hx3 (j := 1) (by decide)).1 (q_ld hk hL hx3 (j := 1) (by decide)).2 dL_law_1233 ?_
  refine l_call2 (pc := 1234) (As := [.int (xs (9 * k + 1))]) (rest := [.int r]) (st' := [.int r, .int r]) (r := .int r) (N1 := N2) K (kX12_image l hJ2 hs2 h2) (jg_L hin jl_L_138 jw_i_X12_image jw_s_X12_image jw_n_X12 jw_c_X12_image) rfl rfl rfl jd_X12_image ⟨Nat.le_of_ble_eq_true rfl, Nat.le_of_ble_eq_true rfl⟩ rfl rfl (Nat.le_of_ble_eq_true rfl) rfl hcs dL_law_1234 rfl ?_
  refine l_eqT (pc := 1237) (tgt := 1288) K dL_law_1237 (by decide) rfl ?_
  exact kk
set_option maxRecDepth 100000 in
set_option maxHeartbeats 4000000 in
theorem l_case_29 {x : Cx} {l : Launch} {y1 y2 : Ly} {b L k : Nat} {xs : Nat → Int32} {cells slots : Nat} {M1 M2 N1 N2 : QM} {x3 : Int32} (hin : ∀ w ∈ wsL_law, w ∈ lw_tbl) (K : VKL x l y1 y2 b L xs) (hk : 9 * k + 9 ≤ L) (hL : L ≤ 4608) (hx3 : x3 = nI (9 * k)) (hcs : cells ≤ 600000 ∧ slots ≤ 7302250) {r : Int32} (h1 : fX11_back M1 (xs (9 * k + 1)) = some (r, N1)) (h2 : fX12_back M2 (xs (9 * k + 1)) = some (r, N2)) (kk : VL x y1 y2 cells slots N1 N2 1288 [(0, .ref b), (1, .ref (ly_o y1 0)), (2, .ref (ly_o y2 1000)), (3, .int x3)] []) : VL x y1 y2 cells slots M1 M2 1242 [(0, .ref b), (1, .ref (ly_o y1 0)), (2, .ref (ly_o y2 1000)), (3, .int x3)] [] := by
  obtain ⟨-, -, -, -, -, -, -, -, hJ1, hJ2, -, -, -, -, -, -, -, hs1, hs2, -, -⟩ := id K
  refine l_aload_n (pc := 1242) K dL_law_1242 1 rfl ?_
  refine l_aload_n (pc := 1243) K dL_law_1243 0 rfl ?_
  refine l_iload_n (pc := 1244) K dL_law_1244 3 rfl ?_
  refine l_iconst (pc := 1245) (v := 1) K dL_law_1245 rfl ?_
  refine l_iadd (pc := 1246) K dL_law_1246 ?_
  refine l_sld (pc := 1247) K (9 * k + 1) (q_ld hk hL hx3 (j := 1) (by decide)).1 (q_ld hk hL hx3 (j := 1) (by decide)).2 dL_law_1247 ?_
  refine l_call1 (pc := 1248) (As := [.int (xs (9 * k + 1))]) (rest := []) (st' := [.int r]) (r := .int r) (N1 := N1) K (kX11_back l hJ1 hs1 h1) (jg_L hin jl_L_139 jw_i_X11_back jw_s_X11_back jw_n_X11 jw_c_X11_back) rfl rfl rfl jd_X11_back ⟨Nat.le_of_ble_eq_true rfl, Nat.le_of_ble_eq_true rfl⟩ rfl rfl (Nat.le_of_ble_eq_true rfl) rfl hcs dL_law_1248 rfl ?_
  refine l_aload_n (pc := 1251) K dL_law_1251 2 rfl ?_
  refine l_aload_n (pc := 1252) K dL_law_1252 0 rfl ?_
  refine l_iload_n (pc := 1253) K dL_law_1253 3 rfl ?_
  refine l_iconst (pc := 1254) (v := 1) K dL_law_1254 rfl ?_
  refine l_iadd (pc := 1255) K dL_law_1255 ?_
  refine l_sld (pc := 1256) K (9 * k + 1) (q_ld hk hL hx3 (j := 1) (by decide)).1 (q_ld hk hL hx3 (j := 1) (by decide)).2 dL_law_1256 ?_
  refine l_call2 (pc := 1257) (As := [.int (xs (9 * k + 1))]) (rest := [.int r]) (st' := [.int r, .int r]) (r := .int r) (N1 := N2) K (kX12_back l hJ2 hs2 h2) (jg_L hin jl_L_142 jw_i_X12_back jw_s_X12_back jw_n_X12 jw_c_X12_back) rfl rfl rfl jd_X12_back ⟨Nat.le_of_ble_eq_true rfl, Nat.le_of_ble_eq_true rfl⟩ rfl rfl (Nat.le_of_ble_eq_true rfl) rfl hcs dL_law_1257 rfl ?_
  refine l_eqT (pc := 1260) (tgt := 1288) K dL_law_1260 (by decide) rfl ?_
  exact kk
set_option maxRecDepth 100000 in
set_option maxHeartbeats 4000000 in
theorem l_case_30 {x : Cx} {l : Launch} {y1 y2 : Ly} {b L k : Nat} {xs : Nat → Int32} {cells slots : Nat} {M1 M2 N1 N2 : QM} {x3 : Int32} (hin : ∀ w ∈ wsL_law, w ∈ lw_tbl) (K : VKL x l y1 y2 b L xs) (hk : 9 * k + 9 ≤ L) (hL : L ≤ 4608) (hx3 : x3 = nI (9 * k)) (hcs : cells ≤ 600000 ∧ slots ≤ 7302250) {r : Int32} (h1 : fX11_count M1 (xs (9 * k + 1)) = some (r, N1)) (h2 : fX12_count M2 (xs (9 * k + 1)) = some (r, N2)) (kk : VL x y1 y2 cells slots N1 N2 1288 [(0, .ref b), (1, .ref (ly_o y1 0)), (2, .ref (ly_o y2 1000)), (3, .int x3)] []) : VL x y1 y2 cells slots M1 M2 1265 [(0, .ref b), (1, .ref (ly_o y1 0)), (2, .ref (ly_o y2 1000)), (3, .int x3)] [] := by
  obtain ⟨-, -, -, -, -, -, -, -, hJ1, hJ2, -, -, -, -, -, -, -, hs1, hs2, -, -⟩ := id K
  refine l_aload_n (pc := 1265) K dL_law_1265 1 rfl ?_
  refine l_aload_n (pc := 1266) K dL_law_1266 0 rfl ?_
  refine l_iload_n (pc := 1267) K dL_law_1267 3 rfl ?_
  refine l_iconst (pc := 1268) (v := 1) K dL_law_1268 rfl ?_
  refine l_iadd (pc := 1269) K dL_law_1269 ?_
  refine l_sld (pc := 1270) K (9 * k + 1) (q_ld hk hL hx3 (j := 1) (by decide)).1 (q_ld hk hL hx3 (j := 1) (by decide)).2 dL_law_1270 ?_
  refine l_call1 (pc := 1271) (As := [.int (xs (9 * k + 1))]) (rest := []) (st' := [.int r]) (r := .int r) (N1 := N1) K (kX11_count l hJ1 hs1 h1) (jg_L hin jl_L_143 jw_i_X11_count jw_s_X11_count jw_n_X11 jw_c_X11_count) rfl rfl rfl jd_X11_count ⟨Nat.le_of_ble_eq_true rfl, Nat.le_of_ble_eq_true rfl⟩ rfl rfl (Nat.le_of_ble_eq_true rfl) rfl hcs dL_law_1271 rfl ?_
  refine l_aload_n (pc := 1274) K dL_law_1274 2 rfl ?_
  refine l_aload_n (pc := 1275) K dL_law_1275 0 rfl ?_
  refine l_iload_n (pc := 1276) K dL_law_1276 3 rfl ?_
  refine l_iconst (pc := 1277) (v := 1) K dL_law_1277 rfl ?_
  refine l_iadd (pc := 1278) K dL_law_1278 ?_
  refine l_sld (pc := 1279) K (9 * k + 1) (q_ld hk hL hx3 (j := 1) (by decide)).1 (q_ld hk hL hx3 (j := 1) (by decide)).2 dL_law_1279 ?_
  refine l_call2 (pc := 1280) (As := [.int (xs (9 * k + 1))]) (rest := [.int r]) (st' := [.int r, .int r]) (r := .int r) (N1 := N2) K (kX12_count l hJ2 hs2 h2) (jg_L hin jl_L_146 jw_i_X12_count jw_s_X12_count jw_n_X12 jw_c_X12_count) rfl rfl rfl jd_X12_count ⟨Nat.le_of_ble_eq_true rfl, Nat.le_of_ble_eq_true rfl⟩ rfl rfl (Nat.le_of_ble_eq_true rfl) rfl hcs dL_law_1280 rfl ?_
  refine l_eqT (pc := 1283) (tgt := 1288) K dL_law_1283 (by decide) rfl ?_
  exact kk
/-- a step of the law: the call that a 0 names, on both sides, with the same answer -/
def qL_s (c : Nat) (a : Nat → Int32) (M1 M2 N1 N2 : QM) : Prop := match c with
  | 0 => ∃ r, fX11_person M1 (a 1) (a 2) (a 3) = some (r, N1) ∧ fX12_person M2 (a 1) (a 2) (a 3) = some (r, N2)
  | 1 => ∃ r, fX11_debt M1 (a 1) (a 2) (if (a 3) = 0 then 0 else 1) = some (r, N1) ∧ fX12_debt M2 (a 1) (a 2) (if (a 3) = 0 then 0 else 1) = some (r, N2)
  | 2 => ∃ r, fX11_feed M1 (a 1) (a 2) (a 3) (a 4) (a 5) = some (r, N1) ∧ fX12_feed M2 (a 1) (a 2) (a 3) (a 4) (a 5) = some (r, N2)
  | 3 => ∃ r, fX11_end M1 (a 1) = some (r, N1) ∧ fX12_end M2 (a 1) = some (r, N2)
  | 4 => ∃ r, fX11_code M1  = some (r, N1) ∧ fX12_code M2  = some (r, N2)
  | 5 => ∃ r, fX11_keeps M1 (a 1) (a 2) = some (r, N1) ∧ fX12_keeps M2 (a 1) (a 2) = some (r, N2)
  | 6 => ∃ r, fX11_told M1 (a 1) (a 2) = some (r, N1) ∧ fX12_told M2 (a 1) (a 2) = some (r, N2)
  | 7 => ∃ r, fX11_weighs M1 (a 1) (a 2) (a 3) (a 4) (a 5) (a 6) (a 7) (a 8) = some (r, N1) ∧ fX12_weighs M2 (a 1) (a 2) (a 3) (a 4) (a 5) (a 6) (a 7) (a 8) = some (r, N2)
  | 8 => ∃ r, fX11_quarrel M1 (a 1) (a 2) (a 3) (a 4) = some (r, N1) ∧ fX12_quarrel M2 (a 1) (a 2) (a 3) (a 4) = some (r, N2)
  | 9 => ∃ r, fX11_state M1 (a 1) (a 2) = some (r, N1) ∧ fX12_state M2 (a 1) (a 2) = some (r, N2)
  | 10 => ∃ r, fX11_may M1 (a 1) = some (r, N1) ∧ fX12_may M2 (a 1) = some (r, N2)
  | 11 => ∃ r, fX11_move M1 (a 1) (a 2) = some (r, N1) ∧ fX12_move M2 (a 1) (a 2) = some (r, N2)
  | 12 => ∃ r, fX11_history M1 (a 1) (a 2) = some (r, N1) ∧ fX12_history M2 (a 1) (a 2) = some (r, N2)
  | 13 => ∃ r, fX11_ends M1 (a 1) = some (r, N1) ∧ fX12_ends M2 (a 1) = some (r, N2)
  | 14 => ∃ r, fX11_ways M1 (a 1) (a 2) = some (r, N1) ∧ fX12_ways M2 (a 1) (a 2) = some (r, N2)
  | 15 => ∃ r, fX11_brief M1 (a 1) (a 2) (a 3) = some (r, N1) ∧ fX12_brief M2 (a 1) (a 2) (a 3) = some (r, N2)
  | 16 => ∃ r, fX11_must M1 (a 1) = some (r, N1) ∧ fX12_must M2 (a 1) = some (r, N2)
  | 17 => ∃ r, fX11_late M1 (a 1) = some (r, N1) ∧ fX12_late M2 (a 1) = some (r, N2)
  | 18 => ∃ r, fX11_game M1 (a 1) (a 2) = some (r, N1) ∧ fX12_game M2 (a 1) (a 2) = some (r, N2)
  | 19 => ∃ r, fX11_otherwise M1 (a 1) (a 2) (a 3) = some (r, N1) ∧ fX12_otherwise M2 (a 1) (a 2) (a 3) = some (r, N2)
  | 20 => ∃ r, fX11_doubt M1 (a 1) (a 2) = some (r, N1) ∧ fX12_doubt M2 (a 1) (a 2) = some (r, N2)
  | 21 => ∃ r, fX11_hangs M1 (a 1) = some (r, N1) ∧ fX12_hangs M2 (a 1) = some (r, N2)
  | 22 => ∃ r, fX11_thinks M1 (a 1) (a 2) (a 3) = some (r, N1) ∧ fX12_thinks M2 (a 1) (a 2) (a 3) = some (r, N2)
  | 23 => ∃ r, fX11_waits M1 (a 1) = some (r, N1) ∧ fX12_waits M2 (a 1) = some (r, N2)
  | 24 => ∃ r, fX11_ring M1 (a 1) = some (r, N1) ∧ fX12_ring M2 (a 1) = some (r, N2)
  | 25 => ∃ r, fX11_first M1 (a 1) = some (r, N1) ∧ fX12_first M2 (a 1) = some (r, N2)
  | 26 => ∃ r, fX11_harsh M1 (a 1) (a 2) (a 3) (a 4) = some (r, N1) ∧ fX12_harsh M2 (a 1) (a 2) (a 3) (a 4) = some (r, N2)
  | 27 => ∃ r, fX11_mend M1 (a 1) (a 2) (a 3) (a 4) (a 5) = some (r, N1) ∧ fX12_mend M2 (a 1) (a 2) (a 3) (a 4) (a 5) = some (r, N2)
  | 28 => ∃ r, fX11_image M1 (a 1) = some (r, N1) ∧ fX12_image M2 (a 1) = some (r, N2)
  | 29 => ∃ r, fX11_back M1 (a 1) = some (r, N1) ∧ fX12_back M2 (a 1) = some (r, N2)
  | 30 => ∃ r, fX11_count M1 (a 1) = some (r, N1) ∧ fX12_count M2 (a 1) = some (r, N2)
  | _ => N1 = M1 ∧ N2 = M2
theorem q_past {k L : Nat} (hk : 9 * k ≤ 4608) (hL : L ≤ 4608) : nI L - 9 < nI (9 * k) ↔ L < 9 * k + 9 := by
  rw [Int32.lt_iff_toInt_lt, show (9 : Int32) = nI 9 from rfl, pk_sub_toInt (by omega) (by omega), nI_toInt (by omega)]
  omega
set_option maxRecDepth 100000 in
set_option maxHeartbeats 4000000 in
theorem l_step {x : Cx} {l : Launch} {y1 y2 : Ly} {b L k : Nat} {xs : Nat → Int32} {cells slots : Nat} {M1 M2 N1 N2 : QM} {x3 : Int32} (hin : ∀ w ∈ wsL_law, w ∈ lw_tbl) (K : VKL x l y1 y2 b L xs) (hk : 9 * k + 9 ≤ L) (hL : L ≤ 4608) (hx3 : x3 = nI (9 * k)) (hcs : cells ≤ 600000 ∧ slots ≤ 7302250) {c : Nat} (hc : c < 32) (hv : xs (9 * k) &&& 31 = nI c) (hs : qL_s c (fun j => xs (9 * k + j)) M1 M2 N1 N2)
    (kk : VL x y1 y2 cells slots N1 N2 1288 [(0, .ref b), (1, .ref (ly_o y1 0)), (2, .ref (ly_o y2 1000)), (3, .int x3)] []) : VL x y1 y2 cells slots M1 M2 33 [(0, .ref b), (1, .ref (ly_o y1 0)), (2, .ref (ly_o y2 1000)), (3, .int x3)] [.int (xs (9 * k) &&& 31)] := by
  match c, hc, hs, hv with
  | 0, _, ⟨_, h1, h2⟩, hv => exact l_tabE (pc := 33) (tgt := 172) (off := 139) K hv dL_law_33 (by decide) (by decide) (by decide +kernel) (by decide) (l_case_0 hin K hk hL hx3 hcs h1 h2 kk)
  | 1, _, ⟨_, h1, h2⟩, hv => exact l_tabE (pc := 33) (tgt := 215) (off := 182) K hv dL_law_33 (by decide) (by decide) (by decide +kernel) (by decide) (l_case_1 hin K hk hL hx3 hcs h1 h2 kk)
  | 2, _, ⟨_, h1, h2⟩, hv => exact l_tabE (pc := 33) (tgt := 274) (off := 241) K hv dL_law_33 (by decide) (by decide) (by decide +kernel) (by decide) (l_case_2 hin K hk hL hx3 hcs h1 h2 kk)
  | 3, _, ⟨_, h1, h2⟩, hv => exact l_tabE (pc := 33) (tgt := 337) (off := 304) K hv dL_law_33 (by decide) (by decide) (by decide +kernel) (by decide) (l_case_3 hin K hk hL hx3 hcs h1 h2 kk)
  | 4, _, ⟨_, h1, h2⟩, hv => exact l_tabE (pc := 33) (tgt := 360) (off := 327) K hv dL_law_33 (by decide) (by decide) (by decide +kernel) (by decide) (l_case_4 hin K hk hL hx3 hcs h1 h2 kk)
  | 5, _, ⟨_, h1, h2⟩, hv => exact l_tabE (pc := 33) (tgt := 373) (off := 340) K hv dL_law_33 (by decide) (by decide) (by decide +kernel) (by decide) (l_case_5 hin K hk hL hx3 hcs h1 h2 kk)
  | 6, _, ⟨_, h1, h2⟩, hv => exact l_tabE (pc := 33) (tgt := 406) (off := 373) K hv dL_law_33 (by decide) (by decide) (by decide +kernel) (by decide) (l_case_6 hin K hk hL hx3 hcs h1 h2 kk)
  | 7, _, ⟨_, h1, h2⟩, hv => exact l_tabE (pc := 33) (tgt := 439) (off := 406) K hv dL_law_33 (by decide) (by decide) (by decide +kernel) (by decide) (l_case_7 hin K hk hL hx3 hcs h1 h2 kk)
  | 8, _, ⟨_, h1, h2⟩, hv => exact l_tabE (pc := 33) (tgt := 538) (off := 505) K hv dL_law_33 (by decide) (by decide) (by decide +kernel) (by decide) (l_case_8 hin K hk hL hx3 hcs h1 h2 kk)
  | 9, _, ⟨_, h1, h2⟩, hv => exact l_tabE (pc := 33) (tgt := 591) (off := 558) K hv dL_law_33 (by decide) (by decide) (by decide +kernel) (by decide) (l_case_9 hin K hk hL hx3 hcs h1 h2 kk)
  | 10, _, ⟨_, h1, h2⟩, hv => exact l_tabE (pc := 33) (tgt := 624) (off := 591) K hv dL_law_33 (by decide) (by decide) (by decide +kernel) (by decide) (l_case_10 hin K hk hL hx3 hcs h1 h2 kk)
  | 11, _, ⟨_, h1, h2⟩, hv => exact l_tabE (pc := 33) (tgt := 647) (off := 614) K hv dL_law_33 (by decide) (by decide) (by decide +kernel) (by decide) (l_case_11 hin K hk hL hx3 hcs h1 h2 kk)
  | 12, _, ⟨_, h1, h2⟩, hv => exact l_tabE (pc := 33) (tgt := 680) (off := 647) K hv dL_law_33 (by decide) (by decide) (by decide +kernel) (by decide) (l_case_12 hin K hk hL hx3 hcs h1 h2 kk)
  | 13, _, ⟨_, h1, h2⟩, hv => exact l_tabE (pc := 33) (tgt := 713) (off := 680) K hv dL_law_33 (by decide) (by decide) (by decide +kernel) (by decide) (l_case_13 hin K hk hL hx3 hcs h1 h2 kk)
  | 14, _, ⟨_, h1, h2⟩, hv => exact l_tabE (pc := 33) (tgt := 736) (off := 703) K hv dL_law_33 (by decide) (by decide) (by decide +kernel) (by decide) (l_case_14 hin K hk hL hx3 hcs h1 h2 kk)
  | 15, _, ⟨_, h1, h2⟩, hv => exact l_tabE (pc := 33) (tgt := 770) (off := 737) K hv dL_law_33 (by decide) (by decide) (by decide +kernel) (by decide) (l_case_15 hin K hk hL hx3 hcs h1 h2 kk)
  | 16, _, ⟨_, h1, h2⟩, hv => exact l_tabE (pc := 33) (tgt := 813) (off := 780) K hv dL_law_33 (by decide) (by decide) (by decide +kernel) (by decide) (l_case_16 hin K hk hL hx3 hcs h1 h2 kk)
  | 17, _, ⟨_, h1, h2⟩, hv => exact l_tabE (pc := 33) (tgt := 836) (off := 803) K hv dL_law_33 (by decide) (by decide) (by decide +kernel) (by decide) (l_case_17 hin K hk hL hx3 hcs h1 h2 kk)
  | 18, _, ⟨_, h1, h2⟩, hv => exact l_tabE (pc := 33) (tgt := 859) (off := 826) K hv dL_law_33 (by decide) (by decide) (by decide +kernel) (by decide) (l_case_18 hin K hk hL hx3 hcs h1 h2 kk)
  | 19, _, ⟨_, h1, h2⟩, hv => exact l_tabE (pc := 33) (tgt := 892) (off := 859) K hv dL_law_33 (by decide) (by decide) (by decide +kernel) (by decide) (l_case_19 hin K hk hL hx3 hcs h1 h2 kk)
  | 20, _, ⟨_, h1, h2⟩, hv => exact l_tabE (pc := 33) (tgt := 935) (off := 902) K hv dL_law_33 (by decide) (by decide) (by decide +kernel) (by decide) (l_case_20 hin K hk hL hx3 hcs h1 h2 kk)
  | 21, _, ⟨_, h1, h2⟩, hv => exact l_tabE (pc := 33) (tgt := 968) (off := 935) K hv dL_law_33 (by decide) (by decide) (by decide +kernel) (by decide) (l_case_21 hin K hk hL hx3 hcs h1 h2 kk)
  | 22, _, ⟨_, h1, h2⟩, hv => exact l_tabE (pc := 33) (tgt := 991) (off := 958) K hv dL_law_33 (by decide) (by decide) (by decide +kernel) (by decide) (l_case_22 hin K hk hL hx3 hcs h1 h2 kk)
  | 23, _, ⟨_, h1, h2⟩, hv => exact l_tabE (pc := 33) (tgt := 1034) (off := 1001) K hv dL_law_33 (by decide) (by decide) (by decide +kernel) (by decide) (l_case_23 hin K hk hL hx3 hcs h1 h2 kk)
  | 24, _, ⟨_, h1, h2⟩, hv => exact l_tabE (pc := 33) (tgt := 1057) (off := 1024) K hv dL_law_33 (by decide) (by decide) (by decide +kernel) (by decide) (l_case_24 hin K hk hL hx3 hcs h1 h2 kk)
  | 25, _, ⟨_, h1, h2⟩, hv => exact l_tabE (pc := 33) (tgt := 1080) (off := 1047) K hv dL_law_33 (by decide) (by decide) (by decide +kernel) (by decide) (l_case_25 hin K hk hL hx3 hcs h1 h2 kk)
  | 26, _, ⟨_, h1, h2⟩, hv => exact l_tabE (pc := 33) (tgt := 1103) (off := 1070) K hv dL_law_33 (by decide) (by decide) (by decide +kernel) (by decide) (l_case_26 hin K hk hL hx3 hcs h1 h2 kk)
  | 27, _, ⟨_, h1, h2⟩, hv => exact l_tabE (pc := 33) (tgt := 1156) (off := 1123) K hv dL_law_33 (by decide) (by decide) (by decide +kernel) (by decide) (l_case_27 hin K hk hL hx3 hcs h1 h2 kk)
  | 28, _, ⟨_, h1, h2⟩, hv => exact l_tabE (pc := 33) (tgt := 1219) (off := 1186) K hv dL_law_33 (by decide) (by decide) (by decide +kernel) (by decide) (l_case_28 hin K hk hL hx3 hcs h1 h2 kk)
  | 29, _, ⟨_, h1, h2⟩, hv => exact l_tabE (pc := 33) (tgt := 1242) (off := 1209) K hv dL_law_33 (by decide) (by decide) (by decide +kernel) (by decide) (l_case_29 hin K hk hL hx3 hcs h1 h2 kk)
  | 30, _, ⟨_, h1, h2⟩, hv => exact l_tabE (pc := 33) (tgt := 1265) (off := 1232) K hv dL_law_33 (by decide) (by decide) (by decide +kernel) (by decide) (l_case_30 hin K hk hL hx3 hcs h1 h2 kk)
  | 31, _, ⟨h1, h2⟩, hv =>
    subst h1; subst h2
    exact l_tabN (pc := 33) (tgt := 1288) K hv dL_law_33 (by decide) (by decide) (kk)
  | c + 32, h, _, _ => exact absurd h (by omega)
set_option maxRecDepth 100000 in
set_option maxHeartbeats 4000000 in
theorem l_loop {x : Cx} {l : Launch} {y1 y2 : Ly} {b L : Nat} {xs : Nat → Int32} {cells slots : Nat} (hin : ∀ w ∈ wsL_law, w ∈ lw_tbl) (K : VKL x l y1 y2 b L xs) (hL : L ≤ 4608) (hcs : cells ≤ 600000 ∧ slots ≤ 7302250) (I : Nat → QM → QM → Prop)
    (hI : ∀ (k : Nat) (M1 M2 : QM) (a : Nat → Int32) (c : Nat), I k M1 M2 → k < 512 → c < 32 → ∃ N1 N2, qL_s c a M1 M2 N1 N2 ∧ I (k + 1) N1 N2)
    (hE : ∀ (M1 M2 : QM) (lv : List (Nat × Value)), VL x y1 y2 cells slots M1 M2 1294 lv []) :
    ∀ (n k : Nat) (M1 M2 : QM) (x3 : Int32), 9 * k ≤ L → L - 9 * k < n → I k M1 M2 → x3 = nI (9 * k) → VL x y1 y2 cells slots M1 M2 18 [(0, .ref b), (1, .ref (ly_o y1 0)), (2, .ref (ly_o y2 1000)), (3, .int x3)] [] := by
  intro n
  induction n with
  | zero => exact fun k M1 M2 x3 _ h => absurd h (by omega)
  | succ n ih =>
    intro k M1 M2 x3 hk hn hM hx3
    refine l_iload_n (pc := 18) K dL_law_18 3 rfl ?_
    refine l_aload_n (pc := 19) K dL_law_19 0 rfl ?_
    refine l_slen (pc := 20) K dL_law_20 ?_
    refine l_bipush (pc := 21) (v := 9) K dL_law_21 rfl ?_
    refine l_isub (pc := 23) K dL_law_23 ?_
    by_cases hp : L < 9 * k + 9
    · refine l_gtT (pc := 24) (tgt := 1294) K dL_law_24 (by decide) (by rw [hx3]; exact (q_past (by omega) hL).mpr hp) ?_
      exact hE M1 M2 _
    · refine l_gtF (pc := 24) (tgt := 1294) K dL_law_24 (by decide) (by rw [hx3]; exact fun q => hp ((q_past (by omega) hL).mp q)) ?_
      have hk9 : 9 * k + 9 ≤ L := by omega
      refine l_aload_n (pc := 27) K dL_law_27 0 rfl ?_
      refine l_iload_n (pc := 28) K dL_law_28 3 rfl ?_
      refine l_sld (pc := 29) K (9 * k) (q_ld0 hk9 hL hx3).1 (q_ld0 hk9 hL hx3).2 dL_law_29 ?_
      refine l_bipush (pc := 30) (v := 31) K dL_law_30 rfl ?_
      refine l_iand (pc := 32) K dL_law_32 ?_
      have hv := pk_and (xs (9 * k)) (m := 31) 5 (by decide)
      obtain ⟨N1, N2, hs, hM'⟩ := hI k M1 M2 (fun j => xs (9 * k + j)) _ hM (by omega) (Nat.mod_lt _ (by decide : 0 < 2 ^ 5))
      refine l_step hin K hk9 hL hx3 hcs (Nat.mod_lt _ (by decide)) hv hs ?_
      refine l_iinc (pc := 1288) (v1 := nI (9 * (k + 1))) (lv' := [(3, .int (nI (9 * (k + 1)))), (0, .ref b), (1, .ref (ly_o y1 0)), (2, .ref (ly_o y2 1000))]) K dL_law_1288 3 rfl (by rw [hx3, show Int32.ofInt 9 = nI 9 from rfl, nI_add, Nat.mul_succ]) (by decide) rfl ?_
      refine l_goto (pc := 1291) (tgt := 18) K dL_law_1291 (by decide) ?_
      refine l_sub [1, 2, 3, 0] rfl ?_
      exact ih (k + 1) N1 N2 _ (by omega) (by omega) hM' rfl
