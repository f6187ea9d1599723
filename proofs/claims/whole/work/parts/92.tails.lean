/-! dep: 87 -/
/-! ===== printed by gen/specs/gen92.py: the ends of the law's cases ===== -/
def mL_law (L : Nat) (xs : Nat → Int32) : zY := (yL_law, cL_law, 9, some .boolean, (21, 10874), (603072, 7202922, [], zScr L xs))
theorem wkL_146 : Cond.methodLink "WindElectionLaw" 146 mL_addWind.1 ∈ z_all := z_all_in (i := 665) (by decide +kernel) (by decide +kernel)
theorem wkL_151 : Cond.methodLink "WindElectionLaw" 151 mX12_addWind.1 ∈ z_all := z_all_in (i := 1308) (by decide +kernel) (by decide +kernel)
theorem wkL_152 : Cond.methodLink "WindElectionLaw" 152 mX12_thrown.1 ∈ z_all := z_all_in (i := 1304) (by decide +kernel) (by decide +kernel)
theorem wkL_155 : Cond.methodLink "WindElectionLaw" 155 mL_withdraw.1 ∈ z_all := z_all_in (i := 679) (by decide +kernel) (by decide +kernel)
theorem wkL_158 : Cond.methodLink "WindElectionLaw" 158 mX12_withdraw.1 ∈ z_all := z_all_in (i := 1323) (by decide +kernel) (by decide +kernel)
theorem wkL_159 : Cond.methodLink "WindElectionLaw" 159 mX11_windCount.1 ∈ z_all := z_all_in (i := 331) (by decide +kernel) (by decide +kernel)
theorem wkL_162 : Cond.methodLink "WindElectionLaw" 162 mX12_windCount.1 ∈ z_all := z_all_in (i := 1342) (by decide +kernel) (by decide +kernel)
theorem wkL_163 : Cond.methodLink "WindElectionLaw" 163 mX11_standingCount.1 ∈ z_all := z_all_in (i := 335) (by decide +kernel) (by decide +kernel)
theorem wkL_166 : Cond.methodLink "WindElectionLaw" 166 mX12_standingCount.1 ∈ z_all := z_all_in (i := 1346) (by decide +kernel) (by decide +kernel)
theorem wkL_167 : Cond.methodLink "WindElectionLaw" 167 mL_isStanding.1 ∈ z_all := z_all_in (i := 716) (by decide +kernel) (by decide +kernel)
theorem wkL_169 : Cond.methodLink "WindElectionLaw" 169 mX12_isStanding.1 ∈ z_all := z_all_in (i := 1350) (by decide +kernel) (by decide +kernel)
theorem wkL_170 : Cond.methodLink "WindElectionLaw" 170 mL_hasSeat.1 ∈ z_all := z_all_in (i := 728) (by decide +kernel) (by decide +kernel)
theorem wkL_172 : Cond.methodLink "WindElectionLaw" 172 mX12_hasSeat.1 ∈ z_all := z_all_in (i := 1358) (by decide +kernel) (by decide +kernel)
theorem wkL_173 : Cond.methodLink "WindElectionLaw" 173 mL_addBallot.1 ∈ z_all := z_all_in (i := 735) (by decide +kernel) (by decide +kernel)
theorem wkL_176 : Cond.methodLink "WindElectionLaw" 176 mX12_addBallot.1 ∈ z_all := z_all_in (i := 1362) (by decide +kernel) (by decide +kernel)
theorem wkL_177 : Cond.methodLink "WindElectionLaw" 177 mL_rank.1 ∈ z_all := z_all_in (i := 758) (by decide +kernel) (by decide +kernel)
theorem wkL_179 : Cond.methodLink "WindElectionLaw" 179 mX12_rank.1 ∈ z_all := z_all_in (i := 1369) (by decide +kernel) (by decide +kernel)
theorem wkL_180 : Cond.methodLink "WindElectionLaw" 180 mL_removeBallot.1 ∈ z_all := z_all_in (i := 789) (by decide +kernel) (by decide +kernel)
theorem wkL_182 : Cond.methodLink "WindElectionLaw" 182 mX12_removeBallot.1 ∈ z_all := z_all_in (i := 1385) (by decide +kernel) (by decide +kernel)
theorem wkL_183 : Cond.methodLink "WindElectionLaw" 183 mL_recount.1 ∈ z_all := z_all_in (i := 800) (by decide +kernel) (by decide +kernel)
theorem wkL_185 : Cond.methodLink "WindElectionLaw" 185 mX12_recount.1 ∈ z_all := z_all_in (i := 1393) (by decide +kernel) (by decide +kernel)
theorem wkL_186 : Cond.methodLink "WindElectionLaw" 186 mX11_ballotCount.1 ∈ z_all := z_all_in (i := 343) (by decide +kernel) (by decide +kernel)
theorem wkL_189 : Cond.methodLink "WindElectionLaw" 189 mX12_ballotCount.1 ∈ z_all := z_all_in (i := 1397) (by decide +kernel) (by decide +kernel)
theorem wkL_190 : Cond.methodLink "WindElectionLaw" 190 mL_weightOf.1 ∈ z_all := z_all_in (i := 811) (by decide +kernel) (by decide +kernel)
theorem wkL_192 : Cond.methodLink "WindElectionLaw" 192 mX12_weightOf.1 ∈ z_all := z_all_in (i := 1401) (by decide +kernel) (by decide +kernel)
theorem wkL_193 : Cond.methodLink "WindElectionLaw" 193 mL_rankCount.1 ∈ z_all := z_all_in (i := 818) (by decide +kernel) (by decide +kernel)
theorem wkL_195 : Cond.methodLink "WindElectionLaw" 195 mX12_rankCount.1 ∈ z_all := z_all_in (i := 1405) (by decide +kernel) (by decide +kernel)
theorem wkL_196 : Cond.methodLink "WindElectionLaw" 196 mL_windAt.1 ∈ z_all := z_all_in (i := 825) (by decide +kernel) (by decide +kernel)
theorem wkL_198 : Cond.methodLink "WindElectionLaw" 198 mX12_windAt.1 ∈ z_all := z_all_in (i := 1409) (by decide +kernel) (by decide +kernel)
theorem wkL_199 : Cond.methodLink "WindElectionLaw" 199 mL_rankOf.1 ∈ z_all := z_all_in (i := 834) (by decide +kernel) (by decide +kernel)
theorem wkL_201 : Cond.methodLink "WindElectionLaw" 201 mX12_rankOf.1 ∈ z_all := z_all_in (i := 1413) (by decide +kernel) (by decide +kernel)
theorem wkL_202 : Cond.methodLink "WindElectionLaw" 202 mX11_totalWeight.1 ∈ z_all := z_all_in (i := 347) (by decide +kernel) (by decide +kernel)
theorem wkL_205 : Cond.methodLink "WindElectionLaw" 205 mX12_totalWeight.1 ∈ z_all := z_all_in (i := 1417) (by decide +kernel) (by decide +kernel)
theorem wkL_206 : Cond.methodLink "WindElectionLaw" 206 mL_winner.1 ∈ z_all := z_all_in (i := 846) (by decide +kernel) (by decide +kernel)
theorem wkL_208 : Cond.methodLink "WindElectionLaw" 208 mX12_winner.1 ∈ z_all := z_all_in (i := 1425) (by decide +kernel) (by decide +kernel)
theorem wkL_209 : Cond.methodLink "WindElectionLaw" 209 mL_winnerByTransfers.1 ∈ z_all := z_all_in (i := 853) (by decide +kernel) (by decide +kernel)
theorem wkL_211 : Cond.methodLink "WindElectionLaw" 211 mX12_winnerByTransfers.1 ∈ z_all := z_all_in (i := 1449) (by decide +kernel) (by decide +kernel)
theorem wkL_212 : Cond.methodLink "WindElectionLaw" 212 mX11_roundCount.1 ∈ z_all := z_all_in (i := 355) (by decide +kernel) (by decide +kernel)
theorem wkL_215 : Cond.methodLink "WindElectionLaw" 215 mX12_roundCount.1 ∈ z_all := z_all_in (i := 1453) (by decide +kernel) (by decide +kernel)
theorem wkL_216 : Cond.methodLink "WindElectionLaw" 216 mL_votesIn.1 ∈ z_all := z_all_in (i := 860) (by decide +kernel) (by decide +kernel)
theorem wkL_218 : Cond.methodLink "WindElectionLaw" 218 mX12_votesIn.1 ∈ z_all := z_all_in (i := 1457) (by decide +kernel) (by decide +kernel)
theorem wkL_219 : Cond.methodLink "WindElectionLaw" 219 mL_exhaustedIn.1 ∈ z_all := z_all_in (i := 874) (by decide +kernel) (by decide +kernel)
theorem wkL_221 : Cond.methodLink "WindElectionLaw" 221 mX12_exhaustedIn.1 ∈ z_all := z_all_in (i := 1465) (by decide +kernel) (by decide +kernel)
theorem wkL_222 : Cond.methodLink "WindElectionLaw" 222 mL_eliminatedIn.1 ∈ z_all := z_all_in (i := 881) (by decide +kernel) (by decide +kernel)
theorem wkL_224 : Cond.methodLink "WindElectionLaw" 224 mX12_eliminatedIn.1 ∈ z_all := z_all_in (i := 1469) (by decide +kernel) (by decide +kernel)
theorem wkL_225 : Cond.methodLink "WindElectionLaw" 225 mL_isTieIn.1 ∈ z_all := z_all_in (i := 888) (by decide +kernel) (by decide +kernel)
theorem wkL_227 : Cond.methodLink "WindElectionLaw" 227 mX12_isTieIn.1 ∈ z_all := z_all_in (i := 1473) (by decide +kernel) (by decide +kernel)
theorem wkL_228 : Cond.methodLink "WindElectionLaw" 228 mL_roundOfElimination.1 ∈ z_all := z_all_in (i := 895) (by decide +kernel) (by decide +kernel)
theorem wkL_230 : Cond.methodLink "WindElectionLaw" 230 mX12_roundOfElimination.1 ∈ z_all := z_all_in (i := 1477) (by decide +kernel) (by decide +kernel)
theorem wkL_231 : Cond.methodLink "WindElectionLaw" 231 mL_winnerShare.1 ∈ z_all := z_all_in (i := 906) (by decide +kernel) (by decide +kernel)
theorem wkL_234 : Cond.methodLink "WindElectionLaw" 234 mX12_winnerShare.1 ∈ z_all := z_all_in (i := 1481) (by decide +kernel) (by decide +kernel)
theorem wkL_235 : Cond.methodLink "WindElectionLaw" 235 mL_preference.1 ∈ z_all := z_all_in (i := 935) (by decide +kernel) (by decide +kernel)
theorem wkL_237 : Cond.methodLink "WindElectionLaw" 237 mX12_preference.1 ∈ z_all := z_all_in (i := 1485) (by decide +kernel) (by decide +kernel)
theorem wkL_238 : Cond.methodLink "WindElectionLaw" 238 mL_beats.1 ∈ z_all := z_all_in (i := 943) (by decide +kernel) (by decide +kernel)
theorem wkL_240 : Cond.methodLink "WindElectionLaw" 240 mX12_beats.1 ∈ z_all := z_all_in (i := 1497) (by decide +kernel) (by decide +kernel)
theorem wkL_241 : Cond.methodLink "WindElectionLaw" 241 mL_victories.1 ∈ z_all := z_all_in (i := 951) (by decide +kernel) (by decide +kernel)
theorem wkL_243 : Cond.methodLink "WindElectionLaw" 243 mX12_victories.1 ∈ z_all := z_all_in (i := 1505) (by decide +kernel) (by decide +kernel)
theorem wkL_244 : Cond.methodLink "WindElectionLaw" 244 mL_championOfPairs.1 ∈ z_all := z_all_in (i := 959) (by decide +kernel) (by decide +kernel)
theorem wkL_246 : Cond.methodLink "WindElectionLaw" 246 mX12_championOfPairs.1 ∈ z_all := z_all_in (i := 1513) (by decide +kernel) (by decide +kernel)
theorem wkL_247 : Cond.methodLink "WindElectionLaw" 247 mL_championByDuels.1 ∈ z_all := z_all_in (i := 966) (by decide +kernel) (by decide +kernel)
theorem wkL_249 : Cond.methodLink "WindElectionLaw" 249 mX12_championByDuels.1 ∈ z_all := z_all_in (i := 1521) (by decide +kernel) (by decide +kernel)
theorem wkL_250 : Cond.methodLink "WindElectionLaw" 250 mL_scoreOf.1 ∈ z_all := z_all_in (i := 973) (by decide +kernel) (by decide +kernel)
theorem wkL_252 : Cond.methodLink "WindElectionLaw" 252 mX12_scoreOf.1 ∈ z_all := z_all_in (i := 1525) (by decide +kernel) (by decide +kernel)
theorem wkL_253 : Cond.methodLink "WindElectionLaw" 253 mL_windByScore.1 ∈ z_all := z_all_in (i := 984) (by decide +kernel) (by decide +kernel)
theorem wkL_255 : Cond.methodLink "WindElectionLaw" 255 mX12_windByScore.1 ∈ z_all := z_all_in (i := 1533) (by decide +kernel) (by decide +kernel)
theorem wkL_256 : Cond.methodLink "WindElectionLaw" 256 mX11_spin.1 ∈ z_all := z_all_in (i := 415) (by decide +kernel) (by decide +kernel)
theorem wkL_259 : Cond.methodLink "WindElectionLaw" 259 mX12_spin.1 ∈ z_all := z_all_in (i := 1537) (by decide +kernel) (by decide +kernel)
theorem wkL_260 : Cond.methodLink "WindElectionLaw" 260 mX11_spinValue.1 ∈ z_all := z_all_in (i := 581) (by decide +kernel) (by decide +kernel)
theorem wkL_263 : Cond.methodLink "WindElectionLaw" 263 mX12_spinValue.1 ∈ z_all := z_all_in (i := 1541) (by decide +kernel) (by decide +kernel)
theorem wkL_264 : Cond.methodLink "WindElectionLaw" 264 mL_certify.1 ∈ z_all := z_all_in (i := 995) (by decide +kernel) (by decide +kernel)
theorem wkL_266 : Cond.methodLink "WindElectionLaw" 266 mX12_certify.1 ∈ z_all := z_all_in (i := 1545) (by decide +kernel) (by decide +kernel)
theorem wkL_267 : Cond.methodLink "WindElectionLaw" 267 mX11_seatCount.1 ∈ z_all := z_all_in (i := 585) (by decide +kernel) (by decide +kernel)
theorem wkL_270 : Cond.methodLink "WindElectionLaw" 270 mX12_seatCount.1 ∈ z_all := z_all_in (i := 1549) (by decide +kernel) (by decide +kernel)
theorem wkL_271 : Cond.methodLink "WindElectionLaw" 271 mL_seatAt.1 ∈ z_all := z_all_in (i := 1013) (by decide +kernel) (by decide +kernel)
theorem wkL_273 : Cond.methodLink "WindElectionLaw" 273 mX12_seatAt.1 ∈ z_all := z_all_in (i := 1553) (by decide +kernel) (by decide +kernel)
theorem wkL_274 : Cond.methodLink "WindElectionLaw" 274 mL_writeBallot.1 ∈ z_all := z_all_in (i := 1024) (by decide +kernel) (by decide +kernel)
theorem wkL_276 : Cond.methodLink "WindElectionLaw" 276 mX12_writeBallot.1 ∈ z_all := z_all_in (i := 1557) (by decide +kernel) (by decide +kernel)
theorem wkL_277 : Cond.methodLink "WindElectionLaw" 277 mX11_writeCount.1 ∈ z_all := z_all_in (i := 589) (by decide +kernel) (by decide +kernel)
theorem wkL_280 : Cond.methodLink "WindElectionLaw" 280 mX12_writeCount.1 ∈ z_all := z_all_in (i := 1569) (by decide +kernel) (by decide +kernel)
theorem wkL_281 : Cond.methodLink "WindElectionLaw" 281 mL_lineAt.1 ∈ z_all := z_all_in (i := 1031) (by decide +kernel) (by decide +kernel)
theorem wkL_283 : Cond.methodLink "WindElectionLaw" 283 mX12_lineAt.1 ∈ z_all := z_all_in (i := 1573) (by decide +kernel) (by decide +kernel)
theorem wkL_284 : Cond.methodLink "WindElectionLaw" 284 mL_meanRanks.1 ∈ z_all := z_all_in (i := 1039) (by decide +kernel) (by decide +kernel)
theorem wkL_286 : Cond.methodLink "WindElectionLaw" 286 mX12_meanRanks.1 ∈ z_all := z_all_in (i := 1577) (by decide +kernel) (by decide +kernel)
theorem wkL_287 : Cond.methodLink "WindElectionLaw" 287 mX11_isConsistent.1 ∈ z_all := z_all_in (i := 610) (by decide +kernel) (by decide +kernel)
theorem wkL_291 : Cond.methodLink "WindElectionLaw" 291 mX12_isConsistent.1 ∈ z_all := z_all_in (i := 1581) (by decide +kernel) (by decide +kernel)
theorem wkL_292 : Cond.methodLink "WindElectionLaw" 292 mL_type.1 ∈ z_all := z_all_in (i := 1051) (by decide +kernel) (by decide +kernel)
theorem wkL_295 : Cond.methodLink "WindElectionLaw" 295 mX12_type.1 ∈ z_all := z_all_in (i := 1585) (by decide +kernel) (by decide +kernel)
theorem wkL_296 : Cond.methodLink "WindElectionLaw" 296 mL_execute.1 ∈ z_all := z_all_in (i := 1060) (by decide +kernel) (by decide +kernel)
theorem wkL_298 : Cond.methodLink "WindElectionLaw" 298 mX12_execute.1 ∈ z_all := z_all_in (i := 1589) (by decide +kernel) (by decide +kernel)
theorem wkL_299 : Cond.methodLink "WindElectionLaw" 299 mL_errorPosition.1 ∈ z_all := z_all_in (i := 1187) (by decide +kernel) (by decide +kernel)
theorem wkL_301 : Cond.methodLink "WindElectionLaw" 301 mX12_errorPosition.1 ∈ z_all := z_all_in (i := 1655) (by decide +kernel) (by decide +kernel)
theorem wkL_302 : Cond.methodLink "WindElectionLaw" 302 mL_failedCommand.1 ∈ z_all := z_all_in (i := 1194) (by decide +kernel) (by decide +kernel)
theorem wkL_304 : Cond.methodLink "WindElectionLaw" 304 mX12_failedCommand.1 ∈ z_all := z_all_in (i := 1659) (by decide +kernel) (by decide +kernel)
theorem wkL_305 : Cond.methodLink "WindElectionLaw" 305 mL_undo.1 ∈ z_all := z_all_in (i := 1201) (by decide +kernel) (by decide +kernel)
theorem wkL_307 : Cond.methodLink "WindElectionLaw" 307 mX12_undo.1 ∈ z_all := z_all_in (i := 1663) (by decide +kernel) (by decide +kernel)
theorem wkL_308 : Cond.methodLink "WindElectionLaw" 308 mX11_save.1 ∈ z_all := z_all_in (i := 661) (by decide +kernel) (by decide +kernel)
theorem wkL_311 : Cond.methodLink "WindElectionLaw" 311 mX12_save.1 ∈ z_all := z_all_in (i := 1667) (by decide +kernel) (by decide +kernel)
theorem wkL_312 : Cond.methodLink "WindElectionLaw" 312 mL_restore.1 ∈ z_all := z_all_in (i := 1213) (by decide +kernel) (by decide +kernel)
theorem wkL_314 : Cond.methodLink "WindElectionLaw" 314 mX12_restore.1 ∈ z_all := z_all_in (i := 1671) (by decide +kernel) (by decide +kernel)
theorem zfE_n {x z : Int} (hx : 0 ≤ x ∧ x < 2048) (hz : 0 < z ∧ z < 2048) : vf_n64 (UInt64.ofNat (zfE x z).toNat) := by
  unfold zfE
  rw [Int.toNat_natCast, UInt64.ofNat_toNat]
  exact zf_f2d (zf_div32 hx.1 hx.2 hz.1 hz.2)
theorem tl_int {L : Nat} {xs : Nat → Int32} {b : Int} {p : Nat} {i k : Int} {off : Int} {M : zM} {bc bs : Nat} {Q : zV → zS → zM → Prop} (d0 : decode cL_law p = .ok (.aload_n 2, 1)) (d1 : decode cL_law (p + 1) = .ok (.invokevirtual 152, 3)) (d4 : decode cL_law (p + 4) = .ok (.iload 6, 2)) (d6 : decode cL_law (p + 6) = .ok (.if_icmp .eq 5, 3)) (d11 : decode cL_law (p + 11) = .ok (.iload 6, 2)) (d13 : decode cL_law (p + 13) = .ok (.ifCond .ne 15, 3)) (d16 : decode cL_law (p + 16) = .ok (.aload_n 3, 1)) (d17 : decode cL_law (p + 17) = .ok (.iconst 0, 1)) (d18 : decode cL_law (p + 18) = .ok (.laload, 1)) (d19 : decode cL_law (p + 19) = .ok (.iload 7, 2)) (d21 : decode cL_law (p + 21) = .ok (.i2l, 1)) (d22 : decode cL_law (p + 22) = .ok (.lcmp, 1)) (d23 : decode cL_law (p + 23) = .ok (.ifCond .eq 5, 3)) (d28 : decode cL_law (p + 28) = .ok (.goto off, 3)) (ho : ((p + 28 : Nat) : Int) + off = 2540) (hk : M 517 7 = k) (hb : k = 0 → M 529 0 = b) (kk : z_Ex (mL_law L xs) zF 2540 [(1, -98), (1, 1), (1, 517), (1, 529), (1, 530), (0, i), (0, k), (0, b), (9, 0)] [] M bc bs Q) : z_Ex (mL_law L xs) zF p [(1, -98), (1, 1), (1, 517), (1, 529), (1, 530), (0, i), (0, k), (0, b), (9, 0)] [] M bc bs Q := by
  refine zr_aloadn (k := 2) rfl d0 rfl ?_
  refine zf_callV0 k517 s_X12_thrown mtX12_thrown wiX12_thrown weX12_thrown wkL_152 (q := p + 4) d1 rfl rfl rfl rfl rfl rfl rfl (fun r S9 M9 h8 hP9 => ?_) (fun k3 S9 M9 hP9 => (z_n8' hP9.1).elim)
  obtain ⟨rfl, rfl, rfl⟩ := hP9
  rw [hk]
  refine zr_iload (n := 0) (i := 6) (q := p + 6) rfl d4 rfl ?_
  refine zr_icmp_eq (q := p + 11) (q2 := p + 9) d6 (by omega) rfl (fun _ => ?_) (fun c => absurd rfl c)
  refine zr_iload (n := 0) (i := 6) (q := p + 13) rfl d11 rfl ?_
  refine zr_if_ne (q := p + 28) (q2 := p + 16) d13 (by omega) rfl (fun _ => ?_) (fun c => ?_)
  · exact zr_goto (q := 2540) d28 ho kk
  · have hb9 := hb (by omega)
    refine zr_aloadn (k := 3) rfl d16 rfl ?_
    refine zr_iconst d17 rfl (z_in_of rfl) ?_
    refine zr_lald (z := 529) (n := 1) d18 rfl k529.1 k529.2.1 k529.2.2 (by decide) (by decide) ?_
    rw [hb9]
    refine zr_iload (n := 0) (i := 7) (q := p + 21) rfl d19 rfl ?_
    refine zr_i2l d21 rfl ?_
    refine zr_lcmp d22 rfl ?_
    refine zr_if_eq (q := p + 28) (q2 := p + 26) d23 (by omega) rfl (fun _ => ?_) (fun c => ?_)
    · exact zr_goto (q := 2540) d28 ho kk
    · rw [if_neg (by omega), if_pos rfl] at c
      exact absurd rfl c
theorem tl_bool {L : Nat} {xs : Nat → Int32} {b : Int} {p : Nat} {i k : Int} {off : Int} {M : zM} {bc bs : Nat} {Q : zV → zS → zM → Prop} (d0 : decode cL_law p = .ok (.aload_n 2, 1)) (d1 : decode cL_law (p + 1) = .ok (.invokevirtual 152, 3)) (d4 : decode cL_law (p + 4) = .ok (.iload 6, 2)) (d6 : decode cL_law (p + 6) = .ok (.if_icmp .eq 5, 3)) (d11 : decode cL_law (p + 11) = .ok (.iload 6, 2)) (d13 : decode cL_law (p + 13) = .ok (.ifCond .ne 22, 3)) (d16 : decode cL_law (p + 16) = .ok (.aload_n 3, 1)) (d17 : decode cL_law (p + 17) = .ok (.iconst 0, 1)) (d18 : decode cL_law (p + 18) = .ok (.laload, 1)) (d19 : decode cL_law (p + 19) = .ok (.iload 7, 2)) (d21 : decode cL_law (p + 21) = .ok (.ifCond .eq 7, 3)) (d24 : decode cL_law (p + 24) = .ok (.lconst 1, 1)) (d25 : decode cL_law (p + 25) = .ok (.goto 4, 3)) (d28 : decode cL_law (p + 28) = .ok (.lconst 0, 1)) (d29 : decode cL_law (p + 29) = .ok (.lcmp, 1)) (d30 : decode cL_law (p + 30) = .ok (.ifCond .eq 5, 3)) (d35 : decode cL_law (p + 35) = .ok (.goto off, 3)) (ho : ((p + 35 : Nat) : Int) + off = 2540) (hk : M 517 7 = k) (hb : k = 0 → M 529 0 = b ∧ (b = 0 ∨ b = 1)) (kk : z_Ex (mL_law L xs) zF 2540 [(1, -98), (1, 1), (1, 517), (1, 529), (1, 530), (0, i), (0, k), (0, b), (9, 0)] [] M bc bs Q) : z_Ex (mL_law L xs) zF p [(1, -98), (1, 1), (1, 517), (1, 529), (1, 530), (0, i), (0, k), (0, b), (9, 0)] [] M bc bs Q := by
  refine zr_aloadn (k := 2) rfl d0 rfl ?_
  refine zf_callV0 k517 s_X12_thrown mtX12_thrown wiX12_thrown weX12_thrown wkL_152 (q := p + 4) d1 rfl rfl rfl rfl rfl rfl rfl (fun r S9 M9 h8 hP9 => ?_) (fun k3 S9 M9 hP9 => (z_n8' hP9.1).elim)
  obtain ⟨rfl, rfl, rfl⟩ := hP9
  rw [hk]
  refine zr_iload (n := 0) (i := 6) (q := p + 6) rfl d4 rfl ?_
  refine zr_icmp_eq (q := p + 11) (q2 := p + 9) d6 (by omega) rfl (fun _ => ?_) (fun c => absurd rfl c)
  refine zr_iload (n := 0) (i := 6) (q := p + 13) rfl d11 rfl ?_
  refine zr_if_ne (q := p + 35) (q2 := p + 16) d13 (by omega) rfl (fun _ => ?_) (fun c => ?_)
  · exact zr_goto (q := 2540) d35 ho kk
  · obtain ⟨hb9, hb1⟩ := hb (by omega)
    refine zr_aloadn (k := 3) rfl d16 rfl ?_
    refine zr_iconst d17 rfl (z_in_of rfl) ?_
    refine zr_lald (z := 529) (n := 1) d18 rfl k529.1 k529.2.1 k529.2.2 (by decide) (by decide) ?_
    rw [hb9]
    refine zr_iload (n := 0) (i := 7) (q := p + 21) rfl d19 rfl ?_
    refine zr_if_eq (q := p + 28) (q2 := p + 24) d21 (by omega) rfl (fun e => ?_) (fun e => ?_)
    · rw [show (2, b) = ((2 : Nat), (0 : Int)) by rw [e]]
      refine zr_lconst (v := 0) d28 rfl (z_in_of rfl) rfl ?_
      refine zr_lcmp d29 rfl ?_
      refine zr_if_eq (q := p + 35) (q2 := p + 33) d30 (by omega) rfl (fun _ => ?_) (fun c => absurd (by decide) c)
      exact zr_goto (q := 2540) d35 ho kk
    · have e1 : b = 1 := by omega
      rw [show (2, b) = ((2 : Nat), (1 : Int)) by rw [e1]]
      refine zr_lconst (v := 1) d24 rfl (z_in_of rfl) rfl ?_
      refine zr_goto (q := p + 29) d25 (by omega) ?_
      refine zr_lcmp d29 rfl ?_
      refine zr_if_eq (q := p + 35) (q2 := p + 33) d30 (by omega) rfl (fun _ => ?_) (fun c => absurd (by decide) c)
      exact zr_goto (q := 2540) d35 ho kk
theorem tl_flt {L : Nat} {xs : Nat → Int32} {b : Int} {p : Nat} {i k : Int} {off : Int} {M : zM} {bc bs : Nat} {Q : zV → zS → zM → Prop} (d0 : decode cL_law p = .ok (.aload_n 2, 1)) (d1 : decode cL_law (p + 1) = .ok (.invokevirtual 152, 3)) (d4 : decode cL_law (p + 4) = .ok (.iload 6, 2)) (d6 : decode cL_law (p + 6) = .ok (.if_icmp .eq 5, 3)) (d11 : decode cL_law (p + 11) = .ok (.iload 6, 2)) (d13 : decode cL_law (p + 13) = .ok (.ifCond .ne 36, 3)) (d16 : decode cL_law (p + 16) = .ok (.aload 4, 2)) (d18 : decode cL_law (p + 18) = .ok (.iconst 0, 1)) (d19 : decode cL_law (p + 19) = .ok (.daload, 1)) (d20 : decode cL_law (p + 20) = .ok (.fload 7, 2)) (d22 : decode cL_law (p + 22) = .ok (.f2d, 1)) (d23 : decode cL_law (p + 23) = .ok (.dcmp .l, 1)) (d24 : decode cL_law (p + 24) = .ok (.ifCond .eq 25, 3)) (d49 : decode cL_law (p + 49) = .ok (.goto off, 3)) (ho : ((p + 49 : Nat) : Int) + off = 2540) (hk : M 517 7 = k) (hb : k = 0 → zTf b (M 530 0)) (kk : z_Ex (mL_law L xs) zF 2540 [(1, -98), (1, 1), (1, 517), (1, 529), (1, 530), (0, i), (0, k), (3, b), (9, 0)] [] M bc bs Q) : z_Ex (mL_law L xs) zF p [(1, -98), (1, 1), (1, 517), (1, 529), (1, 530), (0, i), (0, k), (3, b), (9, 0)] [] M bc bs Q := by
  refine zr_aloadn (k := 2) rfl d0 rfl ?_
  refine zf_callV0 k517 s_X12_thrown mtX12_thrown wiX12_thrown weX12_thrown wkL_152 (q := p + 4) d1 rfl rfl rfl rfl rfl rfl rfl (fun r S9 M9 h8 hP9 => ?_) (fun k3 S9 M9 hP9 => (z_n8' hP9.1).elim)
  obtain ⟨rfl, rfl, rfl⟩ := hP9
  rw [hk]
  refine zr_iload (n := 0) (i := 6) (q := p + 6) rfl d4 rfl ?_
  refine zr_icmp_eq (q := p + 11) (q2 := p + 9) d6 (by omega) rfl (fun _ => ?_) (fun c => absurd rfl c)
  refine zr_iload (n := 0) (i := 6) (q := p + 13) rfl d11 rfl ?_
  refine zr_if_ne (q := p + 49) (q2 := p + 16) d13 (by omega) rfl (fun _ => ?_) (fun c => ?_)
  · exact zr_goto (q := 2540) d49 ho kk
  · obtain ⟨x, z, hx, hz, e1, e2⟩ := hb (by omega)
    refine zr_aload (i := 4) rfl d16 rfl ?_
    refine zr_iconst d18 rfl (z_in_of rfl) ?_
    refine zr_dald (z := 530) (n := 1) d19 rfl k530.1 k530.2.1 k530.2.2 (by decide) (by decide) ?_
    rw [e2]
    subst e1
    refine zr_fload (i := 7) (q := p + 22) (x := zfD x z) rfl d20 rfl ?_
    refine zr_f2d hx.1 hx.2 hz.1 hz.2 d22 rfl ?_
    refine zr_dcmpe (zfE_n hx hz) d23 rfl ?_
    refine zr_if_eq (q := p + 49) (q2 := p + 27) d24 (by omega) rfl (fun _ => ?_) (fun c => absurd rfl c)
    exact zr_goto (q := 2540) d49 ho kk
theorem tl_dbl {L : Nat} {xs : Nat → Int32} {b : Int} {p : Nat} {i k : Int} {off : Int} {M : zM} {bc bs : Nat} {Q : zV → zS → zM → Prop} (d0 : decode cL_law p = .ok (.aload_n 2, 1)) (d1 : decode cL_law (p + 1) = .ok (.invokevirtual 152, 3)) (d4 : decode cL_law (p + 4) = .ok (.iload 6, 2)) (d6 : decode cL_law (p + 6) = .ok (.if_icmp .eq 5, 3)) (d11 : decode cL_law (p + 11) = .ok (.iload 6, 2)) (d13 : decode cL_law (p + 13) = .ok (.ifCond .ne 35, 3)) (d16 : decode cL_law (p + 16) = .ok (.aload 4, 2)) (d18 : decode cL_law (p + 18) = .ok (.iconst 0, 1)) (d19 : decode cL_law (p + 19) = .ok (.daload, 1)) (d20 : decode cL_law (p + 20) = .ok (.dload 7, 2)) (d22 : decode cL_law (p + 22) = .ok (.dcmp .l, 1)) (d23 : decode cL_law (p + 23) = .ok (.ifCond .eq 25, 3)) (d48 : decode cL_law (p + 48) = .ok (.goto off, 3)) (ho : ((p + 48 : Nat) : Int) + off = 2540) (hk : M 517 7 = k) (hb : k = 0 → zTg b (M 530 0)) (kk : z_Ex (mL_law L xs) zF 2540 [(1, -98), (1, 1), (1, 517), (1, 529), (1, 530), (0, i), (0, k), (4, b), (9, 0)] [] M bc bs Q) : z_Ex (mL_law L xs) zF p [(1, -98), (1, 1), (1, 517), (1, 529), (1, 530), (0, i), (0, k), (4, b), (9, 0)] [] M bc bs Q := by
  refine zr_aloadn (k := 2) rfl d0 rfl ?_
  refine zf_callV0 k517 s_X12_thrown mtX12_thrown wiX12_thrown weX12_thrown wkL_152 (q := p + 4) d1 rfl rfl rfl rfl rfl rfl rfl (fun r S9 M9 h8 hP9 => ?_) (fun k3 S9 M9 hP9 => (z_n8' hP9.1).elim)
  obtain ⟨rfl, rfl, rfl⟩ := hP9
  rw [hk]
  refine zr_iload (n := 0) (i := 6) (q := p + 6) rfl d4 rfl ?_
  refine zr_icmp_eq (q := p + 11) (q2 := p + 9) d6 (by omega) rfl (fun _ => ?_) (fun c => absurd rfl c)
  refine zr_iload (n := 0) (i := 6) (q := p + 13) rfl d11 rfl ?_
  refine zr_if_ne (q := p + 48) (q2 := p + 16) d13 (by omega) rfl (fun _ => ?_) (fun c => ?_)
  · exact zr_goto (q := 2540) d48 ho kk
  · obtain ⟨e1, e2⟩ := hb (by omega)
    refine zr_aload (i := 4) rfl d16 rfl ?_
    refine zr_iconst d18 rfl (z_in_of rfl) ?_
    refine zr_dald (z := 530) (n := 1) d19 rfl k530.1 k530.2.1 k530.2.2 (by decide) (by decide) ?_
    rw [e1]
    refine zr_dload (i := 7) (q := p + 22) (x := b) rfl d20 rfl ?_
    refine zr_dcmpe e2 d22 rfl ?_
    refine zr_if_eq (q := p + 48) (q2 := p + 26) d23 (by omega) rfl (fun _ => ?_) (fun c => absurd rfl c)
    exact zr_goto (q := 2540) d48 ho kk
