/-! ===== printed by gen/words.py: methods, words, fields, links ===== -/
theorem u_inX1 : ∀ w ∈ u_ws RX1 TX1 7, w ∈ z_all := fun w hw => List.mem_filter.mpr ⟨inX1 w hw, List.all_eq_true.mp (by decide +kernel : (u_ws RX1 TX1 7).all goodWord = true) w hw⟩
theorem u_inX2 : ∀ w ∈ u_ws RX2 TX2 3, w ∈ z_all := fun w hw => List.mem_filter.mpr ⟨inX2 w hw, List.all_eq_true.mp (by decide +kernel : (u_ws RX2 TX2 3).all goodWord = true) w hw⟩
theorem u_inX3 : ∀ w ∈ u_ws RX3 TX3 4, w ∈ z_all := fun w hw => List.mem_filter.mpr ⟨inX3 w hw, List.all_eq_true.mp (by decide +kernel : (u_ws RX3 TX3 4).all goodWord = true) w hw⟩
theorem u_inX5 : ∀ w ∈ u_ws RX5 TX5 3, w ∈ z_all := fun w hw => List.mem_filter.mpr ⟨inX5 w hw, List.all_eq_true.mp (by decide +kernel : (u_ws RX5 TX5 3).all goodWord = true) w hw⟩
theorem u_inX6 : ∀ w ∈ u_ws RX6 TX6 2, w ∈ z_all := fun w hw => List.mem_filter.mpr ⟨inX6 w hw, List.all_eq_true.mp (by decide +kernel : (u_ws RX6 TX6 2).all goodWord = true) w hw⟩
theorem u_inX7 : ∀ w ∈ u_ws RX7 TX7 5, w ∈ z_all := fun w hw => List.mem_filter.mpr ⟨inX7 w hw, List.all_eq_true.mp (by decide +kernel : (u_ws RX7 TX7 5).all goodWord = true) w hw⟩
theorem u_inX8 : ∀ w ∈ u_ws RX8 TX8 5, w ∈ z_all := fun w hw => List.mem_filter.mpr ⟨inX8 w hw, List.all_eq_true.mp (by decide +kernel : (u_ws RX8 TX8 5).all goodWord = true) w hw⟩
theorem u_inX9 : ∀ w ∈ u_ws RX9 TX9 2, w ∈ z_all := fun w hw => List.mem_filter.mpr ⟨inX9 w hw, List.all_eq_true.mp (by decide +kernel : (u_ws RX9 TX9 2).all goodWord = true) w hw⟩
theorem u_inX11 : ∀ w ∈ u_ws RX11 TX11 12, w ∈ z_all := fun w hw => List.mem_filter.mpr ⟨inX11 w hw, List.all_eq_true.mp (by decide +kernel : (u_ws RX11 TX11 12).all goodWord = true) w hw⟩
theorem u_inX12 : ∀ w ∈ u_ws RX12 TX12 24, w ∈ z_all := fun w hw => List.mem_filter.mpr ⟨inX12 w hw, List.all_eq_true.mp (by decide +kernel : (u_ws RX12 TX12 24).all goodWord = true) w hw⟩
def mX11_init : zY := (yX11_init, cX11_init, 1, none, (4, 78), (515, 2562, [], fun _ _ => True))
theorem mtX11_init : z_Mth mX11_init 0 := ⟨z_all_in (i := 81) (by decide +kernel) (by decide +kernel), z_all_in (i := 48) (by decide +kernel) (by decide +kernel), by decide +kernel, by decide +kernel, by decide +kernel⟩
theorem wiX11_init : Cond.instanceMethod mX11_init.1 ∈ z_all := z_all_in (i := 80) (by decide +kernel) (by decide +kernel)
def mX11_addWind : zY := (yX11_addWind, cX11_addWind, 1, (some .int), (8, 385), (1, 6, [], fun _ _ => True))
theorem mtX11_addWind : z_Mth mX11_addWind 0 := ⟨z_all_in (i := 672) (by decide +kernel) (by decide +kernel), z_all_in (i := 48) (by decide +kernel) (by decide +kernel), by decide +kernel, by decide +kernel, by decide +kernel⟩
theorem wiX11_addWind : Cond.instanceMethod mX11_addWind.1 ∈ z_all := z_all_in (i := 670) (by decide +kernel) (by decide +kernel)
theorem weX11_addWind : Cond.selects mX11_addWind.1.cls mX11_addWind.1 mX11_addWind.1 ∈ z_all := z_all_in (i := 671) (by decide +kernel) (by decide +kernel)
def mX11_withdraw : zY := (yX11_withdraw, cX11_withdraw, 2, (some .int), (8, 385), (1, 6, [], fun _ _ => True))
theorem mtX11_withdraw : z_Mth mX11_withdraw 1 := ⟨z_all_in (i := 706) (by decide +kernel) (by decide +kernel), z_all_in (i := 48) (by decide +kernel) (by decide +kernel), by decide +kernel, by decide +kernel, by decide +kernel⟩
theorem wiX11_withdraw : Cond.instanceMethod mX11_withdraw.1 ∈ z_all := z_all_in (i := 704) (by decide +kernel) (by decide +kernel)
theorem weX11_withdraw : Cond.selects mX11_withdraw.1.cls mX11_withdraw.1 mX11_withdraw.1 ∈ z_all := z_all_in (i := 705) (by decide +kernel) (by decide +kernel)
def mX11_windCount : zY := (yX11_windCount, cX11_windCount, 1, (some .int), (0, 0), (0, 0, [], fun _ _ => True))
theorem mtX11_windCount : z_Mth mX11_windCount 0 := ⟨z_all_in (i := 334) (by decide +kernel) (by decide +kernel), z_all_in (i := 48) (by decide +kernel) (by decide +kernel), by decide +kernel, by decide +kernel, by decide +kernel⟩
theorem wiX11_windCount : Cond.instanceMethod mX11_windCount.1 ∈ z_all := z_all_in (i := 332) (by decide +kernel) (by decide +kernel)
theorem weX11_windCount : Cond.selects mX11_windCount.1.cls mX11_windCount.1 mX11_windCount.1 ∈ z_all := z_all_in (i := 333) (by decide +kernel) (by decide +kernel)
def mX11_standingCount : zY := (yX11_standingCount, cX11_standingCount, 1, (some .int), (1, 22), (0, 0, [], fun _ _ => True))
theorem mtX11_standingCount : z_Mth mX11_standingCount 0 := ⟨z_all_in (i := 338) (by decide +kernel) (by decide +kernel), z_all_in (i := 48) (by decide +kernel) (by decide +kernel), by decide +kernel, by decide +kernel, by decide +kernel⟩
theorem wiX11_standingCount : Cond.instanceMethod mX11_standingCount.1 ∈ z_all := z_all_in (i := 336) (by decide +kernel) (by decide +kernel)
theorem weX11_standingCount : Cond.selects mX11_standingCount.1.cls mX11_standingCount.1 mX11_standingCount.1 ∈ z_all := z_all_in (i := 337) (by decide +kernel) (by decide +kernel)
def mX11_isStanding : zY := (yX11_isStanding, cX11_isStanding, 2, (some .boolean), (7, 111), (1, 6, [], fun _ _ => True))
theorem mtX11_isStanding : z_Mth mX11_isStanding 1 := ⟨z_all_in (i := 722) (by decide +kernel) (by decide +kernel), z_all_in (i := 48) (by decide +kernel) (by decide +kernel), by decide +kernel, by decide +kernel, by decide +kernel⟩
theorem wiX11_isStanding : Cond.instanceMethod mX11_isStanding.1 ∈ z_all := z_all_in (i := 720) (by decide +kernel) (by decide +kernel)
theorem weX11_isStanding : Cond.selects mX11_isStanding.1.cls mX11_isStanding.1 mX11_isStanding.1 ∈ z_all := z_all_in (i := 721) (by decide +kernel) (by decide +kernel)
def mX11_hasSeat : zY := (yX11_hasSeat, cX11_hasSeat, 2, (some .boolean), (7, 111), (1, 6, [], fun _ _ => True))
theorem mtX11_hasSeat : z_Mth mX11_hasSeat 1 := ⟨z_all_in (i := 734) (by decide +kernel) (by decide +kernel), z_all_in (i := 48) (by decide +kernel) (by decide +kernel), by decide +kernel, by decide +kernel, by decide +kernel⟩
theorem wiX11_hasSeat : Cond.instanceMethod mX11_hasSeat.1 ∈ z_all := z_all_in (i := 732) (by decide +kernel) (by decide +kernel)
theorem weX11_hasSeat : Cond.selects mX11_hasSeat.1.cls mX11_hasSeat.1 mX11_hasSeat.1 ∈ z_all := z_all_in (i := 733) (by decide +kernel) (by decide +kernel)
def mX11_addBallot : zY := (yX11_addBallot, cX11_addBallot, 3, (some .int), (8, 385), (1, 6, [], fun _ _ => True))
theorem mtX11_addBallot : z_Mth mX11_addBallot 2 := ⟨z_all_in (i := 742) (by decide +kernel) (by decide +kernel), z_all_in (i := 48) (by decide +kernel) (by decide +kernel), by decide +kernel, by decide +kernel, by decide +kernel⟩
theorem wiX11_addBallot : Cond.instanceMethod mX11_addBallot.1 ∈ z_all := z_all_in (i := 740) (by decide +kernel) (by decide +kernel)
theorem weX11_addBallot : Cond.selects mX11_addBallot.1.cls mX11_addBallot.1 mX11_addBallot.1 ∈ z_all := z_all_in (i := 741) (by decide +kernel) (by decide +kernel)
def mX11_rank : zY := (yX11_rank, cX11_rank, 3, (some .int), (8, 385), (2, 12, [], fun _ _ => True))
theorem mtX11_rank : z_Mth mX11_rank 2 := ⟨z_all_in (i := 764) (by decide +kernel) (by decide +kernel), z_all_in (i := 48) (by decide +kernel) (by decide +kernel), by decide +kernel, by decide +kernel, by decide +kernel⟩
theorem wiX11_rank : Cond.instanceMethod mX11_rank.1 ∈ z_all := z_all_in (i := 762) (by decide +kernel) (by decide +kernel)
theorem weX11_rank : Cond.selects mX11_rank.1.cls mX11_rank.1 mX11_rank.1 ∈ z_all := z_all_in (i := 763) (by decide +kernel) (by decide +kernel)
def mX11_removeBallot : zY := (yX11_removeBallot, cX11_removeBallot, 3, (some .int), (8, 385), (2, 12, [], fun _ _ => True))
theorem mtX11_removeBallot : z_Mth mX11_removeBallot 1 := ⟨z_all_in (i := 795) (by decide +kernel) (by decide +kernel), z_all_in (i := 48) (by decide +kernel) (by decide +kernel), by decide +kernel, by decide +kernel, by decide +kernel⟩
theorem wiX11_removeBallot : Cond.instanceMethod mX11_removeBallot.1 ∈ z_all := z_all_in (i := 793) (by decide +kernel) (by decide +kernel)
theorem weX11_removeBallot : Cond.selects mX11_removeBallot.1.cls mX11_removeBallot.1 mX11_removeBallot.1 ∈ z_all := z_all_in (i := 794) (by decide +kernel) (by decide +kernel)
def mX11_recount : zY := (yX11_recount, cX11_recount, 4, (some .int), (8, 385), (2, 12, [], fun _ _ => True))
theorem mtX11_recount : z_Mth mX11_recount 2 := ⟨z_all_in (i := 806) (by decide +kernel) (by decide +kernel), z_all_in (i := 48) (by decide +kernel) (by decide +kernel), by decide +kernel, by decide +kernel, by decide +kernel⟩
theorem wiX11_recount : Cond.instanceMethod mX11_recount.1 ∈ z_all := z_all_in (i := 804) (by decide +kernel) (by decide +kernel)
theorem weX11_recount : Cond.selects mX11_recount.1.cls mX11_recount.1 mX11_recount.1 ∈ z_all := z_all_in (i := 805) (by decide +kernel) (by decide +kernel)
def mX11_ballotCount : zY := (yX11_ballotCount, cX11_ballotCount, 1, (some .int), (0, 0), (0, 0, [], fun _ _ => True))
theorem mtX11_ballotCount : z_Mth mX11_ballotCount 0 := ⟨z_all_in (i := 346) (by decide +kernel) (by decide +kernel), z_all_in (i := 48) (by decide +kernel) (by decide +kernel), by decide +kernel, by decide +kernel, by decide +kernel⟩
theorem wiX11_ballotCount : Cond.instanceMethod mX11_ballotCount.1 ∈ z_all := z_all_in (i := 344) (by decide +kernel) (by decide +kernel)
theorem weX11_ballotCount : Cond.selects mX11_ballotCount.1.cls mX11_ballotCount.1 mX11_ballotCount.1 ∈ z_all := z_all_in (i := 345) (by decide +kernel) (by decide +kernel)
def mX11_weightOf : zY := (yX11_weightOf, cX11_weightOf, 2, (some .int), (7, 111), (1, 6, [], fun _ _ => True))
theorem mtX11_weightOf : z_Mth mX11_weightOf 1 := ⟨z_all_in (i := 817) (by decide +kernel) (by decide +kernel), z_all_in (i := 48) (by decide +kernel) (by decide +kernel), by decide +kernel, by decide +kernel, by decide +kernel⟩
theorem wiX11_weightOf : Cond.instanceMethod mX11_weightOf.1 ∈ z_all := z_all_in (i := 815) (by decide +kernel) (by decide +kernel)
theorem weX11_weightOf : Cond.selects mX11_weightOf.1.cls mX11_weightOf.1 mX11_weightOf.1 ∈ z_all := z_all_in (i := 816) (by decide +kernel) (by decide +kernel)
def mX11_rankCount : zY := (yX11_rankCount, cX11_rankCount, 2, (some .int), (7, 111), (1, 6, [], fun _ _ => True))
theorem mtX11_rankCount : z_Mth mX11_rankCount 1 := ⟨z_all_in (i := 824) (by decide +kernel) (by decide +kernel), z_all_in (i := 48) (by decide +kernel) (by decide +kernel), by decide +kernel, by decide +kernel, by decide +kernel⟩
theorem wiX11_rankCount : Cond.instanceMethod mX11_rankCount.1 ∈ z_all := z_all_in (i := 822) (by decide +kernel) (by decide +kernel)
theorem weX11_rankCount : Cond.selects mX11_rankCount.1.cls mX11_rankCount.1 mX11_rankCount.1 ∈ z_all := z_all_in (i := 823) (by decide +kernel) (by decide +kernel)
def mX11_windAt : zY := (yX11_windAt, cX11_windAt, 4, (some .int), (7, 111), (2, 12, [], fun _ _ => True))
theorem mtX11_windAt : z_Mth mX11_windAt 2 := ⟨z_all_in (i := 832) (by decide +kernel) (by decide +kernel), z_all_in (i := 48) (by decide +kernel) (by decide +kernel), by decide +kernel, by decide +kernel, by decide +kernel⟩
theorem wiX11_windAt : Cond.instanceMethod mX11_windAt.1 ∈ z_all := z_all_in (i := 830) (by decide +kernel) (by decide +kernel)
theorem weX11_windAt : Cond.selects mX11_windAt.1.cls mX11_windAt.1 mX11_windAt.1 ∈ z_all := z_all_in (i := 831) (by decide +kernel) (by decide +kernel)
def mX11_rankOf : zY := (yX11_rankOf, cX11_rankOf, 4, (some .int), (7, 111), (3, 18, [], fun _ _ => True))
theorem mtX11_rankOf : z_Mth mX11_rankOf 2 := ⟨z_all_in (i := 840) (by decide +kernel) (by decide +kernel), z_all_in (i := 48) (by decide +kernel) (by decide +kernel), by decide +kernel, by decide +kernel, by decide +kernel⟩
theorem wiX11_rankOf : Cond.instanceMethod mX11_rankOf.1 ∈ z_all := z_all_in (i := 838) (by decide +kernel) (by decide +kernel)
theorem weX11_rankOf : Cond.selects mX11_rankOf.1.cls mX11_rankOf.1 mX11_rankOf.1 ∈ z_all := z_all_in (i := 839) (by decide +kernel) (by decide +kernel)
def mX11_totalWeight : zY := (yX11_totalWeight, cX11_totalWeight, 1, (some .int), (1, 22), (0, 0, [], fun _ _ => True))
theorem mtX11_totalWeight : z_Mth mX11_totalWeight 0 := ⟨z_all_in (i := 350) (by decide +kernel) (by decide +kernel), z_all_in (i := 48) (by decide +kernel) (by decide +kernel), by decide +kernel, by decide +kernel, by decide +kernel⟩
theorem wiX11_totalWeight : Cond.instanceMethod mX11_totalWeight.1 ∈ z_all := z_all_in (i := 348) (by decide +kernel) (by decide +kernel)
theorem weX11_totalWeight : Cond.selects mX11_totalWeight.1.cls mX11_totalWeight.1 mX11_totalWeight.1 ∈ z_all := z_all_in (i := 349) (by decide +kernel) (by decide +kernel)
def mX11_winner : zY := (yX11_winner, cX11_winner, 1, (some .int), (7, 110), (1, 6, [], fun _ _ => True))
theorem mtX11_winner : z_Mth mX11_winner 0 := ⟨z_all_in (i := 852) (by decide +kernel) (by decide +kernel), z_all_in (i := 48) (by decide +kernel) (by decide +kernel), by decide +kernel, by decide +kernel, by decide +kernel⟩
theorem wiX11_winner : Cond.instanceMethod mX11_winner.1 ∈ z_all := z_all_in (i := 850) (by decide +kernel) (by decide +kernel)
theorem weX11_winner : Cond.selects mX11_winner.1.cls mX11_winner.1 mX11_winner.1 ∈ z_all := z_all_in (i := 851) (by decide +kernel) (by decide +kernel)
def mX11_winnerByTransfers : zY := (yX11_winnerByTransfers, cX11_winnerByTransfers, 1, (some .int), (7, 110), (1, 6, [], fun _ _ => True))
theorem mtX11_winnerByTransfers : z_Mth mX11_winnerByTransfers 0 := ⟨z_all_in (i := 859) (by decide +kernel) (by decide +kernel), z_all_in (i := 48) (by decide +kernel) (by decide +kernel), by decide +kernel, by decide +kernel, by decide +kernel⟩
theorem wiX11_winnerByTransfers : Cond.instanceMethod mX11_winnerByTransfers.1 ∈ z_all := z_all_in (i := 857) (by decide +kernel) (by decide +kernel)
theorem weX11_winnerByTransfers : Cond.selects mX11_winnerByTransfers.1.cls mX11_winnerByTransfers.1 mX11_winnerByTransfers.1 ∈ z_all := z_all_in (i := 858) (by decide +kernel) (by decide +kernel)
def mX11_roundCount : zY := (yX11_roundCount, cX11_roundCount, 1, (some .int), (3, 72), (0, 0, [], fun _ _ => True))
theorem mtX11_roundCount : z_Mth mX11_roundCount 0 := ⟨z_all_in (i := 358) (by decide +kernel) (by decide +kernel), z_all_in (i := 48) (by decide +kernel) (by decide +kernel), by decide +kernel, by decide +kernel, by decide +kernel⟩
theorem wiX11_roundCount : Cond.instanceMethod mX11_roundCount.1 ∈ z_all := z_all_in (i := 356) (by decide +kernel) (by decide +kernel)
theorem weX11_roundCount : Cond.selects mX11_roundCount.1.cls mX11_roundCount.1 mX11_roundCount.1 ∈ z_all := z_all_in (i := 357) (by decide +kernel) (by decide +kernel)
def mX11_votesIn : zY := (yX11_votesIn, cX11_votesIn, 4, (some .int), (7, 111), (3, 18, [], fun _ _ => True))
theorem mtX11_votesIn : z_Mth mX11_votesIn 2 := ⟨z_all_in (i := 866) (by decide +kernel) (by decide +kernel), z_all_in (i := 48) (by decide +kernel) (by decide +kernel), by decide +kernel, by decide +kernel, by decide +kernel⟩
theorem wiX11_votesIn : Cond.instanceMethod mX11_votesIn.1 ∈ z_all := z_all_in (i := 864) (by decide +kernel) (by decide +kernel)
theorem weX11_votesIn : Cond.selects mX11_votesIn.1.cls mX11_votesIn.1 mX11_votesIn.1 ∈ z_all := z_all_in (i := 865) (by decide +kernel) (by decide +kernel)
def mX11_exhaustedIn : zY := (yX11_exhaustedIn, cX11_exhaustedIn, 2, (some .int), (7, 111), (1, 6, [], fun _ _ => True))
theorem mtX11_exhaustedIn : z_Mth mX11_exhaustedIn 1 := ⟨z_all_in (i := 880) (by decide +kernel) (by decide +kernel), z_all_in (i := 48) (by decide +kernel) (by decide +kernel), by decide +kernel, by decide +kernel, by decide +kernel⟩
theorem wiX11_exhaustedIn : Cond.instanceMethod mX11_exhaustedIn.1 ∈ z_all := z_all_in (i := 878) (by decide +kernel) (by decide +kernel)
theorem weX11_exhaustedIn : Cond.selects mX11_exhaustedIn.1.cls mX11_exhaustedIn.1 mX11_exhaustedIn.1 ∈ z_all := z_all_in (i := 879) (by decide +kernel) (by decide +kernel)
def mX11_eliminatedIn : zY := (yX11_eliminatedIn, cX11_eliminatedIn, 2, (some .int), (7, 111), (2, 12, [], fun _ _ => True))
theorem mtX11_eliminatedIn : z_Mth mX11_eliminatedIn 1 := ⟨z_all_in (i := 887) (by decide +kernel) (by decide +kernel), z_all_in (i := 48) (by decide +kernel) (by decide +kernel), by decide +kernel, by decide +kernel, by decide +kernel⟩
theorem wiX11_eliminatedIn : Cond.instanceMethod mX11_eliminatedIn.1 ∈ z_all := z_all_in (i := 885) (by decide +kernel) (by decide +kernel)
theorem weX11_eliminatedIn : Cond.selects mX11_eliminatedIn.1.cls mX11_eliminatedIn.1 mX11_eliminatedIn.1 ∈ z_all := z_all_in (i := 886) (by decide +kernel) (by decide +kernel)
def mX11_isTieIn : zY := (yX11_isTieIn, cX11_isTieIn, 2, (some .boolean), (7, 111), (1, 6, [], fun _ _ => True))
theorem mtX11_isTieIn : z_Mth mX11_isTieIn 1 := ⟨z_all_in (i := 894) (by decide +kernel) (by decide +kernel), z_all_in (i := 48) (by decide +kernel) (by decide +kernel), by decide +kernel, by decide +kernel, by decide +kernel⟩
theorem wiX11_isTieIn : Cond.instanceMethod mX11_isTieIn.1 ∈ z_all := z_all_in (i := 892) (by decide +kernel) (by decide +kernel)
theorem weX11_isTieIn : Cond.selects mX11_isTieIn.1.cls mX11_isTieIn.1 mX11_isTieIn.1 ∈ z_all := z_all_in (i := 893) (by decide +kernel) (by decide +kernel)
def mX11_roundOfElimination : zY := (yX11_roundOfElimination, cX11_roundOfElimination, 2, (some .int), (7, 111), (2, 12, [], fun _ _ => True))
theorem mtX11_roundOfElimination : z_Mth mX11_roundOfElimination 1 := ⟨z_all_in (i := 901) (by decide +kernel) (by decide +kernel), z_all_in (i := 48) (by decide +kernel) (by decide +kernel), by decide +kernel, by decide +kernel, by decide +kernel⟩
theorem wiX11_roundOfElimination : Cond.instanceMethod mX11_roundOfElimination.1 ∈ z_all := z_all_in (i := 899) (by decide +kernel) (by decide +kernel)
theorem weX11_roundOfElimination : Cond.selects mX11_roundOfElimination.1.cls mX11_roundOfElimination.1 mX11_roundOfElimination.1 ∈ z_all := z_all_in (i := 900) (by decide +kernel) (by decide +kernel)
def mX11_winnerShare : zY := (yX11_winnerShare, cX11_winnerShare, 3, (some .float), (6, 90), (1, 6, [], fun _ _ => True))
theorem mtX11_winnerShare : z_Mth mX11_winnerShare 0 := ⟨z_all_in (i := 926) (by decide +kernel) (by decide +kernel), z_all_in (i := 48) (by decide +kernel) (by decide +kernel), by decide +kernel, by decide +kernel, by decide +kernel⟩
theorem wiX11_winnerShare : Cond.instanceMethod mX11_winnerShare.1 ∈ z_all := z_all_in (i := 924) (by decide +kernel) (by decide +kernel)
theorem weX11_winnerShare : Cond.selects mX11_winnerShare.1.cls mX11_winnerShare.1 mX11_winnerShare.1 ∈ z_all := z_all_in (i := 925) (by decide +kernel) (by decide +kernel)
def mX11_preference : zY := (yX11_preference, cX11_preference, 3, (some .int), (7, 111), (2, 12, [], fun _ _ => True))
theorem mtX11_preference : z_Mth mX11_preference 2 := ⟨z_all_in (i := 941) (by decide +kernel) (by decide +kernel), z_all_in (i := 48) (by decide +kernel) (by decide +kernel), by decide +kernel, by decide +kernel, by decide +kernel⟩
theorem wiX11_preference : Cond.instanceMethod mX11_preference.1 ∈ z_all := z_all_in (i := 939) (by decide +kernel) (by decide +kernel)
theorem weX11_preference : Cond.selects mX11_preference.1.cls mX11_preference.1 mX11_preference.1 ∈ z_all := z_all_in (i := 940) (by decide +kernel) (by decide +kernel)
def mX11_beats : zY := (yX11_beats, cX11_beats, 3, (some .boolean), (7, 111), (2, 12, [], fun _ _ => True))
theorem mtX11_beats : z_Mth mX11_beats 2 := ⟨z_all_in (i := 949) (by decide +kernel) (by decide +kernel), z_all_in (i := 48) (by decide +kernel) (by decide +kernel), by decide +kernel, by decide +kernel, by decide +kernel⟩
theorem wiX11_beats : Cond.instanceMethod mX11_beats.1 ∈ z_all := z_all_in (i := 947) (by decide +kernel) (by decide +kernel)
theorem weX11_beats : Cond.selects mX11_beats.1.cls mX11_beats.1 mX11_beats.1 ∈ z_all := z_all_in (i := 948) (by decide +kernel) (by decide +kernel)
def mX11_victories : zY := (yX11_victories, cX11_victories, 2, (some .int), (7, 115), (1, 6, [], fun _ _ => True))
theorem mtX11_victories : z_Mth mX11_victories 1 := ⟨z_all_in (i := 957) (by decide +kernel) (by decide +kernel), z_all_in (i := 48) (by decide +kernel) (by decide +kernel), by decide +kernel, by decide +kernel, by decide +kernel⟩
theorem wiX11_victories : Cond.instanceMethod mX11_victories.1 ∈ z_all := z_all_in (i := 955) (by decide +kernel) (by decide +kernel)
theorem weX11_victories : Cond.selects mX11_victories.1.cls mX11_victories.1 mX11_victories.1 ∈ z_all := z_all_in (i := 956) (by decide +kernel) (by decide +kernel)
def mX11_championOfPairs : zY := (yX11_championOfPairs, cX11_championOfPairs, 1, (some .int), (7, 137), (1, 6, [], fun _ _ => True))
theorem mtX11_championOfPairs : z_Mth mX11_championOfPairs 0 := ⟨z_all_in (i := 965) (by decide +kernel) (by decide +kernel), z_all_in (i := 48) (by decide +kernel) (by decide +kernel), by decide +kernel, by decide +kernel, by decide +kernel⟩
theorem wiX11_championOfPairs : Cond.instanceMethod mX11_championOfPairs.1 ∈ z_all := z_all_in (i := 963) (by decide +kernel) (by decide +kernel)
theorem weX11_championOfPairs : Cond.selects mX11_championOfPairs.1.cls mX11_championOfPairs.1 mX11_championOfPairs.1 ∈ z_all := z_all_in (i := 964) (by decide +kernel) (by decide +kernel)
def mX11_championByDuels : zY := (yX11_championByDuels, cX11_championByDuels, 1, (some .int), (7, 137), (1, 6, [], fun _ _ => True))
theorem mtX11_championByDuels : z_Mth mX11_championByDuels 0 := ⟨z_all_in (i := 972) (by decide +kernel) (by decide +kernel), z_all_in (i := 48) (by decide +kernel) (by decide +kernel), by decide +kernel, by decide +kernel, by decide +kernel⟩
theorem wiX11_championByDuels : Cond.instanceMethod mX11_championByDuels.1 ∈ z_all := z_all_in (i := 970) (by decide +kernel) (by decide +kernel)
theorem weX11_championByDuels : Cond.selects mX11_championByDuels.1.cls mX11_championByDuels.1 mX11_championByDuels.1 ∈ z_all := z_all_in (i := 971) (by decide +kernel) (by decide +kernel)
def mX11_scoreOf : zY := (yX11_scoreOf, cX11_scoreOf, 2, (some .int), (7, 111), (1, 6, [], fun _ _ => True))
theorem mtX11_scoreOf : z_Mth mX11_scoreOf 1 := ⟨z_all_in (i := 979) (by decide +kernel) (by decide +kernel), z_all_in (i := 48) (by decide +kernel) (by decide +kernel), by decide +kernel, by decide +kernel, by decide +kernel⟩
theorem wiX11_scoreOf : Cond.instanceMethod mX11_scoreOf.1 ∈ z_all := z_all_in (i := 977) (by decide +kernel) (by decide +kernel)
theorem weX11_scoreOf : Cond.selects mX11_scoreOf.1.cls mX11_scoreOf.1 mX11_scoreOf.1 ∈ z_all := z_all_in (i := 978) (by decide +kernel) (by decide +kernel)
def mX11_windByScore : zY := (yX11_windByScore, cX11_windByScore, 4, (some .int), (7, 110), (1, 6, [], fun _ _ => True))
theorem mtX11_windByScore : z_Mth mX11_windByScore 1 := ⟨z_all_in (i := 990) (by decide +kernel) (by decide +kernel), z_all_in (i := 48) (by decide +kernel) (by decide +kernel), by decide +kernel, by decide +kernel, by decide +kernel⟩
theorem wiX11_windByScore : Cond.instanceMethod mX11_windByScore.1 ∈ z_all := z_all_in (i := 988) (by decide +kernel) (by decide +kernel)
theorem weX11_windByScore : Cond.selects mX11_windByScore.1.cls mX11_windByScore.1 mX11_windByScore.1 ∈ z_all := z_all_in (i := 989) (by decide +kernel) (by decide +kernel)
def mX11_spin : zY := (yX11_spin, cX11_spin, 1, (some .int), (8, 385), (1, 6, [], fun _ _ => True))
theorem mtX11_spin : z_Mth mX11_spin 0 := ⟨z_all_in (i := 418) (by decide +kernel) (by decide +kernel), z_all_in (i := 48) (by decide +kernel) (by decide +kernel), by decide +kernel, by decide +kernel, by decide +kernel⟩
theorem wiX11_spin : Cond.instanceMethod mX11_spin.1 ∈ z_all := z_all_in (i := 416) (by decide +kernel) (by decide +kernel)
theorem weX11_spin : Cond.selects mX11_spin.1.cls mX11_spin.1 mX11_spin.1 ∈ z_all := z_all_in (i := 417) (by decide +kernel) (by decide +kernel)
def mX11_spinValue : zY := (yX11_spinValue, cX11_spinValue, 1, (some .int), (0, 0), (0, 0, [], fun _ _ => True))
theorem mtX11_spinValue : z_Mth mX11_spinValue 0 := ⟨z_all_in (i := 584) (by decide +kernel) (by decide +kernel), z_all_in (i := 48) (by decide +kernel) (by decide +kernel), by decide +kernel, by decide +kernel, by decide +kernel⟩
theorem wiX11_spinValue : Cond.instanceMethod mX11_spinValue.1 ∈ z_all := z_all_in (i := 582) (by decide +kernel) (by decide +kernel)
theorem weX11_spinValue : Cond.selects mX11_spinValue.1.cls mX11_spinValue.1 mX11_spinValue.1 ∈ z_all := z_all_in (i := 583) (by decide +kernel) (by decide +kernel)
def mX11_certify : zY := (yX11_certify, cX11_certify, 1, (some .int), (8, 385), (1, 6, [], fun _ _ => True))
theorem mtX11_certify : z_Mth mX11_certify 0 := ⟨z_all_in (i := 1001) (by decide +kernel) (by decide +kernel), z_all_in (i := 48) (by decide +kernel) (by decide +kernel), by decide +kernel, by decide +kernel, by decide +kernel⟩
theorem wiX11_certify : Cond.instanceMethod mX11_certify.1 ∈ z_all := z_all_in (i := 999) (by decide +kernel) (by decide +kernel)
theorem weX11_certify : Cond.selects mX11_certify.1.cls mX11_certify.1 mX11_certify.1 ∈ z_all := z_all_in (i := 1000) (by decide +kernel) (by decide +kernel)
def mX11_seatCount : zY := (yX11_seatCount, cX11_seatCount, 1, (some .int), (0, 0), (0, 0, [], fun _ _ => True))
theorem mtX11_seatCount : z_Mth mX11_seatCount 0 := ⟨z_all_in (i := 588) (by decide +kernel) (by decide +kernel), z_all_in (i := 48) (by decide +kernel) (by decide +kernel), by decide +kernel, by decide +kernel, by decide +kernel⟩
theorem wiX11_seatCount : Cond.instanceMethod mX11_seatCount.1 ∈ z_all := z_all_in (i := 586) (by decide +kernel) (by decide +kernel)
theorem weX11_seatCount : Cond.selects mX11_seatCount.1.cls mX11_seatCount.1 mX11_seatCount.1 ∈ z_all := z_all_in (i := 587) (by decide +kernel) (by decide +kernel)
def mX11_seatAt : zY := (yX11_seatAt, cX11_seatAt, 2, (some .int), (7, 110), (1, 6, [], fun _ _ => True))
theorem mtX11_seatAt : z_Mth mX11_seatAt 1 := ⟨z_all_in (i := 1019) (by decide +kernel) (by decide +kernel), z_all_in (i := 48) (by decide +kernel) (by decide +kernel), by decide +kernel, by decide +kernel, by decide +kernel⟩
theorem wiX11_seatAt : Cond.instanceMethod mX11_seatAt.1 ∈ z_all := z_all_in (i := 1017) (by decide +kernel) (by decide +kernel)
theorem weX11_seatAt : Cond.selects mX11_seatAt.1.cls mX11_seatAt.1 mX11_seatAt.1 ∈ z_all := z_all_in (i := 1018) (by decide +kernel) (by decide +kernel)
def mX11_writeBallot : zY := (yX11_writeBallot, cX11_writeBallot, 4, (some .int), (7, 111), (1, 6, [], fun _ _ => True))
theorem mtX11_writeBallot : z_Mth mX11_writeBallot 1 := ⟨z_all_in (i := 1030) (by decide +kernel) (by decide +kernel), z_all_in (i := 48) (by decide +kernel) (by decide +kernel), by decide +kernel, by decide +kernel, by decide +kernel⟩
theorem wiX11_writeBallot : Cond.instanceMethod mX11_writeBallot.1 ∈ z_all := z_all_in (i := 1028) (by decide +kernel) (by decide +kernel)
theorem weX11_writeBallot : Cond.selects mX11_writeBallot.1.cls mX11_writeBallot.1 mX11_writeBallot.1 ∈ z_all := z_all_in (i := 1029) (by decide +kernel) (by decide +kernel)
def mX11_writeCount : zY := (yX11_writeCount, cX11_writeCount, 2, (some .int), (3, 72), (0, 0, [], fun _ _ => True))
theorem mtX11_writeCount : z_Mth mX11_writeCount 0 := ⟨z_all_in (i := 592) (by decide +kernel) (by decide +kernel), z_all_in (i := 48) (by decide +kernel) (by decide +kernel), by decide +kernel, by decide +kernel, by decide +kernel⟩
theorem wiX11_writeCount : Cond.instanceMethod mX11_writeCount.1 ∈ z_all := z_all_in (i := 590) (by decide +kernel) (by decide +kernel)
theorem weX11_writeCount : Cond.selects mX11_writeCount.1.cls mX11_writeCount.1 mX11_writeCount.1 ∈ z_all := z_all_in (i := 591) (by decide +kernel) (by decide +kernel)
def mX11_lineAt : zY := (yX11_lineAt, cX11_lineAt, 2, (some .char), (6, 90), (1, 6, [], fun _ _ => True))
theorem mtX11_lineAt : z_Mth mX11_lineAt 1 := ⟨z_all_in (i := 1037) (by decide +kernel) (by decide +kernel), z_all_in (i := 48) (by decide +kernel) (by decide +kernel), by decide +kernel, by decide +kernel, by decide +kernel⟩
theorem wiX11_lineAt : Cond.instanceMethod mX11_lineAt.1 ∈ z_all := z_all_in (i := 1035) (by decide +kernel) (by decide +kernel)
theorem weX11_lineAt : Cond.selects mX11_lineAt.1.cls mX11_lineAt.1 mX11_lineAt.1 ∈ z_all := z_all_in (i := 1036) (by decide +kernel) (by decide +kernel)
def mX11_meanRanks : zY := (yX11_meanRanks, cX11_meanRanks, 1, (some .double), (6, 90), (1, 6, [], fun _ _ => True))
theorem mtX11_meanRanks : z_Mth mX11_meanRanks 0 := ⟨z_all_in (i := 1045) (by decide +kernel) (by decide +kernel), z_all_in (i := 48) (by decide +kernel) (by decide +kernel), by decide +kernel, by decide +kernel, by decide +kernel⟩
theorem wiX11_meanRanks : Cond.instanceMethod mX11_meanRanks.1 ∈ z_all := z_all_in (i := 1043) (by decide +kernel) (by decide +kernel)
theorem weX11_meanRanks : Cond.selects mX11_meanRanks.1.cls mX11_meanRanks.1 mX11_meanRanks.1 ∈ z_all := z_all_in (i := 1044) (by decide +kernel) (by decide +kernel)
def mX11_isConsistent : zY := (yX11_isConsistent, cX11_isConsistent, 1, (some .boolean), (6, 137), (0, 0, [], fun _ _ => True))
theorem mtX11_isConsistent : z_Mth mX11_isConsistent 0 := ⟨z_all_in (i := 613) (by decide +kernel) (by decide +kernel), z_all_in (i := 48) (by decide +kernel) (by decide +kernel), by decide +kernel, by decide +kernel, by decide +kernel⟩
theorem wiX11_isConsistent : Cond.instanceMethod mX11_isConsistent.1 ∈ z_all := z_all_in (i := 611) (by decide +kernel) (by decide +kernel)
theorem weX11_isConsistent : Cond.selects mX11_isConsistent.1.cls mX11_isConsistent.1 mX11_isConsistent.1 ∈ z_all := z_all_in (i := 612) (by decide +kernel) (by decide +kernel)
def mX11_type : zY := (yX11_type, cX11_type, 2, (some .int), (6, 90), (1, 6, [], fun _ _ => True))
theorem mtX11_type : z_Mth mX11_type 1 := ⟨z_all_in (i := 1057) (by decide +kernel) (by decide +kernel), z_all_in (i := 48) (by decide +kernel) (by decide +kernel), by decide +kernel, by decide +kernel, by decide +kernel⟩
theorem wiX11_type : Cond.instanceMethod mX11_type.1 ∈ z_all := z_all_in (i := 1055) (by decide +kernel) (by decide +kernel)
theorem weX11_type : Cond.selects mX11_type.1.cls mX11_type.1 mX11_type.1 ∈ z_all := z_all_in (i := 1056) (by decide +kernel) (by decide +kernel)
def mX11_execute : zY := (yX11_execute, cX11_execute, 3, (some .int), (9, 386), (1, 6, [], fun _ _ => True))
theorem mtX11_execute : z_Mth mX11_execute 0 := ⟨z_all_in (i := 1066) (by decide +kernel) (by decide +kernel), z_all_in (i := 48) (by decide +kernel) (by decide +kernel), by decide +kernel, by decide +kernel, by decide +kernel⟩
theorem wiX11_execute : Cond.instanceMethod mX11_execute.1 ∈ z_all := z_all_in (i := 1064) (by decide +kernel) (by decide +kernel)
theorem weX11_execute : Cond.selects mX11_execute.1.cls mX11_execute.1 mX11_execute.1 ∈ z_all := z_all_in (i := 1065) (by decide +kernel) (by decide +kernel)
def mX11_errorPosition : zY := (yX11_errorPosition, cX11_errorPosition, 1, (some .int), (7, 110), (1, 6, [], fun _ _ => True))
theorem mtX11_errorPosition : z_Mth mX11_errorPosition 0 := ⟨z_all_in (i := 1193) (by decide +kernel) (by decide +kernel), z_all_in (i := 48) (by decide +kernel) (by decide +kernel), by decide +kernel, by decide +kernel, by decide +kernel⟩
theorem wiX11_errorPosition : Cond.instanceMethod mX11_errorPosition.1 ∈ z_all := z_all_in (i := 1191) (by decide +kernel) (by decide +kernel)
theorem weX11_errorPosition : Cond.selects mX11_errorPosition.1.cls mX11_errorPosition.1 mX11_errorPosition.1 ∈ z_all := z_all_in (i := 1192) (by decide +kernel) (by decide +kernel)
def mX11_failedCommand : zY := (yX11_failedCommand, cX11_failedCommand, 1, (some .int), (7, 110), (1, 6, [], fun _ _ => True))
theorem mtX11_failedCommand : z_Mth mX11_failedCommand 0 := ⟨z_all_in (i := 1200) (by decide +kernel) (by decide +kernel), z_all_in (i := 48) (by decide +kernel) (by decide +kernel), by decide +kernel, by decide +kernel, by decide +kernel⟩
theorem wiX11_failedCommand : Cond.instanceMethod mX11_failedCommand.1 ∈ z_all := z_all_in (i := 1198) (by decide +kernel) (by decide +kernel)
theorem weX11_failedCommand : Cond.selects mX11_failedCommand.1.cls mX11_failedCommand.1 mX11_failedCommand.1 ∈ z_all := z_all_in (i := 1199) (by decide +kernel) (by decide +kernel)
def mX11_undo : zY := (yX11_undo, cX11_undo, 1, (some .int), (6, 364), (1, 6, [], fun _ _ => True))
theorem mtX11_undo : z_Mth mX11_undo 0 := ⟨z_all_in (i := 1207) (by decide +kernel) (by decide +kernel), z_all_in (i := 48) (by decide +kernel) (by decide +kernel), by decide +kernel, by decide +kernel, by decide +kernel⟩
theorem wiX11_undo : Cond.instanceMethod mX11_undo.1 ∈ z_all := z_all_in (i := 1205) (by decide +kernel) (by decide +kernel)
theorem weX11_undo : Cond.selects mX11_undo.1.cls mX11_undo.1 mX11_undo.1 ∈ z_all := z_all_in (i := 1206) (by decide +kernel) (by decide +kernel)
def mX11_save : zY := (yX11_save, cX11_save, 1, (some .int), (3, 343), (0, 0, [], fun _ _ => True))
theorem mtX11_save : z_Mth mX11_save 0 := ⟨z_all_in (i := 664) (by decide +kernel) (by decide +kernel), z_all_in (i := 48) (by decide +kernel) (by decide +kernel), by decide +kernel, by decide +kernel, by decide +kernel⟩
theorem wiX11_save : Cond.instanceMethod mX11_save.1 ∈ z_all := z_all_in (i := 662) (by decide +kernel) (by decide +kernel)
theorem weX11_save : Cond.selects mX11_save.1.cls mX11_save.1 mX11_save.1 ∈ z_all := z_all_in (i := 663) (by decide +kernel) (by decide +kernel)
def mX11_restore : zY := (yX11_restore, cX11_restore, 1, (some .int), (6, 343), (1, 6, [], fun _ _ => True))
theorem mtX11_restore : z_Mth mX11_restore 0 := ⟨z_all_in (i := 1219) (by decide +kernel) (by decide +kernel), z_all_in (i := 48) (by decide +kernel) (by decide +kernel), by decide +kernel, by decide +kernel, by decide +kernel⟩
theorem wiX11_restore : Cond.instanceMethod mX11_restore.1 ∈ z_all := z_all_in (i := 1217) (by decide +kernel) (by decide +kernel)
theorem weX11_restore : Cond.selects mX11_restore.1.cls mX11_restore.1 mX11_restore.1 ∈ z_all := z_all_in (i := 1218) (by decide +kernel) (by decide +kernel)
def mX11_checkWind : zY := (yX11_checkWind, cX11_checkWind, 2, none, (6, 90), (1, 6, [], fun _ _ => True))
theorem mtX11_checkWind : z_Mth mX11_checkWind 1 := ⟨z_all_in (i := 726) (by decide +kernel) (by decide +kernel), z_all_in (i := 48) (by decide +kernel) (by decide +kernel), by decide +kernel, by decide +kernel, by decide +kernel⟩
theorem wiX11_checkWind : Cond.instanceMethod mX11_checkWind.1 ∈ z_all := z_all_in (i := 725) (by decide +kernel) (by decide +kernel)
theorem weX11_checkWind : Cond.selects mX11_checkWind.1.cls mX11_checkWind.1 mX11_checkWind.1 ∈ z_all := z_all_in (i := 3) (by decide +kernel) (by decide +kernel)
def mX11_ballotNumbered : zY := (yX11_ballotNumbered, cX11_ballotNumbered, 2, (some (.object "WindElection$Ballot")), (6, 90), (1, 6, [], fun _ _ => True))
theorem mtX11_ballotNumbered : z_Mth mX11_ballotNumbered 1 := ⟨z_all_in (i := 787) (by decide +kernel) (by decide +kernel), z_all_in (i := 48) (by decide +kernel) (by decide +kernel), by decide +kernel, by decide +kernel, by decide +kernel⟩
theorem wiX11_ballotNumbered : Cond.instanceMethod mX11_ballotNumbered.1 ∈ z_all := z_all_in (i := 786) (by decide +kernel) (by decide +kernel)
theorem weX11_ballotNumbered : Cond.selects mX11_ballotNumbered.1.cls mX11_ballotNumbered.1 mX11_ballotNumbered.1 ∈ z_all := z_all_in (i := 4) (by decide +kernel) (by decide +kernel)
def mX11_roundNumbered : zY := (yX11_roundNumbered, cX11_roundNumbered, 2, (some (.object "WindElection$Round")), (6, 90), (1, 6, [], fun _ _ => True))
theorem mtX11_roundNumbered : z_Mth mX11_roundNumbered 1 := ⟨z_all_in (i := 870) (by decide +kernel) (by decide +kernel), z_all_in (i := 48) (by decide +kernel) (by decide +kernel), by decide +kernel, by decide +kernel, by decide +kernel⟩
theorem wiX11_roundNumbered : Cond.instanceMethod mX11_roundNumbered.1 ∈ z_all := z_all_in (i := 869) (by decide +kernel) (by decide +kernel)
theorem weX11_roundNumbered : Cond.selects mX11_roundNumbered.1.cls mX11_roundNumbered.1 mX11_roundNumbered.1 ∈ z_all := z_all_in (i := 5) (by decide +kernel) (by decide +kernel)
def mX11_found : zY := (yX11_found, cX11_found, 1, (some .int), (6, 90), (1, 6, [], fun _ _ => True))
theorem mtX11_found : z_Mth mX11_found 1 := ⟨z_all_in (i := 844) (by decide +kernel) (by decide +kernel), z_all_in (i := 48) (by decide +kernel) (by decide +kernel), by decide +kernel, by decide +kernel, by decide +kernel⟩
theorem wtX11_found : Cond.static mX11_found.1 ∈ z_all := z_all_in (i := 843) (by decide +kernel) (by decide +kernel)
def mX11_settle : zY := (yX11_settle, cX11_settle, 2, none, (7, 364), (1, 6, [], fun _ _ => True))
theorem mtX11_settle : z_Mth mX11_settle 1 := ⟨z_all_in (i := 440) (by decide +kernel) (by decide +kernel), z_all_in (i := 48) (by decide +kernel) (by decide +kernel), by decide +kernel, by decide +kernel, by decide +kernel⟩
theorem wiX11_settle : Cond.instanceMethod mX11_settle.1 ∈ z_all := z_all_in (i := 439) (by decide +kernel) (by decide +kernel)
theorem weX11_settle : Cond.selects mX11_settle.1.cls mX11_settle.1 mX11_settle.1 ∈ z_all := z_all_in (i := 0) (by decide +kernel) (by decide +kernel)
def mX11_refuse : zY := (yX11_refuse, cX11_refuse, 1, none, (6, 90), (1, 6, [], fun _ _ => True))
theorem mtX11_refuse : z_Mth mX11_refuse 1 := ⟨z_all_in (i := 443) (by decide +kernel) (by decide +kernel), z_all_in (i := 48) (by decide +kernel) (by decide +kernel), by decide +kernel, by decide +kernel, by decide +kernel⟩
theorem wtX11_refuse : Cond.static mX11_refuse.1 ∈ z_all := z_all_in (i := 442) (by decide +kernel) (by decide +kernel)
def mX11_seatWinner : zY := (yX11_seatWinner, cX11_seatWinner, 1, (some (.object "WindElection$Fault")), (3, 72), (0, 0, [], fun _ _ => True))
theorem mtX11_seatWinner : z_Mth mX11_seatWinner 0 := ⟨z_all_in (i := 1005) (by decide +kernel) (by decide +kernel), z_all_in (i := 48) (by decide +kernel) (by decide +kernel), by decide +kernel, by decide +kernel, by decide +kernel⟩
theorem wiX11_seatWinner : Cond.instanceMethod mX11_seatWinner.1 ∈ z_all := z_all_in (i := 1004) (by decide +kernel) (by decide +kernel)
theorem weX11_seatWinner : Cond.selects mX11_seatWinner.1.cls mX11_seatWinner.1 mX11_seatWinner.1 ∈ z_all := z_all_in (i := 7) (by decide +kernel) (by decide +kernel)
def mX11_placeByScore : zY := (yX11_placeByScore, cX11_placeByScore, 4, (some .int), (0, 0), (0, 0, [], fun _ _ => True))
theorem mtX11_placeByScore : z_Mth mX11_placeByScore 1 := ⟨z_all_in (i := 994) (by decide +kernel) (by decide +kernel), z_all_in (i := 48) (by decide +kernel) (by decide +kernel), by decide +kernel, by decide +kernel, by decide +kernel⟩
theorem wiX11_placeByScore : Cond.instanceMethod mX11_placeByScore.1 ∈ z_all := z_all_in (i := 993) (by decide +kernel) (by decide +kernel)
theorem weX11_placeByScore : Cond.selects mX11_placeByScore.1.cls mX11_placeByScore.1 mX11_placeByScore.1 ∈ z_all := z_all_in (i := 6) (by decide +kernel) (by decide +kernel)
def mX11_writeRound : zY := (yX11_writeRound, cX11_writeRound, 2, none, (2, 42), (0, 0, [], fun _ _ => True))
theorem mtX11_writeRound : z_Mth mX11_writeRound 1 := ⟨z_all_in (i := 600) (by decide +kernel) (by decide +kernel), z_all_in (i := 48) (by decide +kernel) (by decide +kernel), by decide +kernel, by decide +kernel, by decide +kernel⟩
theorem wiX11_writeRound : Cond.instanceMethod mX11_writeRound.1 ∈ z_all := z_all_in (i := 599) (by decide +kernel) (by decide +kernel)
theorem weX11_writeRound : Cond.selects mX11_writeRound.1.cls mX11_writeRound.1 mX11_writeRound.1 ∈ z_all := z_all_in (i := 2) (by decide +kernel) (by decide +kernel)
def mX11_carryOutAll : zY := (yX11_carryOutAll, cX11_carryOutAll, 3, (some .int), (8, 364), (0, 0, [], fun _ _ => True))
theorem mtX11_carryOutAll : z_Mth mX11_carryOutAll 1 := ⟨z_all_in (i := 1169) (by decide +kernel) (by decide +kernel), z_all_in (i := 48) (by decide +kernel) (by decide +kernel), by decide +kernel, by decide +kernel, by decide +kernel⟩
theorem wiX11_carryOutAll : Cond.instanceMethod mX11_carryOutAll.1 ∈ z_all := z_all_in (i := 1168) (by decide +kernel) (by decide +kernel)
theorem weX11_carryOutAll : Cond.selects mX11_carryOutAll.1.cls mX11_carryOutAll.1 mX11_carryOutAll.1 ∈ z_all := z_all_in (i := 8) (by decide +kernel) (by decide +kernel)
def mX11_carryOut : zY := (yX11_carryOut, cX11_carryOut, 3, (some (.object "WindElection$Fault")), (4, 92), (0, 0, [], fun _ _ => True))
theorem mtX11_carryOut : z_Mth mX11_carryOut 0 := ⟨z_all_in (i := 1175) (by decide +kernel) (by decide +kernel), z_all_in (i := 48) (by decide +kernel) (by decide +kernel), by decide +kernel, by decide +kernel, by decide +kernel⟩
theorem wiX11_carryOut : Cond.instanceMethod mX11_carryOut.1 ∈ z_all := z_all_in (i := 1174) (by decide +kernel) (by decide +kernel)
theorem weX11_carryOut : Cond.selects mX11_carryOut.1.cls mX11_carryOut.1 mX11_carryOut.1 ∈ z_all := z_all_in (i := 9) (by decide +kernel) (by decide +kernel)
def mX11_carryOutBallot : zY := (yX11_carryOutBallot, cX11_carryOutBallot, 4, (some (.object "WindElection$Fault")), (2, 44), (0, 0, [], fun _ _ => True))
theorem mtX11_carryOutBallot : z_Mth mX11_carryOutBallot 0 := ⟨z_all_in (i := 1184) (by decide +kernel) (by decide +kernel), z_all_in (i := 48) (by decide +kernel) (by decide +kernel), by decide +kernel, by decide +kernel, by decide +kernel⟩
theorem wiX11_carryOutBallot : Cond.instanceMethod mX11_carryOutBallot.1 ∈ z_all := z_all_in (i := 1183) (by decide +kernel) (by decide +kernel)
theorem weX11_carryOutBallot : Cond.selects mX11_carryOutBallot.1.cls mX11_carryOutBallot.1 mX11_carryOutBallot.1 ∈ z_all := z_all_in (i := 10) (by decide +kernel) (by decide +kernel)
def mX11_spun : zY := (yX11_spun, cX11_spun, 1, (some .int), (0, 0), (0, 0, [], fun _ _ => True))
theorem mtX11_spun : z_Mth mX11_spun 1 := ⟨z_all_in (i := 414) (by decide +kernel) (by decide +kernel), z_all_in (i := 48) (by decide +kernel) (by decide +kernel), by decide +kernel, by decide +kernel, by decide +kernel⟩
theorem wtX11_spun : Cond.static mX11_spun.1 ∈ z_all := z_all_in (i := 413) (by decide +kernel) (by decide +kernel)
def mX12_init : zY := (yX12_init, cX12_init, 1, none, (1, 16), (11, 2123, [], fun _ _ => True))
theorem mtX12_init : z_Mth mX12_init 0 := ⟨z_all_in (i := 1229) (by decide +kernel) (by decide +kernel), z_all_in (i := 59) (by decide +kernel) (by decide +kernel), by decide +kernel, by decide +kernel, by decide +kernel⟩
theorem wiX12_init : Cond.instanceMethod mX12_init.1 ∈ z_all := z_all_in (i := 1228) (by decide +kernel) (by decide +kernel)
def mX12_thrown : zY := (yX12_thrown, cX12_thrown, 1, (some .int), (0, 0), (0, 0, [], fun _ _ => True))
theorem mtX12_thrown : z_Mth mX12_thrown 0 := ⟨z_all_in (i := 1307) (by decide +kernel) (by decide +kernel), z_all_in (i := 59) (by decide +kernel) (by decide +kernel), by decide +kernel, by decide +kernel, by decide +kernel⟩
theorem wiX12_thrown : Cond.instanceMethod mX12_thrown.1 ∈ z_all := z_all_in (i := 1305) (by decide +kernel) (by decide +kernel)
theorem weX12_thrown : Cond.selects mX12_thrown.1.cls mX12_thrown.1 mX12_thrown.1 ∈ z_all := z_all_in (i := 1306) (by decide +kernel) (by decide +kernel)
def mX12_fails : zY := (yX12_fails, cX12_fails, 2, (some .boolean), (0, 0), (0, 0, [], fun _ _ => True))
theorem mtX12_fails : z_Mth mX12_fails 1 := ⟨z_all_in (i := 1315) (by decide +kernel) (by decide +kernel), z_all_in (i := 59) (by decide +kernel) (by decide +kernel), by decide +kernel, by decide +kernel, by decide +kernel⟩
theorem wiX12_fails : Cond.instanceMethod mX12_fails.1 ∈ z_all := z_all_in (i := 1314) (by decide +kernel) (by decide +kernel)
theorem weX12_fails : Cond.selects mX12_fails.1.cls mX12_fails.1 mX12_fails.1 ∈ z_all := z_all_in (i := 11) (by decide +kernel) (by decide +kernel)
def mX12_in : zY := (yX12_in, cX12_in, 3, (some .boolean), (0, 0), (0, 0, [], fun _ _ => True))
theorem mtX12_in : z_Mth mX12_in 3 := ⟨z_all_in (i := 1333) (by decide +kernel) (by decide +kernel), z_all_in (i := 59) (by decide +kernel) (by decide +kernel), by decide +kernel, by decide +kernel, by decide +kernel⟩
theorem wtX12_in : Cond.static mX12_in.1 ∈ z_all := z_all_in (i := 1332) (by decide +kernel) (by decide +kernel)
def mX12_copies : zY := (yX12_copies, cX12_copies, 5, none, (0, 0), (0, 0, [], fun _ _ => True))
theorem mtX12_copies : z_Mth mX12_copies 4 := ⟨z_all_in (i := 1322) (by decide +kernel) (by decide +kernel), z_all_in (i := 59) (by decide +kernel) (by decide +kernel), by decide +kernel, by decide +kernel, by decide +kernel⟩
theorem wtX12_copies : Cond.static mX12_copies.1 ∈ z_all := z_all_in (i := 1321) (by decide +kernel) (by decide +kernel)
def mX12_keeps : zY := (yX12_keeps, cX12_keeps, 3, none, (1, 24), (0, 0, [], fun _ _ => True))
theorem mtX12_keeps : z_Mth mX12_keeps 1 := ⟨z_all_in (i := 1319) (by decide +kernel) (by decide +kernel), z_all_in (i := 59) (by decide +kernel) (by decide +kernel), by decide +kernel, by decide +kernel, by decide +kernel⟩
theorem wiX12_keeps : Cond.instanceMethod mX12_keeps.1 ∈ z_all := z_all_in (i := 1318) (by decide +kernel) (by decide +kernel)
theorem weX12_keeps : Cond.selects mX12_keeps.1.cls mX12_keeps.1 mX12_keeps.1 ∈ z_all := z_all_in (i := 12) (by decide +kernel) (by decide +kernel)
def mX12_isWind : zY := (yX12_isWind, cX12_isWind, 2, (some .boolean), (1, 22), (0, 0, [], fun _ _ => True))
theorem mtX12_isWind : z_Mth mX12_isWind 1 := ⟨z_all_in (i := 1330) (by decide +kernel) (by decide +kernel), z_all_in (i := 59) (by decide +kernel) (by decide +kernel), by decide +kernel, by decide +kernel, by decide +kernel⟩
theorem wiX12_isWind : Cond.instanceMethod mX12_isWind.1 ∈ z_all := z_all_in (i := 1329) (by decide +kernel) (by decide +kernel)
theorem weX12_isWind : Cond.selects mX12_isWind.1.cls mX12_isWind.1 mX12_isWind.1 ∈ z_all := z_all_in (i := 13) (by decide +kernel) (by decide +kernel)
def mX12_stands : zY := (yX12_stands, cX12_stands, 2, (some .boolean), (0, 0), (0, 0, [], fun _ _ => True))
theorem mtX12_stands : z_Mth mX12_stands 1 := ⟨z_all_in (i := 1337) (by decide +kernel) (by decide +kernel), z_all_in (i := 59) (by decide +kernel) (by decide +kernel), by decide +kernel, by decide +kernel, by decide +kernel⟩
theorem wiX12_stands : Cond.instanceMethod mX12_stands.1 ∈ z_all := z_all_in (i := 1336) (by decide +kernel) (by decide +kernel)
theorem weX12_stands : Cond.selects mX12_stands.1.cls mX12_stands.1 mX12_stands.1 ∈ z_all := z_all_in (i := 14) (by decide +kernel) (by decide +kernel)
def mX12_standing : zY := (yX12_standing, cX12_standing, 3, (some .int), (1, 21), (0, 0, [], fun _ _ => True))
theorem mtX12_standing : z_Mth mX12_standing 0 := ⟨z_all_in (i := 1341) (by decide +kernel) (by decide +kernel), z_all_in (i := 59) (by decide +kernel) (by decide +kernel), by decide +kernel, by decide +kernel, by decide +kernel⟩
theorem wiX12_standing : Cond.instanceMethod mX12_standing.1 ∈ z_all := z_all_in (i := 1340) (by decide +kernel) (by decide +kernel)
theorem weX12_standing : Cond.selects mX12_standing.1.cls mX12_standing.1 mX12_standing.1 ∈ z_all := z_all_in (i := 15) (by decide +kernel) (by decide +kernel)
def mX12_isNone : zY := (yX12_isNone, cX12_isNone, 2, (some .boolean), (2, 43), (0, 0, [], fun _ _ => True))
theorem mtX12_isNone : z_Mth mX12_isNone 1 := ⟨z_all_in (i := 1357) (by decide +kernel) (by decide +kernel), z_all_in (i := 59) (by decide +kernel) (by decide +kernel), by decide +kernel, by decide +kernel, by decide +kernel⟩
theorem wiX12_isNone : Cond.instanceMethod mX12_isNone.1 ∈ z_all := z_all_in (i := 1356) (by decide +kernel) (by decide +kernel)
theorem weX12_isNone : Cond.selects mX12_isNone.1.cls mX12_isNone.1 mX12_isNone.1 ∈ z_all := z_all_in (i := 16) (by decide +kernel) (by decide +kernel)
def mX12_addWind : zY := (yX12_addWind, cX12_addWind, 1, (some .int), (2, 46), (0, 0, [], fun _ _ => True))
theorem mtX12_addWind : z_Mth mX12_addWind 0 := ⟨z_all_in (i := 1311) (by decide +kernel) (by decide +kernel), z_all_in (i := 59) (by decide +kernel) (by decide +kernel), by decide +kernel, by decide +kernel, by decide +kernel⟩
theorem wiX12_addWind : Cond.instanceMethod mX12_addWind.1 ∈ z_all := z_all_in (i := 1309) (by decide +kernel) (by decide +kernel)
theorem weX12_addWind : Cond.selects mX12_addWind.1.cls mX12_addWind.1 mX12_addWind.1 ∈ z_all := z_all_in (i := 1310) (by decide +kernel) (by decide +kernel)
def mX12_withdraw : zY := (yX12_withdraw, cX12_withdraw, 2, (some .int), (2, 46), (0, 0, [], fun _ _ => True))
theorem mtX12_withdraw : z_Mth mX12_withdraw 1 := ⟨z_all_in (i := 1326) (by decide +kernel) (by decide +kernel), z_all_in (i := 59) (by decide +kernel) (by decide +kernel), by decide +kernel, by decide +kernel, by decide +kernel⟩
theorem wiX12_withdraw : Cond.instanceMethod mX12_withdraw.1 ∈ z_all := z_all_in (i := 1324) (by decide +kernel) (by decide +kernel)
theorem weX12_withdraw : Cond.selects mX12_withdraw.1.cls mX12_withdraw.1 mX12_withdraw.1 ∈ z_all := z_all_in (i := 1325) (by decide +kernel) (by decide +kernel)
def mX12_windCount : zY := (yX12_windCount, cX12_windCount, 1, (some .int), (0, 0), (0, 0, [], fun _ _ => True))
theorem mtX12_windCount : z_Mth mX12_windCount 0 := ⟨z_all_in (i := 1345) (by decide +kernel) (by decide +kernel), z_all_in (i := 59) (by decide +kernel) (by decide +kernel), by decide +kernel, by decide +kernel, by decide +kernel⟩
theorem wiX12_windCount : Cond.instanceMethod mX12_windCount.1 ∈ z_all := z_all_in (i := 1343) (by decide +kernel) (by decide +kernel)
theorem weX12_windCount : Cond.selects mX12_windCount.1.cls mX12_windCount.1 mX12_windCount.1 ∈ z_all := z_all_in (i := 1344) (by decide +kernel) (by decide +kernel)
def mX12_standingCount : zY := (yX12_standingCount, cX12_standingCount, 1, (some .int), (2, 43), (0, 0, [], fun _ _ => True))
theorem mtX12_standingCount : z_Mth mX12_standingCount 0 := ⟨z_all_in (i := 1349) (by decide +kernel) (by decide +kernel), z_all_in (i := 59) (by decide +kernel) (by decide +kernel), by decide +kernel, by decide +kernel, by decide +kernel⟩
theorem wiX12_standingCount : Cond.instanceMethod mX12_standingCount.1 ∈ z_all := z_all_in (i := 1347) (by decide +kernel) (by decide +kernel)
theorem weX12_standingCount : Cond.selects mX12_standingCount.1.cls mX12_standingCount.1 mX12_standingCount.1 ∈ z_all := z_all_in (i := 1348) (by decide +kernel) (by decide +kernel)
def mX12_isStanding : zY := (yX12_isStanding, cX12_isStanding, 2, (some .boolean), (3, 64), (0, 0, [], fun _ _ => True))
theorem mtX12_isStanding : z_Mth mX12_isStanding 1 := ⟨z_all_in (i := 1353) (by decide +kernel) (by decide +kernel), z_all_in (i := 59) (by decide +kernel) (by decide +kernel), by decide +kernel, by decide +kernel, by decide +kernel⟩
theorem wiX12_isStanding : Cond.instanceMethod mX12_isStanding.1 ∈ z_all := z_all_in (i := 1351) (by decide +kernel) (by decide +kernel)
theorem weX12_isStanding : Cond.selects mX12_isStanding.1.cls mX12_isStanding.1 mX12_isStanding.1 ∈ z_all := z_all_in (i := 1352) (by decide +kernel) (by decide +kernel)
def mX12_hasSeat : zY := (yX12_hasSeat, cX12_hasSeat, 2, (some .boolean), (3, 64), (0, 0, [], fun _ _ => True))
theorem mtX12_hasSeat : z_Mth mX12_hasSeat 1 := ⟨z_all_in (i := 1361) (by decide +kernel) (by decide +kernel), z_all_in (i := 59) (by decide +kernel) (by decide +kernel), by decide +kernel, by decide +kernel, by decide +kernel⟩
theorem wiX12_hasSeat : Cond.instanceMethod mX12_hasSeat.1 ∈ z_all := z_all_in (i := 1359) (by decide +kernel) (by decide +kernel)
theorem weX12_hasSeat : Cond.selects mX12_hasSeat.1.cls mX12_hasSeat.1 mX12_hasSeat.1 ∈ z_all := z_all_in (i := 1360) (by decide +kernel) (by decide +kernel)
def mX12_isBallot : zY := (yX12_isBallot, cX12_isBallot, 2, (some .boolean), (1, 22), (0, 0, [], fun _ _ => True))
theorem mtX12_isBallot : z_Mth mX12_isBallot 1 := ⟨z_all_in (i := 1376) (by decide +kernel) (by decide +kernel), z_all_in (i := 59) (by decide +kernel) (by decide +kernel), by decide +kernel, by decide +kernel, by decide +kernel⟩
theorem wiX12_isBallot : Cond.instanceMethod mX12_isBallot.1 ∈ z_all := z_all_in (i := 1375) (by decide +kernel) (by decide +kernel)
theorem weX12_isBallot : Cond.selects mX12_isBallot.1.cls mX12_isBallot.1 mX12_isBallot.1 ∈ z_all := z_all_in (i := 17) (by decide +kernel) (by decide +kernel)
def mX12_of : zY := (yX12_of, cX12_of, 3, (some .int), (0, 0), (0, 0, [], fun _ _ => True))
theorem mtX12_of : z_Mth mX12_of 2 := ⟨z_all_in (i := 1384) (by decide +kernel) (by decide +kernel), z_all_in (i := 59) (by decide +kernel) (by decide +kernel), by decide +kernel, by decide +kernel, by decide +kernel⟩
theorem wiX12_of : Cond.instanceMethod mX12_of.1 ∈ z_all := z_all_in (i := 1383) (by decide +kernel) (by decide +kernel)
theorem weX12_of : Cond.selects mX12_of.1.cls mX12_of.1 mX12_of.1 ∈ z_all := z_all_in (i := 19) (by decide +kernel) (by decide +kernel)
def mX12_ranked : zY := (yX12_ranked, cX12_ranked, 4, (some .int), (1, 22), (0, 0, [], fun _ _ => True))
theorem mtX12_ranked : z_Mth mX12_ranked 2 := ⟨z_all_in (i := 1380) (by decide +kernel) (by decide +kernel), z_all_in (i := 59) (by decide +kernel) (by decide +kernel), by decide +kernel, by decide +kernel, by decide +kernel⟩
theorem wiX12_ranked : Cond.instanceMethod mX12_ranked.1 ∈ z_all := z_all_in (i := 1379) (by decide +kernel) (by decide +kernel)
theorem weX12_ranked : Cond.selects mX12_ranked.1.cls mX12_ranked.1 mX12_ranked.1 ∈ z_all := z_all_in (i := 18) (by decide +kernel) (by decide +kernel)
def mX12_isLost : zY := (yX12_isLost, cX12_isLost, 2, (some .boolean), (2, 43), (0, 0, [], fun _ _ => True))
theorem mtX12_isLost : z_Mth mX12_isLost 1 := ⟨z_all_in (i := 1392) (by decide +kernel) (by decide +kernel), z_all_in (i := 59) (by decide +kernel) (by decide +kernel), by decide +kernel, by decide +kernel, by decide +kernel⟩
theorem wiX12_isLost : Cond.instanceMethod mX12_isLost.1 ∈ z_all := z_all_in (i := 1391) (by decide +kernel) (by decide +kernel)
theorem weX12_isLost : Cond.selects mX12_isLost.1.cls mX12_isLost.1 mX12_isLost.1 ∈ z_all := z_all_in (i := 20) (by decide +kernel) (by decide +kernel)
def mX12_isWeight : zY := (yX12_isWeight, cX12_isWeight, 1, (some .boolean), (1, 22), (0, 0, [], fun _ _ => True))
theorem mtX12_isWeight : z_Mth mX12_isWeight 1 := ⟨z_all_in (i := 1368) (by decide +kernel) (by decide +kernel), z_all_in (i := 59) (by decide +kernel) (by decide +kernel), by decide +kernel, by decide +kernel, by decide +kernel⟩
theorem wtX12_isWeight : Cond.static mX12_isWeight.1 ∈ z_all := z_all_in (i := 1367) (by decide +kernel) (by decide +kernel)
def mX12_addBallot : zY := (yX12_addBallot, cX12_addBallot, 5, (some .int), (2, 46), (0, 0, [], fun _ _ => True))
theorem mtX12_addBallot : z_Mth mX12_addBallot 2 := ⟨z_all_in (i := 1365) (by decide +kernel) (by decide +kernel), z_all_in (i := 59) (by decide +kernel) (by decide +kernel), by decide +kernel, by decide +kernel, by decide +kernel⟩
theorem wiX12_addBallot : Cond.instanceMethod mX12_addBallot.1 ∈ z_all := z_all_in (i := 1363) (by decide +kernel) (by decide +kernel)
theorem weX12_addBallot : Cond.selects mX12_addBallot.1.cls mX12_addBallot.1 mX12_addBallot.1 ∈ z_all := z_all_in (i := 1364) (by decide +kernel) (by decide +kernel)
def mX12_rank : zY := (yX12_rank, cX12_rank, 4, (some .int), (2, 46), (0, 0, [], fun _ _ => True))
theorem mtX12_rank : z_Mth mX12_rank 2 := ⟨z_all_in (i := 1372) (by decide +kernel) (by decide +kernel), z_all_in (i := 59) (by decide +kernel) (by decide +kernel), by decide +kernel, by decide +kernel, by decide +kernel⟩
theorem wiX12_rank : Cond.instanceMethod mX12_rank.1 ∈ z_all := z_all_in (i := 1370) (by decide +kernel) (by decide +kernel)
theorem weX12_rank : Cond.selects mX12_rank.1.cls mX12_rank.1 mX12_rank.1 ∈ z_all := z_all_in (i := 1371) (by decide +kernel) (by decide +kernel)
def mX12_removeBallot : zY := (yX12_removeBallot, cX12_removeBallot, 4, (some .int), (3, 64), (0, 0, [], fun _ _ => True))
theorem mtX12_removeBallot : z_Mth mX12_removeBallot 1 := ⟨z_all_in (i := 1388) (by decide +kernel) (by decide +kernel), z_all_in (i := 59) (by decide +kernel) (by decide +kernel), by decide +kernel, by decide +kernel, by decide +kernel⟩
theorem wiX12_removeBallot : Cond.instanceMethod mX12_removeBallot.1 ∈ z_all := z_all_in (i := 1386) (by decide +kernel) (by decide +kernel)
theorem weX12_removeBallot : Cond.selects mX12_removeBallot.1.cls mX12_removeBallot.1 mX12_removeBallot.1 ∈ z_all := z_all_in (i := 1387) (by decide +kernel) (by decide +kernel)
def mX12_recount : zY := (yX12_recount, cX12_recount, 4, (some .int), (2, 46), (0, 0, [], fun _ _ => True))
theorem mtX12_recount : z_Mth mX12_recount 2 := ⟨z_all_in (i := 1396) (by decide +kernel) (by decide +kernel), z_all_in (i := 59) (by decide +kernel) (by decide +kernel), by decide +kernel, by decide +kernel, by decide +kernel⟩
theorem wiX12_recount : Cond.instanceMethod mX12_recount.1 ∈ z_all := z_all_in (i := 1394) (by decide +kernel) (by decide +kernel)
theorem weX12_recount : Cond.selects mX12_recount.1.cls mX12_recount.1 mX12_recount.1 ∈ z_all := z_all_in (i := 1395) (by decide +kernel) (by decide +kernel)
def mX12_ballotCount : zY := (yX12_ballotCount, cX12_ballotCount, 1, (some .int), (0, 0), (0, 0, [], fun _ _ => True))
theorem mtX12_ballotCount : z_Mth mX12_ballotCount 0 := ⟨z_all_in (i := 1400) (by decide +kernel) (by decide +kernel), z_all_in (i := 59) (by decide +kernel) (by decide +kernel), by decide +kernel, by decide +kernel, by decide +kernel⟩
theorem wiX12_ballotCount : Cond.instanceMethod mX12_ballotCount.1 ∈ z_all := z_all_in (i := 1398) (by decide +kernel) (by decide +kernel)
theorem weX12_ballotCount : Cond.selects mX12_ballotCount.1.cls mX12_ballotCount.1 mX12_ballotCount.1 ∈ z_all := z_all_in (i := 1399) (by decide +kernel) (by decide +kernel)
def mX12_weightOf : zY := (yX12_weightOf, cX12_weightOf, 2, (some .int), (3, 64), (0, 0, [], fun _ _ => True))
theorem mtX12_weightOf : z_Mth mX12_weightOf 1 := ⟨z_all_in (i := 1404) (by decide +kernel) (by decide +kernel), z_all_in (i := 59) (by decide +kernel) (by decide +kernel), by decide +kernel, by decide +kernel, by decide +kernel⟩
theorem wiX12_weightOf : Cond.instanceMethod mX12_weightOf.1 ∈ z_all := z_all_in (i := 1402) (by decide +kernel) (by decide +kernel)
theorem weX12_weightOf : Cond.selects mX12_weightOf.1.cls mX12_weightOf.1 mX12_weightOf.1 ∈ z_all := z_all_in (i := 1403) (by decide +kernel) (by decide +kernel)
def mX12_rankCount : zY := (yX12_rankCount, cX12_rankCount, 2, (some .int), (3, 64), (0, 0, [], fun _ _ => True))
theorem mtX12_rankCount : z_Mth mX12_rankCount 1 := ⟨z_all_in (i := 1408) (by decide +kernel) (by decide +kernel), z_all_in (i := 59) (by decide +kernel) (by decide +kernel), by decide +kernel, by decide +kernel, by decide +kernel⟩
theorem wiX12_rankCount : Cond.instanceMethod mX12_rankCount.1 ∈ z_all := z_all_in (i := 1406) (by decide +kernel) (by decide +kernel)
theorem weX12_rankCount : Cond.selects mX12_rankCount.1.cls mX12_rankCount.1 mX12_rankCount.1 ∈ z_all := z_all_in (i := 1407) (by decide +kernel) (by decide +kernel)
def mX12_windAt : zY := (yX12_windAt, cX12_windAt, 3, (some .int), (2, 43), (0, 0, [], fun _ _ => True))
theorem mtX12_windAt : z_Mth mX12_windAt 2 := ⟨z_all_in (i := 1412) (by decide +kernel) (by decide +kernel), z_all_in (i := 59) (by decide +kernel) (by decide +kernel), by decide +kernel, by decide +kernel, by decide +kernel⟩
theorem wiX12_windAt : Cond.instanceMethod mX12_windAt.1 ∈ z_all := z_all_in (i := 1410) (by decide +kernel) (by decide +kernel)
theorem weX12_windAt : Cond.selects mX12_windAt.1.cls mX12_windAt.1 mX12_windAt.1 ∈ z_all := z_all_in (i := 1411) (by decide +kernel) (by decide +kernel)
def mX12_rankOf : zY := (yX12_rankOf, cX12_rankOf, 3, (some .int), (2, 45), (0, 0, [], fun _ _ => True))
theorem mtX12_rankOf : z_Mth mX12_rankOf 2 := ⟨z_all_in (i := 1416) (by decide +kernel) (by decide +kernel), z_all_in (i := 59) (by decide +kernel) (by decide +kernel), by decide +kernel, by decide +kernel, by decide +kernel⟩
theorem wiX12_rankOf : Cond.instanceMethod mX12_rankOf.1 ∈ z_all := z_all_in (i := 1414) (by decide +kernel) (by decide +kernel)
theorem weX12_rankOf : Cond.selects mX12_rankOf.1.cls mX12_rankOf.1 mX12_rankOf.1 ∈ z_all := z_all_in (i := 1415) (by decide +kernel) (by decide +kernel)
def mX12_total : zY := (yX12_total, cX12_total, 3, (some .int), (1, 22), (0, 0, [], fun _ _ => True))
theorem mtX12_total : z_Mth mX12_total 0 := ⟨z_all_in (i := 1424) (by decide +kernel) (by decide +kernel), z_all_in (i := 59) (by decide +kernel) (by decide +kernel), by decide +kernel, by decide +kernel, by decide +kernel⟩
theorem wiX12_total : Cond.instanceMethod mX12_total.1 ∈ z_all := z_all_in (i := 1423) (by decide +kernel) (by decide +kernel)
theorem weX12_total : Cond.selects mX12_total.1.cls mX12_total.1 mX12_total.1 ∈ z_all := z_all_in (i := 21) (by decide +kernel) (by decide +kernel)
def mX12_totalWeight : zY := (yX12_totalWeight, cX12_totalWeight, 1, (some .int), (2, 44), (0, 0, [], fun _ _ => True))
theorem mtX12_totalWeight : z_Mth mX12_totalWeight 0 := ⟨z_all_in (i := 1420) (by decide +kernel) (by decide +kernel), z_all_in (i := 59) (by decide +kernel) (by decide +kernel), by decide +kernel, by decide +kernel, by decide +kernel⟩
theorem wiX12_totalWeight : Cond.instanceMethod mX12_totalWeight.1 ∈ z_all := z_all_in (i := 1418) (by decide +kernel) (by decide +kernel)
theorem weX12_totalWeight : Cond.selects mX12_totalWeight.1.cls mX12_totalWeight.1 mX12_totalWeight.1 ∈ z_all := z_all_in (i := 1419) (by decide +kernel) (by decide +kernel)
def mX12_countsRound : zY := (yX12_countsRound, cX12_countsRound, 5, none, (1, 22), (0, 0, [], fun _ _ => True))
theorem mtX12_countsRound : z_Mth mX12_countsRound 1 := ⟨z_all_in (i := 1440) (by decide +kernel) (by decide +kernel), z_all_in (i := 59) (by decide +kernel) (by decide +kernel), by decide +kernel, by decide +kernel, by decide +kernel⟩
theorem wiX12_countsRound : Cond.instanceMethod mX12_countsRound.1 ∈ z_all := z_all_in (i := 1439) (by decide +kernel) (by decide +kernel)
theorem weX12_countsRound : Cond.selects mX12_countsRound.1.cls mX12_countsRound.1 mX12_countsRound.1 ∈ z_all := z_all_in (i := 24) (by decide +kernel) (by decide +kernel)
def mX12_wins : zY := (yX12_wins, cX12_wins, 5, (some .int), (0, 0), (0, 0, [], fun _ _ => True))
theorem mtX12_wins : z_Mth mX12_wins 1 := ⟨z_all_in (i := 1444) (by decide +kernel) (by decide +kernel), z_all_in (i := 59) (by decide +kernel) (by decide +kernel), by decide +kernel, by decide +kernel, by decide +kernel⟩
theorem wiX12_wins : Cond.instanceMethod mX12_wins.1 ∈ z_all := z_all_in (i := 1443) (by decide +kernel) (by decide +kernel)
theorem weX12_wins : Cond.selects mX12_wins.1.cls mX12_wins.1 mX12_wins.1 ∈ z_all := z_all_in (i := 25) (by decide +kernel) (by decide +kernel)
def mX12_falls : zY := (yX12_falls, cX12_falls, 6, (some .int), (0, 0), (0, 0, [], fun _ _ => True))
theorem mtX12_falls : z_Mth mX12_falls 1 := ⟨z_all_in (i := 1448) (by decide +kernel) (by decide +kernel), z_all_in (i := 59) (by decide +kernel) (by decide +kernel), by decide +kernel, by decide +kernel, by decide +kernel⟩
theorem wiX12_falls : Cond.instanceMethod mX12_falls.1 ∈ z_all := z_all_in (i := 1447) (by decide +kernel) (by decide +kernel)
theorem weX12_falls : Cond.selects mX12_falls.1.cls mX12_falls.1 mX12_falls.1 ∈ z_all := z_all_in (i := 26) (by decide +kernel) (by decide +kernel)
def mX12_counts : zY := (yX12_counts, cX12_counts, 3, none, (2, 46), (0, 0, [], fun _ _ => True))
theorem mtX12_counts : z_Mth mX12_counts 0 := ⟨z_all_in (i := 1436) (by decide +kernel) (by decide +kernel), z_all_in (i := 59) (by decide +kernel) (by decide +kernel), by decide +kernel, by decide +kernel, by decide +kernel⟩
theorem wiX12_counts : Cond.instanceMethod mX12_counts.1 ∈ z_all := z_all_in (i := 1435) (by decide +kernel) (by decide +kernel)
theorem weX12_counts : Cond.selects mX12_counts.1.cls mX12_counts.1 mX12_counts.1 ∈ z_all := z_all_in (i := 23) (by decide +kernel) (by decide +kernel)
def mX12_elected : zY := (yX12_elected, cX12_elected, 1, (some .int), (3, 68), (0, 0, [], fun _ _ => True))
theorem mtX12_elected : z_Mth mX12_elected 0 := ⟨z_all_in (i := 1432) (by decide +kernel) (by decide +kernel), z_all_in (i := 59) (by decide +kernel) (by decide +kernel), by decide +kernel, by decide +kernel, by decide +kernel⟩
theorem wiX12_elected : Cond.instanceMethod mX12_elected.1 ∈ z_all := z_all_in (i := 1431) (by decide +kernel) (by decide +kernel)
theorem weX12_elected : Cond.selects mX12_elected.1.cls mX12_elected.1 mX12_elected.1 ∈ z_all := z_all_in (i := 22) (by decide +kernel) (by decide +kernel)
def mX12_winner : zY := (yX12_winner, cX12_winner, 1, (some .int), (4, 88), (0, 0, [], fun _ _ => True))
theorem mtX12_winner : z_Mth mX12_winner 0 := ⟨z_all_in (i := 1428) (by decide +kernel) (by decide +kernel), z_all_in (i := 59) (by decide +kernel) (by decide +kernel), by decide +kernel, by decide +kernel, by decide +kernel⟩
theorem wiX12_winner : Cond.instanceMethod mX12_winner.1 ∈ z_all := z_all_in (i := 1426) (by decide +kernel) (by decide +kernel)
theorem weX12_winner : Cond.selects mX12_winner.1.cls mX12_winner.1 mX12_winner.1 ∈ z_all := z_all_in (i := 1427) (by decide +kernel) (by decide +kernel)
def mX12_winnerByTransfers : zY := (yX12_winnerByTransfers, cX12_winnerByTransfers, 1, (some .int), (4, 88), (0, 0, [], fun _ _ => True))
theorem mtX12_winnerByTransfers : z_Mth mX12_winnerByTransfers 0 := ⟨z_all_in (i := 1452) (by decide +kernel) (by decide +kernel), z_all_in (i := 59) (by decide +kernel) (by decide +kernel), by decide +kernel, by decide +kernel, by decide +kernel⟩
theorem wiX12_winnerByTransfers : Cond.instanceMethod mX12_winnerByTransfers.1 ∈ z_all := z_all_in (i := 1450) (by decide +kernel) (by decide +kernel)
theorem weX12_winnerByTransfers : Cond.selects mX12_winnerByTransfers.1.cls mX12_winnerByTransfers.1 mX12_winnerByTransfers.1 ∈ z_all := z_all_in (i := 1451) (by decide +kernel) (by decide +kernel)
def mX12_roundCount : zY := (yX12_roundCount, cX12_roundCount, 1, (some .int), (3, 68), (0, 0, [], fun _ _ => True))
theorem mtX12_roundCount : z_Mth mX12_roundCount 0 := ⟨z_all_in (i := 1456) (by decide +kernel) (by decide +kernel), z_all_in (i := 59) (by decide +kernel) (by decide +kernel), by decide +kernel, by decide +kernel, by decide +kernel⟩
theorem wiX12_roundCount : Cond.instanceMethod mX12_roundCount.1 ∈ z_all := z_all_in (i := 1454) (by decide +kernel) (by decide +kernel)
theorem weX12_roundCount : Cond.selects mX12_roundCount.1.cls mX12_roundCount.1 mX12_roundCount.1 ∈ z_all := z_all_in (i := 1455) (by decide +kernel) (by decide +kernel)
def mX12_isRound : zY := (yX12_isRound, cX12_isRound, 2, (some .boolean), (3, 68), (0, 0, [], fun _ _ => True))
theorem mtX12_isRound : z_Mth mX12_isRound 1 := ⟨z_all_in (i := 1464) (by decide +kernel) (by decide +kernel), z_all_in (i := 59) (by decide +kernel) (by decide +kernel), by decide +kernel, by decide +kernel, by decide +kernel⟩
theorem wiX12_isRound : Cond.instanceMethod mX12_isRound.1 ∈ z_all := z_all_in (i := 1463) (by decide +kernel) (by decide +kernel)
theorem weX12_isRound : Cond.selects mX12_isRound.1.cls mX12_isRound.1 mX12_isRound.1 ∈ z_all := z_all_in (i := 27) (by decide +kernel) (by decide +kernel)
def mX12_votesIn : zY := (yX12_votesIn, cX12_votesIn, 3, (some .int), (4, 89), (0, 0, [], fun _ _ => True))
theorem mtX12_votesIn : z_Mth mX12_votesIn 2 := ⟨z_all_in (i := 1460) (by decide +kernel) (by decide +kernel), z_all_in (i := 59) (by decide +kernel) (by decide +kernel), by decide +kernel, by decide +kernel, by decide +kernel⟩
theorem wiX12_votesIn : Cond.instanceMethod mX12_votesIn.1 ∈ z_all := z_all_in (i := 1458) (by decide +kernel) (by decide +kernel)
theorem weX12_votesIn : Cond.selects mX12_votesIn.1.cls mX12_votesIn.1 mX12_votesIn.1 ∈ z_all := z_all_in (i := 1459) (by decide +kernel) (by decide +kernel)
def mX12_exhaustedIn : zY := (yX12_exhaustedIn, cX12_exhaustedIn, 2, (some .int), (4, 89), (0, 0, [], fun _ _ => True))
theorem mtX12_exhaustedIn : z_Mth mX12_exhaustedIn 1 := ⟨z_all_in (i := 1468) (by decide +kernel) (by decide +kernel), z_all_in (i := 59) (by decide +kernel) (by decide +kernel), by decide +kernel, by decide +kernel, by decide +kernel⟩
theorem wiX12_exhaustedIn : Cond.instanceMethod mX12_exhaustedIn.1 ∈ z_all := z_all_in (i := 1466) (by decide +kernel) (by decide +kernel)
theorem weX12_exhaustedIn : Cond.selects mX12_exhaustedIn.1.cls mX12_exhaustedIn.1 mX12_exhaustedIn.1 ∈ z_all := z_all_in (i := 1467) (by decide +kernel) (by decide +kernel)
def mX12_eliminatedIn : zY := (yX12_eliminatedIn, cX12_eliminatedIn, 2, (some .int), (4, 89), (0, 0, [], fun _ _ => True))
theorem mtX12_eliminatedIn : z_Mth mX12_eliminatedIn 1 := ⟨z_all_in (i := 1472) (by decide +kernel) (by decide +kernel), z_all_in (i := 59) (by decide +kernel) (by decide +kernel), by decide +kernel, by decide +kernel, by decide +kernel⟩
theorem wiX12_eliminatedIn : Cond.instanceMethod mX12_eliminatedIn.1 ∈ z_all := z_all_in (i := 1470) (by decide +kernel) (by decide +kernel)
theorem weX12_eliminatedIn : Cond.selects mX12_eliminatedIn.1.cls mX12_eliminatedIn.1 mX12_eliminatedIn.1 ∈ z_all := z_all_in (i := 1471) (by decide +kernel) (by decide +kernel)
def mX12_isTieIn : zY := (yX12_isTieIn, cX12_isTieIn, 2, (some .boolean), (4, 89), (0, 0, [], fun _ _ => True))
theorem mtX12_isTieIn : z_Mth mX12_isTieIn 1 := ⟨z_all_in (i := 1476) (by decide +kernel) (by decide +kernel), z_all_in (i := 59) (by decide +kernel) (by decide +kernel), by decide +kernel, by decide +kernel, by decide +kernel⟩
theorem wiX12_isTieIn : Cond.instanceMethod mX12_isTieIn.1 ∈ z_all := z_all_in (i := 1474) (by decide +kernel) (by decide +kernel)
theorem weX12_isTieIn : Cond.selects mX12_isTieIn.1.cls mX12_isTieIn.1 mX12_isTieIn.1 ∈ z_all := z_all_in (i := 1475) (by decide +kernel) (by decide +kernel)
def mX12_roundOfElimination : zY := (yX12_roundOfElimination, cX12_roundOfElimination, 3, (some .int), (3, 68), (0, 0, [], fun _ _ => True))
theorem mtX12_roundOfElimination : z_Mth mX12_roundOfElimination 1 := ⟨z_all_in (i := 1480) (by decide +kernel) (by decide +kernel), z_all_in (i := 59) (by decide +kernel) (by decide +kernel), by decide +kernel, by decide +kernel, by decide +kernel⟩
theorem wiX12_roundOfElimination : Cond.instanceMethod mX12_roundOfElimination.1 ∈ z_all := z_all_in (i := 1478) (by decide +kernel) (by decide +kernel)
theorem weX12_roundOfElimination : Cond.selects mX12_roundOfElimination.1.cls mX12_roundOfElimination.1 mX12_roundOfElimination.1 ∈ z_all := z_all_in (i := 1479) (by decide +kernel) (by decide +kernel)
def mX12_winnerShare : zY := (yX12_winnerShare, cX12_winnerShare, 2, (some .float), (3, 68), (0, 0, [], fun _ _ => True))
theorem mtX12_winnerShare : z_Mth mX12_winnerShare 0 := ⟨z_all_in (i := 1484) (by decide +kernel) (by decide +kernel), z_all_in (i := 59) (by decide +kernel) (by decide +kernel), by decide +kernel, by decide +kernel, by decide +kernel⟩
theorem wiX12_winnerShare : Cond.instanceMethod mX12_winnerShare.1 ∈ z_all := z_all_in (i := 1482) (by decide +kernel) (by decide +kernel)
theorem weX12_winnerShare : Cond.selects mX12_winnerShare.1.cls mX12_winnerShare.1 mX12_winnerShare.1 ∈ z_all := z_all_in (i := 1483) (by decide +kernel) (by decide +kernel)
def mX12_prefers : zY := (yX12_prefers, cX12_prefers, 7, (some .int), (2, 45), (0, 0, [], fun _ _ => True))
theorem mtX12_prefers : z_Mth mX12_prefers 2 := ⟨z_all_in (i := 1496) (by decide +kernel) (by decide +kernel), z_all_in (i := 59) (by decide +kernel) (by decide +kernel), by decide +kernel, by decide +kernel, by decide +kernel⟩
theorem wiX12_prefers : Cond.instanceMethod mX12_prefers.1 ∈ z_all := z_all_in (i := 1495) (by decide +kernel) (by decide +kernel)
theorem weX12_prefers : Cond.selects mX12_prefers.1.cls mX12_prefers.1 mX12_prefers.1 ∈ z_all := z_all_in (i := 29) (by decide +kernel) (by decide +kernel)
def mX12_areNone : zY := (yX12_areNone, cX12_areNone, 3, (some .boolean), (2, 43), (0, 0, [], fun _ _ => True))
theorem mtX12_areNone : z_Mth mX12_areNone 2 := ⟨z_all_in (i := 1492) (by decide +kernel) (by decide +kernel), z_all_in (i := 59) (by decide +kernel) (by decide +kernel), by decide +kernel, by decide +kernel, by decide +kernel⟩
theorem wiX12_areNone : Cond.instanceMethod mX12_areNone.1 ∈ z_all := z_all_in (i := 1491) (by decide +kernel) (by decide +kernel)
theorem weX12_areNone : Cond.selects mX12_areNone.1.cls mX12_areNone.1 mX12_areNone.1 ∈ z_all := z_all_in (i := 28) (by decide +kernel) (by decide +kernel)
def mX12_preference : zY := (yX12_preference, cX12_preference, 3, (some .int), (3, 71), (0, 0, [], fun _ _ => True))
theorem mtX12_preference : z_Mth mX12_preference 2 := ⟨z_all_in (i := 1488) (by decide +kernel) (by decide +kernel), z_all_in (i := 59) (by decide +kernel) (by decide +kernel), by decide +kernel, by decide +kernel, by decide +kernel⟩
theorem wiX12_preference : Cond.instanceMethod mX12_preference.1 ∈ z_all := z_all_in (i := 1486) (by decide +kernel) (by decide +kernel)
theorem weX12_preference : Cond.selects mX12_preference.1.cls mX12_preference.1 mX12_preference.1 ∈ z_all := z_all_in (i := 1487) (by decide +kernel) (by decide +kernel)
def mX12_isOver : zY := (yX12_isOver, cX12_isOver, 3, (some .boolean), (3, 71), (0, 0, [], fun _ _ => True))
theorem mtX12_isOver : z_Mth mX12_isOver 2 := ⟨z_all_in (i := 1504) (by decide +kernel) (by decide +kernel), z_all_in (i := 59) (by decide +kernel) (by decide +kernel), by decide +kernel, by decide +kernel, by decide +kernel⟩
theorem wiX12_isOver : Cond.instanceMethod mX12_isOver.1 ∈ z_all := z_all_in (i := 1503) (by decide +kernel) (by decide +kernel)
theorem weX12_isOver : Cond.selects mX12_isOver.1.cls mX12_isOver.1 mX12_isOver.1 ∈ z_all := z_all_in (i := 30) (by decide +kernel) (by decide +kernel)
def mX12_beats : zY := (yX12_beats, cX12_beats, 3, (some .boolean), (4, 93), (0, 0, [], fun _ _ => True))
theorem mtX12_beats : z_Mth mX12_beats 2 := ⟨z_all_in (i := 1500) (by decide +kernel) (by decide +kernel), z_all_in (i := 59) (by decide +kernel) (by decide +kernel), by decide +kernel, by decide +kernel, by decide +kernel⟩
theorem wiX12_beats : Cond.instanceMethod mX12_beats.1 ∈ z_all := z_all_in (i := 1498) (by decide +kernel) (by decide +kernel)
theorem weX12_beats : Cond.selects mX12_beats.1.cls mX12_beats.1 mX12_beats.1 ∈ z_all := z_all_in (i := 1499) (by decide +kernel) (by decide +kernel)
def mX12_beaten : zY := (yX12_beaten, cX12_beaten, 4, (some .int), (4, 93), (0, 0, [], fun _ _ => True))
theorem mtX12_beaten : z_Mth mX12_beaten 1 := ⟨z_all_in (i := 1512) (by decide +kernel) (by decide +kernel), z_all_in (i := 59) (by decide +kernel) (by decide +kernel), by decide +kernel, by decide +kernel, by decide +kernel⟩
theorem wiX12_beaten : Cond.instanceMethod mX12_beaten.1 ∈ z_all := z_all_in (i := 1511) (by decide +kernel) (by decide +kernel)
theorem weX12_beaten : Cond.selects mX12_beaten.1.cls mX12_beaten.1 mX12_beaten.1 ∈ z_all := z_all_in (i := 31) (by decide +kernel) (by decide +kernel)
def mX12_victories : zY := (yX12_victories, cX12_victories, 2, (some .int), (5, 116), (0, 0, [], fun _ _ => True))
theorem mtX12_victories : z_Mth mX12_victories 1 := ⟨z_all_in (i := 1508) (by decide +kernel) (by decide +kernel), z_all_in (i := 59) (by decide +kernel) (by decide +kernel), by decide +kernel, by decide +kernel, by decide +kernel⟩
theorem wiX12_victories : Cond.instanceMethod mX12_victories.1 ∈ z_all := z_all_in (i := 1506) (by decide +kernel) (by decide +kernel)
theorem weX12_victories : Cond.selects mX12_victories.1.cls mX12_victories.1 mX12_victories.1 ∈ z_all := z_all_in (i := 1507) (by decide +kernel) (by decide +kernel)
def mX12_champion : zY := (yX12_champion, cX12_champion, 2, (some .int), (5, 116), (0, 0, [], fun _ _ => True))
theorem mtX12_champion : z_Mth mX12_champion 0 := ⟨z_all_in (i := 1520) (by decide +kernel) (by decide +kernel), z_all_in (i := 59) (by decide +kernel) (by decide +kernel), by decide +kernel, by decide +kernel, by decide +kernel⟩
theorem wiX12_champion : Cond.instanceMethod mX12_champion.1 ∈ z_all := z_all_in (i := 1519) (by decide +kernel) (by decide +kernel)
theorem weX12_champion : Cond.selects mX12_champion.1.cls mX12_champion.1 mX12_champion.1 ∈ z_all := z_all_in (i := 32) (by decide +kernel) (by decide +kernel)
def mX12_championOfPairs : zY := (yX12_championOfPairs, cX12_championOfPairs, 1, (some .int), (6, 137), (0, 0, [], fun _ _ => True))
theorem mtX12_championOfPairs : z_Mth mX12_championOfPairs 0 := ⟨z_all_in (i := 1516) (by decide +kernel) (by decide +kernel), z_all_in (i := 59) (by decide +kernel) (by decide +kernel), by decide +kernel, by decide +kernel, by decide +kernel⟩
theorem wiX12_championOfPairs : Cond.instanceMethod mX12_championOfPairs.1 ∈ z_all := z_all_in (i := 1514) (by decide +kernel) (by decide +kernel)
theorem weX12_championOfPairs : Cond.selects mX12_championOfPairs.1.cls mX12_championOfPairs.1 mX12_championOfPairs.1 ∈ z_all := z_all_in (i := 1515) (by decide +kernel) (by decide +kernel)
def mX12_championByDuels : zY := (yX12_championByDuels, cX12_championByDuels, 1, (some .int), (6, 137), (0, 0, [], fun _ _ => True))
theorem mtX12_championByDuels : z_Mth mX12_championByDuels 0 := ⟨z_all_in (i := 1524) (by decide +kernel) (by decide +kernel), z_all_in (i := 59) (by decide +kernel) (by decide +kernel), by decide +kernel, by decide +kernel, by decide +kernel⟩
theorem wiX12_championByDuels : Cond.instanceMethod mX12_championByDuels.1 ∈ z_all := z_all_in (i := 1522) (by decide +kernel) (by decide +kernel)
theorem weX12_championByDuels : Cond.selects mX12_championByDuels.1.cls mX12_championByDuels.1 mX12_championByDuels.1 ∈ z_all := z_all_in (i := 1523) (by decide +kernel) (by decide +kernel)
def mX12_score : zY := (yX12_score, cX12_score, 4, (some .int), (2, 45), (0, 0, [], fun _ _ => True))
theorem mtX12_score : z_Mth mX12_score 1 := ⟨z_all_in (i := 1532) (by decide +kernel) (by decide +kernel), z_all_in (i := 59) (by decide +kernel) (by decide +kernel), by decide +kernel, by decide +kernel, by decide +kernel⟩
theorem wiX12_score : Cond.instanceMethod mX12_score.1 ∈ z_all := z_all_in (i := 1531) (by decide +kernel) (by decide +kernel)
theorem weX12_score : Cond.selects mX12_score.1.cls mX12_score.1 mX12_score.1 ∈ z_all := z_all_in (i := 33) (by decide +kernel) (by decide +kernel)
def mX12_scoreOf : zY := (yX12_scoreOf, cX12_scoreOf, 2, (some .int), (3, 68), (0, 0, [], fun _ _ => True))
theorem mtX12_scoreOf : z_Mth mX12_scoreOf 1 := ⟨z_all_in (i := 1528) (by decide +kernel) (by decide +kernel), z_all_in (i := 59) (by decide +kernel) (by decide +kernel), by decide +kernel, by decide +kernel, by decide +kernel⟩
theorem wiX12_scoreOf : Cond.instanceMethod mX12_scoreOf.1 ∈ z_all := z_all_in (i := 1526) (by decide +kernel) (by decide +kernel)
theorem weX12_scoreOf : Cond.selects mX12_scoreOf.1.cls mX12_scoreOf.1 mX12_scoreOf.1 ∈ z_all := z_all_in (i := 1527) (by decide +kernel) (by decide +kernel)
def mX12_windByScore : zY := (yX12_windByScore, cX12_windByScore, 5, (some .int), (3, 68), (0, 0, [], fun _ _ => True))
theorem mtX12_windByScore : z_Mth mX12_windByScore 1 := ⟨z_all_in (i := 1536) (by decide +kernel) (by decide +kernel), z_all_in (i := 59) (by decide +kernel) (by decide +kernel), by decide +kernel, by decide +kernel, by decide +kernel⟩
theorem wiX12_windByScore : Cond.instanceMethod mX12_windByScore.1 ∈ z_all := z_all_in (i := 1534) (by decide +kernel) (by decide +kernel)
theorem weX12_windByScore : Cond.selects mX12_windByScore.1.cls mX12_windByScore.1 mX12_windByScore.1 ∈ z_all := z_all_in (i := 1535) (by decide +kernel) (by decide +kernel)
def mX12_spin : zY := (yX12_spin, cX12_spin, 1, (some .int), (2, 46), (0, 0, [], fun _ _ => True))
theorem mtX12_spin : z_Mth mX12_spin 0 := ⟨z_all_in (i := 1540) (by decide +kernel) (by decide +kernel), z_all_in (i := 59) (by decide +kernel) (by decide +kernel), by decide +kernel, by decide +kernel, by decide +kernel⟩
theorem wiX12_spin : Cond.instanceMethod mX12_spin.1 ∈ z_all := z_all_in (i := 1538) (by decide +kernel) (by decide +kernel)
theorem weX12_spin : Cond.selects mX12_spin.1.cls mX12_spin.1 mX12_spin.1 ∈ z_all := z_all_in (i := 1539) (by decide +kernel) (by decide +kernel)
def mX12_spinValue : zY := (yX12_spinValue, cX12_spinValue, 1, (some .int), (0, 0), (0, 0, [], fun _ _ => True))
theorem mtX12_spinValue : z_Mth mX12_spinValue 0 := ⟨z_all_in (i := 1544) (by decide +kernel) (by decide +kernel), z_all_in (i := 59) (by decide +kernel) (by decide +kernel), by decide +kernel, by decide +kernel, by decide +kernel⟩
theorem wiX12_spinValue : Cond.instanceMethod mX12_spinValue.1 ∈ z_all := z_all_in (i := 1542) (by decide +kernel) (by decide +kernel)
theorem weX12_spinValue : Cond.selects mX12_spinValue.1.cls mX12_spinValue.1 mX12_spinValue.1 ∈ z_all := z_all_in (i := 1543) (by decide +kernel) (by decide +kernel)
def mX12_certify : zY := (yX12_certify, cX12_certify, 2, (some .int), (4, 88), (0, 0, [], fun _ _ => True))
theorem mtX12_certify : z_Mth mX12_certify 0 := ⟨z_all_in (i := 1548) (by decide +kernel) (by decide +kernel), z_all_in (i := 59) (by decide +kernel) (by decide +kernel), by decide +kernel, by decide +kernel, by decide +kernel⟩
theorem wiX12_certify : Cond.instanceMethod mX12_certify.1 ∈ z_all := z_all_in (i := 1546) (by decide +kernel) (by decide +kernel)
theorem weX12_certify : Cond.selects mX12_certify.1.cls mX12_certify.1 mX12_certify.1 ∈ z_all := z_all_in (i := 1547) (by decide +kernel) (by decide +kernel)
def mX12_seatCount : zY := (yX12_seatCount, cX12_seatCount, 1, (some .int), (0, 0), (0, 0, [], fun _ _ => True))
theorem mtX12_seatCount : z_Mth mX12_seatCount 0 := ⟨z_all_in (i := 1552) (by decide +kernel) (by decide +kernel), z_all_in (i := 59) (by decide +kernel) (by decide +kernel), by decide +kernel, by decide +kernel, by decide +kernel⟩
theorem wiX12_seatCount : Cond.instanceMethod mX12_seatCount.1 ∈ z_all := z_all_in (i := 1550) (by decide +kernel) (by decide +kernel)
theorem weX12_seatCount : Cond.selects mX12_seatCount.1.cls mX12_seatCount.1 mX12_seatCount.1 ∈ z_all := z_all_in (i := 1551) (by decide +kernel) (by decide +kernel)
def mX12_seatAt : zY := (yX12_seatAt, cX12_seatAt, 2, (some .int), (1, 22), (0, 0, [], fun _ _ => True))
theorem mtX12_seatAt : z_Mth mX12_seatAt 1 := ⟨z_all_in (i := 1556) (by decide +kernel) (by decide +kernel), z_all_in (i := 59) (by decide +kernel) (by decide +kernel), by decide +kernel, by decide +kernel, by decide +kernel⟩
theorem wiX12_seatAt : Cond.instanceMethod mX12_seatAt.1 ∈ z_all := z_all_in (i := 1554) (by decide +kernel) (by decide +kernel)
theorem weX12_seatAt : Cond.selects mX12_seatAt.1.cls mX12_seatAt.1 mX12_seatAt.1 ∈ z_all := z_all_in (i := 1555) (by decide +kernel) (by decide +kernel)
def mX12_writes : zY := (yX12_writes, cX12_writes, 2, none, (0, 0), (0, 0, [], fun _ _ => True))
theorem mtX12_writes : z_Mth mX12_writes 1 := ⟨z_all_in (i := 1568) (by decide +kernel) (by decide +kernel), z_all_in (i := 59) (by decide +kernel) (by decide +kernel), by decide +kernel, by decide +kernel, by decide +kernel⟩
theorem wiX12_writes : Cond.instanceMethod mX12_writes.1 ∈ z_all := z_all_in (i := 1567) (by decide +kernel) (by decide +kernel)
theorem weX12_writes : Cond.selects mX12_writes.1.cls mX12_writes.1 mX12_writes.1 ∈ z_all := z_all_in (i := 35) (by decide +kernel) (by decide +kernel)
def mX12_writesNumber : zY := (yX12_writesNumber, cX12_writesNumber, 2, none, (1, 21), (0, 0, [], fun _ _ => True))
theorem mtX12_writesNumber : z_Mth mX12_writesNumber 1 := ⟨z_all_in (i := 1564) (by decide +kernel) (by decide +kernel), z_all_in (i := 59) (by decide +kernel) (by decide +kernel), by decide +kernel, by decide +kernel, by decide +kernel⟩
theorem wiX12_writesNumber : Cond.instanceMethod mX12_writesNumber.1 ∈ z_all := z_all_in (i := 1563) (by decide +kernel) (by decide +kernel)
theorem weX12_writesNumber : Cond.selects mX12_writesNumber.1.cls mX12_writesNumber.1 mX12_writesNumber.1 ∈ z_all := z_all_in (i := 34) (by decide +kernel) (by decide +kernel)
def mX12_writeBallot : zY := (yX12_writeBallot, cX12_writeBallot, 3, (some .int), (3, 64), (0, 0, [], fun _ _ => True))
theorem mtX12_writeBallot : z_Mth mX12_writeBallot 1 := ⟨z_all_in (i := 1560) (by decide +kernel) (by decide +kernel), z_all_in (i := 59) (by decide +kernel) (by decide +kernel), by decide +kernel, by decide +kernel, by decide +kernel⟩
theorem wiX12_writeBallot : Cond.instanceMethod mX12_writeBallot.1 ∈ z_all := z_all_in (i := 1558) (by decide +kernel) (by decide +kernel)
theorem weX12_writeBallot : Cond.selects mX12_writeBallot.1.cls mX12_writeBallot.1 mX12_writeBallot.1 ∈ z_all := z_all_in (i := 1559) (by decide +kernel) (by decide +kernel)
def mX12_writeCount : zY := (yX12_writeCount, cX12_writeCount, 2, (some .int), (3, 68), (0, 0, [], fun _ _ => True))
theorem mtX12_writeCount : z_Mth mX12_writeCount 0 := ⟨z_all_in (i := 1572) (by decide +kernel) (by decide +kernel), z_all_in (i := 59) (by decide +kernel) (by decide +kernel), by decide +kernel, by decide +kernel, by decide +kernel⟩
theorem wiX12_writeCount : Cond.instanceMethod mX12_writeCount.1 ∈ z_all := z_all_in (i := 1570) (by decide +kernel) (by decide +kernel)
theorem weX12_writeCount : Cond.selects mX12_writeCount.1.cls mX12_writeCount.1 mX12_writeCount.1 ∈ z_all := z_all_in (i := 1571) (by decide +kernel) (by decide +kernel)
def mX12_lineAt : zY := (yX12_lineAt, cX12_lineAt, 2, (some .char), (1, 22), (0, 0, [], fun _ _ => True))
theorem mtX12_lineAt : z_Mth mX12_lineAt 1 := ⟨z_all_in (i := 1576) (by decide +kernel) (by decide +kernel), z_all_in (i := 59) (by decide +kernel) (by decide +kernel), by decide +kernel, by decide +kernel, by decide +kernel⟩
theorem wiX12_lineAt : Cond.instanceMethod mX12_lineAt.1 ∈ z_all := z_all_in (i := 1574) (by decide +kernel) (by decide +kernel)
theorem weX12_lineAt : Cond.selects mX12_lineAt.1.cls mX12_lineAt.1 mX12_lineAt.1 ∈ z_all := z_all_in (i := 1575) (by decide +kernel) (by decide +kernel)
def mX12_meanRanks : zY := (yX12_meanRanks, cX12_meanRanks, 3, (some .double), (1, 22), (0, 0, [], fun _ _ => True))
theorem mtX12_meanRanks : z_Mth mX12_meanRanks 0 := ⟨z_all_in (i := 1580) (by decide +kernel) (by decide +kernel), z_all_in (i := 59) (by decide +kernel) (by decide +kernel), by decide +kernel, by decide +kernel, by decide +kernel⟩
theorem wiX12_meanRanks : Cond.instanceMethod mX12_meanRanks.1 ∈ z_all := z_all_in (i := 1578) (by decide +kernel) (by decide +kernel)
theorem weX12_meanRanks : Cond.selects mX12_meanRanks.1.cls mX12_meanRanks.1 mX12_meanRanks.1 ∈ z_all := z_all_in (i := 1579) (by decide +kernel) (by decide +kernel)
def mX12_isConsistent : zY := (yX12_isConsistent, cX12_isConsistent, 1, (some .boolean), (0, 0), (0, 0, [], fun _ _ => True))
theorem mtX12_isConsistent : z_Mth mX12_isConsistent 0 := ⟨z_all_in (i := 1584) (by decide +kernel) (by decide +kernel), z_all_in (i := 59) (by decide +kernel) (by decide +kernel), by decide +kernel, by decide +kernel, by decide +kernel⟩
theorem wiX12_isConsistent : Cond.instanceMethod mX12_isConsistent.1 ∈ z_all := z_all_in (i := 1582) (by decide +kernel) (by decide +kernel)
theorem weX12_isConsistent : Cond.selects mX12_isConsistent.1.cls mX12_isConsistent.1 mX12_isConsistent.1 ∈ z_all := z_all_in (i := 1583) (by decide +kernel) (by decide +kernel)
def mX12_type : zY := (yX12_type, cX12_type, 2, (some .int), (1, 22), (0, 0, [], fun _ _ => True))
theorem mtX12_type : z_Mth mX12_type 1 := ⟨z_all_in (i := 1588) (by decide +kernel) (by decide +kernel), z_all_in (i := 59) (by decide +kernel) (by decide +kernel), by decide +kernel, by decide +kernel, by decide +kernel⟩
theorem wiX12_type : Cond.instanceMethod mX12_type.1 ∈ z_all := z_all_in (i := 1586) (by decide +kernel) (by decide +kernel)
theorem weX12_type : Cond.selects mX12_type.1.cls mX12_type.1 mX12_type.1 ∈ z_all := z_all_in (i := 1587) (by decide +kernel) (by decide +kernel)
def mX12_here : zY := (yX12_here, cX12_here, 1, (some .int), (0, 0), (0, 0, [], fun _ _ => True))
theorem mtX12_here : z_Mth mX12_here 0 := ⟨z_all_in (i := 1608) (by decide +kernel) (by decide +kernel), z_all_in (i := 59) (by decide +kernel) (by decide +kernel), by decide +kernel, by decide +kernel, by decide +kernel⟩
theorem wiX12_here : Cond.instanceMethod mX12_here.1 ∈ z_all := z_all_in (i := 1607) (by decide +kernel) (by decide +kernel)
theorem weX12_here : Cond.selects mX12_here.1.cls mX12_here.1 mX12_here.1 ∈ z_all := z_all_in (i := 39) (by decide +kernel) (by decide +kernel)
def mX12_skips : zY := (yX12_skips, cX12_skips, 2, (some .boolean), (1, 20), (0, 0, [], fun _ _ => True))
theorem mtX12_skips : z_Mth mX12_skips 1 := ⟨z_all_in (i := 1604) (by decide +kernel) (by decide +kernel), z_all_in (i := 59) (by decide +kernel) (by decide +kernel), by decide +kernel, by decide +kernel, by decide +kernel⟩
theorem wiX12_skips : Cond.instanceMethod mX12_skips.1 ∈ z_all := z_all_in (i := 1603) (by decide +kernel) (by decide +kernel)
theorem weX12_skips : Cond.selects mX12_skips.1.cls mX12_skips.1 mX12_skips.1 ∈ z_all := z_all_in (i := 38) (by decide +kernel) (by decide +kernel)
def mX12_isWord : zY := (yX12_isWord, cX12_isWord, 4, (some .boolean), (5, 106), (0, 0, [], fun _ _ => True))
theorem mtX12_isWord : z_Mth mX12_isWord 2 := ⟨z_all_in (i := 1613) (by decide +kernel) (by decide +kernel), z_all_in (i := 59) (by decide +kernel) (by decide +kernel), by decide +kernel, by decide +kernel, by decide +kernel⟩
theorem wiX12_isWord : Cond.instanceMethod mX12_isWord.1 ∈ z_all := z_all_in (i := 1612) (by decide +kernel) (by decide +kernel)
theorem weX12_isWord : Cond.selects mX12_isWord.1.cls mX12_isWord.1 mX12_isWord.1 ∈ z_all := z_all_in (i := 40) (by decide +kernel) (by decide +kernel)
def mX12_digits : zY := (yX12_digits, cX12_digits, 4, (some .boolean), (1, 22), (0, 0, [], fun _ _ => True))
theorem mtX12_digits : z_Mth mX12_digits 2 := ⟨z_all_in (i := 1623) (by decide +kernel) (by decide +kernel), z_all_in (i := 59) (by decide +kernel) (by decide +kernel), by decide +kernel, by decide +kernel, by decide +kernel⟩
theorem wiX12_digits : Cond.instanceMethod mX12_digits.1 ∈ z_all := z_all_in (i := 1622) (by decide +kernel) (by decide +kernel)
theorem weX12_digits : Cond.selects mX12_digits.1.cls mX12_digits.1 mX12_digits.1 ∈ z_all := z_all_in (i := 42) (by decide +kernel) (by decide +kernel)
def mX12_figures : zY := (yX12_figures, cX12_figures, 3, (some .boolean), (2, 45), (0, 0, [], fun _ _ => True))
theorem mtX12_figures : z_Mth mX12_figures 2 := ⟨z_all_in (i := 1619) (by decide +kernel) (by decide +kernel), z_all_in (i := 59) (by decide +kernel) (by decide +kernel), by decide +kernel, by decide +kernel, by decide +kernel⟩
theorem wiX12_figures : Cond.instanceMethod mX12_figures.1 ∈ z_all := z_all_in (i := 1618) (by decide +kernel) (by decide +kernel)
theorem weX12_figures : Cond.selects mX12_figures.1.cls mX12_figures.1 mX12_figures.1 ∈ z_all := z_all_in (i := 41) (by decide +kernel) (by decide +kernel)
def mX12_windsHere : zY := (yX12_windsHere, cX12_windsHere, 2, (some .boolean), (2, 41), (0, 0, [], fun _ _ => True))
theorem mtX12_windsHere : z_Mth mX12_windsHere 1 := ⟨z_all_in (i := 1627) (by decide +kernel) (by decide +kernel), z_all_in (i := 59) (by decide +kernel) (by decide +kernel), by decide +kernel, by decide +kernel, by decide +kernel⟩
theorem wiX12_windsHere : Cond.instanceMethod mX12_windsHere.1 ∈ z_all := z_all_in (i := 1626) (by decide +kernel) (by decide +kernel)
theorem weX12_windsHere : Cond.selects mX12_windsHere.1.cls mX12_windsHere.1 mX12_windsHere.1 ∈ z_all := z_all_in (i := 43) (by decide +kernel) (by decide +kernel)
def mX12_withR : zY := (yX12_withR, cX12_withR, 2, (some .boolean), (6, 129), (0, 0, [], fun _ _ => True))
theorem mtX12_withR : z_Mth mX12_withR 1 := ⟨z_all_in (i := 1633) (by decide +kernel) (by decide +kernel), z_all_in (i := 59) (by decide +kernel) (by decide +kernel), by decide +kernel, by decide +kernel, by decide +kernel⟩
theorem wiX12_withR : Cond.instanceMethod mX12_withR.1 ∈ z_all := z_all_in (i := 1632) (by decide +kernel) (by decide +kernel)
theorem weX12_withR : Cond.selects mX12_withR.1.cls mX12_withR.1 mX12_withR.1 ∈ z_all := z_all_in (i := 44) (by decide +kernel) (by decide +kernel)
def mX12_commandHere : zY := (yX12_commandHere, cX12_commandHere, 2, (some .boolean), (7, 150), (0, 0, [], fun _ _ => True))
theorem mtX12_commandHere : z_Mth mX12_commandHere 0 := ⟨z_all_in (i := 1600) (by decide +kernel) (by decide +kernel), z_all_in (i := 59) (by decide +kernel) (by decide +kernel), by decide +kernel, by decide +kernel, by decide +kernel⟩
theorem wiX12_commandHere : Cond.instanceMethod mX12_commandHere.1 ∈ z_all := z_all_in (i := 1599) (by decide +kernel) (by decide +kernel)
theorem weX12_commandHere : Cond.selects mX12_commandHere.1.cls mX12_commandHere.1 mX12_commandHere.1 ∈ z_all := z_all_in (i := 37) (by decide +kernel) (by decide +kernel)
def mX12_isText : zY := (yX12_isText, cX12_isText, 1, (some .boolean), (8, 171), (0, 0, [], fun _ _ => True))
theorem mtX12_isText : z_Mth mX12_isText 0 := ⟨z_all_in (i := 1596) (by decide +kernel) (by decide +kernel), z_all_in (i := 59) (by decide +kernel) (by decide +kernel), by decide +kernel, by decide +kernel, by decide +kernel⟩
theorem wiX12_isText : Cond.instanceMethod mX12_isText.1 ∈ z_all := z_all_in (i := 1595) (by decide +kernel) (by decide +kernel)
theorem weX12_isText : Cond.selects mX12_isText.1.cls mX12_isText.1 mX12_isText.1 ∈ z_all := z_all_in (i := 36) (by decide +kernel) (by decide +kernel)
def mX12_fills : zY := (yX12_fills, cX12_fills, 4, (some .int), (3, 70), (0, 0, [], fun _ _ => True))
theorem mtX12_fills : z_Mth mX12_fills 1 := ⟨z_all_in (i := 1648) (by decide +kernel) (by decide +kernel), z_all_in (i := 59) (by decide +kernel) (by decide +kernel), by decide +kernel, by decide +kernel, by decide +kernel⟩
theorem wiX12_fills : Cond.instanceMethod mX12_fills.1 ∈ z_all := z_all_in (i := 1647) (by decide +kernel) (by decide +kernel)
theorem weX12_fills : Cond.selects mX12_fills.1.cls mX12_fills.1 mX12_fills.1 ∈ z_all := z_all_in (i := 46) (by decide +kernel) (by decide +kernel)
def mX12_carries : zY := (yX12_carries, cX12_carries, 4, (some .int), (5, 109), (0, 0, [], fun _ _ => True))
theorem mtX12_carries : z_Mth mX12_carries 1 := ⟨z_all_in (i := 1642) (by decide +kernel) (by decide +kernel), z_all_in (i := 59) (by decide +kernel) (by decide +kernel), by decide +kernel, by decide +kernel, by decide +kernel⟩
theorem wiX12_carries : Cond.instanceMethod mX12_carries.1 ∈ z_all := z_all_in (i := 1641) (by decide +kernel) (by decide +kernel)
theorem weX12_carries : Cond.selects mX12_carries.1.cls mX12_carries.1 mX12_carries.1 ∈ z_all := z_all_in (i := 45) (by decide +kernel) (by decide +kernel)
def mX12_execute : zY := (yX12_execute, cX12_execute, 4, (some .int), (9, 191), (0, 0, [], fun _ _ => True))
theorem mtX12_execute : z_Mth mX12_execute 0 := ⟨z_all_in (i := 1592) (by decide +kernel) (by decide +kernel), z_all_in (i := 59) (by decide +kernel) (by decide +kernel), by decide +kernel, by decide +kernel, by decide +kernel⟩
theorem wiX12_execute : Cond.instanceMethod mX12_execute.1 ∈ z_all := z_all_in (i := 1590) (by decide +kernel) (by decide +kernel)
theorem weX12_execute : Cond.selects mX12_execute.1.cls mX12_execute.1 mX12_execute.1 ∈ z_all := z_all_in (i := 1591) (by decide +kernel) (by decide +kernel)
def mX12_errorPosition : zY := (yX12_errorPosition, cX12_errorPosition, 1, (some .int), (1, 21), (0, 0, [], fun _ _ => True))
theorem mtX12_errorPosition : z_Mth mX12_errorPosition 0 := ⟨z_all_in (i := 1658) (by decide +kernel) (by decide +kernel), z_all_in (i := 59) (by decide +kernel) (by decide +kernel), by decide +kernel, by decide +kernel, by decide +kernel⟩
theorem wiX12_errorPosition : Cond.instanceMethod mX12_errorPosition.1 ∈ z_all := z_all_in (i := 1656) (by decide +kernel) (by decide +kernel)
theorem weX12_errorPosition : Cond.selects mX12_errorPosition.1.cls mX12_errorPosition.1 mX12_errorPosition.1 ∈ z_all := z_all_in (i := 1657) (by decide +kernel) (by decide +kernel)
def mX12_failedCommand : zY := (yX12_failedCommand, cX12_failedCommand, 1, (some .int), (1, 21), (0, 0, [], fun _ _ => True))
theorem mtX12_failedCommand : z_Mth mX12_failedCommand 0 := ⟨z_all_in (i := 1662) (by decide +kernel) (by decide +kernel), z_all_in (i := 59) (by decide +kernel) (by decide +kernel), by decide +kernel, by decide +kernel, by decide +kernel⟩
theorem wiX12_failedCommand : Cond.instanceMethod mX12_failedCommand.1 ∈ z_all := z_all_in (i := 1660) (by decide +kernel) (by decide +kernel)
theorem weX12_failedCommand : Cond.selects mX12_failedCommand.1.cls mX12_failedCommand.1 mX12_failedCommand.1 ∈ z_all := z_all_in (i := 1661) (by decide +kernel) (by decide +kernel)
def mX12_undo : zY := (yX12_undo, cX12_undo, 1, (some .int), (1, 24), (0, 0, [], fun _ _ => True))
theorem mtX12_undo : z_Mth mX12_undo 0 := ⟨z_all_in (i := 1666) (by decide +kernel) (by decide +kernel), z_all_in (i := 59) (by decide +kernel) (by decide +kernel), by decide +kernel, by decide +kernel, by decide +kernel⟩
theorem wiX12_undo : Cond.instanceMethod mX12_undo.1 ∈ z_all := z_all_in (i := 1664) (by decide +kernel) (by decide +kernel)
theorem weX12_undo : Cond.selects mX12_undo.1.cls mX12_undo.1 mX12_undo.1 ∈ z_all := z_all_in (i := 1665) (by decide +kernel) (by decide +kernel)
def mX12_save : zY := (yX12_save, cX12_save, 1, (some .int), (1, 24), (0, 0, [], fun _ _ => True))
theorem mtX12_save : z_Mth mX12_save 0 := ⟨z_all_in (i := 1670) (by decide +kernel) (by decide +kernel), z_all_in (i := 59) (by decide +kernel) (by decide +kernel), by decide +kernel, by decide +kernel, by decide +kernel⟩
theorem wiX12_save : Cond.instanceMethod mX12_save.1 ∈ z_all := z_all_in (i := 1668) (by decide +kernel) (by decide +kernel)
theorem weX12_save : Cond.selects mX12_save.1.cls mX12_save.1 mX12_save.1 ∈ z_all := z_all_in (i := 1669) (by decide +kernel) (by decide +kernel)
def mX12_restore : zY := (yX12_restore, cX12_restore, 1, (some .int), (1, 24), (0, 0, [], fun _ _ => True))
theorem mtX12_restore : z_Mth mX12_restore 0 := ⟨z_all_in (i := 1674) (by decide +kernel) (by decide +kernel), z_all_in (i := 59) (by decide +kernel) (by decide +kernel), by decide +kernel, by decide +kernel, by decide +kernel⟩
theorem wiX12_restore : Cond.instanceMethod mX12_restore.1 ∈ z_all := z_all_in (i := 1672) (by decide +kernel) (by decide +kernel)
theorem weX12_restore : Cond.selects mX12_restore.1.cls mX12_restore.1 mX12_restore.1 ∈ z_all := z_all_in (i := 1673) (by decide +kernel) (by decide +kernel)
def mX1_init : zY := (yX1_init, cX1_init, 2, none, (2, 36), (43, 196, [], fun _ _ => True))
theorem mtX1_init : z_Mth mX1_init 0 := ⟨z_all_in (i := 89) (by decide +kernel) (by decide +kernel), z_all_in (i := 49) (by decide +kernel) (by decide +kernel), by decide +kernel, by decide +kernel, by decide +kernel⟩
theorem wiX1_init : Cond.instanceMethod mX1_init.1 ∈ z_all := z_all_in (i := 88) (by decide +kernel) (by decide +kernel)
def mX1_copyFrom : zY := (yX1_copyFrom, cX1_copyFrom, 3, none, (2, 321), (0, 0, [], fun _ _ => True))
theorem mtX1_copyFrom : z_Mth mX1_copyFrom 1 := ⟨z_all_in (i := 422) (by decide +kernel) (by decide +kernel), z_all_in (i := 49) (by decide +kernel) (by decide +kernel), by decide +kernel, by decide +kernel, by decide +kernel⟩
theorem wiX1_copyFrom : Cond.instanceMethod mX1_copyFrom.1 ∈ z_all := z_all_in (i := 420) (by decide +kernel) (by decide +kernel)
theorem weX1_copyFrom : Cond.selects mX1_copyFrom.1.cls mX1_copyFrom.1 mX1_copyFrom.1 ∈ z_all := z_all_in (i := 421) (by decide +kernel) (by decide +kernel)
def mX1_hasWind : zY := (yX1_hasWind, cX1_hasWind, 2, (some .boolean), (0, 0), (0, 0, [], fun _ _ => True))
theorem mtX1_hasWind : z_Mth mX1_hasWind 1 := ⟨z_all_in (i := 371) (by decide +kernel) (by decide +kernel), z_all_in (i := 49) (by decide +kernel) (by decide +kernel), by decide +kernel, by decide +kernel, by decide +kernel⟩
theorem wiX1_hasWind : Cond.instanceMethod mX1_hasWind.1 ∈ z_all := z_all_in (i := 369) (by decide +kernel) (by decide +kernel)
theorem weX1_hasWind : Cond.selects mX1_hasWind.1.cls mX1_hasWind.1 mX1_hasWind.1 ∈ z_all := z_all_in (i := 370) (by decide +kernel) (by decide +kernel)
def mX1_hasBallot : zY := (yX1_hasBallot, cX1_hasBallot, 2, (some .boolean), (0, 0), (0, 0, [], fun _ _ => True))
theorem mtX1_hasBallot : z_Mth mX1_hasBallot 1 := ⟨z_all_in (i := 772) (by decide +kernel) (by decide +kernel), z_all_in (i := 49) (by decide +kernel) (by decide +kernel), by decide +kernel, by decide +kernel, by decide +kernel⟩
theorem wiX1_hasBallot : Cond.instanceMethod mX1_hasBallot.1 ∈ z_all := z_all_in (i := 770) (by decide +kernel) (by decide +kernel)
theorem weX1_hasBallot : Cond.selects mX1_hasBallot.1.cls mX1_hasBallot.1 mX1_hasBallot.1 ∈ z_all := z_all_in (i := 771) (by decide +kernel) (by decide +kernel)
def mX1_putWind : zY := (yX1_putWind, cX1_putWind, 1, (some (.object "WindElection$Fault")), (0, 0), (0, 0, [], fun _ _ => True))
theorem mtX1_putWind : z_Mth mX1_putWind 0 := ⟨z_all_in (i := 676) (by decide +kernel) (by decide +kernel), z_all_in (i := 49) (by decide +kernel) (by decide +kernel), by decide +kernel, by decide +kernel, by decide +kernel⟩
theorem wiX1_putWind : Cond.instanceMethod mX1_putWind.1 ∈ z_all := z_all_in (i := 674) (by decide +kernel) (by decide +kernel)
theorem weX1_putWind : Cond.selects mX1_putWind.1.cls mX1_putWind.1 mX1_putWind.1 ∈ z_all := z_all_in (i := 675) (by decide +kernel) (by decide +kernel)
def mX1_letGo : zY := (yX1_letGo, cX1_letGo, 2, (some (.object "WindElection$Fault")), (1, 21), (0, 0, [], fun _ _ => True))
theorem mtX1_letGo : z_Mth mX1_letGo 1 := ⟨z_all_in (i := 710) (by decide +kernel) (by decide +kernel), z_all_in (i := 49) (by decide +kernel) (by decide +kernel), by decide +kernel, by decide +kernel, by decide +kernel⟩
theorem wiX1_letGo : Cond.instanceMethod mX1_letGo.1 ∈ z_all := z_all_in (i := 708) (by decide +kernel) (by decide +kernel)
theorem weX1_letGo : Cond.selects mX1_letGo.1.cls mX1_letGo.1 mX1_letGo.1 ∈ z_all := z_all_in (i := 709) (by decide +kernel) (by decide +kernel)
def mX1_putBallot : zY := (yX1_putBallot, cX1_putBallot, 3, (some (.object "WindElection$Fault")), (1, 22), (0, 0, [], fun _ _ => True))
theorem mtX1_putBallot : z_Mth mX1_putBallot 2 := ⟨z_all_in (i := 746) (by decide +kernel) (by decide +kernel), z_all_in (i := 49) (by decide +kernel) (by decide +kernel), by decide +kernel, by decide +kernel, by decide +kernel⟩
theorem wiX1_putBallot : Cond.instanceMethod mX1_putBallot.1 ∈ z_all := z_all_in (i := 744) (by decide +kernel) (by decide +kernel)
theorem weX1_putBallot : Cond.selects mX1_putBallot.1.cls mX1_putBallot.1 mX1_putBallot.1 ∈ z_all := z_all_in (i := 745) (by decide +kernel) (by decide +kernel)
def mX1_extendBallot : zY := (yX1_extendBallot, cX1_extendBallot, 3, (some (.object "WindElection$Fault")), (1, 22), (0, 0, [], fun _ _ => True))
theorem mtX1_extendBallot : z_Mth mX1_extendBallot 2 := ⟨z_all_in (i := 768) (by decide +kernel) (by decide +kernel), z_all_in (i := 49) (by decide +kernel) (by decide +kernel), by decide +kernel, by decide +kernel, by decide +kernel⟩
theorem wiX1_extendBallot : Cond.instanceMethod mX1_extendBallot.1 ∈ z_all := z_all_in (i := 766) (by decide +kernel) (by decide +kernel)
theorem weX1_extendBallot : Cond.selects mX1_extendBallot.1.cls mX1_extendBallot.1 mX1_extendBallot.1 ∈ z_all := z_all_in (i := 767) (by decide +kernel) (by decide +kernel)
def mX1_dropBallot : zY := (yX1_dropBallot, cX1_dropBallot, 4, (some (.object "WindElection$Fault")), (1, 21), (0, 0, [], fun _ _ => True))
theorem mtX1_dropBallot : z_Mth mX1_dropBallot 1 := ⟨z_all_in (i := 799) (by decide +kernel) (by decide +kernel), z_all_in (i := 49) (by decide +kernel) (by decide +kernel), by decide +kernel, by decide +kernel, by decide +kernel⟩
theorem wiX1_dropBallot : Cond.instanceMethod mX1_dropBallot.1 ∈ z_all := z_all_in (i := 797) (by decide +kernel) (by decide +kernel)
theorem weX1_dropBallot : Cond.selects mX1_dropBallot.1.cls mX1_dropBallot.1 mX1_dropBallot.1 ∈ z_all := z_all_in (i := 798) (by decide +kernel) (by decide +kernel)
def mX1_reweigh : zY := (yX1_reweigh, cX1_reweigh, 3, (some (.object "WindElection$Fault")), (1, 21), (0, 0, [], fun _ _ => True))
theorem mtX1_reweigh : z_Mth mX1_reweigh 2 := ⟨z_all_in (i := 810) (by decide +kernel) (by decide +kernel), z_all_in (i := 49) (by decide +kernel) (by decide +kernel), by decide +kernel, by decide +kernel, by decide +kernel⟩
theorem wiX1_reweigh : Cond.instanceMethod mX1_reweigh.1 ∈ z_all := z_all_in (i := 808) (by decide +kernel) (by decide +kernel)
theorem weX1_reweigh : Cond.selects mX1_reweigh.1.cls mX1_reweigh.1 mX1_reweigh.1 ∈ z_all := z_all_in (i := 809) (by decide +kernel) (by decide +kernel)
def mX1_turnSpinner : zY := (yX1_turnSpinner, cX1_turnSpinner, 1, (some (.object "WindElection$Fault")), (1, 20), (0, 0, [], fun _ _ => True))
theorem mtX1_turnSpinner : z_Mth mX1_turnSpinner 0 := ⟨z_all_in (i := 433) (by decide +kernel) (by decide +kernel), z_all_in (i := 49) (by decide +kernel) (by decide +kernel), by decide +kernel, by decide +kernel, by decide +kernel⟩
theorem wiX1_turnSpinner : Cond.instanceMethod mX1_turnSpinner.1 ∈ z_all := z_all_in (i := 431) (by decide +kernel) (by decide +kernel)
theorem weX1_turnSpinner : Cond.selects mX1_turnSpinner.1.cls mX1_turnSpinner.1 mX1_turnSpinner.1 ∈ z_all := z_all_in (i := 432) (by decide +kernel) (by decide +kernel)
def mX1_giveSeat : zY := (yX1_giveSeat, cX1_giveSeat, 2, none, (0, 0), (0, 0, [], fun _ _ => True))
theorem mtX1_giveSeat : z_Mth mX1_giveSeat 1 := ⟨z_all_in (i := 1011) (by decide +kernel) (by decide +kernel), z_all_in (i := 49) (by decide +kernel) (by decide +kernel), by decide +kernel, by decide +kernel, by decide +kernel⟩
theorem wiX1_giveSeat : Cond.instanceMethod mX1_giveSeat.1 ∈ z_all := z_all_in (i := 1009) (by decide +kernel) (by decide +kernel)
theorem weX1_giveSeat : Cond.selects mX1_giveSeat.1.cls mX1_giveSeat.1 mX1_giveSeat.1 ∈ z_all := z_all_in (i := 1010) (by decide +kernel) (by decide +kernel)
def mX1_isWeight : zY := (yX1_isWeight, cX1_isWeight, 1, (some .boolean), (0, 0), (0, 0, [], fun _ _ => True))
theorem mtX1_isWeight : z_Mth mX1_isWeight 1 := ⟨z_all_in (i := 749) (by decide +kernel) (by decide +kernel), z_all_in (i := 49) (by decide +kernel) (by decide +kernel), by decide +kernel, by decide +kernel, by decide +kernel⟩
theorem wtX1_isWeight : Cond.static mX1_isWeight.1 ∈ z_all := z_all_in (i := 748) (by decide +kernel) (by decide +kernel)
def mX1_standingWinds : zY := (yX1_standingWinds, cX1_standingWinds, 3, (some .int), (0, 0), (0, 0, [], fun _ _ => True))
theorem mtX1_standingWinds : z_Mth mX1_standingWinds 0 := ⟨z_all_in (i := 342) (by decide +kernel) (by decide +kernel), z_all_in (i := 49) (by decide +kernel) (by decide +kernel), by decide +kernel, by decide +kernel, by decide +kernel⟩
theorem wiX1_standingWinds : Cond.instanceMethod mX1_standingWinds.1 ∈ z_all := z_all_in (i := 340) (by decide +kernel) (by decide +kernel)
theorem weX1_standingWinds : Cond.selects mX1_standingWinds.1.cls mX1_standingWinds.1 mX1_standingWinds.1 ∈ z_all := z_all_in (i := 341) (by decide +kernel) (by decide +kernel)
def mX1_windInSeat : zY := (yX1_windInSeat, cX1_windInSeat, 3, (some .int), (0, 0), (0, 0, [], fun _ _ => True))
theorem mtX1_windInSeat : z_Mth mX1_windInSeat 1 := ⟨z_all_in (i := 1023) (by decide +kernel) (by decide +kernel), z_all_in (i := 49) (by decide +kernel) (by decide +kernel), by decide +kernel, by decide +kernel, by decide +kernel⟩
theorem wiX1_windInSeat : Cond.instanceMethod mX1_windInSeat.1 ∈ z_all := z_all_in (i := 1021) (by decide +kernel) (by decide +kernel)
theorem weX1_windInSeat : Cond.selects mX1_windInSeat.1.cls mX1_windInSeat.1 mX1_windInSeat.1 ∈ z_all := z_all_in (i := 1022) (by decide +kernel) (by decide +kernel)
def mX1_weightOfAll : zY := (yX1_weightOfAll, cX1_weightOfAll, 3, (some .int), (0, 0), (0, 0, [], fun _ _ => True))
theorem mtX1_weightOfAll : z_Mth mX1_weightOfAll 0 := ⟨z_all_in (i := 354) (by decide +kernel) (by decide +kernel), z_all_in (i := 49) (by decide +kernel) (by decide +kernel), by decide +kernel, by decide +kernel, by decide +kernel⟩
theorem wiX1_weightOfAll : Cond.instanceMethod mX1_weightOfAll.1 ∈ z_all := z_all_in (i := 352) (by decide +kernel) (by decide +kernel)
theorem weX1_weightOfAll : Cond.selects mX1_weightOfAll.1.cls mX1_weightOfAll.1 mX1_weightOfAll.1 ∈ z_all := z_all_in (i := 353) (by decide +kernel) (by decide +kernel)
def mX1_ranksOfAll : zY := (yX1_ranksOfAll, cX1_ranksOfAll, 3, (some .int), (0, 0), (0, 0, [], fun _ _ => True))
theorem mtX1_ranksOfAll : z_Mth mX1_ranksOfAll 0 := ⟨z_all_in (i := 1050) (by decide +kernel) (by decide +kernel), z_all_in (i := 49) (by decide +kernel) (by decide +kernel), by decide +kernel, by decide +kernel, by decide +kernel⟩
theorem wiX1_ranksOfAll : Cond.instanceMethod mX1_ranksOfAll.1 ∈ z_all := z_all_in (i := 1048) (by decide +kernel) (by decide +kernel)
theorem weX1_ranksOfAll : Cond.selects mX1_ranksOfAll.1.cls mX1_ranksOfAll.1 mX1_ranksOfAll.1 ∈ z_all := z_all_in (i := 1049) (by decide +kernel) (by decide +kernel)
def mX1_weightPreferring : zY := (yX1_weightPreferring, cX1_weightPreferring, 5, (some .int), (2, 46), (0, 0, [], fun _ _ => True))
theorem mtX1_weightPreferring : z_Mth mX1_weightPreferring 2 := ⟨z_all_in (i := 643) (by decide +kernel) (by decide +kernel), z_all_in (i := 49) (by decide +kernel) (by decide +kernel), by decide +kernel, by decide +kernel, by decide +kernel⟩
theorem wiX1_weightPreferring : Cond.instanceMethod mX1_weightPreferring.1 ∈ z_all := z_all_in (i := 641) (by decide +kernel) (by decide +kernel)
theorem weX1_weightPreferring : Cond.selects mX1_weightPreferring.1.cls mX1_weightPreferring.1 mX1_weightPreferring.1 ∈ z_all := z_all_in (i := 642) (by decide +kernel) (by decide +kernel)
def mX1_isStronger : zY := (yX1_isStronger, cX1_isStronger, 3, (some .boolean), (3, 70), (0, 0, [], fun _ _ => True))
theorem mtX1_isStronger : z_Mth mX1_isStronger 2 := ⟨z_all_in (i := 639) (by decide +kernel) (by decide +kernel), z_all_in (i := 49) (by decide +kernel) (by decide +kernel), by decide +kernel, by decide +kernel, by decide +kernel⟩
theorem wiX1_isStronger : Cond.instanceMethod mX1_isStronger.1 ∈ z_all := z_all_in (i := 637) (by decide +kernel) (by decide +kernel)
theorem weX1_isStronger : Cond.selects mX1_isStronger.1.cls mX1_isStronger.1 mX1_isStronger.1 ∈ z_all := z_all_in (i := 638) (by decide +kernel) (by decide +kernel)
def mX1_standingWindsBeatenBy : zY := (yX1_standingWindsBeatenBy, cX1_standingWindsBeatenBy, 4, (some .int), (4, 92), (0, 0, [], fun _ _ => True))
theorem mtX1_standingWindsBeatenBy : z_Mth mX1_standingWindsBeatenBy 1 := ⟨z_all_in (i := 635) (by decide +kernel) (by decide +kernel), z_all_in (i := 49) (by decide +kernel) (by decide +kernel), by decide +kernel, by decide +kernel, by decide +kernel⟩
theorem wiX1_standingWindsBeatenBy : Cond.instanceMethod mX1_standingWindsBeatenBy.1 ∈ z_all := z_all_in (i := 633) (by decide +kernel) (by decide +kernel)
theorem weX1_standingWindsBeatenBy : Cond.selects mX1_standingWindsBeatenBy.1.cls mX1_standingWindsBeatenBy.1 mX1_standingWindsBeatenBy.1 ∈ z_all := z_all_in (i := 634) (by decide +kernel) (by decide +kernel)
def mX1_championAmongPairs : zY := (yX1_championAmongPairs, cX1_championAmongPairs, 3, (some .int), (5, 115), (0, 0, [], fun _ _ => True))
theorem mtX1_championAmongPairs : z_Mth mX1_championAmongPairs 0 := ⟨z_all_in (i := 630) (by decide +kernel) (by decide +kernel), z_all_in (i := 49) (by decide +kernel) (by decide +kernel), by decide +kernel, by decide +kernel, by decide +kernel⟩
theorem wiX1_championAmongPairs : Cond.instanceMethod mX1_championAmongPairs.1 ∈ z_all := z_all_in (i := 628) (by decide +kernel) (by decide +kernel)
theorem weX1_championAmongPairs : Cond.selects mX1_championAmongPairs.1.cls mX1_championAmongPairs.1 mX1_championAmongPairs.1 ∈ z_all := z_all_in (i := 629) (by decide +kernel) (by decide +kernel)
def mX1_championAfterDuels : zY := (yX1_championAfterDuels, cX1_championAfterDuels, 3, (some .int), (5, 115), (0, 0, [], fun _ _ => True))
theorem mtX1_championAfterDuels : z_Mth mX1_championAfterDuels 0 := ⟨z_all_in (i := 655) (by decide +kernel) (by decide +kernel), z_all_in (i := 49) (by decide +kernel) (by decide +kernel), by decide +kernel, by decide +kernel, by decide +kernel⟩
theorem wiX1_championAfterDuels : Cond.instanceMethod mX1_championAfterDuels.1 ∈ z_all := z_all_in (i := 653) (by decide +kernel) (by decide +kernel)
theorem weX1_championAfterDuels : Cond.selects mX1_championAfterDuels.1.cls mX1_championAfterDuels.1 mX1_championAfterDuels.1 ∈ z_all := z_all_in (i := 654) (by decide +kernel) (by decide +kernel)
def mX1_scoreFor : zY := (yX1_scoreFor, cX1_scoreFor, 5, (some .int), (1, 22), (0, 0, [], fun _ _ => True))
theorem mtX1_scoreFor : z_Mth mX1_scoreFor 1 := ⟨z_all_in (i := 983) (by decide +kernel) (by decide +kernel), z_all_in (i := 49) (by decide +kernel) (by decide +kernel), by decide +kernel, by decide +kernel, by decide +kernel⟩
theorem wiX1_scoreFor : Cond.instanceMethod mX1_scoreFor.1 ∈ z_all := z_all_in (i := 981) (by decide +kernel) (by decide +kernel)
theorem weX1_scoreFor : Cond.selects mX1_scoreFor.1.cls mX1_scoreFor.1 mX1_scoreFor.1 ∈ z_all := z_all_in (i := 982) (by decide +kernel) (by decide +kernel)
def mX2_init : zY := (yX2_init, cX2_init, 1, none, (1, 16), (1, 5, [], fun _ _ => True))
theorem mtX2_init : z_Mth mX2_init 0 := ⟨z_all_in (i := 96) (by decide +kernel) (by decide +kernel), z_all_in (i := 50) (by decide +kernel) (by decide +kernel), by decide +kernel, by decide +kernel, by decide +kernel⟩
theorem wiX2_init : Cond.instanceMethod mX2_init.1 ∈ z_all := z_all_in (i := 95) (by decide +kernel) (by decide +kernel)
def mX2_start : zY := (yX2_start, cX2_start, 3, none, (0, 0), (0, 0, [], fun _ _ => True))
theorem mtX2_start : z_Mth mX2_start 2 := ⟨z_all_in (i := 757) (by decide +kernel) (by decide +kernel), z_all_in (i := 50) (by decide +kernel) (by decide +kernel), by decide +kernel, by decide +kernel, by decide +kernel⟩
theorem wiX2_start : Cond.instanceMethod mX2_start.1 ∈ z_all := z_all_in (i := 755) (by decide +kernel) (by decide +kernel)
theorem weX2_start : Cond.selects mX2_start.1.cls mX2_start.1 mX2_start.1 ∈ z_all := z_all_in (i := 756) (by decide +kernel) (by decide +kernel)
def mX2_append : zY := (yX2_append, cX2_append, 2, (some .boolean), (0, 0), (0, 0, [], fun _ _ => True))
theorem mtX2_append : z_Mth mX2_append 1 := ⟨z_all_in (i := 781) (by decide +kernel) (by decide +kernel), z_all_in (i := 50) (by decide +kernel) (by decide +kernel), by decide +kernel, by decide +kernel, by decide +kernel⟩
theorem wiX2_append : Cond.instanceMethod mX2_append.1 ∈ z_all := z_all_in (i := 779) (by decide +kernel) (by decide +kernel)
theorem weX2_append : Cond.selects mX2_append.1.cls mX2_append.1 mX2_append.1 ∈ z_all := z_all_in (i := 780) (by decide +kernel) (by decide +kernel)
def mX2_placeOf : zY := (yX2_placeOf, cX2_placeOf, 3, (some .int), (0, 0), (0, 0, [], fun _ _ => True))
theorem mtX2_placeOf : z_Mth mX2_placeOf 1 := ⟨z_all_in (i := 651) (by decide +kernel) (by decide +kernel), z_all_in (i := 50) (by decide +kernel) (by decide +kernel), by decide +kernel, by decide +kernel, by decide +kernel⟩
theorem wiX2_placeOf : Cond.instanceMethod mX2_placeOf.1 ∈ z_all := z_all_in (i := 649) (by decide +kernel) (by decide +kernel)
theorem weX2_placeOf : Cond.selects mX2_placeOf.1.cls mX2_placeOf.1 mX2_placeOf.1 ∈ z_all := z_all_in (i := 650) (by decide +kernel) (by decide +kernel)
def mX2_prefers : zY := (yX2_prefers, cX2_prefers, 5, (some .boolean), (1, 22), (0, 0, [], fun _ _ => True))
theorem mtX2_prefers : z_Mth mX2_prefers 2 := ⟨z_all_in (i := 647) (by decide +kernel) (by decide +kernel), z_all_in (i := 50) (by decide +kernel) (by decide +kernel), by decide +kernel, by decide +kernel, by decide +kernel⟩
theorem wiX2_prefers : Cond.instanceMethod mX2_prefers.1 ∈ z_all := z_all_in (i := 645) (by decide +kernel) (by decide +kernel)
theorem weX2_prefers : Cond.selects mX2_prefers.1.cls mX2_prefers.1 mX2_prefers.1 ∈ z_all := z_all_in (i := 646) (by decide +kernel) (by decide +kernel)
def mX2_copyFrom : zY := (yX2_copyFrom, cX2_copyFrom, 2, none, (1, 300), (0, 0, [], fun _ _ => True))
theorem mtX2_copyFrom : z_Mth mX2_copyFrom 1 := ⟨z_all_in (i := 426) (by decide +kernel) (by decide +kernel), z_all_in (i := 50) (by decide +kernel) (by decide +kernel), by decide +kernel, by decide +kernel, by decide +kernel⟩
theorem wiX2_copyFrom : Cond.instanceMethod mX2_copyFrom.1 ∈ z_all := z_all_in (i := 424) (by decide +kernel) (by decide +kernel)
theorem weX2_copyFrom : Cond.selects mX2_copyFrom.1.cls mX2_copyFrom.1 mX2_copyFrom.1 ∈ z_all := z_all_in (i := 425) (by decide +kernel) (by decide +kernel)
def mX3_init : zY := (yX3_init, cX3_init, 2, none, (2, 36), (17, 112, [], fun _ _ => True))
theorem mtX3_init : z_Mth mX3_init 0 := ⟨z_all_in (i := 178) (by decide +kernel) (by decide +kernel), z_all_in (i := 52) (by decide +kernel) (by decide +kernel), by decide +kernel, by decide +kernel, by decide +kernel⟩
theorem wiX3_init : Cond.instanceMethod mX3_init.1 ∈ z_all := z_all_in (i := 177) (by decide +kernel) (by decide +kernel)
def mX3_take : zY := (yX3_take, cX3_take, 5, none, (2, 48), (0, 0, [], fun _ _ => True))
theorem mtX3_take : z_Mth mX3_take 1 := ⟨z_all_in (i := 362) (by decide +kernel) (by decide +kernel), z_all_in (i := 52) (by decide +kernel) (by decide +kernel), by decide +kernel, by decide +kernel, by decide +kernel⟩
theorem wiX3_take : Cond.instanceMethod mX3_take.1 ∈ z_all := z_all_in (i := 360) (by decide +kernel) (by decide +kernel)
theorem weX3_take : Cond.selects mX3_take.1.cls mX3_take.1 mX3_take.1 ∈ z_all := z_all_in (i := 361) (by decide +kernel) (by decide +kernel)
def mX3_roundThatEliminates : zY := (yX3_roundThatEliminates, cX3_roundThatEliminates, 3, (some .int), (0, 0), (0, 0, [], fun _ _ => True))
theorem mtX3_roundThatEliminates : z_Mth mX3_roundThatEliminates 1 := ⟨z_all_in (i := 905) (by decide +kernel) (by decide +kernel), z_all_in (i := 52) (by decide +kernel) (by decide +kernel), by decide +kernel, by decide +kernel, by decide +kernel⟩
theorem wiX3_roundThatEliminates : Cond.instanceMethod mX3_roundThatEliminates.1 ∈ z_all := z_all_in (i := 903) (by decide +kernel) (by decide +kernel)
theorem weX3_roundThatEliminates : Cond.selects mX3_roundThatEliminates.1.cls mX3_roundThatEliminates.1 mX3_roundThatEliminates.1 ∈ z_all := z_all_in (i := 904) (by decide +kernel) (by decide +kernel)
def mX3_addsUpTo : zY := (yX3_addsUpTo, cX3_addsUpTo, 3, (some .boolean), (1, 22), (0, 0, [], fun _ _ => True))
theorem mtX3_addsUpTo : z_Mth mX3_addsUpTo 1 := ⟨z_all_in (i := 659) (by decide +kernel) (by decide +kernel), z_all_in (i := 52) (by decide +kernel) (by decide +kernel), by decide +kernel, by decide +kernel, by decide +kernel⟩
theorem wiX3_addsUpTo : Cond.instanceMethod mX3_addsUpTo.1 ∈ z_all := z_all_in (i := 657) (by decide +kernel) (by decide +kernel)
theorem weX3_addsUpTo : Cond.selects mX3_addsUpTo.1.cls mX3_addsUpTo.1 mX3_addsUpTo.1 ∈ z_all := z_all_in (i := 658) (by decide +kernel) (by decide +kernel)
def mX5_init : zY := (yX5_init, cX5_init, 2, none, (3, 57), (353, 1632, [], fun _ _ => True))
theorem mtX5_init : z_Mth mX5_init 0 := ⟨z_all_in (i := 158) (by decide +kernel) (by decide +kernel), z_all_in (i := 51) (by decide +kernel) (by decide +kernel), by decide +kernel, by decide +kernel, by decide +kernel⟩
theorem wiX5_init : Cond.instanceMethod mX5_init.1 ∈ z_all := z_all_in (i := 157) (by decide +kernel) (by decide +kernel)
def mX5_remember : zY := (yX5_remember, cX5_remember, 2, none, (3, 343), (0, 0, [], fun _ _ => True))
theorem mtX5_remember : z_Mth mX5_remember 1 := ⟨z_all_in (i := 579) (by decide +kernel) (by decide +kernel), z_all_in (i := 51) (by decide +kernel) (by decide +kernel), by decide +kernel, by decide +kernel, by decide +kernel⟩
theorem wiX5_remember : Cond.instanceMethod mX5_remember.1 ∈ z_all := z_all_in (i := 577) (by decide +kernel) (by decide +kernel)
theorem weX5_remember : Cond.selects mX5_remember.1.cls mX5_remember.1 mX5_remember.1 ∈ z_all := z_all_in (i := 578) (by decide +kernel) (by decide +kernel)
def mX5_takeBack : zY := (yX5_takeBack, cX5_takeBack, 2, (some .boolean), (3, 343), (0, 0, [], fun _ _ => True))
theorem mtX5_takeBack : z_Mth mX5_takeBack 1 := ⟨z_all_in (i := 1211) (by decide +kernel) (by decide +kernel), z_all_in (i := 51) (by decide +kernel) (by decide +kernel), by decide +kernel, by decide +kernel, by decide +kernel⟩
theorem wiX5_takeBack : Cond.instanceMethod mX5_takeBack.1 ∈ z_all := z_all_in (i := 1209) (by decide +kernel) (by decide +kernel)
theorem weX5_takeBack : Cond.selects mX5_takeBack.1.cls mX5_takeBack.1 mX5_takeBack.1 ∈ z_all := z_all_in (i := 1210) (by decide +kernel) (by decide +kernel)
def mX5_forget : zY := (yX5_forget, cX5_forget, 1, none, (0, 0), (0, 0, [], fun _ _ => True))
theorem mtX5_forget : z_Mth mX5_forget 0 := ⟨z_all_in (i := 1224) (by decide +kernel) (by decide +kernel), z_all_in (i := 51) (by decide +kernel) (by decide +kernel), by decide +kernel, by decide +kernel, by decide +kernel⟩
theorem wiX5_forget : Cond.instanceMethod mX5_forget.1 ∈ z_all := z_all_in (i := 1222) (by decide +kernel) (by decide +kernel)
theorem weX5_forget : Cond.selects mX5_forget.1.cls mX5_forget.1 mX5_forget.1 ∈ z_all := z_all_in (i := 1223) (by decide +kernel) (by decide +kernel)
def mX6_init : zY := (yX6_init, cX6_init, 1, none, (2, 36), (3, 33, [], fun _ _ => True))
theorem mtX6_init : z_Mth mX6_init 0 := ⟨z_all_in (i := 235) (by decide +kernel) (by decide +kernel), z_all_in (i := 54) (by decide +kernel) (by decide +kernel), by decide +kernel, by decide +kernel, by decide +kernel⟩
theorem wiX6_init : Cond.instanceMethod mX6_init.1 ∈ z_all := z_all_in (i := 234) (by decide +kernel) (by decide +kernel)
def mX6_elect : zY := (yX6_elect, cX6_elect, 4, (some .int), (3, 67), (0, 0, [], fun _ _ => True))
theorem mtX6_elect : z_Mth mX6_elect 1 := ⟨z_all_in (i := 617) (by decide +kernel) (by decide +kernel), z_all_in (i := 54) (by decide +kernel) (by decide +kernel), by decide +kernel, by decide +kernel, by decide +kernel⟩
theorem wiX6_elect : Cond.instanceMethod mX6_elect.1 ∈ z_all := z_all_in (i := 615) (by decide +kernel) (by decide +kernel)
theorem weX6_elect : Cond.selects mX6_elect.1.cls mX6_elect.1 mX6_elect.1 ∈ z_all := z_all_in (i := 616) (by decide +kernel) (by decide +kernel)
def mX6_transfer : zY := (yX6_transfer, cX6_transfer, 4, none, (2, 44), (0, 0, [], fun _ _ => True))
theorem mtX6_transfer : z_Mth mX6_transfer 2 := ⟨z_all_in (i := 625) (by decide +kernel) (by decide +kernel), z_all_in (i := 54) (by decide +kernel) (by decide +kernel), by decide +kernel, by decide +kernel, by decide +kernel⟩
theorem wiX6_transfer : Cond.instanceMethod mX6_transfer.1 ∈ z_all := z_all_in (i := 623) (by decide +kernel) (by decide +kernel)
theorem weX6_transfer : Cond.selects mX6_transfer.1.cls mX6_transfer.1 mX6_transfer.1 ∈ z_all := z_all_in (i := 624) (by decide +kernel) (by decide +kernel)
def mX7_init : zY := (yX7_init, cX7_init, 1, none, (2, 36), (3, 92, [], fun _ _ => True))
theorem mtX7_init : z_Mth mX7_init 0 := ⟨z_all_in (i := 267) (by decide +kernel) (by decide +kernel), z_all_in (i := 56) (by decide +kernel) (by decide +kernel), by decide +kernel, by decide +kernel, by decide +kernel⟩
theorem wiX7_init : Cond.instanceMethod mX7_init.1 ∈ z_all := z_all_in (i := 266) (by decide +kernel) (by decide +kernel)
def mX7_rewind : zY := (yX7_rewind, cX7_rewind, 1, none, (0, 0), (0, 0, [], fun _ _ => True))
theorem mtX7_rewind : z_Mth mX7_rewind 0 := ⟨z_all_in (i := 1074) (by decide +kernel) (by decide +kernel), z_all_in (i := 56) (by decide +kernel) (by decide +kernel), by decide +kernel, by decide +kernel, by decide +kernel⟩
theorem wiX7_rewind : Cond.instanceMethod mX7_rewind.1 ∈ z_all := z_all_in (i := 1072) (by decide +kernel) (by decide +kernel)
theorem weX7_rewind : Cond.selects mX7_rewind.1.cls mX7_rewind.1 mX7_rewind.1 ∈ z_all := z_all_in (i := 1073) (by decide +kernel) (by decide +kernel)
def mX7_countCommands : zY := (yX7_countCommands, cX7_countCommands, 2, (some .int), (8, 171), (0, 0, [], fun _ _ => True))
theorem mtX7_countCommands : z_Mth mX7_countCommands 0 := ⟨z_all_in (i := 1070) (by decide +kernel) (by decide +kernel), z_all_in (i := 56) (by decide +kernel) (by decide +kernel), by decide +kernel, by decide +kernel, by decide +kernel⟩
theorem wiX7_countCommands : Cond.instanceMethod mX7_countCommands.1 ∈ z_all := z_all_in (i := 1068) (by decide +kernel) (by decide +kernel)
theorem weX7_countCommands : Cond.selects mX7_countCommands.1.cls mX7_countCommands.1 mX7_countCommands.1 ∈ z_all := z_all_in (i := 1069) (by decide +kernel) (by decide +kernel)
def mX7_readCommand : zY := (yX7_readCommand, cX7_readCommand, 1, (some .boolean), (7, 151), (0, 0, [], fun _ _ => True))
theorem mtX7_readCommand : z_Mth mX7_readCommand 0 := ⟨z_all_in (i := 1078) (by decide +kernel) (by decide +kernel), z_all_in (i := 56) (by decide +kernel) (by decide +kernel), by decide +kernel, by decide +kernel, by decide +kernel⟩
theorem wiX7_readCommand : Cond.instanceMethod mX7_readCommand.1 ∈ z_all := z_all_in (i := 1076) (by decide +kernel) (by decide +kernel)
theorem weX7_readCommand : Cond.selects mX7_readCommand.1.cls mX7_readCommand.1 mX7_readCommand.1 ∈ z_all := z_all_in (i := 1077) (by decide +kernel) (by decide +kernel)
def mX7_readWord : zY := (yX7_readWord, cX7_readWord, 4, (some .boolean), (6, 128), (0, 0, [], fun _ _ => True))
theorem mtX7_readWord : z_Mth mX7_readWord 0 := ⟨z_all_in (i := 1090) (by decide +kernel) (by decide +kernel), z_all_in (i := 56) (by decide +kernel) (by decide +kernel), by decide +kernel, by decide +kernel, by decide +kernel⟩
theorem wiX7_readWord : Cond.instanceMethod mX7_readWord.1 ∈ z_all := z_all_in (i := 1088) (by decide +kernel) (by decide +kernel)
theorem weX7_readWord : Cond.selects mX7_readWord.1.cls mX7_readWord.1 mX7_readWord.1 ∈ z_all := z_all_in (i := 1089) (by decide +kernel) (by decide +kernel)
def mX7_lettersRead : zY := (yX7_lettersRead, cX7_lettersRead, 3, (some .int), (5, 106), (0, 0, [], fun _ _ => True))
theorem mtX7_lettersRead : z_Mth mX7_lettersRead 1 := ⟨z_all_in (i := 1096) (by decide +kernel) (by decide +kernel), z_all_in (i := 56) (by decide +kernel) (by decide +kernel), by decide +kernel, by decide +kernel, by decide +kernel⟩
theorem wiX7_lettersRead : Cond.instanceMethod mX7_lettersRead.1 ∈ z_all := z_all_in (i := 1094) (by decide +kernel) (by decide +kernel)
theorem weX7_lettersRead : Cond.selects mX7_lettersRead.1.cls mX7_lettersRead.1 mX7_lettersRead.1 ∈ z_all := z_all_in (i := 1095) (by decide +kernel) (by decide +kernel)
def mX7_readParameter : zY := (yX7_readParameter, cX7_readParameter, 2, (some .boolean), (2, 44), (0, 0, [], fun _ _ => True))
theorem mtX7_readParameter : z_Mth mX7_readParameter 1 := ⟨z_all_in (i := 1151) (by decide +kernel) (by decide +kernel), z_all_in (i := 56) (by decide +kernel) (by decide +kernel), by decide +kernel, by decide +kernel, by decide +kernel⟩
theorem wiX7_readParameter : Cond.instanceMethod mX7_readParameter.1 ∈ z_all := z_all_in (i := 1149) (by decide +kernel) (by decide +kernel)
theorem weX7_readParameter : Cond.selects mX7_readParameter.1.cls mX7_readParameter.1 mX7_readParameter.1 ∈ z_all := z_all_in (i := 1150) (by decide +kernel) (by decide +kernel)
def mX7_readFurtherWinds : zY := (yX7_readFurtherWinds, cX7_readFurtherWinds, 2, (some .boolean), (2, 44), (0, 0, [], fun _ _ => True))
theorem mtX7_readFurtherWinds : z_Mth mX7_readFurtherWinds 0 := ⟨z_all_in (i := 1165) (by decide +kernel) (by decide +kernel), z_all_in (i := 56) (by decide +kernel) (by decide +kernel), by decide +kernel, by decide +kernel, by decide +kernel⟩
theorem wiX7_readFurtherWinds : Cond.instanceMethod mX7_readFurtherWinds.1 ∈ z_all := z_all_in (i := 1163) (by decide +kernel) (by decide +kernel)
theorem weX7_readFurtherWinds : Cond.selects mX7_readFurtherWinds.1.cls mX7_readFurtherWinds.1 mX7_readFurtherWinds.1 ∈ z_all := z_all_in (i := 1164) (by decide +kernel) (by decide +kernel)
def mX7_readNumber : zY := (yX7_readNumber, cX7_readNumber, 4, (some .boolean), (1, 21), (0, 0, [], fun _ _ => True))
theorem mtX7_readNumber : z_Mth mX7_readNumber 1 := ⟨z_all_in (i := 1155) (by decide +kernel) (by decide +kernel), z_all_in (i := 56) (by decide +kernel) (by decide +kernel), by decide +kernel, by decide +kernel, by decide +kernel⟩
theorem wiX7_readNumber : Cond.instanceMethod mX7_readNumber.1 ∈ z_all := z_all_in (i := 1153) (by decide +kernel) (by decide +kernel)
theorem weX7_readNumber : Cond.selects mX7_readNumber.1.cls mX7_readNumber.1 mX7_readNumber.1 ∈ z_all := z_all_in (i := 1154) (by decide +kernel) (by decide +kernel)
def mX7_accept : zY := (yX7_accept, cX7_accept, 2, (some .boolean), (1, 22), (0, 0, [], fun _ _ => True))
theorem mtX7_accept : z_Mth mX7_accept 1 := ⟨z_all_in (i := 1082) (by decide +kernel) (by decide +kernel), z_all_in (i := 56) (by decide +kernel) (by decide +kernel), by decide +kernel, by decide +kernel, by decide +kernel⟩
theorem wiX7_accept : Cond.instanceMethod mX7_accept.1 ∈ z_all := z_all_in (i := 1080) (by decide +kernel) (by decide +kernel)
theorem weX7_accept : Cond.selects mX7_accept.1.cls mX7_accept.1 mX7_accept.1 ∈ z_all := z_all_in (i := 1081) (by decide +kernel) (by decide +kernel)
def mX8_init : zY := (yX8_init, cX8_init, 1, none, (1, 16), (1, 8, [], fun _ _ => True))
theorem mtX8_init : z_Mth mX8_init 0 := ⟨z_all_in (i := 185) (by decide +kernel) (by decide +kernel), z_all_in (i := 53) (by decide +kernel) (by decide +kernel), by decide +kernel, by decide +kernel, by decide +kernel⟩
theorem wiX8_init : Cond.instanceMethod mX8_init.1 ∈ z_all := z_all_in (i := 184) (by decide +kernel) (by decide +kernel)
def mX8_openFirst : zY := (yX8_openFirst, cX8_openFirst, 3, none, (1, 21), (0, 0, [], fun _ _ => True))
theorem mtX8_openFirst : z_Mth mX8_openFirst 1 := ⟨z_all_in (i := 367) (by decide +kernel) (by decide +kernel), z_all_in (i := 53) (by decide +kernel) (by decide +kernel), by decide +kernel, by decide +kernel, by decide +kernel⟩
theorem wiX8_openFirst : Cond.instanceMethod mX8_openFirst.1 ∈ z_all := z_all_in (i := 365) (by decide +kernel) (by decide +kernel)
theorem weX8_openFirst : Cond.selects mX8_openFirst.1.cls mX8_openFirst.1 mX8_openFirst.1 ∈ z_all := z_all_in (i := 366) (by decide +kernel) (by decide +kernel)
def mX8_openAfter : zY := (yX8_openAfter, cX8_openAfter, 3, none, (1, 21), (0, 0, [], fun _ _ => True))
theorem mtX8_openAfter : z_Mth mX8_openAfter 1 := ⟨z_all_in (i := 375) (by decide +kernel) (by decide +kernel), z_all_in (i := 53) (by decide +kernel) (by decide +kernel), by decide +kernel, by decide +kernel, by decide +kernel⟩
theorem wiX8_openAfter : Cond.instanceMethod mX8_openAfter.1 ∈ z_all := z_all_in (i := 373) (by decide +kernel) (by decide +kernel)
theorem weX8_openAfter : Cond.selects mX8_openAfter.1.cls mX8_openAfter.1 mX8_openAfter.1 ∈ z_all := z_all_in (i := 374) (by decide +kernel) (by decide +kernel)
def mX8_continues : zY := (yX8_continues, cX8_continues, 2, (some .boolean), (0, 0), (0, 0, [], fun _ _ => True))
theorem mtX8_continues : z_Mth mX8_continues 1 := ⟨z_all_in (i := 379) (by decide +kernel) (by decide +kernel), z_all_in (i := 53) (by decide +kernel) (by decide +kernel), by decide +kernel, by decide +kernel, by decide +kernel⟩
theorem wiX8_continues : Cond.instanceMethod mX8_continues.1 ∈ z_all := z_all_in (i := 377) (by decide +kernel) (by decide +kernel)
theorem weX8_continues : Cond.selects mX8_continues.1.cls mX8_continues.1 mX8_continues.1 ∈ z_all := z_all_in (i := 378) (by decide +kernel) (by decide +kernel)
def mX8_votesOf : zY := (yX8_votesOf, cX8_votesOf, 2, (some .int), (1, 21), (0, 0, [], fun _ _ => True))
theorem mtX8_votesOf : z_Mth mX8_votesOf 1 := ⟨z_all_in (i := 934) (by decide +kernel) (by decide +kernel), z_all_in (i := 53) (by decide +kernel) (by decide +kernel), by decide +kernel, by decide +kernel, by decide +kernel⟩
theorem wiX8_votesOf : Cond.instanceMethod mX8_votesOf.1 ∈ z_all := z_all_in (i := 932) (by decide +kernel) (by decide +kernel)
theorem weX8_votesOf : Cond.selects mX8_votesOf.1.cls mX8_votesOf.1 mX8_votesOf.1 ∈ z_all := z_all_in (i := 933) (by decide +kernel) (by decide +kernel)
def mX8_add : zY := (yX8_add, cX8_add, 4, (some .int), (1, 21), (0, 0, [], fun _ _ => True))
theorem mtX8_add : z_Mth mX8_add 1 := ⟨z_all_in (i := 383) (by decide +kernel) (by decide +kernel), z_all_in (i := 53) (by decide +kernel) (by decide +kernel), by decide +kernel, by decide +kernel, by decide +kernel⟩
theorem wiX8_add : Cond.instanceMethod mX8_add.1 ∈ z_all := z_all_in (i := 381) (by decide +kernel) (by decide +kernel)
theorem weX8_add : Cond.selects mX8_add.1.cls mX8_add.1 mX8_add.1 ∈ z_all := z_all_in (i := 382) (by decide +kernel) (by decide +kernel)
def mX8_decide : zY := (yX8_decide, cX8_decide, 5, (some .int), (1, 24), (0, 0, [], fun _ _ => True))
theorem mtX8_decide : z_Mth mX8_decide 1 := ⟨z_all_in (i := 387) (by decide +kernel) (by decide +kernel), z_all_in (i := 53) (by decide +kernel) (by decide +kernel), by decide +kernel, by decide +kernel, by decide +kernel⟩
theorem wiX8_decide : Cond.instanceMethod mX8_decide.1 ∈ z_all := z_all_in (i := 385) (by decide +kernel) (by decide +kernel)
theorem weX8_decide : Cond.selects mX8_decide.1.cls mX8_decide.1 mX8_decide.1 ∈ z_all := z_all_in (i := 386) (by decide +kernel) (by decide +kernel)
def mX8_windThatWins : zY := (yX8_windThatWins, cX8_windThatWins, 4, (some .int), (0, 0), (0, 0, [], fun _ _ => True))
theorem mtX8_windThatWins : z_Mth mX8_windThatWins 2 := ⟨z_all_in (i := 399) (by decide +kernel) (by decide +kernel), z_all_in (i := 53) (by decide +kernel) (by decide +kernel), by decide +kernel, by decide +kernel, by decide +kernel⟩
theorem wiX8_windThatWins : Cond.instanceMethod mX8_windThatWins.1 ∈ z_all := z_all_in (i := 397) (by decide +kernel) (by decide +kernel)
theorem weX8_windThatWins : Cond.selects mX8_windThatWins.1.cls mX8_windThatWins.1 mX8_windThatWins.1 ∈ z_all := z_all_in (i := 398) (by decide +kernel) (by decide +kernel)
def mX8_sumOfVotes : zY := (yX8_sumOfVotes, cX8_sumOfVotes, 3, (some .int), (0, 0), (0, 0, [], fun _ _ => True))
theorem mtX8_sumOfVotes : z_Mth mX8_sumOfVotes 0 := ⟨z_all_in (i := 391) (by decide +kernel) (by decide +kernel), z_all_in (i := 53) (by decide +kernel) (by decide +kernel), by decide +kernel, by decide +kernel, by decide +kernel⟩
theorem wiX8_sumOfVotes : Cond.instanceMethod mX8_sumOfVotes.1 ∈ z_all := z_all_in (i := 389) (by decide +kernel) (by decide +kernel)
theorem weX8_sumOfVotes : Cond.selects mX8_sumOfVotes.1.cls mX8_sumOfVotes.1 mX8_sumOfVotes.1 ∈ z_all := z_all_in (i := 390) (by decide +kernel) (by decide +kernel)
def mX8_continuingWinds : zY := (yX8_continuingWinds, cX8_continuingWinds, 3, (some .int), (0, 0), (0, 0, [], fun _ _ => True))
theorem mtX8_continuingWinds : z_Mth mX8_continuingWinds 0 := ⟨z_all_in (i := 395) (by decide +kernel) (by decide +kernel), z_all_in (i := 53) (by decide +kernel) (by decide +kernel), by decide +kernel, by decide +kernel, by decide +kernel⟩
theorem wiX8_continuingWinds : Cond.instanceMethod mX8_continuingWinds.1 ∈ z_all := z_all_in (i := 393) (by decide +kernel) (by decide +kernel)
theorem weX8_continuingWinds : Cond.selects mX8_continuingWinds.1.cls mX8_continuingWinds.1 mX8_continuingWinds.1 ∈ z_all := z_all_in (i := 394) (by decide +kernel) (by decide +kernel)
def mX8_fewestVotes : zY := (yX8_fewestVotes, cX8_fewestVotes, 3, (some .int), (0, 0), (0, 0, [], fun _ _ => True))
theorem mtX8_fewestVotes : z_Mth mX8_fewestVotes 0 := ⟨z_all_in (i := 403) (by decide +kernel) (by decide +kernel), z_all_in (i := 53) (by decide +kernel) (by decide +kernel), by decide +kernel, by decide +kernel, by decide +kernel⟩
theorem wiX8_fewestVotes : Cond.instanceMethod mX8_fewestVotes.1 ∈ z_all := z_all_in (i := 401) (by decide +kernel) (by decide +kernel)
theorem weX8_fewestVotes : Cond.selects mX8_fewestVotes.1.cls mX8_fewestVotes.1 mX8_fewestVotes.1 ∈ z_all := z_all_in (i := 402) (by decide +kernel) (by decide +kernel)
def mX8_windsWith : zY := (yX8_windsWith, cX8_windsWith, 4, (some .int), (0, 0), (0, 0, [], fun _ _ => True))
theorem mtX8_windsWith : z_Mth mX8_windsWith 1 := ⟨z_all_in (i := 407) (by decide +kernel) (by decide +kernel), z_all_in (i := 53) (by decide +kernel) (by decide +kernel), by decide +kernel, by decide +kernel, by decide +kernel⟩
theorem wiX8_windsWith : Cond.instanceMethod mX8_windsWith.1 ∈ z_all := z_all_in (i := 405) (by decide +kernel) (by decide +kernel)
theorem weX8_windsWith : Cond.selects mX8_windsWith.1.cls mX8_windsWith.1 mX8_windsWith.1 ∈ z_all := z_all_in (i := 406) (by decide +kernel) (by decide +kernel)
def mX8_windWith : zY := (yX8_windWith, cX8_windWith, 5, (some .int), (0, 0), (0, 0, [], fun _ _ => True))
theorem mtX8_windWith : z_Mth mX8_windWith 2 := ⟨z_all_in (i := 411) (by decide +kernel) (by decide +kernel), z_all_in (i := 53) (by decide +kernel) (by decide +kernel), by decide +kernel, by decide +kernel, by decide +kernel⟩
theorem wiX8_windWith : Cond.instanceMethod mX8_windWith.1 ∈ z_all := z_all_in (i := 409) (by decide +kernel) (by decide +kernel)
theorem weX8_windWith : Cond.selects mX8_windWith.1.cls mX8_windWith.1 mX8_windWith.1 ∈ z_all := z_all_in (i := 410) (by decide +kernel) (by decide +kernel)
def mX9_init : zY := (yX9_init, cX9_init, 1, none, (1, 16), (1, 60, [], fun _ _ => True))
theorem mtX9_init : z_Mth mX9_init 0 := ⟨z_all_in (i := 250) (by decide +kernel) (by decide +kernel), z_all_in (i := 55) (by decide +kernel) (by decide +kernel), by decide +kernel, by decide +kernel, by decide +kernel⟩
theorem wiX9_init : Cond.instanceMethod mX9_init.1 ∈ z_all := z_all_in (i := 249) (by decide +kernel) (by decide +kernel)
def mX9_clear : zY := (yX9_clear, cX9_clear, 1, none, (0, 0), (0, 0, [], fun _ _ => True))
theorem mtX9_clear : z_Mth mX9_clear 0 := ⟨z_all_in (i := 596) (by decide +kernel) (by decide +kernel), z_all_in (i := 55) (by decide +kernel) (by decide +kernel), by decide +kernel, by decide +kernel, by decide +kernel⟩
theorem wiX9_clear : Cond.instanceMethod mX9_clear.1 ∈ z_all := z_all_in (i := 594) (by decide +kernel) (by decide +kernel)
theorem weX9_clear : Cond.selects mX9_clear.1.cls mX9_clear.1 mX9_clear.1 ∈ z_all := z_all_in (i := 595) (by decide +kernel) (by decide +kernel)
def mX9_append : zY := (yX9_append, cX9_append, 2, (some .boolean), (0, 0), (0, 0, [], fun _ _ => True))
theorem mtX9_append : z_Mth mX9_append 1 := ⟨z_all_in (i := 608) (by decide +kernel) (by decide +kernel), z_all_in (i := 55) (by decide +kernel) (by decide +kernel), by decide +kernel, by decide +kernel, by decide +kernel⟩
theorem wiX9_append : Cond.instanceMethod mX9_append.1 ∈ z_all := z_all_in (i := 606) (by decide +kernel) (by decide +kernel)
theorem weX9_append : Cond.selects mX9_append.1.cls mX9_append.1 mX9_append.1 ∈ z_all := z_all_in (i := 607) (by decide +kernel) (by decide +kernel)
def mX9_appendNumber : zY := (yX9_appendNumber, cX9_appendNumber, 2, none, (1, 21), (0, 0, [], fun _ _ => True))
theorem mtX9_appendNumber : z_Mth mX9_appendNumber 1 := ⟨z_all_in (i := 604) (by decide +kernel) (by decide +kernel), z_all_in (i := 55) (by decide +kernel) (by decide +kernel), by decide +kernel, by decide +kernel, by decide +kernel⟩
theorem wiX9_appendNumber : Cond.instanceMethod mX9_appendNumber.1 ∈ z_all := z_all_in (i := 602) (by decide +kernel) (by decide +kernel)
theorem weX9_appendNumber : Cond.selects mX9_appendNumber.1.cls mX9_appendNumber.1 mX9_appendNumber.1 ∈ z_all := z_all_in (i := 603) (by decide +kernel) (by decide +kernel)
def mX9_hasAt : zY := (yX9_hasAt, cX9_hasAt, 3, (some .boolean), (0, 0), (0, 0, [], fun _ _ => True))
theorem mtX9_hasAt : z_Mth mX9_hasAt 2 := ⟨z_all_in (i := 1086) (by decide +kernel) (by decide +kernel), z_all_in (i := 55) (by decide +kernel) (by decide +kernel), by decide +kernel, by decide +kernel, by decide +kernel⟩
theorem wiX9_hasAt : Cond.instanceMethod mX9_hasAt.1 ∈ z_all := z_all_in (i := 1084) (by decide +kernel) (by decide +kernel)
theorem weX9_hasAt : Cond.selects mX9_hasAt.1.cls mX9_hasAt.1 mX9_hasAt.1 ∈ z_all := z_all_in (i := 1085) (by decide +kernel) (by decide +kernel)
def mX9_digitAt : zY := (yX9_digitAt, cX9_digitAt, 2, (some .int), (0, 0), (0, 0, [], fun _ _ => True))
theorem mtX9_digitAt : z_Mth mX9_digitAt 1 := ⟨z_all_in (i := 1159) (by decide +kernel) (by decide +kernel), z_all_in (i := 55) (by decide +kernel) (by decide +kernel), by decide +kernel, by decide +kernel, by decide +kernel⟩
theorem wiX9_digitAt : Cond.instanceMethod mX9_digitAt.1 ∈ z_all := z_all_in (i := 1157) (by decide +kernel) (by decide +kernel)
theorem weX9_digitAt : Cond.selects mX9_digitAt.1.cls mX9_digitAt.1 mX9_digitAt.1 ∈ z_all := z_all_in (i := 1158) (by decide +kernel) (by decide +kernel)
def mJ9_max_7cf53 : zY := (yJ9_max_7cf53, cJ9_max_7cf53, 2, (some .int), (0, 0), (0, 0, [], fun _ _ => True))
theorem mtJ9_max_7cf53 : z_Mth mJ9_max_7cf53 2 := ⟨z_all_in (i := 1147) (by decide +kernel) (by decide +kernel), z_all_in (i := 76) (by decide +kernel) (by decide +kernel), by decide +kernel, by decide +kernel, by decide +kernel⟩
theorem wtJ9_max_7cf53 : Cond.static mJ9_max_7cf53.1 ∈ z_all := z_all_in (i := 1146) (by decide +kernel) (by decide +kernel)
def mJ0_charAt_5068e : zY := (yJ0_charAt_5068e, cJ0_charAt_5068e, 2, (some .char), (4, 85), (0, 0, [], fun _ _ => True))
theorem mtJ0_charAt_5068e : z_Mth mJ0_charAt_5068e 1 := ⟨z_all_in (i := 1110) (by decide +kernel) (by decide +kernel), z_all_in (i := 71) (by decide +kernel) (by decide +kernel), by decide +kernel, by decide +kernel, by decide +kernel⟩
theorem wiJ0_charAt_5068e : Cond.instanceMethod mJ0_charAt_5068e.1 ∈ z_all := z_all_in (i := 1108) (by decide +kernel) (by decide +kernel)
theorem weJ0_charAt_5068e : Cond.selects mJ0_charAt_5068e.1.cls mJ0_charAt_5068e.1 mJ0_charAt_5068e.1 ∈ z_all := z_all_in (i := 1109) (by decide +kernel) (by decide +kernel)
def mJ0_checkIndex_df160 : zY := (yJ0_checkIndex_df160, cJ0_checkIndex_df160, 2, none, (1, 22), (0, 0, [], fun _ _ => True))
theorem mtJ0_checkIndex_df160 : z_Mth mJ0_checkIndex_df160 2 := ⟨z_all_in (i := 1120) (by decide +kernel) (by decide +kernel), z_all_in (i := 71) (by decide +kernel) (by decide +kernel), by decide +kernel, by decide +kernel, by decide +kernel⟩
theorem wtJ0_checkIndex_df160 : Cond.static mJ0_checkIndex_df160.1 ∈ z_all := z_all_in (i := 1119) (by decide +kernel) (by decide +kernel)
def mJ0_coder_7d493 : zY := (yJ0_coder_7d493, cJ0_coder_7d493, 1, (some .byte), (0, 0), (0, 0, [], fun _ _ => True))
theorem mtJ0_coder_7d493 : z_Mth mJ0_coder_7d493 0 := ⟨z_all_in (i := 1104) (by decide +kernel) (by decide +kernel), z_all_in (i := 71) (by decide +kernel) (by decide +kernel), by decide +kernel, by decide +kernel, by decide +kernel⟩
theorem wiJ0_coder_7d493 : Cond.instanceMethod mJ0_coder_7d493.1 ∈ z_all := z_all_in (i := 1102) (by decide +kernel) (by decide +kernel)
theorem weJ0_coder_7d493 : Cond.selects mJ0_coder_7d493.1.cls mJ0_coder_7d493.1 mJ0_coder_7d493.1 ∈ z_all := z_all_in (i := 1103) (by decide +kernel) (by decide +kernel)
def mJ0_isLatin1_aae02 : zY := (yJ0_isLatin1_aae02, cJ0_isLatin1_aae02, 1, (some .boolean), (0, 0), (0, 0, [], fun _ _ => True))
theorem mtJ0_isLatin1_aae02 : z_Mth mJ0_isLatin1_aae02 0 := ⟨z_all_in (i := 1114) (by decide +kernel) (by decide +kernel), z_all_in (i := 71) (by decide +kernel) (by decide +kernel), by decide +kernel, by decide +kernel, by decide +kernel⟩
theorem wiJ0_isLatin1_aae02 : Cond.instanceMethod mJ0_isLatin1_aae02.1 ∈ z_all := z_all_in (i := 1112) (by decide +kernel) (by decide +kernel)
theorem weJ0_isLatin1_aae02 : Cond.selects mJ0_isLatin1_aae02.1.cls mJ0_isLatin1_aae02.1 mJ0_isLatin1_aae02.1 ∈ z_all := z_all_in (i := 1113) (by decide +kernel) (by decide +kernel)
def mJ0_length_8abf5 : zY := (yJ0_length_8abf5, cJ0_length_8abf5, 1, (some .int), (1, 20), (0, 0, [], fun _ _ => True))
theorem mtJ0_length_8abf5 : z_Mth mJ0_length_8abf5 0 := ⟨z_all_in (i := 1100) (by decide +kernel) (by decide +kernel), z_all_in (i := 71) (by decide +kernel) (by decide +kernel), by decide +kernel, by decide +kernel, by decide +kernel⟩
theorem wiJ0_length_8abf5 : Cond.instanceMethod mJ0_length_8abf5.1 ∈ z_all := z_all_in (i := 1098) (by decide +kernel) (by decide +kernel)
theorem weJ0_length_8abf5 : Cond.selects mJ0_length_8abf5.1.cls mJ0_length_8abf5.1 mJ0_length_8abf5.1 ∈ z_all := z_all_in (i := 1099) (by decide +kernel) (by decide +kernel)
def mJ1_charAt_3b067 : zY := (yJ1_charAt_3b067, cJ1_charAt_3b067, 2, (some .char), (2, 43), (0, 0, [], fun _ _ => True))
theorem mtJ1_charAt_3b067 : z_Mth mJ1_charAt_3b067 2 := ⟨z_all_in (i := 1117) (by decide +kernel) (by decide +kernel), z_all_in (i := 73) (by decide +kernel) (by decide +kernel), by decide +kernel, by decide +kernel, by decide +kernel⟩
theorem wtJ1_charAt_3b067 : Cond.static mJ1_charAt_3b067.1 ∈ z_all := z_all_in (i := 1116) (by decide +kernel) (by decide +kernel)
def mJ2_charAt_3b067 : zY := (yJ2_charAt_3b067, cJ2_charAt_3b067, 2, (some .char), (3, 64), (0, 0, [], fun _ _ => True))
theorem mtJ2_charAt_3b067 : z_Mth mJ2_charAt_3b067 2 := ⟨z_all_in (i := 1128) (by decide +kernel) (by decide +kernel), z_all_in (i := 75) (by decide +kernel) (by decide +kernel), by decide +kernel, by decide +kernel, by decide +kernel⟩
theorem wtJ2_charAt_3b067 : Cond.static mJ2_charAt_3b067.1 ∈ z_all := z_all_in (i := 1127) (by decide +kernel) (by decide +kernel)
def mJ2_checkIndex_2214a : zY := (yJ2_checkIndex_2214a, cJ2_checkIndex_2214a, 2, none, (2, 43), (0, 0, [], fun _ _ => True))
theorem mtJ2_checkIndex_2214a : z_Mth mJ2_checkIndex_2214a 2 := ⟨z_all_in (i := 1131) (by decide +kernel) (by decide +kernel), z_all_in (i := 75) (by decide +kernel) (by decide +kernel), by decide +kernel, by decide +kernel, by decide +kernel⟩
theorem wtJ2_checkIndex_2214a : Cond.static mJ2_checkIndex_2214a.1 ∈ z_all := z_all_in (i := 1130) (by decide +kernel) (by decide +kernel)
def mJ2_getChar_3b067 : zY := (yJ2_getChar_3b067, cJ2_getChar_3b067, 2, (some .char), (1, 20), (0, 0, [], fun _ _ => True))
theorem mtJ2_getChar_3b067 : z_Mth mJ2_getChar_3b067 2 := ⟨z_all_in (i := 1138) (by decide +kernel) (by decide +kernel), z_all_in (i := 75) (by decide +kernel) (by decide +kernel), by decide +kernel, by decide +kernel, by decide +kernel⟩
theorem wtJ2_getChar_3b067 : Cond.static mJ2_getChar_3b067.1 ∈ z_all := z_all_in (i := 1137) (by decide +kernel) (by decide +kernel)
def mJ2_length_9d52b : zY := (yJ2_length_9d52b, cJ2_length_9d52b, 1, (some .int), (0, 0), (0, 0, [], fun _ _ => True))
theorem mtJ2_length_9d52b : z_Mth mJ2_length_9d52b 1 := ⟨z_all_in (i := 1134) (by decide +kernel) (by decide +kernel), z_all_in (i := 75) (by decide +kernel) (by decide +kernel), by decide +kernel, by decide +kernel, by decide +kernel⟩
theorem wtJ2_length_9d52b : Cond.static mJ2_length_9d52b.1 ∈ z_all := z_all_in (i := 1133) (by decide +kernel) (by decide +kernel)
def mJ3_checkIndex_8e157 : zY := (yJ3_checkIndex_8e157, cJ3_checkIndex_8e157, 3, (some .int), (0, 0), (0, 0, [], fun _ _ => True))
theorem mtJ3_checkIndex_8e157 : z_Mth mJ3_checkIndex_8e157 3 := ⟨z_all_in (i := 1125) (by decide +kernel) (by decide +kernel), z_all_in (i := 74) (by decide +kernel) (by decide +kernel), by decide +kernel, by decide +kernel, by decide +kernel⟩
theorem wtJ3_checkIndex_8e157 : Cond.static mJ3_checkIndex_8e157.1 ∈ z_all := z_all_in (i := 1124) (by decide +kernel) (by decide +kernel)
def mJx29ce0_ordinal_8abf5 : zY := (yJx29ce0_ordinal_8abf5, cJx29ce0_ordinal_8abf5, 1, (some .int), (0, 0), (0, 0, [], fun _ _ => True))
theorem mtJx29ce0_ordinal_8abf5 : z_Mth mJx29ce0_ordinal_8abf5 0 := ⟨z_all_in (i := 451) (by decide +kernel) (by decide +kernel), z_all_in (i := 57) (by decide +kernel) (by decide +kernel), by decide +kernel, by decide +kernel, by decide +kernel⟩
theorem wiJx29ce0_ordinal_8abf5 : Cond.instanceMethod mJx29ce0_ordinal_8abf5.1 ∈ z_all := z_all_in (i := 450) (by decide +kernel) (by decide +kernel)
theorem wlX11_9 : Cond.methodLink "WindElection" 9 mX1_init.1 ∈ z_all := z_all_in (i := 87) (by decide +kernel) (by decide +kernel)
theorem wlX11_28 : Cond.methodLink "WindElection" 28 mX5_init.1 ∈ z_all := z_all_in (i := 156) (by decide +kernel) (by decide +kernel)
theorem wlX11_35 : Cond.methodLink "WindElection" 35 mX3_init.1 ∈ z_all := z_all_in (i := 176) (by decide +kernel) (by decide +kernel)
theorem wnX11_42 : Cond.methodLinkNest "WindElection" 42 mX6_init.1 "WindElection" ∈ lw_tbl := List.mem_of_getElem? (i := 233) (by decide +kernel)
theorem wnX11_53 : Cond.methodLinkNest "WindElection" 53 mX9_init.1 "WindElection" ∈ lw_tbl := List.mem_of_getElem? (i := 248) (by decide +kernel)
theorem wnX11_60 : Cond.methodLinkNest "WindElection" 60 mX7_init.1 "WindElection" ∈ lw_tbl := List.mem_of_getElem? (i := 265) (by decide +kernel)
theorem wlX11_72 : Cond.methodLink "WindElection" 72 mX1_copyFrom.1 ∈ z_all := z_all_in (i := 419) (by decide +kernel) (by decide +kernel)
theorem wlX11_76 : Cond.methodLink "WindElection" 76 mX1_putWind.1 ∈ z_all := z_all_in (i := 673) (by decide +kernel) (by decide +kernel)
theorem wlX11_80 : Cond.methodLink "WindElection" 80 mX11_settle.1 ∈ z_all := z_all_in (i := 437) (by decide +kernel) (by decide +kernel)
theorem wlX11_87 : Cond.methodLink "WindElection" 87 mX1_letGo.1 ∈ z_all := z_all_in (i := 707) (by decide +kernel) (by decide +kernel)
theorem wlX11_91 : Cond.methodLink "WindElection" 91 mX1_standingWinds.1 ∈ z_all := z_all_in (i := 339) (by decide +kernel) (by decide +kernel)
theorem wlX11_95 : Cond.methodLink "WindElection" 95 mX11_checkWind.1 ∈ z_all := z_all_in (i := 723) (by decide +kernel) (by decide +kernel)
theorem wlX11_106 : Cond.methodLink "WindElection" 106 mX1_putBallot.1 ∈ z_all := z_all_in (i := 743) (by decide +kernel) (by decide +kernel)
theorem wlX11_113 : Cond.methodLink "WindElection" 113 mX1_extendBallot.1 ∈ z_all := z_all_in (i := 765) (by decide +kernel) (by decide +kernel)
theorem wlX11_116 : Cond.methodLink "WindElection" 116 mX11_ballotNumbered.1 ∈ z_all := z_all_in (i := 784) (by decide +kernel) (by decide +kernel)
theorem wlX11_128 : Cond.methodLink "WindElection" 128 mX1_dropBallot.1 ∈ z_all := z_all_in (i := 796) (by decide +kernel) (by decide +kernel)
theorem wlX11_131 : Cond.methodLink "WindElection" 131 mX1_reweigh.1 ∈ z_all := z_all_in (i := 807) (by decide +kernel) (by decide +kernel)
theorem wlX11_143 : Cond.methodLink "WindElection" 143 mX2_placeOf.1 ∈ z_all := z_all_in (i := 841) (by decide +kernel) (by decide +kernel)
theorem wlX11_147 : Cond.methodLink "WindElection" 147 mX11_found.1 ∈ z_all := z_all_in (i := 842) (by decide +kernel) (by decide +kernel)
theorem wlX11_150 : Cond.methodLink "WindElection" 150 mX1_weightOfAll.1 ∈ z_all := z_all_in (i := 351) (by decide +kernel) (by decide +kernel)
theorem wlX11_153 : Cond.methodLink "WindElection" 153 mX3_take.1 ∈ z_all := z_all_in (i := 359) (by decide +kernel) (by decide +kernel)
theorem wlX11_159 : Cond.methodLink "WindElection" 159 mX6_elect.1 ∈ z_all := z_all_in (i := 614) (by decide +kernel) (by decide +kernel)
theorem wlX11_164 : Cond.methodLink "WindElection" 164 mX11_roundNumbered.1 ∈ z_all := z_all_in (i := 867) (by decide +kernel) (by decide +kernel)
theorem wlX11_168 : Cond.methodLink "WindElection" 168 mX8_continues.1 ∈ z_all := z_all_in (i := 872) (by decide +kernel) (by decide +kernel)
theorem wlX11_188 : Cond.methodLink "WindElection" 188 mX3_roundThatEliminates.1 ∈ z_all := z_all_in (i := 902) (by decide +kernel) (by decide +kernel)
theorem wlX11_197 : Cond.methodLink "WindElection" 197 mX8_sumOfVotes.1 ∈ z_all := z_all_in (i := 927) (by decide +kernel) (by decide +kernel)
theorem wlX11_205 : Cond.methodLink "WindElection" 205 mX8_votesOf.1 ∈ z_all := z_all_in (i := 931) (by decide +kernel) (by decide +kernel)
theorem wlX11_208 : Cond.methodLink "WindElection" 208 mX1_weightPreferring.1 ∈ z_all := z_all_in (i := 942) (by decide +kernel) (by decide +kernel)
theorem wlX11_212 : Cond.methodLink "WindElection" 212 mX1_isStronger.1 ∈ z_all := z_all_in (i := 950) (by decide +kernel) (by decide +kernel)
theorem wlX11_216 : Cond.methodLink "WindElection" 216 mX1_standingWindsBeatenBy.1 ∈ z_all := z_all_in (i := 958) (by decide +kernel) (by decide +kernel)
theorem wlX11_219 : Cond.methodLink "WindElection" 219 mX1_championAmongPairs.1 ∈ z_all := z_all_in (i := 627) (by decide +kernel) (by decide +kernel)
theorem wlX11_222 : Cond.methodLink "WindElection" 222 mX1_championAfterDuels.1 ∈ z_all := z_all_in (i := 652) (by decide +kernel) (by decide +kernel)
theorem wlX11_225 : Cond.methodLink "WindElection" 225 mX1_scoreFor.1 ∈ z_all := z_all_in (i := 980) (by decide +kernel) (by decide +kernel)
theorem wlX11_228 : Cond.methodLink "WindElection" 228 mX11_placeByScore.1 ∈ z_all := z_all_in (i := 991) (by decide +kernel) (by decide +kernel)
theorem wlX11_231 : Cond.methodLink "WindElection" 231 mX1_turnSpinner.1 ∈ z_all := z_all_in (i := 430) (by decide +kernel) (by decide +kernel)
theorem wlX11_237 : Cond.methodLink "WindElection" 237 mX11_seatWinner.1 ∈ z_all := z_all_in (i := 1002) (by decide +kernel) (by decide +kernel)
theorem wlX11_243 : Cond.methodLink "WindElection" 243 mX1_windInSeat.1 ∈ z_all := z_all_in (i := 1020) (by decide +kernel) (by decide +kernel)
theorem wlX11_246 : Cond.methodLink "WindElection" 246 mX9_clear.1 ∈ z_all := z_all_in (i := 593) (by decide +kernel) (by decide +kernel)
theorem wlX11_249 : Cond.methodLink "WindElection" 249 mX9_appendNumber.1 ∈ z_all := z_all_in (i := 601) (by decide +kernel) (by decide +kernel)
theorem wlX11_252 : Cond.methodLink "WindElection" 252 mX9_append.1 ∈ z_all := z_all_in (i := 609) (by decide +kernel) (by decide +kernel)
theorem wlX11_259 : Cond.methodLink "WindElection" 259 mX11_writeRound.1 ∈ z_all := z_all_in (i := 597) (by decide +kernel) (by decide +kernel)
theorem wlX11_274 : Cond.methodLink "WindElection" 274 mX1_ranksOfAll.1 ∈ z_all := z_all_in (i := 1047) (by decide +kernel) (by decide +kernel)
theorem wlX11_277 : Cond.methodLink "WindElection" 277 mX3_addsUpTo.1 ∈ z_all := z_all_in (i := 656) (by decide +kernel) (by decide +kernel)
theorem wlX11_293 : Cond.methodLink "WindElection" 293 mX7_countCommands.1 ∈ z_all := z_all_in (i := 1067) (by decide +kernel) (by decide +kernel)
theorem wlX11_296 : Cond.methodLink "WindElection" 296 mX11_carryOutAll.1 ∈ z_all := z_all_in (i := 1166) (by decide +kernel) (by decide +kernel)
theorem wlX11_306 : Cond.methodLink "WindElection" 306 mX5_takeBack.1 ∈ z_all := z_all_in (i := 1208) (by decide +kernel) (by decide +kernel)
theorem wlX11_315 : Cond.methodLink "WindElection" 315 mX5_forget.1 ∈ z_all := z_all_in (i := 1221) (by decide +kernel) (by decide +kernel)
theorem wlX11_318 : Cond.methodLink "WindElection" 318 mX1_hasWind.1 ∈ z_all := z_all_in (i := 727) (by decide +kernel) (by decide +kernel)
theorem wlX11_323 : Cond.methodLink "WindElection" 323 mX1_hasBallot.1 ∈ z_all := z_all_in (i := 788) (by decide +kernel) (by decide +kernel)
theorem wlX11_336 : Cond.methodLink "WindElection" 336 mX11_refuse.1 ∈ z_all := z_all_in (i := 441) (by decide +kernel) (by decide +kernel)
theorem wlX11_339 : Cond.methodLink "WindElection" 339 mX5_remember.1 ∈ z_all := z_all_in (i := 576) (by decide +kernel) (by decide +kernel)
theorem wlX11_368 : Cond.methodLink "WindElection" 368 mX1_giveSeat.1 ∈ z_all := z_all_in (i := 1008) (by decide +kernel) (by decide +kernel)
theorem wlX11_376 : Cond.methodLink "WindElection" 376 mX7_rewind.1 ∈ z_all := z_all_in (i := 1170) (by decide +kernel) (by decide +kernel)
theorem wlX11_379 : Cond.methodLink "WindElection" 379 mX7_readCommand.1 ∈ z_all := z_all_in (i := 1171) (by decide +kernel) (by decide +kernel)
theorem wlX11_383 : Cond.methodLink "WindElection" 383 mX11_carryOut.1 ∈ z_all := z_all_in (i := 1172) (by decide +kernel) (by decide +kernel)
theorem wlX11_399 : Cond.methodLink "WindElection" 399 mX11_carryOutBallot.1 ∈ z_all := z_all_in (i := 1181) (by decide +kernel) (by decide +kernel)
theorem wlX12_62 : Cond.methodLink "WindElectionModel" 62 mX12_copies.1 ∈ z_all := z_all_in (i := 1320) (by decide +kernel) (by decide +kernel)
theorem wlX12_66 : Cond.methodLink "WindElectionModel" 66 mX12_in.1 ∈ z_all := z_all_in (i := 1331) (by decide +kernel) (by decide +kernel)
theorem wlX12_70 : Cond.methodLink "WindElectionModel" 70 mX12_stands.1 ∈ z_all := z_all_in (i := 1334) (by decide +kernel) (by decide +kernel)
theorem wlX12_74 : Cond.methodLink "WindElectionModel" 74 mX12_isWind.1 ∈ z_all := z_all_in (i := 1327) (by decide +kernel) (by decide +kernel)
theorem wlX12_77 : Cond.methodLink "WindElectionModel" 77 mX12_fails.1 ∈ z_all := z_all_in (i := 1312) (by decide +kernel) (by decide +kernel)
theorem wlX12_80 : Cond.methodLink "WindElectionModel" 80 mX12_keeps.1 ∈ z_all := z_all_in (i := 1316) (by decide +kernel) (by decide +kernel)
theorem wlX12_84 : Cond.methodLink "WindElectionModel" 84 mX12_standing.1 ∈ z_all := z_all_in (i := 1338) (by decide +kernel) (by decide +kernel)
theorem wlX12_88 : Cond.methodLink "WindElectionModel" 88 mX12_isNone.1 ∈ z_all := z_all_in (i := 1354) (by decide +kernel) (by decide +kernel)
theorem wlX12_91 : Cond.methodLink "WindElectionModel" 91 mX12_of.1 ∈ z_all := z_all_in (i := 1381) (by decide +kernel) (by decide +kernel)
theorem wlX12_95 : Cond.methodLink "WindElectionModel" 95 mX12_isBallot.1 ∈ z_all := z_all_in (i := 1373) (by decide +kernel) (by decide +kernel)
theorem wlX12_98 : Cond.methodLink "WindElectionModel" 98 mX12_isWeight.1 ∈ z_all := z_all_in (i := 1366) (by decide +kernel) (by decide +kernel)
theorem wlX12_101 : Cond.methodLink "WindElectionModel" 101 mX12_ranked.1 ∈ z_all := z_all_in (i := 1377) (by decide +kernel) (by decide +kernel)
theorem wlX12_104 : Cond.methodLink "WindElectionModel" 104 mX12_isLost.1 ∈ z_all := z_all_in (i := 1389) (by decide +kernel) (by decide +kernel)
theorem wlX12_107 : Cond.methodLink "WindElectionModel" 107 mX12_total.1 ∈ z_all := z_all_in (i := 1421) (by decide +kernel) (by decide +kernel)
theorem wlX12_119 : Cond.methodLink "WindElectionModel" 119 mX12_countsRound.1 ∈ z_all := z_all_in (i := 1437) (by decide +kernel) (by decide +kernel)
theorem wlX12_123 : Cond.methodLink "WindElectionModel" 123 mX12_wins.1 ∈ z_all := z_all_in (i := 1441) (by decide +kernel) (by decide +kernel)
theorem wlX12_127 : Cond.methodLink "WindElectionModel" 127 mX12_falls.1 ∈ z_all := z_all_in (i := 1445) (by decide +kernel) (by decide +kernel)
theorem wlX12_130 : Cond.methodLink "WindElectionModel" 130 mX12_counts.1 ∈ z_all := z_all_in (i := 1433) (by decide +kernel) (by decide +kernel)
theorem wlX12_133 : Cond.methodLink "WindElectionModel" 133 mX12_elected.1 ∈ z_all := z_all_in (i := 1429) (by decide +kernel) (by decide +kernel)
theorem wlX12_136 : Cond.methodLink "WindElectionModel" 136 mX12_isRound.1 ∈ z_all := z_all_in (i := 1461) (by decide +kernel) (by decide +kernel)
theorem wlX12_139 : Cond.methodLink "WindElectionModel" 139 mX12_areNone.1 ∈ z_all := z_all_in (i := 1489) (by decide +kernel) (by decide +kernel)
theorem wlX12_143 : Cond.methodLink "WindElectionModel" 143 mX12_prefers.1 ∈ z_all := z_all_in (i := 1493) (by decide +kernel) (by decide +kernel)
theorem wlX12_146 : Cond.methodLink "WindElectionModel" 146 mX12_isOver.1 ∈ z_all := z_all_in (i := 1501) (by decide +kernel) (by decide +kernel)
theorem wlX12_149 : Cond.methodLink "WindElectionModel" 149 mX12_beaten.1 ∈ z_all := z_all_in (i := 1509) (by decide +kernel) (by decide +kernel)
theorem wlX12_152 : Cond.methodLink "WindElectionModel" 152 mX12_champion.1 ∈ z_all := z_all_in (i := 1517) (by decide +kernel) (by decide +kernel)
theorem wlX12_155 : Cond.methodLink "WindElectionModel" 155 mX12_score.1 ∈ z_all := z_all_in (i := 1529) (by decide +kernel) (by decide +kernel)
theorem wlX12_161 : Cond.methodLink "WindElectionModel" 161 mX12_writes.1 ∈ z_all := z_all_in (i := 1565) (by decide +kernel) (by decide +kernel)
theorem wlX12_164 : Cond.methodLink "WindElectionModel" 164 mX12_writesNumber.1 ∈ z_all := z_all_in (i := 1561) (by decide +kernel) (by decide +kernel)
theorem wlX12_173 : Cond.methodLink "WindElectionModel" 173 mX12_here.1 ∈ z_all := z_all_in (i := 1605) (by decide +kernel) (by decide +kernel)
theorem wlX12_179 : Cond.methodLink "WindElectionModel" 179 mJ0_length_8abf5.1 ∈ z_all := z_all_in (i := 1614) (by decide +kernel) (by decide +kernel)
theorem wlX12_183 : Cond.methodLink "WindElectionModel" 183 mJ0_charAt_5068e.1 ∈ z_all := z_all_in (i := 1615) (by decide +kernel) (by decide +kernel)
theorem wlX12_187 : Cond.methodLink "WindElectionModel" 187 mX12_skips.1 ∈ z_all := z_all_in (i := 1601) (by decide +kernel) (by decide +kernel)
theorem wlX12_190 : Cond.methodLink "WindElectionModel" 190 mX12_digits.1 ∈ z_all := z_all_in (i := 1620) (by decide +kernel) (by decide +kernel)
theorem wlX12_195 : Cond.methodLink "WindElectionModel" 195 mX12_isWord.1 ∈ z_all := z_all_in (i := 1610) (by decide +kernel) (by decide +kernel)
theorem wlX12_199 : Cond.methodLink "WindElectionModel" 199 mX12_figures.1 ∈ z_all := z_all_in (i := 1616) (by decide +kernel) (by decide +kernel)
theorem wlX12_208 : Cond.methodLink "WindElectionModel" 208 mX12_windsHere.1 ∈ z_all := z_all_in (i := 1624) (by decide +kernel) (by decide +kernel)
theorem wlX12_215 : Cond.methodLink "WindElectionModel" 215 mX12_withR.1 ∈ z_all := z_all_in (i := 1630) (by decide +kernel) (by decide +kernel)
theorem wlX12_222 : Cond.methodLink "WindElectionModel" 222 mX12_commandHere.1 ∈ z_all := z_all_in (i := 1597) (by decide +kernel) (by decide +kernel)
theorem wlX12_226 : Cond.methodLink "WindElectionModel" 226 mX12_addBallot.1 ∈ z_all := z_all_in (i := 1649) (by decide +kernel) (by decide +kernel)
theorem wlX12_229 : Cond.methodLink "WindElectionModel" 229 mX12_rank.1 ∈ z_all := z_all_in (i := 1650) (by decide +kernel) (by decide +kernel)
theorem wlX12_232 : Cond.methodLink "WindElectionModel" 232 mX12_addWind.1 ∈ z_all := z_all_in (i := 1643) (by decide +kernel) (by decide +kernel)
theorem wlX12_235 : Cond.methodLink "WindElectionModel" 235 mX12_withdraw.1 ∈ z_all := z_all_in (i := 1644) (by decide +kernel) (by decide +kernel)
theorem wlX12_238 : Cond.methodLink "WindElectionModel" 238 mX12_fills.1 ∈ z_all := z_all_in (i := 1645) (by decide +kernel) (by decide +kernel)
theorem wlX12_241 : Cond.methodLink "WindElectionModel" 241 mX12_removeBallot.1 ∈ z_all := z_all_in (i := 1651) (by decide +kernel) (by decide +kernel)
theorem wlX12_244 : Cond.methodLink "WindElectionModel" 244 mX12_recount.1 ∈ z_all := z_all_in (i := 1652) (by decide +kernel) (by decide +kernel)
theorem wlX12_247 : Cond.methodLink "WindElectionModel" 247 mX12_spin.1 ∈ z_all := z_all_in (i := 1653) (by decide +kernel) (by decide +kernel)
theorem wlX12_250 : Cond.methodLink "WindElectionModel" 250 mX12_certify.1 ∈ z_all := z_all_in (i := 1654) (by decide +kernel) (by decide +kernel)
theorem wlX12_253 : Cond.methodLink "WindElectionModel" 253 mX12_isText.1 ∈ z_all := z_all_in (i := 1593) (by decide +kernel) (by decide +kernel)
theorem wlX12_256 : Cond.methodLink "WindElectionModel" 256 mX12_carries.1 ∈ z_all := z_all_in (i := 1639) (by decide +kernel) (by decide +kernel)
theorem wnX1_38 : Cond.methodLinkNest "WindElection$Assembly" 38 mX2_init.1 "WindElection" ∈ lw_tbl := List.mem_of_getElem? (i := 94) (by decide +kernel)
theorem wlX1_39 : Cond.methodLink "WindElection$Assembly" 39 mX2_copyFrom.1 ∈ z_all := z_all_in (i := 423) (by decide +kernel) (by decide +kernel)
theorem wlX1_52 : Cond.methodLink "WindElection$Assembly" 52 mX1_hasWind.1 ∈ z_all := z_all_in (i := 711) (by decide +kernel) (by decide +kernel)
theorem wlX1_62 : Cond.methodLink "WindElection$Assembly" 62 mX1_isWeight.1 ∈ z_all := z_all_in (i := 747) (by decide +kernel) (by decide +kernel)
theorem wlX1_71 : Cond.methodLink "WindElection$Assembly" 71 mX2_start.1 ∈ z_all := z_all_in (i := 754) (by decide +kernel) (by decide +kernel)
theorem wlX1_75 : Cond.methodLink "WindElection$Assembly" 75 mX1_hasBallot.1 ∈ z_all := z_all_in (i := 769) (by decide +kernel) (by decide +kernel)
theorem wlX1_81 : Cond.methodLink "WindElection$Assembly" 81 mX2_placeOf.1 ∈ z_all := z_all_in (i := 775) (by decide +kernel) (by decide +kernel)
theorem wlX1_88 : Cond.methodLink "WindElection$Assembly" 88 mX2_append.1 ∈ z_all := z_all_in (i := 778) (by decide +kernel) (by decide +kernel)
theorem wnX1_97 : Cond.methodLinkNest "WindElection$Assembly" 97 mX11_spun.1 "WindElection" ∈ lw_tbl := List.mem_of_getElem? (i := 434) (by decide +kernel)
theorem wlX1_103 : Cond.methodLink "WindElection$Assembly" 103 mX2_prefers.1 ∈ z_all := z_all_in (i := 644) (by decide +kernel) (by decide +kernel)
theorem wlX1_107 : Cond.methodLink "WindElection$Assembly" 107 mX1_weightPreferring.1 ∈ z_all := z_all_in (i := 640) (by decide +kernel) (by decide +kernel)
theorem wlX1_111 : Cond.methodLink "WindElection$Assembly" 111 mX1_isStronger.1 ∈ z_all := z_all_in (i := 636) (by decide +kernel) (by decide +kernel)
theorem wlX1_114 : Cond.methodLink "WindElection$Assembly" 114 mX1_standingWinds.1 ∈ z_all := z_all_in (i := 631) (by decide +kernel) (by decide +kernel)
theorem wlX1_118 : Cond.methodLink "WindElection$Assembly" 118 mX1_standingWindsBeatenBy.1 ∈ z_all := z_all_in (i := 632) (by decide +kernel) (by decide +kernel)
theorem wlX2_22 : Cond.methodLink "WindElection$Ballot" 22 mX2_placeOf.1 ∈ z_all := z_all_in (i := 648) (by decide +kernel) (by decide +kernel)
theorem wnX3_27 : Cond.methodLinkNest "WindElection$Count" 27 mX8_init.1 "WindElection" ∈ lw_tbl := List.mem_of_getElem? (i := 183) (by decide +kernel)
theorem wlX3_31 : Cond.methodLink "WindElection$Count" 31 mX1_standingWinds.1 ∈ z_all := z_all_in (i := 363) (by decide +kernel) (by decide +kernel)
theorem wlX3_35 : Cond.methodLink "WindElection$Count" 35 mX8_openFirst.1 ∈ z_all := z_all_in (i := 364) (by decide +kernel) (by decide +kernel)
theorem wlX3_39 : Cond.methodLink "WindElection$Count" 39 mX8_openAfter.1 ∈ z_all := z_all_in (i := 372) (by decide +kernel) (by decide +kernel)
theorem wlX3_50 : Cond.methodLink "WindElection$Count" 50 mX8_add.1 ∈ z_all := z_all_in (i := 380) (by decide +kernel) (by decide +kernel)
theorem wlX3_54 : Cond.methodLink "WindElection$Count" 54 mX8_decide.1 ∈ z_all := z_all_in (i := 384) (by decide +kernel) (by decide +kernel)
theorem wlX3_62 : Cond.methodLink "WindElection$Count" 62 mX8_sumOfVotes.1 ∈ z_all := z_all_in (i := 660) (by decide +kernel) (by decide +kernel)
theorem wlX5_24 : Cond.methodLink "WindElection$History" 24 mX1_init.1 ∈ z_all := z_all_in (i := 162) (by decide +kernel) (by decide +kernel)
theorem wlX5_25 : Cond.methodLink "WindElection$History" 25 mX1_copyFrom.1 ∈ z_all := z_all_in (i := 580) (by decide +kernel) (by decide +kernel)
theorem wnX6_17 : Cond.methodLinkNest "WindElection$Piles" 17 mX8_init.1 "WindElection" ∈ lw_tbl := List.mem_of_getElem? (i := 238) (by decide +kernel)
theorem wlX6_22 : Cond.methodLink "WindElection$Piles" 22 mX1_standingWinds.1 ∈ z_all := z_all_in (i := 618) (by decide +kernel) (by decide +kernel)
theorem wlX6_28 : Cond.methodLink "WindElection$Piles" 28 mX8_openFirst.1 ∈ z_all := z_all_in (i := 619) (by decide +kernel) (by decide +kernel)
theorem wlX6_40 : Cond.methodLink "WindElection$Piles" 40 mX8_add.1 ∈ z_all := z_all_in (i := 620) (by decide +kernel) (by decide +kernel)
theorem wlX6_47 : Cond.methodLink "WindElection$Piles" 47 mX8_decide.1 ∈ z_all := z_all_in (i := 621) (by decide +kernel) (by decide +kernel)
theorem wlX6_57 : Cond.methodLink "WindElection$Piles" 57 mX6_transfer.1 ∈ z_all := z_all_in (i := 622) (by decide +kernel) (by decide +kernel)
theorem wlX6_61 : Cond.methodLink "WindElection$Piles" 61 mX8_continues.1 ∈ z_all := z_all_in (i := 626) (by decide +kernel) (by decide +kernel)
theorem wnX7_11 : Cond.methodLinkNest "WindElection$Reader" 11 mX9_init.1 "WindElection" ∈ lw_tbl := List.mem_of_getElem? (i := 270) (by decide +kernel)
theorem wlX7_38 : Cond.methodLink "WindElection$Reader" 38 mX7_rewind.1 ∈ z_all := z_all_in (i := 1071) (by decide +kernel) (by decide +kernel)
theorem wlX7_41 : Cond.methodLink "WindElection$Reader" 41 mX7_readCommand.1 ∈ z_all := z_all_in (i := 1075) (by decide +kernel) (by decide +kernel)
theorem wlX7_48 : Cond.methodLink "WindElection$Reader" 48 mX7_accept.1 ∈ z_all := z_all_in (i := 1079) (by decide +kernel) (by decide +kernel)
theorem wlX7_52 : Cond.methodLink "WindElection$Reader" 52 mX7_readWord.1 ∈ z_all := z_all_in (i := 1087) (by decide +kernel) (by decide +kernel)
theorem wlX7_58 : Cond.methodLink "WindElection$Reader" 58 mX7_readParameter.1 ∈ z_all := z_all_in (i := 1148) (by decide +kernel) (by decide +kernel)
theorem wlX7_68 : Cond.methodLink "WindElection$Reader" 68 mX7_readFurtherWinds.1 ∈ z_all := z_all_in (i := 1162) (by decide +kernel) (by decide +kernel)
theorem wlX7_79 : Cond.methodLink "WindElection$Reader" 79 mX7_lettersRead.1 ∈ z_all := z_all_in (i := 1093) (by decide +kernel) (by decide +kernel)
theorem wlX7_83 : Cond.methodLink "WindElection$Reader" 83 mJ9_max_7cf53.1 ∈ z_all := z_all_in (i := 1145) (by decide +kernel) (by decide +kernel)
theorem wlX7_89 : Cond.methodLink "WindElection$Reader" 89 mJ0_length_8abf5.1 ∈ z_all := z_all_in (i := 1097) (by decide +kernel) (by decide +kernel)
theorem wlX7_94 : Cond.methodLink "WindElection$Reader" 94 mJ0_charAt_5068e.1 ∈ z_all := z_all_in (i := 1107) (by decide +kernel) (by decide +kernel)
theorem wlX7_98 : Cond.methodLink "WindElection$Reader" 98 mX9_hasAt.1 ∈ z_all := z_all_in (i := 1083) (by decide +kernel) (by decide +kernel)
theorem wlX7_102 : Cond.methodLink "WindElection$Reader" 102 mX7_readNumber.1 ∈ z_all := z_all_in (i := 1152) (by decide +kernel) (by decide +kernel)
theorem wlX7_105 : Cond.methodLink "WindElection$Reader" 105 mX9_digitAt.1 ∈ z_all := z_all_in (i := 1156) (by decide +kernel) (by decide +kernel)
theorem wlX8_29 : Cond.methodLink "WindElection$Round" 29 mX1_hasWind.1 ∈ z_all := z_all_in (i := 368) (by decide +kernel) (by decide +kernel)
theorem wlX8_39 : Cond.methodLink "WindElection$Round" 39 mX8_continues.1 ∈ z_all := z_all_in (i := 376) (by decide +kernel) (by decide +kernel)
theorem wlX8_53 : Cond.methodLink "WindElection$Round" 53 mX8_sumOfVotes.1 ∈ z_all := z_all_in (i := 388) (by decide +kernel) (by decide +kernel)
theorem wlX8_57 : Cond.methodLink "WindElection$Round" 57 mX8_continuingWinds.1 ∈ z_all := z_all_in (i := 392) (by decide +kernel) (by decide +kernel)
theorem wlX8_60 : Cond.methodLink "WindElection$Round" 60 mX8_windThatWins.1 ∈ z_all := z_all_in (i := 396) (by decide +kernel) (by decide +kernel)
theorem wlX8_64 : Cond.methodLink "WindElection$Round" 64 mX8_fewestVotes.1 ∈ z_all := z_all_in (i := 400) (by decide +kernel) (by decide +kernel)
theorem wlX8_67 : Cond.methodLink "WindElection$Round" 67 mX8_windsWith.1 ∈ z_all := z_all_in (i := 404) (by decide +kernel) (by decide +kernel)
theorem wlX8_71 : Cond.methodLink "WindElection$Round" 71 mX8_windWith.1 ∈ z_all := z_all_in (i := 408) (by decide +kernel) (by decide +kernel)
theorem wnX8_74 : Cond.methodLinkNest "WindElection$Round" 74 mX11_spun.1 "WindElection" ∈ lw_tbl := List.mem_of_getElem? (i := 412) (by decide +kernel)
theorem wlX9_19 : Cond.methodLink "WindElection$Text" 19 mX9_append.1 ∈ z_all := z_all_in (i := 605) (by decide +kernel) (by decide +kernel)
theorem wlJ0_492 : Cond.methodLink "java/lang/String" 492 mJ0_isLatin1_aae02.1 ∈ z_all := z_all_in (i := 1111) (by decide +kernel) (by decide +kernel)
theorem wlJ0_495 : Cond.methodLink "java/lang/String" 495 mJ1_charAt_3b067.1 ∈ z_all := z_all_in (i := 1115) (by decide +kernel) (by decide +kernel)
theorem wlJ0_498 : Cond.methodLink "java/lang/String" 498 mJ2_charAt_3b067.1 ∈ z_all := z_all_in (i := 1126) (by decide +kernel) (by decide +kernel)
theorem wlJ0_1059 : Cond.methodLink "java/lang/String" 1059 mJ3_checkIndex_8e157.1 ∈ z_all := z_all_in (i := 1123) (by decide +kernel) (by decide +kernel)
theorem wlJ0_335 : Cond.methodLink "java/lang/String" 335 mJ0_coder_7d493.1 ∈ z_all := z_all_in (i := 1101) (by decide +kernel) (by decide +kernel)
theorem wlJ1_9 : Cond.methodLink "java/lang/StringLatin1" 9 mJ0_checkIndex_df160.1 ∈ z_all := z_all_in (i := 1118) (by decide +kernel) (by decide +kernel)
theorem wlJ2_67 : Cond.methodLink "java/lang/StringUTF16" 67 mJ2_checkIndex_2214a.1 ∈ z_all := z_all_in (i := 1129) (by decide +kernel) (by decide +kernel)
theorem wlJ2_71 : Cond.methodLink "java/lang/StringUTF16" 71 mJ2_getChar_3b067.1 ∈ z_all := z_all_in (i := 1136) (by decide +kernel) (by decide +kernel)
theorem wlJ2_48 : Cond.methodLink "java/lang/StringUTF16" 48 mJ2_length_9d52b.1 ∈ z_all := z_all_in (i := 1132) (by decide +kernel) (by decide +kernel)
theorem wlJ2_414 : Cond.methodLink "java/lang/StringUTF16" 414 mJ0_checkIndex_df160.1 ∈ z_all := z_all_in (i := 1135) (by decide +kernel) (by decide +kernel)
theorem ffX11_10 : z_FldF "WindElection" 10 8 0 1 (.object "WindElection$Assembly") := ⟨by decide, RX11, TX11, 12, tyX11, rfl, by decide, z_all_in (i := 294) (by decide +kernel) (by decide +kernel), u_inX11, rfl, rfl, rfl, rfl, tyX11_ok, nmX11⟩
theorem ffX11_16 : z_FldF "WindElection" 16 8 1 1 (.object "WindElection$Assembly") := ⟨by decide, RX11, TX11, 12, tyX11, rfl, by decide, z_all_in (i := 295) (by decide +kernel) (by decide +kernel), u_inX11, rfl, rfl, rfl, rfl, tyX11_ok, nmX11⟩
theorem ffX11_19 : z_FldF "WindElection" 19 8 2 1 (.object "WindElection$Assembly") := ⟨by decide, RX11, TX11, 12, tyX11, rfl, by decide, z_all_in (i := 296) (by decide +kernel) (by decide +kernel), u_inX11, rfl, rfl, rfl, rfl, tyX11_ok, nmX11⟩
theorem fpX11_22 : z_FldP "WindElection" 22 8 3 0 (.boolean) := ⟨by decide, RX11, TX11, 12, tyX11, rfl, by decide, z_all_in (i := 297) (by decide +kernel) (by decide +kernel), u_inX11, rfl, rfl, rfl, tyX11_ok, nmX11⟩
theorem ffX11_29 : z_FldF "WindElection" 29 8 4 1 (.object "WindElection$History") := ⟨by decide, RX11, TX11, 12, tyX11, rfl, by decide, z_all_in (i := 298) (by decide +kernel) (by decide +kernel), u_inX11, rfl, rfl, rfl, rfl, tyX11_ok, nmX11⟩
theorem ffX11_36 : z_FldF "WindElection" 36 8 5 1 (.object "WindElection$Count") := ⟨by decide, RX11, TX11, 12, tyX11, rfl, by decide, z_all_in (i := 299) (by decide +kernel) (by decide +kernel), u_inX11, rfl, rfl, rfl, rfl, tyX11_ok, nmX11⟩
theorem ffX11_43 : z_FldF "WindElection" 43 8 6 1 (.object "WindElection$Piles") := ⟨by decide, RX11, TX11, 12, tyX11, rfl, by decide, z_all_in (i := 300) (by decide +kernel) (by decide +kernel), u_inX11, rfl, rfl, rfl, rfl, tyX11_ok, nmX11⟩
theorem ffX11_47 : z_FldF "WindElection" 47 8 7 1 (.array .int) := ⟨by decide, RX11, TX11, 12, tyX11, rfl, by decide, z_all_in (i := 301) (by decide +kernel) (by decide +kernel), u_inX11, rfl, rfl, rfl, rfl, tyX11_ok, nmX11⟩
theorem ffX11_54 : z_FldF "WindElection" 54 8 8 1 (.object "WindElection$Text") := ⟨by decide, RX11, TX11, 12, tyX11, rfl, by decide, z_all_in (i := 302) (by decide +kernel) (by decide +kernel), u_inX11, rfl, rfl, rfl, rfl, tyX11_ok, nmX11⟩
theorem ffX11_61 : z_FldF "WindElection" 61 8 9 1 (.object "WindElection$Reader") := ⟨by decide, RX11, TX11, 12, tyX11, rfl, by decide, z_all_in (i := 303) (by decide +kernel) (by decide +kernel), u_inX11, rfl, rfl, rfl, rfl, tyX11_ok, nmX11⟩
theorem fpX11_65 : z_FldP "WindElection" 65 8 10 0 (.int) := ⟨by decide, RX11, TX11, 12, tyX11, rfl, by decide, z_all_in (i := 304) (by decide +kernel) (by decide +kernel), u_inX11, rfl, rfl, rfl, tyX11_ok, nmX11⟩
theorem fpX11_69 : z_FldP "WindElection" 69 8 11 0 (.int) := ⟨by decide, RX11, TX11, 12, tyX11, rfl, by decide, z_all_in (i := 305) (by decide +kernel) (by decide +kernel), u_inX11, rfl, rfl, rfl, tyX11_ok, nmX11⟩
theorem fdX11_16 : z_Fld "WindElection" 16 8 1 1 := ⟨by decide, RX11, TX11, 12, rfl, by decide, z_all_in (i := 295) (by decide +kernel) (by decide +kernel), u_inX11, rfl⟩
theorem fdX11_10 : z_Fld "WindElection" 10 8 0 1 := ⟨by decide, RX11, TX11, 12, rfl, by decide, z_all_in (i := 294) (by decide +kernel) (by decide +kernel), u_inX11, rfl⟩
theorem fdX11_84 : z_Fld "WindElection" 84 0 0 0 := ⟨by decide, RX1, TX1, 7, rfl, by decide, z_all_in (i := 119) (by decide +kernel) (by decide +kernel), u_inX1, rfl⟩
theorem fdX11_99 : z_Fld "WindElection" 99 0 1 1 := ⟨by decide, RX1, TX1, 7, rfl, by decide, z_all_in (i := 122) (by decide +kernel) (by decide +kernel), u_inX1, rfl⟩
theorem fdX11_103 : z_Fld "WindElection" 103 0 2 1 := ⟨by decide, RX1, TX1, 7, rfl, by decide, z_all_in (i := 124) (by decide +kernel) (by decide +kernel), u_inX1, rfl⟩
theorem fdX11_110 : z_Fld "WindElection" 110 0 4 0 := ⟨by decide, RX1, TX1, 7, rfl, by decide, z_all_in (i := 130) (by decide +kernel) (by decide +kernel), u_inX1, rfl⟩
theorem fdX11_120 : z_Fld "WindElection" 120 1 1 0 := ⟨by decide, RX2, TX2, 3, rfl, by decide, z_all_in (i := 104) (by decide +kernel) (by decide +kernel), u_inX2, rfl⟩
theorem fdX11_125 : z_Fld "WindElection" 125 1 0 0 := ⟨by decide, RX2, TX2, 3, rfl, by decide, z_all_in (i := 100) (by decide +kernel) (by decide +kernel), u_inX2, rfl⟩
theorem fdX11_141 : z_Fld "WindElection" 141 1 2 1 := ⟨by decide, RX2, TX2, 3, rfl, by decide, z_all_in (i := 108) (by decide +kernel) (by decide +kernel), u_inX2, rfl⟩
theorem fdX11_36 : z_Fld "WindElection" 36 8 5 1 := ⟨by decide, RX11, TX11, 12, rfl, by decide, z_all_in (i := 299) (by decide +kernel) (by decide +kernel), u_inX11, rfl⟩
theorem fdX11_156 : z_Fld "WindElection" 156 2 2 0 := ⟨by decide, RX3, TX3, 4, rfl, by decide, z_all_in (i := 219) (by decide +kernel) (by decide +kernel), u_inX3, rfl⟩
theorem fdX11_43 : z_Fld "WindElection" 43 8 6 1 := ⟨by decide, RX11, TX11, 12, rfl, by decide, z_all_in (i := 300) (by decide +kernel) (by decide +kernel), u_inX11, rfl⟩
theorem fdX11_163 : z_Fld "WindElection" 163 2 1 0 := ⟨by decide, RX3, TX3, 4, rfl, by decide, z_all_in (i := 217) (by decide +kernel) (by decide +kernel), u_inX3, rfl⟩
theorem fdX11_176 : z_Fld "WindElection" 176 6 0 1 := ⟨by decide, RX8, TX8, 5, rfl, by decide, z_all_in (i := 189) (by decide +kernel) (by decide +kernel), u_inX8, rfl⟩
theorem fdX11_179 : z_Fld "WindElection" 179 6 1 0 := ⟨by decide, RX8, TX8, 5, rfl, by decide, z_all_in (i := 192) (by decide +kernel) (by decide +kernel), u_inX8, rfl⟩
theorem fdX11_182 : z_Fld "WindElection" 182 6 3 0 := ⟨by decide, RX8, TX8, 5, rfl, by decide, z_all_in (i := 200) (by decide +kernel) (by decide +kernel), u_inX8, rfl⟩
theorem fdX11_185 : z_Fld "WindElection" 185 6 4 0 := ⟨by decide, RX8, TX8, 5, rfl, by decide, z_all_in (i := 202) (by decide +kernel) (by decide +kernel), u_inX8, rfl⟩
theorem fdX11_193 : z_Fld "WindElection" 193 2 0 1 := ⟨by decide, RX3, TX3, 4, rfl, by decide, z_all_in (i := 215) (by decide +kernel) (by decide +kernel), u_inX3, rfl⟩
theorem fdX11_47 : z_Fld "WindElection" 47 8 7 1 := ⟨by decide, RX11, TX11, 12, rfl, by decide, z_all_in (i := 301) (by decide +kernel) (by decide +kernel), u_inX11, rfl⟩
theorem fdX11_234 : z_Fld "WindElection" 234 0 6 0 := ⟨by decide, RX1, TX1, 7, rfl, by decide, z_all_in (i := 138) (by decide +kernel) (by decide +kernel), u_inX1, rfl⟩
theorem fdX11_240 : z_Fld "WindElection" 240 0 3 0 := ⟨by decide, RX1, TX1, 7, rfl, by decide, z_all_in (i := 126) (by decide +kernel) (by decide +kernel), u_inX1, rfl⟩
theorem fdX11_54 : z_Fld "WindElection" 54 8 8 1 := ⟨by decide, RX11, TX11, 12, rfl, by decide, z_all_in (i := 302) (by decide +kernel) (by decide +kernel), u_inX11, rfl⟩
theorem fdX11_256 : z_Fld "WindElection" 256 7 1 0 := ⟨by decide, RX9, TX9, 2, rfl, by decide, z_all_in (i := 256) (by decide +kernel) (by decide +kernel), u_inX9, rfl⟩
theorem fdX11_268 : z_Fld "WindElection" 268 7 0 1 := ⟨by decide, RX9, TX9, 2, rfl, by decide, z_all_in (i := 253) (by decide +kernel) (by decide +kernel), u_inX9, rfl⟩
theorem fdX11_61 : z_Fld "WindElection" 61 8 9 1 := ⟨by decide, RX11, TX11, 12, rfl, by decide, z_all_in (i := 303) (by decide +kernel) (by decide +kernel), u_inX11, rfl⟩
theorem fdX11_285 : z_Fld "WindElection" 285 5 0 1 := ⟨by decide, RX7, TX7, 5, rfl, by decide, z_all_in (i := 274) (by decide +kernel) (by decide +kernel), u_inX7, rfl⟩
theorem fdX11_299 : z_Fld "WindElection" 299 5 1 0 := ⟨by decide, RX7, TX7, 5, rfl, by decide, z_all_in (i := 276) (by decide +kernel) (by decide +kernel), u_inX7, rfl⟩
theorem fdX11_65 : z_Fld "WindElection" 65 8 10 0 := ⟨by decide, RX11, TX11, 12, rfl, by decide, z_all_in (i := 304) (by decide +kernel) (by decide +kernel), u_inX11, rfl⟩
theorem fdX11_69 : z_Fld "WindElection" 69 8 11 0 := ⟨by decide, RX11, TX11, 12, rfl, by decide, z_all_in (i := 305) (by decide +kernel) (by decide +kernel), u_inX11, rfl⟩
theorem fdX11_29 : z_Fld "WindElection" 29 8 4 1 := ⟨by decide, RX11, TX11, 12, rfl, by decide, z_all_in (i := 298) (by decide +kernel) (by decide +kernel), u_inX11, rfl⟩
theorem fdX11_312 : z_Fld "WindElection" 312 3 2 0 := ⟨by decide, RX5, TX5, 3, rfl, by decide, z_all_in (i := 166) (by decide +kernel) (by decide +kernel), u_inX5, rfl⟩
theorem fdX11_19 : z_Fld "WindElection" 19 8 2 1 := ⟨by decide, RX11, TX11, 12, rfl, by decide, z_all_in (i := 296) (by decide +kernel) (by decide +kernel), u_inX11, rfl⟩
theorem fdX11_22 : z_Fld "WindElection" 22 8 3 0 := ⟨by decide, RX11, TX11, 12, rfl, by decide, z_all_in (i := 297) (by decide +kernel) (by decide +kernel), u_inX11, rfl⟩
theorem fdX11_328 : z_Fld "WindElection" 328 0 5 1 := ⟨by decide, RX1, TX1, 7, rfl, by decide, z_all_in (i := 134) (by decide +kernel) (by decide +kernel), u_inX1, rfl⟩
theorem fdX11_371 : z_Fld "WindElection" 371 2 3 0 := ⟨by decide, RX3, TX3, 4, rfl, by decide, z_all_in (i := 221) (by decide +kernel) (by decide +kernel), u_inX3, rfl⟩
theorem fpX11_234 : z_FldP "WindElection" 234 0 6 0 (.int) := ⟨by decide, RX1, TX1, 7, tyX1, rfl, by decide, z_all_in (i := 138) (by decide +kernel) (by decide +kernel), u_inX1, rfl, rfl, rfl, tyX1_ok, nmX1⟩
theorem fdX11_375 : z_Fld "WindElection" 375 6 2 0 := ⟨by decide, RX8, TX8, 5, rfl, by decide, z_all_in (i := 196) (by decide +kernel) (by decide +kernel), u_inX8, rfl⟩
theorem fdX11_386 : z_Fld "WindElection" 386 5 3 1 := ⟨by decide, RX7, TX7, 5, rfl, by decide, z_all_in (i := 280) (by decide +kernel) (by decide +kernel), u_inX7, rfl⟩
theorem fdX11_392 : z_Fld "WindElection" 392 5 2 1 := ⟨by decide, RX7, TX7, 5, rfl, by decide, z_all_in (i := 278) (by decide +kernel) (by decide +kernel), u_inX7, rfl⟩
theorem fdX11_402 : z_Fld "WindElection" 402 5 4 0 := ⟨by decide, RX7, TX7, 5, rfl, by decide, z_all_in (i := 282) (by decide +kernel) (by decide +kernel), u_inX7, rfl⟩
theorem ffX12_7 : z_FldF "WindElectionModel" 7 9 0 1 (.array .int) := ⟨by decide, RX12, TX12, 24, tyX12, rfl, by decide, z_all_in (i := 1231) (by decide +kernel) (by decide +kernel), u_inX12, rfl, rfl, rfl, rfl, tyX12_ok, nmX12⟩
theorem ffX12_13 : z_FldF "WindElectionModel" 13 9 1 1 (.array .int) := ⟨by decide, RX12, TX12, 24, tyX12, rfl, by decide, z_all_in (i := 1232) (by decide +kernel) (by decide +kernel), u_inX12, rfl, rfl, rfl, rfl, tyX12_ok, nmX12⟩
theorem ffX12_16 : z_FldF "WindElectionModel" 16 9 2 1 (.array .int) := ⟨by decide, RX12, TX12, 24, tyX12, rfl, by decide, z_all_in (i := 1233) (by decide +kernel) (by decide +kernel), u_inX12, rfl, rfl, rfl, rfl, tyX12_ok, nmX12⟩
theorem ffX12_19 : z_FldF "WindElectionModel" 19 9 3 1 (.array .int) := ⟨by decide, RX12, TX12, 24, tyX12, rfl, by decide, z_all_in (i := 1234) (by decide +kernel) (by decide +kernel), u_inX12, rfl, rfl, rfl, rfl, tyX12_ok, nmX12⟩
theorem ffX12_22 : z_FldF "WindElectionModel" 22 9 8 1 (.array .int) := ⟨by decide, RX12, TX12, 24, tyX12, rfl, by decide, z_all_in (i := 1239) (by decide +kernel) (by decide +kernel), u_inX12, rfl, rfl, rfl, rfl, tyX12_ok, nmX12⟩
theorem fpX12_25 : z_FldP "WindElectionModel" 25 9 10 0 (.int) := ⟨by decide, RX12, TX12, 24, tyX12, rfl, by decide, z_all_in (i := 1241) (by decide +kernel) (by decide +kernel), u_inX12, rfl, rfl, rfl, tyX12_ok, nmX12⟩
theorem fpX12_29 : z_FldP "WindElectionModel" 29 9 11 0 (.int) := ⟨by decide, RX12, TX12, 24, tyX12, rfl, by decide, z_all_in (i := 1242) (by decide +kernel) (by decide +kernel), u_inX12, rfl, rfl, rfl, tyX12_ok, nmX12⟩
theorem ffX12_32 : z_FldF "WindElectionModel" 32 9 12 1 (.array .char) := ⟨by decide, RX12, TX12, 24, tyX12, rfl, by decide, z_all_in (i := 1243) (by decide +kernel) (by decide +kernel), u_inX12, rfl, rfl, rfl, rfl, tyX12_ok, nmX12⟩
theorem ffX12_36 : z_FldF "WindElectionModel" 36 9 14 1 (.array .int) := ⟨by decide, RX12, TX12, 24, tyX12, rfl, by decide, z_all_in (i := 1245) (by decide +kernel) (by decide +kernel), u_inX12, rfl, rfl, rfl, rfl, tyX12_ok, nmX12⟩
theorem ffX12_39 : z_FldF "WindElectionModel" 39 9 15 1 (.array .int) := ⟨by decide, RX12, TX12, 24, tyX12, rfl, by decide, z_all_in (i := 1246) (by decide +kernel) (by decide +kernel), u_inX12, rfl, rfl, rfl, rfl, tyX12_ok, nmX12⟩
theorem ffX12_42 : z_FldF "WindElectionModel" 42 9 16 1 (.array .int) := ⟨by decide, RX12, TX12, 24, tyX12, rfl, by decide, z_all_in (i := 1247) (by decide +kernel) (by decide +kernel), u_inX12, rfl, rfl, rfl, rfl, tyX12_ok, nmX12⟩
theorem ffX12_45 : z_FldF "WindElectionModel" 45 9 17 1 (.array .boolean) := ⟨by decide, RX12, TX12, 24, tyX12, rfl, by decide, z_all_in (i := 1248) (by decide +kernel) (by decide +kernel), u_inX12, rfl, rfl, rfl, rfl, tyX12_ok, nmX12⟩
theorem ffX12_49 : z_FldF "WindElectionModel" 49 9 22 1 (.array .int) := ⟨by decide, RX12, TX12, 24, tyX12, rfl, by decide, z_all_in (i := 1253) (by decide +kernel) (by decide +kernel), u_inX12, rfl, rfl, rfl, rfl, tyX12_ok, nmX12⟩
theorem fdX12_52 : z_Fld "WindElectionModel" 52 9 7 0 := ⟨by decide, RX12, TX12, 24, rfl, by decide, z_all_in (i := 1238) (by decide +kernel) (by decide +kernel), u_inX12, rfl⟩
theorem fpX12_52 : z_FldP "WindElectionModel" 52 9 7 0 (.int) := ⟨by decide, RX12, TX12, 24, tyX12, rfl, by decide, z_all_in (i := 1238) (by decide +kernel) (by decide +kernel), u_inX12, rfl, rfl, rfl, tyX12_ok, nmX12⟩
theorem fdX12_55 : z_Fld "WindElectionModel" 55 9 6 0 := ⟨by decide, RX12, TX12, 24, rfl, by decide, z_all_in (i := 1237) (by decide +kernel) (by decide +kernel), u_inX12, rfl⟩
theorem fdX12_59 : z_Fld "WindElectionModel" 59 9 5 0 := ⟨by decide, RX12, TX12, 24, rfl, by decide, z_all_in (i := 1236) (by decide +kernel) (by decide +kernel), u_inX12, rfl⟩
theorem fdX12_13 : z_Fld "WindElectionModel" 13 9 1 1 := ⟨by decide, RX12, TX12, 24, rfl, by decide, z_all_in (i := 1232) (by decide +kernel) (by decide +kernel), u_inX12, rfl⟩
theorem fpX12_59 : z_FldP "WindElectionModel" 59 9 5 0 (.int) := ⟨by decide, RX12, TX12, 24, tyX12, rfl, by decide, z_all_in (i := 1236) (by decide +kernel) (by decide +kernel), u_inX12, rfl, rfl, rfl, tyX12_ok, nmX12⟩
theorem fdX12_7 : z_Fld "WindElectionModel" 7 9 0 1 := ⟨by decide, RX12, TX12, 24, rfl, by decide, z_all_in (i := 1231) (by decide +kernel) (by decide +kernel), u_inX12, rfl⟩
theorem fdX12_110 : z_Fld "WindElectionModel" 110 9 18 0 := ⟨by decide, RX12, TX12, 24, rfl, by decide, z_all_in (i := 1249) (by decide +kernel) (by decide +kernel), u_inX12, rfl⟩
theorem fdX12_36 : z_Fld "WindElectionModel" 36 9 14 1 := ⟨by decide, RX12, TX12, 24, rfl, by decide, z_all_in (i := 1245) (by decide +kernel) (by decide +kernel), u_inX12, rfl⟩
theorem fdX12_39 : z_Fld "WindElectionModel" 39 9 15 1 := ⟨by decide, RX12, TX12, 24, rfl, by decide, z_all_in (i := 1246) (by decide +kernel) (by decide +kernel), u_inX12, rfl⟩
theorem fdX12_45 : z_Fld "WindElectionModel" 45 9 17 1 := ⟨by decide, RX12, TX12, 24, rfl, by decide, z_all_in (i := 1248) (by decide +kernel) (by decide +kernel), u_inX12, rfl⟩
theorem fdX12_113 : z_Fld "WindElectionModel" 113 9 20 0 := ⟨by decide, RX12, TX12, 24, rfl, by decide, z_all_in (i := 1251) (by decide +kernel) (by decide +kernel), u_inX12, rfl⟩
theorem fpX12_113 : z_FldP "WindElectionModel" 113 9 20 0 (.int) := ⟨by decide, RX12, TX12, 24, tyX12, rfl, by decide, z_all_in (i := 1251) (by decide +kernel) (by decide +kernel), u_inX12, rfl, rfl, rfl, tyX12_ok, nmX12⟩
theorem fpX12_110 : z_FldP "WindElectionModel" 110 9 18 0 (.int) := ⟨by decide, RX12, TX12, 24, tyX12, rfl, by decide, z_all_in (i := 1249) (by decide +kernel) (by decide +kernel), u_inX12, rfl, rfl, rfl, tyX12_ok, nmX12⟩
theorem fpX12_116 : z_FldP "WindElectionModel" 116 9 19 0 (.int) := ⟨by decide, RX12, TX12, 24, tyX12, rfl, by decide, z_all_in (i := 1250) (by decide +kernel) (by decide +kernel), u_inX12, rfl, rfl, rfl, tyX12_ok, nmX12⟩
theorem fdX12_116 : z_Fld "WindElectionModel" 116 9 19 0 := ⟨by decide, RX12, TX12, 24, rfl, by decide, z_all_in (i := 1250) (by decide +kernel) (by decide +kernel), u_inX12, rfl⟩
theorem fdX12_42 : z_Fld "WindElectionModel" 42 9 16 1 := ⟨by decide, RX12, TX12, 24, rfl, by decide, z_all_in (i := 1247) (by decide +kernel) (by decide +kernel), u_inX12, rfl⟩
theorem fdX12_32 : z_Fld "WindElectionModel" 32 9 12 1 := ⟨by decide, RX12, TX12, 24, rfl, by decide, z_all_in (i := 1243) (by decide +kernel) (by decide +kernel), u_inX12, rfl⟩
theorem fdX12_158 : z_Fld "WindElectionModel" 158 9 13 0 := ⟨by decide, RX12, TX12, 24, rfl, by decide, z_all_in (i := 1244) (by decide +kernel) (by decide +kernel), u_inX12, rfl⟩
theorem fpX12_158 : z_FldP "WindElectionModel" 158 9 13 0 (.int) := ⟨by decide, RX12, TX12, 24, tyX12, rfl, by decide, z_all_in (i := 1244) (by decide +kernel) (by decide +kernel), u_inX12, rfl, rfl, rfl, tyX12_ok, nmX12⟩
theorem fdX12_167 : z_Fld "WindElectionModel" 167 9 9 0 := ⟨by decide, RX12, TX12, 24, rfl, by decide, z_all_in (i := 1240) (by decide +kernel) (by decide +kernel), u_inX12, rfl⟩
theorem fdX12_22 : z_Fld "WindElectionModel" 22 9 8 1 := ⟨by decide, RX12, TX12, 24, rfl, by decide, z_all_in (i := 1239) (by decide +kernel) (by decide +kernel), u_inX12, rfl⟩
theorem fpX12_167 : z_FldP "WindElectionModel" 167 9 9 0 (.int) := ⟨by decide, RX12, TX12, 24, tyX12, rfl, by decide, z_all_in (i := 1240) (by decide +kernel) (by decide +kernel), u_inX12, rfl, rfl, rfl, tyX12_ok, nmX12⟩
theorem fdX12_170 : z_Fld "WindElectionModel" 170 9 21 0 := ⟨by decide, RX12, TX12, 24, rfl, by decide, z_all_in (i := 1252) (by decide +kernel) (by decide +kernel), u_inX12, rfl⟩
theorem fpX12_170 : z_FldP "WindElectionModel" 170 9 21 0 (.int) := ⟨by decide, RX12, TX12, 24, tyX12, rfl, by decide, z_all_in (i := 1252) (by decide +kernel) (by decide +kernel), u_inX12, rfl, rfl, rfl, tyX12_ok, nmX12⟩
theorem fdX12_49 : z_Fld "WindElectionModel" 49 9 22 1 := ⟨by decide, RX12, TX12, 24, rfl, by decide, z_all_in (i := 1253) (by decide +kernel) (by decide +kernel), u_inX12, rfl⟩
theorem fdX12_176 : z_Fld "WindElectionModel" 176 9 23 0 := ⟨by decide, RX12, TX12, 24, rfl, by decide, z_all_in (i := 1254) (by decide +kernel) (by decide +kernel), u_inX12, rfl⟩
theorem fpX12_176 : z_FldP "WindElectionModel" 176 9 23 0 (.int) := ⟨by decide, RX12, TX12, 24, tyX12, rfl, by decide, z_all_in (i := 1254) (by decide +kernel) (by decide +kernel), u_inX12, rfl, rfl, rfl, tyX12_ok, nmX12⟩
theorem fdX12_19 : z_Fld "WindElectionModel" 19 9 3 1 := ⟨by decide, RX12, TX12, 24, rfl, by decide, z_all_in (i := 1234) (by decide +kernel) (by decide +kernel), u_inX12, rfl⟩
theorem fpX12_55 : z_FldP "WindElectionModel" 55 9 6 0 (.boolean) := ⟨by decide, RX12, TX12, 24, tyX12, rfl, by decide, z_all_in (i := 1237) (by decide +kernel) (by decide +kernel), u_inX12, rfl, rfl, rfl, tyX12_ok, nmX12⟩
theorem fdX12_25 : z_Fld "WindElectionModel" 25 9 10 0 := ⟨by decide, RX12, TX12, 24, rfl, by decide, z_all_in (i := 1241) (by decide +kernel) (by decide +kernel), u_inX12, rfl⟩
theorem fdX12_29 : z_Fld "WindElectionModel" 29 9 11 0 := ⟨by decide, RX12, TX12, 24, rfl, by decide, z_all_in (i := 1242) (by decide +kernel) (by decide +kernel), u_inX12, rfl⟩
theorem fpX12_259 : z_FldP "WindElectionModel" 259 9 4 0 (.boolean) := ⟨by decide, RX12, TX12, 24, tyX12, rfl, by decide, z_all_in (i := 1235) (by decide +kernel) (by decide +kernel), u_inX12, rfl, rfl, rfl, tyX12_ok, nmX12⟩
theorem fdX12_16 : z_Fld "WindElectionModel" 16 9 2 1 := ⟨by decide, RX12, TX12, 24, rfl, by decide, z_all_in (i := 1233) (by decide +kernel) (by decide +kernel), u_inX12, rfl⟩
theorem fdX12_259 : z_Fld "WindElectionModel" 259 9 4 0 := ⟨by decide, RX12, TX12, 24, rfl, by decide, z_all_in (i := 1235) (by decide +kernel) (by decide +kernel), u_inX12, rfl⟩
theorem fpX1_9 : z_FldP "WindElection$Assembly" 9 0 0 0 (.int) := ⟨by decide, RX1, TX1, 7, tyX1, rfl, by decide, z_all_in (i := 118) (by decide +kernel) (by decide +kernel), u_inX1, rfl, rfl, rfl, tyX1_ok, nmX1⟩
theorem ffX1_15 : z_FldF "WindElection$Assembly" 15 0 1 1 (.array .boolean) := ⟨by decide, RX1, TX1, 7, tyX1, rfl, by decide, z_all_in (i := 120) (by decide +kernel) (by decide +kernel), u_inX1, rfl, rfl, rfl, rfl, tyX1_ok, nmX1⟩
theorem ffX1_19 : z_FldF "WindElection$Assembly" 19 0 2 1 (.array .int) := ⟨by decide, RX1, TX1, 7, tyX1, rfl, by decide, z_all_in (i := 123) (by decide +kernel) (by decide +kernel), u_inX1, rfl, rfl, rfl, rfl, tyX1_ok, nmX1⟩
theorem fpX1_23 : z_FldP "WindElection$Assembly" 23 0 3 0 (.int) := ⟨by decide, RX1, TX1, 7, tyX1, rfl, by decide, z_all_in (i := 125) (by decide +kernel) (by decide +kernel), u_inX1, rfl, rfl, rfl, tyX1_ok, nmX1⟩
theorem fpX1_26 : z_FldP "WindElection$Assembly" 26 0 4 0 (.int) := ⟨by decide, RX1, TX1, 7, tyX1, rfl, by decide, z_all_in (i := 127) (by decide +kernel) (by decide +kernel), u_inX1, rfl, rfl, rfl, tyX1_ok, nmX1⟩
theorem ffX1_31 : z_FldF "WindElection$Assembly" 31 0 5 1 (.array (.object "WindElection$Ballot")) := ⟨by decide, RX1, TX1, 7, tyX1, rfl, by decide, z_all_in (i := 131) (by decide +kernel) (by decide +kernel), u_inX1, rfl, rfl, rfl, rfl, tyX1_ok, nmX1⟩
theorem fpX1_35 : z_FldP "WindElection$Assembly" 35 0 6 0 (.int) := ⟨by decide, RX1, TX1, 7, tyX1, rfl, by decide, z_all_in (i := 135) (by decide +kernel) (by decide +kernel), u_inX1, rfl, rfl, rfl, tyX1_ok, nmX1⟩
theorem fdX1_31 : z_Fld "WindElection$Assembly" 31 0 5 1 := ⟨by decide, RX1, TX1, 7, rfl, by decide, z_all_in (i := 131) (by decide +kernel) (by decide +kernel), u_inX1, rfl⟩
theorem fdX1_9 : z_Fld "WindElection$Assembly" 9 0 0 0 := ⟨by decide, RX1, TX1, 7, rfl, by decide, z_all_in (i := 118) (by decide +kernel) (by decide +kernel), u_inX1, rfl⟩
theorem fdX1_15 : z_Fld "WindElection$Assembly" 15 0 1 1 := ⟨by decide, RX1, TX1, 7, rfl, by decide, z_all_in (i := 120) (by decide +kernel) (by decide +kernel), u_inX1, rfl⟩
theorem fdX1_19 : z_Fld "WindElection$Assembly" 19 0 2 1 := ⟨by decide, RX1, TX1, 7, rfl, by decide, z_all_in (i := 123) (by decide +kernel) (by decide +kernel), u_inX1, rfl⟩
theorem fdX1_23 : z_Fld "WindElection$Assembly" 23 0 3 0 := ⟨by decide, RX1, TX1, 7, rfl, by decide, z_all_in (i := 125) (by decide +kernel) (by decide +kernel), u_inX1, rfl⟩
theorem fdX1_26 : z_Fld "WindElection$Assembly" 26 0 4 0 := ⟨by decide, RX1, TX1, 7, rfl, by decide, z_all_in (i := 127) (by decide +kernel) (by decide +kernel), u_inX1, rfl⟩
theorem fdX1_35 : z_Fld "WindElection$Assembly" 35 0 6 0 := ⟨by decide, RX1, TX1, 7, rfl, by decide, z_all_in (i := 135) (by decide +kernel) (by decide +kernel), u_inX1, rfl⟩
theorem fpX1_94 : z_FldP "WindElection$Assembly" 94 1 0 0 (.int) := ⟨by decide, RX2, TX2, 3, tyX2, rfl, by decide, z_all_in (i := 101) (by decide +kernel) (by decide +kernel), u_inX2, rfl, rfl, rfl, tyX2_ok, nmX2⟩
theorem fdX1_94 : z_Fld "WindElection$Assembly" 94 1 0 0 := ⟨by decide, RX2, TX2, 3, rfl, by decide, z_all_in (i := 101) (by decide +kernel) (by decide +kernel), u_inX2, rfl⟩
theorem fdX1_100 : z_Fld "WindElection$Assembly" 100 1 1 0 := ⟨by decide, RX2, TX2, 3, rfl, by decide, z_all_in (i := 105) (by decide +kernel) (by decide +kernel), u_inX2, rfl⟩
theorem ffX2_9 : z_FldF "WindElection$Ballot" 9 1 2 1 (.array .int) := ⟨by decide, RX2, TX2, 3, tyX2, rfl, by decide, z_all_in (i := 106) (by decide +kernel) (by decide +kernel), u_inX2, rfl, rfl, rfl, rfl, tyX2_ok, nmX2⟩
theorem fpX2_15 : z_FldP "WindElection$Ballot" 15 1 0 0 (.int) := ⟨by decide, RX2, TX2, 3, tyX2, rfl, by decide, z_all_in (i := 98) (by decide +kernel) (by decide +kernel), u_inX2, rfl, rfl, rfl, tyX2_ok, nmX2⟩
theorem fpX2_19 : z_FldP "WindElection$Ballot" 19 1 1 0 (.int) := ⟨by decide, RX2, TX2, 3, tyX2, rfl, by decide, z_all_in (i := 102) (by decide +kernel) (by decide +kernel), u_inX2, rfl, rfl, rfl, tyX2_ok, nmX2⟩
theorem fdX2_9 : z_Fld "WindElection$Ballot" 9 1 2 1 := ⟨by decide, RX2, TX2, 3, rfl, by decide, z_all_in (i := 106) (by decide +kernel) (by decide +kernel), u_inX2, rfl⟩
theorem fdX2_19 : z_Fld "WindElection$Ballot" 19 1 1 0 := ⟨by decide, RX2, TX2, 3, rfl, by decide, z_all_in (i := 102) (by decide +kernel) (by decide +kernel), u_inX2, rfl⟩
theorem fdX2_15 : z_Fld "WindElection$Ballot" 15 1 0 0 := ⟨by decide, RX2, TX2, 3, rfl, by decide, z_all_in (i := 98) (by decide +kernel) (by decide +kernel), u_inX2, rfl⟩
theorem ffX3_11 : z_FldF "WindElection$Count" 11 2 0 1 (.array (.object "WindElection$Round")) := ⟨by decide, RX3, TX3, 4, tyX3, rfl, by decide, z_all_in (i := 214) (by decide +kernel) (by decide +kernel), u_inX3, rfl, rfl, rfl, rfl, tyX3_ok, nmX3⟩
theorem fpX3_17 : z_FldP "WindElection$Count" 17 2 1 0 (.int) := ⟨by decide, RX3, TX3, 4, tyX3, rfl, by decide, z_all_in (i := 216) (by decide +kernel) (by decide +kernel), u_inX3, rfl, rfl, rfl, tyX3_ok, nmX3⟩
theorem fpX3_21 : z_FldP "WindElection$Count" 21 2 2 0 (.int) := ⟨by decide, RX3, TX3, 4, tyX3, rfl, by decide, z_all_in (i := 218) (by decide +kernel) (by decide +kernel), u_inX3, rfl, rfl, rfl, tyX3_ok, nmX3⟩
theorem fpX3_24 : z_FldP "WindElection$Count" 24 2 3 0 (.int) := ⟨by decide, RX3, TX3, 4, tyX3, rfl, by decide, z_all_in (i := 220) (by decide +kernel) (by decide +kernel), u_inX3, rfl, rfl, rfl, tyX3_ok, nmX3⟩
theorem fdX3_11 : z_Fld "WindElection$Count" 11 2 0 1 := ⟨by decide, RX3, TX3, 4, rfl, by decide, z_all_in (i := 214) (by decide +kernel) (by decide +kernel), u_inX3, rfl⟩
theorem fdX3_28 : z_Fld "WindElection$Count" 28 0 6 0 := ⟨by decide, RX1, TX1, 7, rfl, by decide, z_all_in (i := 136) (by decide +kernel) (by decide +kernel), u_inX1, rfl⟩
theorem fdX3_21 : z_Fld "WindElection$Count" 21 2 2 0 := ⟨by decide, RX3, TX3, 4, rfl, by decide, z_all_in (i := 218) (by decide +kernel) (by decide +kernel), u_inX3, rfl⟩
theorem fdX3_43 : z_Fld "WindElection$Count" 43 0 4 0 := ⟨by decide, RX1, TX1, 7, rfl, by decide, z_all_in (i := 129) (by decide +kernel) (by decide +kernel), u_inX1, rfl⟩
theorem fdX3_46 : z_Fld "WindElection$Count" 46 0 5 1 := ⟨by decide, RX1, TX1, 7, rfl, by decide, z_all_in (i := 133) (by decide +kernel) (by decide +kernel), u_inX1, rfl⟩
theorem fdX3_24 : z_Fld "WindElection$Count" 24 2 3 0 := ⟨by decide, RX3, TX3, 4, rfl, by decide, z_all_in (i := 220) (by decide +kernel) (by decide +kernel), u_inX3, rfl⟩
theorem fdX3_58 : z_Fld "WindElection$Count" 58 6 2 0 := ⟨by decide, RX8, TX8, 5, rfl, by decide, z_all_in (i := 195) (by decide +kernel) (by decide +kernel), u_inX8, rfl⟩
theorem fdX3_17 : z_Fld "WindElection$Count" 17 2 1 0 := ⟨by decide, RX3, TX3, 4, rfl, by decide, z_all_in (i := 216) (by decide +kernel) (by decide +kernel), u_inX3, rfl⟩
theorem fdX3_59 : z_Fld "WindElection$Count" 59 6 3 0 := ⟨by decide, RX8, TX8, 5, rfl, by decide, z_all_in (i := 199) (by decide +kernel) (by decide +kernel), u_inX8, rfl⟩
theorem fdX3_65 : z_Fld "WindElection$Count" 65 6 1 0 := ⟨by decide, RX8, TX8, 5, rfl, by decide, z_all_in (i := 191) (by decide +kernel) (by decide +kernel), u_inX8, rfl⟩
theorem ffX5_11 : z_FldF "WindElection$History" 11 3 0 1 (.array (.object "WindElection$Assembly")) := ⟨by decide, RX5, TX5, 3, tyX5, rfl, by decide, z_all_in (i := 163) (by decide +kernel) (by decide +kernel), u_inX5, rfl, rfl, rfl, rfl, tyX5_ok, nmX5⟩
theorem fpX5_17 : z_FldP "WindElection$History" 17 3 1 0 (.int) := ⟨by decide, RX5, TX5, 3, tyX5, rfl, by decide, z_all_in (i := 164) (by decide +kernel) (by decide +kernel), u_inX5, rfl, rfl, rfl, tyX5_ok, nmX5⟩
theorem fpX5_21 : z_FldP "WindElection$History" 21 3 2 0 (.int) := ⟨by decide, RX5, TX5, 3, tyX5, rfl, by decide, z_all_in (i := 165) (by decide +kernel) (by decide +kernel), u_inX5, rfl, rfl, rfl, tyX5_ok, nmX5⟩
theorem fdX5_11 : z_Fld "WindElection$History" 11 3 0 1 := ⟨by decide, RX5, TX5, 3, rfl, by decide, z_all_in (i := 163) (by decide +kernel) (by decide +kernel), u_inX5, rfl⟩
theorem fdX5_17 : z_Fld "WindElection$History" 17 3 1 0 := ⟨by decide, RX5, TX5, 3, rfl, by decide, z_all_in (i := 164) (by decide +kernel) (by decide +kernel), u_inX5, rfl⟩
theorem fdX5_21 : z_Fld "WindElection$History" 21 3 2 0 := ⟨by decide, RX5, TX5, 3, rfl, by decide, z_all_in (i := 165) (by decide +kernel) (by decide +kernel), u_inX5, rfl⟩
theorem ffX6_9 : z_FldF "WindElection$Piles" 9 4 0 1 (.array .int) := ⟨by decide, RX6, TX6, 2, tyX6, rfl, by decide, z_all_in (i := 239) (by decide +kernel) (by decide +kernel), u_inX6, rfl, rfl, rfl, rfl, tyX6_ok, nmX6⟩
theorem ffX6_18 : z_FldF "WindElection$Piles" 18 4 1 1 (.object "WindElection$Round") := ⟨by decide, RX6, TX6, 2, tyX6, rfl, by decide, z_all_in (i := 240) (by decide +kernel) (by decide +kernel), u_inX6, rfl, rfl, rfl, rfl, tyX6_ok, nmX6⟩
theorem fdX6_18 : z_Fld "WindElection$Piles" 18 4 1 1 := ⟨by decide, RX6, TX6, 2, rfl, by decide, z_all_in (i := 240) (by decide +kernel) (by decide +kernel), u_inX6, rfl⟩
theorem fdX6_32 : z_Fld "WindElection$Piles" 32 0 4 0 := ⟨by decide, RX1, TX1, 7, rfl, by decide, z_all_in (i := 128) (by decide +kernel) (by decide +kernel), u_inX1, rfl⟩
theorem fdX6_9 : z_Fld "WindElection$Piles" 9 4 0 1 := ⟨by decide, RX6, TX6, 2, rfl, by decide, z_all_in (i := 239) (by decide +kernel) (by decide +kernel), u_inX6, rfl⟩
theorem fdX6_36 : z_Fld "WindElection$Piles" 36 0 5 1 := ⟨by decide, RX1, TX1, 7, rfl, by decide, z_all_in (i := 132) (by decide +kernel) (by decide +kernel), u_inX1, rfl⟩
theorem fdX6_44 : z_Fld "WindElection$Piles" 44 0 6 0 := ⟨by decide, RX1, TX1, 7, rfl, by decide, z_all_in (i := 137) (by decide +kernel) (by decide +kernel), u_inX1, rfl⟩
theorem fdX6_51 : z_Fld "WindElection$Piles" 51 6 2 0 := ⟨by decide, RX8, TX8, 5, rfl, by decide, z_all_in (i := 194) (by decide +kernel) (by decide +kernel), u_inX8, rfl⟩
theorem fdX6_54 : z_Fld "WindElection$Piles" 54 6 3 0 := ⟨by decide, RX8, TX8, 5, rfl, by decide, z_all_in (i := 198) (by decide +kernel) (by decide +kernel), u_inX8, rfl⟩
theorem fdX6_65 : z_Fld "WindElection$Piles" 65 6 0 1 := ⟨by decide, RX8, TX8, 5, rfl, by decide, z_all_in (i := 188) (by decide +kernel) (by decide +kernel), u_inX8, rfl⟩
theorem ffX7_12 : z_FldF "WindElection$Reader" 12 5 0 1 (.object "WindElection$Text") := ⟨by decide, RX7, TX7, 5, tyX7, rfl, by decide, z_all_in (i := 273) (by decide +kernel) (by decide +kernel), u_inX7, rfl, rfl, rfl, rfl, tyX7_ok, nmX7⟩
theorem fpX7_18 : z_FldP "WindElection$Reader" 18 5 1 0 (.int) := ⟨by decide, RX7, TX7, 5, tyX7, rfl, by decide, z_all_in (i := 275) (by decide +kernel) (by decide +kernel), u_inX7, rfl, rfl, rfl, tyX7_ok, nmX7⟩
theorem fpX7_28 : z_FldP "WindElection$Reader" 28 5 2 1 (.object "WindElection$Word") := ⟨by decide, RX7, TX7, 5, tyX7, rfl, by decide, z_all_in (i := 277) (by decide +kernel) (by decide +kernel), u_inX7, rfl, rfl, rfl, tyX7_ok, nmX7⟩
theorem ffX7_31 : z_FldF "WindElection$Reader" 31 5 3 1 (.array .int) := ⟨by decide, RX7, TX7, 5, tyX7, rfl, by decide, z_all_in (i := 279) (by decide +kernel) (by decide +kernel), u_inX7, rfl, rfl, rfl, rfl, tyX7_ok, nmX7⟩
theorem fpX7_35 : z_FldP "WindElection$Reader" 35 5 4 0 (.int) := ⟨by decide, RX7, TX7, 5, tyX7, rfl, by decide, z_all_in (i := 281) (by decide +kernel) (by decide +kernel), u_inX7, rfl, rfl, rfl, tyX7_ok, nmX7⟩
theorem fdX7_18 : z_Fld "WindElection$Reader" 18 5 1 0 := ⟨by decide, RX7, TX7, 5, rfl, by decide, z_all_in (i := 275) (by decide +kernel) (by decide +kernel), u_inX7, rfl⟩
theorem fdX7_12 : z_Fld "WindElection$Reader" 12 5 0 1 := ⟨by decide, RX7, TX7, 5, rfl, by decide, z_all_in (i := 273) (by decide +kernel) (by decide +kernel), u_inX7, rfl⟩
theorem fdX7_45 : z_Fld "WindElection$Reader" 45 7 1 0 := ⟨by decide, RX9, TX9, 2, rfl, by decide, z_all_in (i := 255) (by decide +kernel) (by decide +kernel), u_inX9, rfl⟩
theorem fdX7_28 : z_Fld "WindElection$Reader" 28 5 2 1 := ⟨by decide, RX7, TX7, 5, rfl, by decide, z_all_in (i := 277) (by decide +kernel) (by decide +kernel), u_inX7, rfl⟩
theorem fdX7_35 : z_Fld "WindElection$Reader" 35 5 4 0 := ⟨by decide, RX7, TX7, 5, rfl, by decide, z_all_in (i := 281) (by decide +kernel) (by decide +kernel), u_inX7, rfl⟩
theorem fdX7_31 : z_Fld "WindElection$Reader" 31 5 3 1 := ⟨by decide, RX7, TX7, 5, rfl, by decide, z_all_in (i := 279) (by decide +kernel) (by decide +kernel), u_inX7, rfl⟩
theorem ffX8_9 : z_FldF "WindElection$Round" 9 6 0 1 (.array .int) := ⟨by decide, RX8, TX8, 5, tyX8, rfl, by decide, z_all_in (i := 187) (by decide +kernel) (by decide +kernel), u_inX8, rfl, rfl, rfl, rfl, tyX8_ok, nmX8⟩
theorem fpX8_15 : z_FldP "WindElection$Round" 15 6 1 0 (.int) := ⟨by decide, RX8, TX8, 5, tyX8, rfl, by decide, z_all_in (i := 190) (by decide +kernel) (by decide +kernel), u_inX8, rfl, rfl, rfl, tyX8_ok, nmX8⟩
theorem fpX8_19 : z_FldP "WindElection$Round" 19 6 2 0 (.int) := ⟨by decide, RX8, TX8, 5, tyX8, rfl, by decide, z_all_in (i := 193) (by decide +kernel) (by decide +kernel), u_inX8, rfl, rfl, rfl, tyX8_ok, nmX8⟩
theorem fpX8_22 : z_FldP "WindElection$Round" 22 6 3 0 (.int) := ⟨by decide, RX8, TX8, 5, tyX8, rfl, by decide, z_all_in (i := 197) (by decide +kernel) (by decide +kernel), u_inX8, rfl, rfl, rfl, tyX8_ok, nmX8⟩
theorem fpX8_25 : z_FldP "WindElection$Round" 25 6 4 0 (.boolean) := ⟨by decide, RX8, TX8, 5, tyX8, rfl, by decide, z_all_in (i := 201) (by decide +kernel) (by decide +kernel), u_inX8, rfl, rfl, rfl, tyX8_ok, nmX8⟩
theorem fdX8_9 : z_Fld "WindElection$Round" 9 6 0 1 := ⟨by decide, RX8, TX8, 5, rfl, by decide, z_all_in (i := 187) (by decide +kernel) (by decide +kernel), u_inX8, rfl⟩
theorem fdX8_35 : z_Fld "WindElection$Round" 35 0 1 1 := ⟨by decide, RX1, TX1, 7, rfl, by decide, z_all_in (i := 121) (by decide +kernel) (by decide +kernel), u_inX1, rfl⟩
theorem fdX8_22 : z_Fld "WindElection$Round" 22 6 3 0 := ⟨by decide, RX8, TX8, 5, rfl, by decide, z_all_in (i := 197) (by decide +kernel) (by decide +kernel), u_inX8, rfl⟩
theorem fdX8_42 : z_Fld "WindElection$Round" 42 1 1 0 := ⟨by decide, RX2, TX2, 3, rfl, by decide, z_all_in (i := 103) (by decide +kernel) (by decide +kernel), u_inX2, rfl⟩
theorem fdX8_47 : z_Fld "WindElection$Round" 47 1 2 1 := ⟨by decide, RX2, TX2, 3, rfl, by decide, z_all_in (i := 107) (by decide +kernel) (by decide +kernel), u_inX2, rfl⟩
theorem fdX8_50 : z_Fld "WindElection$Round" 50 1 0 0 := ⟨by decide, RX2, TX2, 3, rfl, by decide, z_all_in (i := 99) (by decide +kernel) (by decide +kernel), u_inX2, rfl⟩
theorem fdX8_15 : z_Fld "WindElection$Round" 15 6 1 0 := ⟨by decide, RX8, TX8, 5, rfl, by decide, z_all_in (i := 190) (by decide +kernel) (by decide +kernel), u_inX8, rfl⟩
theorem fdX8_19 : z_Fld "WindElection$Round" 19 6 2 0 := ⟨by decide, RX8, TX8, 5, rfl, by decide, z_all_in (i := 193) (by decide +kernel) (by decide +kernel), u_inX8, rfl⟩
theorem ffX9_9 : z_FldF "WindElection$Text" 9 7 0 1 (.array .char) := ⟨by decide, RX9, TX9, 2, tyX9, rfl, by decide, z_all_in (i := 252) (by decide +kernel) (by decide +kernel), u_inX9, rfl, rfl, rfl, rfl, tyX9_ok, nmX9⟩
theorem fpX9_15 : z_FldP "WindElection$Text" 15 7 1 0 (.int) := ⟨by decide, RX9, TX9, 2, tyX9, rfl, by decide, z_all_in (i := 254) (by decide +kernel) (by decide +kernel), u_inX9, rfl, rfl, rfl, tyX9_ok, nmX9⟩
theorem fdX9_15 : z_Fld "WindElection$Text" 15 7 1 0 := ⟨by decide, RX9, TX9, 2, rfl, by decide, z_all_in (i := 254) (by decide +kernel) (by decide +kernel), u_inX9, rfl⟩
theorem fdX9_9 : z_Fld "WindElection$Text" 9 7 0 1 := ⟨by decide, RX9, TX9, 2, rfl, by decide, z_all_in (i := 252) (by decide +kernel) (by decide +kernel), u_inX9, rfl⟩
theorem nwX11_7 : z_New "WindElection" 7 0 7 := ⟨by decide, RX1, TX1, tyX1, rfl, z_all_in (i := 85) (by decide +kernel) (by decide +kernel), z_all_in (i := 86) (by decide +kernel) (by decide +kernel), z_all_in (i := 49) (by decide +kernel) (by decide +kernel), u_inX1, tyX1_ok, by intro k hk; rcases (show k = 0 ∨ k = 1 ∨ k = 2 ∨ k = 3 ∨ k = 4 ∨ k = 5 ∨ k = 6 by omega) with rfl | rfl | rfl | rfl | rfl | rfl | rfl <;> exact ⟨_, rfl, fun _ => rfl⟩⟩
theorem nwX11_26 : z_New "WindElection" 26 3 3 := ⟨by decide, RX5, TX5, tyX5, rfl, z_all_in (i := 154) (by decide +kernel) (by decide +kernel), z_all_in (i := 155) (by decide +kernel) (by decide +kernel), z_all_in (i := 51) (by decide +kernel) (by decide +kernel), u_inX5, tyX5_ok, by intro k hk; rcases (show k = 0 ∨ k = 1 ∨ k = 2 by omega) with rfl | rfl | rfl <;> exact ⟨_, rfl, fun _ => rfl⟩⟩
theorem nwX11_33 : z_New "WindElection" 33 2 4 := ⟨by decide, RX3, TX3, tyX3, rfl, z_all_in (i := 174) (by decide +kernel) (by decide +kernel), z_all_in (i := 175) (by decide +kernel) (by decide +kernel), z_all_in (i := 52) (by decide +kernel) (by decide +kernel), u_inX3, tyX3_ok, by intro k hk; rcases (show k = 0 ∨ k = 1 ∨ k = 2 ∨ k = 3 by omega) with rfl | rfl | rfl | rfl <;> exact ⟨_, rfl, fun _ => rfl⟩⟩
theorem nwX11_40 : z_New "WindElection" 40 4 2 := ⟨by decide, RX6, TX6, tyX6, rfl, z_all_in (i := 231) (by decide +kernel) (by decide +kernel), z_all_in (i := 232) (by decide +kernel) (by decide +kernel), z_all_in (i := 54) (by decide +kernel) (by decide +kernel), u_inX6, tyX6_ok, by intro k hk; rcases (show k = 0 ∨ k = 1 by omega) with rfl | rfl <;> exact ⟨_, rfl, fun _ => rfl⟩⟩
theorem nwX11_51 : z_New "WindElection" 51 7 2 := ⟨by decide, RX9, TX9, tyX9, rfl, z_all_in (i := 246) (by decide +kernel) (by decide +kernel), z_all_in (i := 247) (by decide +kernel) (by decide +kernel), z_all_in (i := 55) (by decide +kernel) (by decide +kernel), u_inX9, tyX9_ok, by intro k hk; rcases (show k = 0 ∨ k = 1 by omega) with rfl | rfl <;> exact ⟨_, rfl, fun _ => rfl⟩⟩
theorem nwX11_58 : z_New "WindElection" 58 5 5 := ⟨by decide, RX7, TX7, tyX7, rfl, z_all_in (i := 263) (by decide +kernel) (by decide +kernel), z_all_in (i := 264) (by decide +kernel) (by decide +kernel), z_all_in (i := 56) (by decide +kernel) (by decide +kernel), u_inX7, tyX7_ok, by intro k hk; rcases (show k = 0 ∨ k = 1 ∨ k = 2 ∨ k = 3 ∨ k = 4 by omega) with rfl | rfl | rfl | rfl | rfl <;> exact ⟨_, rfl, fun _ => rfl⟩⟩
theorem nwX1_29 : z_New "WindElection$Assembly" 29 1 3 := ⟨by decide, RX2, TX2, tyX2, rfl, z_all_in (i := 91) (by decide +kernel) (by decide +kernel), z_all_in (i := 93) (by decide +kernel) (by decide +kernel), z_all_in (i := 50) (by decide +kernel) (by decide +kernel), u_inX2, tyX2_ok, by intro k hk; rcases (show k = 0 ∨ k = 1 ∨ k = 2 by omega) with rfl | rfl | rfl <;> exact ⟨_, rfl, fun _ => rfl⟩⟩
theorem nwX3_9 : z_New "WindElection$Count" 9 6 5 := ⟨by decide, RX8, TX8, tyX8, rfl, z_all_in (i := 180) (by decide +kernel) (by decide +kernel), z_all_in (i := 182) (by decide +kernel) (by decide +kernel), z_all_in (i := 53) (by decide +kernel) (by decide +kernel), u_inX8, tyX8_ok, by intro k hk; rcases (show k = 0 ∨ k = 1 ∨ k = 2 ∨ k = 3 ∨ k = 4 by omega) with rfl | rfl | rfl | rfl | rfl <;> exact ⟨_, rfl, fun _ => rfl⟩⟩
theorem nwX5_9 : z_New "WindElection$History" 9 0 7 := ⟨by decide, RX1, TX1, tyX1, rfl, z_all_in (i := 160) (by decide +kernel) (by decide +kernel), z_all_in (i := 86) (by decide +kernel) (by decide +kernel), z_all_in (i := 49) (by decide +kernel) (by decide +kernel), u_inX1, tyX1_ok, by intro k hk; rcases (show k = 0 ∨ k = 1 ∨ k = 2 ∨ k = 3 ∨ k = 4 ∨ k = 5 ∨ k = 6 by omega) with rfl | rfl | rfl | rfl | rfl | rfl | rfl <;> exact ⟨_, rfl, fun _ => rfl⟩⟩
theorem nwX6_15 : z_New "WindElection$Piles" 15 6 5 := ⟨by decide, RX8, TX8, tyX8, rfl, z_all_in (i := 237) (by decide +kernel) (by decide +kernel), z_all_in (i := 182) (by decide +kernel) (by decide +kernel), z_all_in (i := 53) (by decide +kernel) (by decide +kernel), u_inX8, tyX8_ok, by intro k hk; rcases (show k = 0 ∨ k = 1 ∨ k = 2 ∨ k = 3 ∨ k = 4 by omega) with rfl | rfl | rfl | rfl | rfl <;> exact ⟨_, rfl, fun _ => rfl⟩⟩
theorem nwX7_9 : z_New "WindElection$Reader" 9 7 2 := ⟨by decide, RX9, TX9, tyX9, rfl, z_all_in (i := 269) (by decide +kernel) (by decide +kernel), z_all_in (i := 247) (by decide +kernel) (by decide +kernel), z_all_in (i := 55) (by decide +kernel) (by decide +kernel), u_inX9, tyX9_ok, by intro k hk; rcases (show k = 0 ∨ k = 1 by omega) with rfl | rfl <;> exact ⟨_, rfl, fun _ => rfl⟩⟩
theorem th_3 : z_Thr 200 204 3 ["java/lang/RuntimeException", "java/lang/Exception"] := z_Thr_of (by decide +kernel) (by decide +kernel) (by decide +kernel)
theorem th_0 : z_Thr 263 267 0 ["java/lang/RuntimeException", "java/lang/Exception"] := z_Thr_of (by decide +kernel) (by decide +kernel) (by decide +kernel)
theorem th_1 : z_Thr 280 284 1 ["java/lang/RuntimeException", "java/lang/Exception"] := z_Thr_of (by decide +kernel) (by decide +kernel) (by decide +kernel)
theorem th_2 : z_Thr 288 292 2 ["java/lang/RuntimeException", "java/lang/Exception"] := z_Thr_of (by decide +kernel) (by decide +kernel) (by decide +kernel)
