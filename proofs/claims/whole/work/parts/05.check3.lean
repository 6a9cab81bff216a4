set_option maxRecDepth 100000 in
theorem oX9_doMoment : x_okL mX9_doMoment 0 mX9_doMoment.2.2.2.2 = true := by decide +kernel
set_option maxRecDepth 100000 in
theorem wX9_doMoment : x_okM 195 mX9_doMoment = true := by decide +kernel
set_option maxRecDepth 100000 in
theorem oX9_moment : x_okL mX9_moment 0 mX9_moment.2.2.2.2 = true := by decide +kernel
set_option maxRecDepth 100000 in
theorem wX9_moment : x_okM 196 mX9_moment = true := by decide +kernel
set_option maxRecDepth 100000 in
theorem oX9_effortFrom : x_okL mX9_effortFrom 0 mX9_effortFrom.2.2.2.2 = true := by decide +kernel
set_option maxRecDepth 100000 in
theorem wX9_effortFrom : x_okM 197 mX9_effortFrom = true := by decide +kernel
set_option maxRecDepth 100000 in
theorem oX9_doTurn : x_okL mX9_doTurn 0 mX9_doTurn.2.2.2.2 = true := by decide +kernel
set_option maxRecDepth 100000 in
theorem wX9_doTurn : x_okM 198 mX9_doTurn = true := by decide +kernel
set_option maxRecDepth 100000 in
theorem oX9_turn : x_okL mX9_turn 0 mX9_turn.2.2.2.2 = true := by decide +kernel
set_option maxRecDepth 100000 in
theorem wX9_turn : x_okM 199 mX9_turn = true := by decide +kernel
set_option maxRecDepth 100000 in
theorem oX9_undo : x_okL mX9_undo 0 mX9_undo.2.2.2.2 = true := by decide +kernel
set_option maxRecDepth 100000 in
theorem wX9_undo : x_okM 200 mX9_undo = true := by decide +kernel
set_option maxRecDepth 100000 in
theorem oX9_copyDome : x_okL mX9_copyDome 0 mX9_copyDome.2.2.2.2 = true := by decide +kernel
set_option maxRecDepth 100000 in
theorem wX9_copyDome : x_okM 201 mX9_copyDome = true := by decide +kernel
set_option maxRecDepth 100000 in
theorem oX9_keep : x_okL mX9_keep 0 mX9_keep.2.2.2.2 = true := by decide +kernel
set_option maxRecDepth 100000 in
theorem wX9_keep : x_okM 202 mX9_keep = true := by decide +kernel
set_option maxRecDepth 100000 in
theorem oX9_on : x_okL mX9_on 0 mX9_on.2.2.2.2 = true := by decide +kernel
set_option maxRecDepth 100000 in
theorem wX9_on : x_okM 203 mX9_on = true := by decide +kernel
set_option maxRecDepth 100000 in
theorem oX9_isAhead : x_okL mX9_isAhead 0 mX9_isAhead.2.2.2.2 = true := by decide +kernel
set_option maxRecDepth 100000 in
theorem wX9_isAhead : x_okM 204 mX9_isAhead = true := by decide +kernel
set_option maxRecDepth 100000 in
theorem oX9_place : x_okL mX9_place 0 mX9_place.2.2.2.2 = true := by decide +kernel
set_option maxRecDepth 100000 in
theorem wX9_place : x_okM 205 mX9_place = true := by decide +kernel
set_option maxRecDepth 100000 in
theorem oX9_gets : x_okL mX9_gets 0 mX9_gets.2.2.2.2 = true := by decide +kernel
set_option maxRecDepth 100000 in
theorem wX9_gets : x_okM 206 mX9_gets = true := by decide +kernel
set_option maxRecDepth 100000 in
theorem oX9_seen : x_okL mX9_seen 0 mX9_seen.2.2.2.2 = true := by decide +kernel
set_option maxRecDepth 100000 in
theorem wX9_seen : x_okM 207 mX9_seen = true := by decide +kernel
set_option maxRecDepth 100000 in
theorem oX9_stays : x_okL mX9_stays 0 mX9_stays.2.2.2.2 = true := by decide +kernel
set_option maxRecDepth 100000 in
theorem wX9_stays : x_okM 208 mX9_stays = true := by decide +kernel
set_option maxRecDepth 100000 in
theorem oX9_over : x_okL mX9_over 0 mX9_over.2.2.2.2 = true := by decide +kernel
set_option maxRecDepth 100000 in
theorem wX9_over : x_okM 209 mX9_over = true := by decide +kernel
set_option maxRecDepth 100000 in
theorem oX9_ahead : x_okL mX9_ahead 0 mX9_ahead.2.2.2.2 = true := by decide +kernel
set_option maxRecDepth 100000 in
theorem wX9_ahead : x_okM 210 mX9_ahead = true := by decide +kernel
set_option maxRecDepth 100000 in
theorem oX9_effort : x_okL mX9_effort 0 mX9_effort.2.2.2.2 = true := by decide +kernel
set_option maxRecDepth 100000 in
theorem wX9_effort : x_okM 211 mX9_effort = true := by decide +kernel
set_option maxRecDepth 100000 in
theorem oX9_layEfforts : x_okL mX9_layEfforts 0 mX9_layEfforts.2.2.2.2 = true := by decide +kernel
set_option maxRecDepth 100000 in
theorem wX9_layEfforts : x_okM 212 mX9_layEfforts = true := by decide +kernel
set_option maxRecDepth 100000 in
theorem oX9_costOf : x_okL mX9_costOf 0 mX9_costOf.2.2.2.2 = true := by decide +kernel
set_option maxRecDepth 100000 in
theorem wX9_costOf : x_okM 213 mX9_costOf = true := by decide +kernel
set_option maxRecDepth 100000 in
theorem oX9_onBy : x_okL mX9_onBy 0 mX9_onBy.2.2.2.2 = true := by decide +kernel
set_option maxRecDepth 100000 in
theorem wX9_onBy : x_okM 214 mX9_onBy = true := by decide +kernel
set_option maxRecDepth 100000 in
theorem oX9_layLeast : x_okL mX9_layLeast 0 mX9_layLeast.2.2.2.2 = true := by decide +kernel
set_option maxRecDepth 100000 in
theorem wX9_layLeast : x_okM 215 mX9_layLeast = true := by decide +kernel
set_option maxRecDepth 100000 in
theorem oX9_follow : x_okL mX9_follow 0 mX9_follow.2.2.2.2 = true := by decide +kernel
set_option maxRecDepth 100000 in
theorem wX9_follow : x_okM 216 mX9_follow = true := by decide +kernel
set_option maxRecDepth 100000 in
theorem oX9_turns : x_okL mX9_turns 0 mX9_turns.2.2.2.2 = true := by decide +kernel
set_option maxRecDepth 100000 in
theorem wX9_turns : x_okM 217 mX9_turns = true := by decide +kernel
set_option maxRecDepth 100000 in
theorem oX9_most : x_okL mX9_most 0 mX9_most.2.2.2.2 = true := by decide +kernel
set_option maxRecDepth 100000 in
theorem wX9_most : x_okM 218 mX9_most = true := by decide +kernel
set_option maxRecDepth 100000 in
theorem oX9_areAll : x_okL mX9_areAll 0 mX9_areAll.2.2.2.2 = true := by decide +kernel
set_option maxRecDepth 100000 in
theorem wX9_areAll : x_okM 219 mX9_areAll = true := by decide +kernel
set_option maxRecDepth 100000 in
theorem oX9_noTurns : x_okL mX9_noTurns 0 mX9_noTurns.2.2.2.2 = true := by decide +kernel
set_option maxRecDepth 100000 in
theorem wX9_noTurns : x_okM 220 mX9_noTurns = true := by decide +kernel
set_option maxRecDepth 100000 in
theorem oX9_by : x_okL mX9_by 0 mX9_by.2.2.2.2 = true := by decide +kernel
set_option maxRecDepth 100000 in
theorem wX9_by : x_okM 221 mX9_by = true := by decide +kernel
set_option maxRecDepth 100000 in
theorem oX9_nextOrder : x_okL mX9_nextOrder 0 mX9_nextOrder.2.2.2.2 = true := by decide +kernel
set_option maxRecDepth 100000 in
theorem wX9_nextOrder : x_okM 222 mX9_nextOrder = true := by decide +kernel
set_option maxRecDepth 100000 in
theorem oX9_orderEffort : x_okL mX9_orderEffort 0 mX9_orderEffort.2.2.2.2 = true := by decide +kernel
set_option maxRecDepth 100000 in
theorem wX9_orderEffort : x_okM 223 mX9_orderEffort = true := by decide +kernel
set_option maxRecDepth 100000 in
theorem oX9_order : x_okL mX9_order 0 mX9_order.2.2.2.2 = true := by decide +kernel
set_option maxRecDepth 100000 in
theorem wX9_order : x_okM 224 mX9_order = true := by decide +kernel
set_option maxRecDepth 100000 in
theorem oX9_noNotes : x_okL mX9_noNotes 0 mX9_noNotes.2.2.2.2 = true := by decide +kernel
set_option maxRecDepth 100000 in
theorem wX9_noNotes : x_okM 225 mX9_noNotes = true := by decide +kernel
set_option maxRecDepth 100000 in
theorem oX9_isSo : x_okL mX9_isSo 0 mX9_isSo.2.2.2.2 = true := by decide +kernel
set_option maxRecDepth 100000 in
theorem wX9_isSo : x_okM 226 mX9_isSo = true := by decide +kernel
set_option maxRecDepth 100000 in
theorem oX9_kinds : x_okL mX9_kinds 0 mX9_kinds.2.2.2.2 = true := by decide +kernel
set_option maxRecDepth 100000 in
theorem wX9_kinds : x_okM 227 mX9_kinds = true := by decide +kernel
set_option maxRecDepth 100000 in
theorem oX9_places : x_okL mX9_places 0 mX9_places.2.2.2.2 = true := by decide +kernel
set_option maxRecDepth 100000 in
theorem wX9_places : x_okM 228 mX9_places = true := by decide +kernel
set_option maxRecDepth 100000 in
theorem oX9_speeds : x_okL mX9_speeds 0 mX9_speeds.2.2.2.2 = true := by decide +kernel
set_option maxRecDepth 100000 in
theorem wX9_speeds : x_okM 229 mX9_speeds = true := by decide +kernel
set_option maxRecDepth 100000 in
theorem oX9_fainter : x_okL mX9_fainter 0 mX9_fainter.2.2.2.2 = true := by decide +kernel
set_option maxRecDepth 100000 in
theorem wX9_fainter : x_okM 230 mX9_fainter = true := by decide +kernel
set_option maxRecDepth 100000 in
theorem oX9_worseOf : x_okL mX9_worseOf 0 mX9_worseOf.2.2.2.2 = true := by decide +kernel
set_option maxRecDepth 100000 in
theorem wX9_worseOf : x_okM 231 mX9_worseOf = true := by decide +kernel
set_option maxRecDepth 100000 in
theorem oX9_cloud : x_okL mX9_cloud 0 mX9_cloud.2.2.2.2 = true := by decide +kernel
set_option maxRecDepth 100000 in
theorem wX9_cloud : x_okM 232 mX9_cloud = true := by decide +kernel
set_option maxRecDepth 100000 in
theorem oX9_tellParts : x_okL mX9_tellParts 0 mX9_tellParts.2.2.2.2 = true := by decide +kernel
set_option maxRecDepth 100000 in
theorem wX9_tellParts : x_okM 233 mX9_tellParts = true := by decide +kernel
set_option maxRecDepth 100000 in
theorem oX9_layAsleep : x_okL mX9_layAsleep 0 mX9_layAsleep.2.2.2.2 = true := by decide +kernel
set_option maxRecDepth 100000 in
theorem wX9_layAsleep : x_okM 234 mX9_layAsleep = true := by decide +kernel
set_option maxRecDepth 100000 in
theorem oX9_waysOf : x_okL mX9_waysOf 0 mX9_waysOf.2.2.2.2 = true := by decide +kernel
set_option maxRecDepth 100000 in
theorem wX9_waysOf : x_okM 235 mX9_waysOf = true := by decide +kernel
set_option maxRecDepth 100000 in
theorem oX9_tellAsleep : x_okL mX9_tellAsleep 0 mX9_tellAsleep.2.2.2.2 = true := by decide +kernel
set_option maxRecDepth 100000 in
theorem wX9_tellAsleep : x_okM 236 mX9_tellAsleep = true := by decide +kernel
set_option maxRecDepth 100000 in
theorem oX9_mid : x_okL mX9_mid 0 mX9_mid.2.2.2.2 = true := by decide +kernel
set_option maxRecDepth 100000 in
theorem wX9_mid : x_okM 237 mX9_mid = true := by decide +kernel
set_option maxRecDepth 100000 in
theorem oX9_odds : x_okL mX9_odds 0 mX9_odds.2.2.2.2 = true := by decide +kernel
set_option maxRecDepth 100000 in
theorem wX9_odds : x_okM 238 mX9_odds = true := by decide +kernel
set_option maxRecDepth 100000 in
theorem oX9_lots : x_okL mX9_lots 0 mX9_lots.2.2.2.2 = true := by decide +kernel
set_option maxRecDepth 100000 in
theorem wX9_lots : x_okM 239 mX9_lots = true := by decide +kernel
set_option maxRecDepth 100000 in
theorem oX9_asked : x_okL mX9_asked 0 mX9_asked.2.2.2.2 = true := by decide +kernel
set_option maxRecDepth 100000 in
theorem wX9_asked : x_okM 240 mX9_asked = true := by decide +kernel
set_option maxRecDepth 100000 in
theorem oX9_upper : x_okL mX9_upper 0 mX9_upper.2.2.2.2 = true := by decide +kernel
set_option maxRecDepth 100000 in
theorem wX9_upper : x_okM 241 mX9_upper = true := by decide +kernel
set_option maxRecDepth 100000 in
theorem oX9_lower : x_okL mX9_lower 0 mX9_lower.2.2.2.2 = true := by decide +kernel
set_option maxRecDepth 100000 in
theorem wX9_lower : x_okM 242 mX9_lower = true := by decide +kernel
set_option maxRecDepth 100000 in
theorem oX9_kindMany : x_okL mX9_kindMany 0 mX9_kindMany.2.2.2.2 = true := by decide +kernel
set_option maxRecDepth 100000 in
theorem wX9_kindMany : x_okM 243 mX9_kindMany = true := by decide +kernel
set_option maxRecDepth 100000 in
theorem oX9_thereOf : x_okL mX9_thereOf 0 mX9_thereOf.2.2.2.2 = true := by decide +kernel
set_option maxRecDepth 100000 in
theorem wX9_thereOf : x_okM 244 mX9_thereOf = true := by decide +kernel
set_option maxRecDepth 100000 in
theorem oX9_countOf : x_okL mX9_countOf 0 mX9_countOf.2.2.2.2 = true := by decide +kernel
set_option maxRecDepth 100000 in
theorem wX9_countOf : x_okM 245 mX9_countOf = true := by decide +kernel
set_option maxRecDepth 100000 in
theorem oX9_count : x_okL mX9_count 0 mX9_count.2.2.2.2 = true := by decide +kernel
set_option maxRecDepth 100000 in
theorem wX9_count : x_okM 246 mX9_count = true := by decide +kernel
set_option maxRecDepth 100000 in
theorem oX9_finding : x_okL mX9_finding 0 mX9_finding.2.2.2.2 = true := by decide +kernel
set_option maxRecDepth 100000 in
theorem wX9_finding : x_okM 247 mX9_finding = true := by decide +kernel
set_option maxRecDepth 100000 in
theorem oX9_findings : x_okL mX9_findings 0 mX9_findings.2.2.2.2 = true := by decide +kernel
set_option maxRecDepth 100000 in
theorem wX9_findings : x_okM 248 mX9_findings = true := by decide +kernel
set_option maxRecDepth 100000 in
theorem oX9_digest : x_okL mX9_digest 0 mX9_digest.2.2.2.2 = true := by decide +kernel
set_option maxRecDepth 100000 in
theorem wX9_digest : x_okM 249 mX9_digest = true := by decide +kernel
set_option maxRecDepth 100000 in
theorem oJ6_bitCount_0f7a4 : x_okL mJ6_bitCount_0f7a4 0 mJ6_bitCount_0f7a4.2.2.2.2 = true := by decide +kernel
set_option maxRecDepth 100000 in
theorem wJ6_bitCount_0f7a4 : x_okM 250 mJ6_bitCount_0f7a4 = true := by decide +kernel
set_option maxRecDepth 100000 in
theorem oJ9_floorMod_7cf53 : x_okL mJ9_floorMod_7cf53 0 mJ9_floorMod_7cf53.2.2.2.2 = true := by decide +kernel
set_option maxRecDepth 100000 in
theorem wJ9_floorMod_7cf53 : x_okM 251 mJ9_floorMod_7cf53 = true := by decide +kernel
set_option maxRecDepth 100000 in
theorem oJ9_abs_0f7a4 : x_okL mJ9_abs_0f7a4 0 mJ9_abs_0f7a4.2.2.2.2 = true := by decide +kernel
set_option maxRecDepth 100000 in
theorem wJ9_abs_0f7a4 : x_okM 252 mJ9_abs_0f7a4 = true := by decide +kernel
set_option maxRecDepth 100000 in
theorem oJ9_max_7cf53 : x_okL mJ9_max_7cf53 0 mJ9_max_7cf53.2.2.2.2 = true := by decide +kernel
set_option maxRecDepth 100000 in
theorem wJ9_max_7cf53 : x_okM 253 mJ9_max_7cf53 = true := by decide +kernel
set_option maxRecDepth 100000 in
theorem oJ9_min_7cf53 : x_okL mJ9_min_7cf53 0 mJ9_min_7cf53.2.2.2.2 = true := by decide +kernel
set_option maxRecDepth 100000 in
theorem wJ9_min_7cf53 : x_okM 254 mJ9_min_7cf53 = true := by decide +kernel
set_option maxRecDepth 100000 in
theorem oJ7_rangeCheck_23922 : x_okL mJ7_rangeCheck_23922 0 mJ7_rangeCheck_23922.2.2.2.2 = true := by decide +kernel
set_option maxRecDepth 100000 in
theorem wJ7_rangeCheck_23922 : x_okM 255 mJ7_rangeCheck_23922 = true := by decide +kernel
set_option maxRecDepth 100000 in
theorem oJ7_fill_d0a16 : x_okL mJ7_fill_d0a16 0 mJ7_fill_d0a16.2.2.2.2 = true := by decide +kernel
set_option maxRecDepth 100000 in
theorem wJ7_fill_d0a16 : x_okM 256 mJ7_fill_d0a16 = true := by decide +kernel
set_option maxRecDepth 100000 in
theorem oJ7_fill_53178 : x_okL mJ7_fill_53178 0 mJ7_fill_53178.2.2.2.2 = true := by decide +kernel
set_option maxRecDepth 100000 in
theorem wJ7_fill_53178 : x_okM 257 mJ7_fill_53178 = true := by decide +kernel
set_option maxRecDepth 100000 in
theorem oJ7_fill_fda19 : x_okL mJ7_fill_fda19 0 mJ7_fill_fda19.2.2.2.2 = true := by decide +kernel
set_option maxRecDepth 100000 in
theorem wJ7_fill_fda19 : x_okM 258 mJ7_fill_fda19 = true := by decide +kernel
