set_option maxRecDepth 100000 in
theorem oX5_weigh : x_okL mX5_weigh 0 mX5_weigh.2.2.2.2 = true := by decide +kernel
set_option maxRecDepth 100000 in
theorem wX5_weigh : x_okM 65 mX5_weigh = true := by decide +kernel
set_option maxRecDepth 100000 in
theorem oX5_spread : x_okL mX5_spread 0 mX5_spread.2.2.2.2 = true := by decide +kernel
set_option maxRecDepth 100000 in
theorem wX5_spread : x_okM 66 mX5_spread = true := by decide +kernel
set_option maxRecDepth 100000 in
theorem oX5_gotAt : x_okL mX5_gotAt 0 mX5_gotAt.2.2.2.2 = true := by decide +kernel
set_option maxRecDepth 100000 in
theorem wX5_gotAt : x_okM 67 mX5_gotAt = true := by decide +kernel
set_option maxRecDepth 100000 in
theorem oX5_weightLeft : x_okL mX5_weightLeft 0 mX5_weightLeft.2.2.2.2 = true := by decide +kernel
set_option maxRecDepth 100000 in
theorem wX5_weightLeft : x_okM 68 mX5_weightLeft = true := by decide +kernel
set_option maxRecDepth 100000 in
theorem oX6_init : x_okL mX6_init 0 mX6_init.2.2.2.2 = true := by decide +kernel
set_option maxRecDepth 100000 in
theorem wX6_init : x_okM 69 mX6_init = true := by decide +kernel
set_option maxRecDepth 100000 in
theorem oX6_become : x_okL mX6_become 0 mX6_become.2.2.2.2 = true := by decide +kernel
set_option maxRecDepth 100000 in
theorem wX6_become : x_okM 70 mX6_become = true := by decide +kernel
set_option maxRecDepth 100000 in
theorem oX6_broad : x_okL mX6_broad 0 mX6_broad.2.2.2.2 = true := by decide +kernel
set_option maxRecDepth 100000 in
theorem wX6_broad : x_okM 71 mX6_broad = true := by decide +kernel
set_option maxRecDepth 100000 in
theorem oX6_times : x_okL mX6_times 0 mX6_times.2.2.2.2 = true := by decide +kernel
set_option maxRecDepth 100000 in
theorem wX6_times : x_okM 72 mX6_times = true := by decide +kernel
set_option maxRecDepth 100000 in
theorem oX6_gain : x_okL mX6_gain 0 mX6_gain.2.2.2.2 = true := by decide +kernel
set_option maxRecDepth 100000 in
theorem wX6_gain : x_okM 73 mX6_gain = true := by decide +kernel
set_option maxRecDepth 100000 in
theorem oX6_effortOf : x_okL mX6_effortOf 0 mX6_effortOf.2.2.2.2 = true := by decide +kernel
set_option maxRecDepth 100000 in
theorem wX6_effortOf : x_okM 74 mX6_effortOf = true := by decide +kernel
set_option maxRecDepth 100000 in
theorem oX6_leastWayToBest : x_okL mX6_leastWayToBest 0 mX6_leastWayToBest.2.2.2.2 = true := by decide +kernel
set_option maxRecDepth 100000 in
theorem wX6_leastWayToBest : x_okM 75 mX6_leastWayToBest = true := by decide +kernel
set_option maxRecDepth 100000 in
theorem oX7_init : x_okL mX7_init 0 mX7_init.2.2.2.2 = true := by decide +kernel
set_option maxRecDepth 100000 in
theorem wX7_init : x_okM 76 mX7_init = true := by decide +kernel
set_option maxRecDepth 100000 in
theorem oX7_fill : x_okL mX7_fill 0 mX7_fill.2.2.2.2 = true := by decide +kernel
set_option maxRecDepth 100000 in
theorem wX7_fill : x_okM 77 mX7_fill = true := by decide +kernel
set_option maxRecDepth 100000 in
theorem oX7_gain : x_okL mX7_gain 0 mX7_gain.2.2.2.2 = true := by decide +kernel
set_option maxRecDepth 100000 in
theorem wX7_gain : x_okM 78 mX7_gain = true := by decide +kernel
set_option maxRecDepth 100000 in
theorem oX8_init : x_okL mX8_init 0 mX8_init.2.2.2.2 = true := by decide +kernel
set_option maxRecDepth 100000 in
theorem wX8_init : x_okM 79 mX8_init = true := by decide +kernel
set_option maxRecDepth 100000 in
theorem oX8_row : x_okL mX8_row 0 mX8_row.2.2.2.2 = true := by decide +kernel
set_option maxRecDepth 100000 in
theorem wX8_row : x_okM 80 mX8_row = true := by decide +kernel
set_option maxRecDepth 100000 in
theorem oX8_lay : x_okL mX8_lay 0 mX8_lay.2.2.2.2 = true := by decide +kernel
set_option maxRecDepth 100000 in
theorem wX8_lay : x_okM 81 mX8_lay = true := by decide +kernel
set_option maxRecDepth 100000 in
theorem oX8_at : x_okL mX8_at 0 mX8_at.2.2.2.2 = true := by decide +kernel
set_option maxRecDepth 100000 in
theorem wX8_at : x_okM 82 mX8_at = true := by decide +kernel
set_option maxRecDepth 100000 in
theorem oX8_tear : x_okL mX8_tear 0 mX8_tear.2.2.2.2 = true := by decide +kernel
set_option maxRecDepth 100000 in
theorem wX8_tear : x_okM 83 mX8_tear = true := by decide +kernel
set_option maxRecDepth 100000 in
theorem oX8_copy : x_okL mX8_copy 0 mX8_copy.2.2.2.2 = true := by decide +kernel
set_option maxRecDepth 100000 in
theorem wX8_copy : x_okM 84 mX8_copy = true := by decide +kernel
set_option maxRecDepth 100000 in
theorem oX8_mean : x_okL mX8_mean 0 mX8_mean.2.2.2.2 = true := by decide +kernel
set_option maxRecDepth 100000 in
theorem wX8_mean : x_okM 85 mX8_mean = true := by decide +kernel
set_option maxRecDepth 100000 in
theorem oX8_text : x_okL mX8_text 0 mX8_text.2.2.2.2 = true := by decide +kernel
set_option maxRecDepth 100000 in
theorem wX8_text : x_okM 86 mX8_text = true := by decide +kernel
set_option maxRecDepth 100000 in
theorem oX8_put : x_okL mX8_put 0 mX8_put.2.2.2.2 = true := by decide +kernel
set_option maxRecDepth 100000 in
theorem wX8_put : x_okM 87 mX8_put = true := by decide +kernel
set_option maxRecDepth 100000 in
theorem oX8_fault : x_okL mX8_fault 0 mX8_fault.2.2.2.2 = true := by decide +kernel
set_option maxRecDepth 100000 in
theorem wX8_fault : x_okM 88 mX8_fault = true := by decide +kernel
set_option maxRecDepth 100000 in
theorem oX8_dome : x_okL mX8_dome 0 mX8_dome.2.2.2.2 = true := by decide +kernel
set_option maxRecDepth 100000 in
theorem wX8_dome : x_okM 89 mX8_dome = true := by decide +kernel
set_option maxRecDepth 100000 in
theorem oX8_light : x_okL mX8_light 0 mX8_light.2.2.2.2 = true := by decide +kernel
set_option maxRecDepth 100000 in
theorem wX8_light : x_okM 90 mX8_light = true := by decide +kernel
set_option maxRecDepth 100000 in
theorem oX8_mark : x_okL mX8_mark 0 mX8_mark.2.2.2.2 = true := by decide +kernel
set_option maxRecDepth 100000 in
theorem wX8_mark : x_okM 91 mX8_mark = true := by decide +kernel
set_option maxRecDepth 100000 in
theorem oX8_moment : x_okL mX8_moment 0 mX8_moment.2.2.2.2 = true := by decide +kernel
set_option maxRecDepth 100000 in
theorem wX8_moment : x_okM 92 mX8_moment = true := by decide +kernel
set_option maxRecDepth 100000 in
theorem oX8_turn : x_okL mX8_turn 0 mX8_turn.2.2.2.2 = true := by decide +kernel
set_option maxRecDepth 100000 in
theorem wX8_turn : x_okM 93 mX8_turn = true := by decide +kernel
set_option maxRecDepth 100000 in
theorem oX8_undo : x_okL mX8_undo 0 mX8_undo.2.2.2.2 = true := by decide +kernel
set_option maxRecDepth 100000 in
theorem wX8_undo : x_okM 94 mX8_undo = true := by decide +kernel
set_option maxRecDepth 100000 in
theorem oX8_keep : x_okL mX8_keep 0 mX8_keep.2.2.2.2 = true := by decide +kernel
set_option maxRecDepth 100000 in
theorem wX8_keep : x_okM 95 mX8_keep = true := by decide +kernel
set_option maxRecDepth 100000 in
theorem oX8_on : x_okL mX8_on 0 mX8_on.2.2.2.2 = true := by decide +kernel
set_option maxRecDepth 100000 in
theorem wX8_on : x_okM 96 mX8_on = true := by decide +kernel
set_option maxRecDepth 100000 in
theorem oX8_place : x_okL mX8_place 0 mX8_place.2.2.2.2 = true := by decide +kernel
set_option maxRecDepth 100000 in
theorem wX8_place : x_okM 97 mX8_place = true := by decide +kernel
set_option maxRecDepth 100000 in
theorem oX8_gets : x_okL mX8_gets 0 mX8_gets.2.2.2.2 = true := by decide +kernel
set_option maxRecDepth 100000 in
theorem wX8_gets : x_okM 98 mX8_gets = true := by decide +kernel
set_option maxRecDepth 100000 in
theorem oX8_seen : x_okL mX8_seen 0 mX8_seen.2.2.2.2 = true := by decide +kernel
set_option maxRecDepth 100000 in
theorem wX8_seen : x_okM 99 mX8_seen = true := by decide +kernel
set_option maxRecDepth 100000 in
theorem oX8_stays : x_okL mX8_stays 0 mX8_stays.2.2.2.2 = true := by decide +kernel
set_option maxRecDepth 100000 in
theorem wX8_stays : x_okM 100 mX8_stays = true := by decide +kernel
set_option maxRecDepth 100000 in
theorem oX8_ahead : x_okL mX8_ahead 0 mX8_ahead.2.2.2.2 = true := by decide +kernel
set_option maxRecDepth 100000 in
theorem wX8_ahead : x_okM 101 mX8_ahead = true := by decide +kernel
set_option maxRecDepth 100000 in
theorem oX8_effort : x_okL mX8_effort 0 mX8_effort.2.2.2.2 = true := by decide +kernel
set_option maxRecDepth 100000 in
theorem wX8_effort : x_okM 102 mX8_effort = true := by decide +kernel
set_option maxRecDepth 100000 in
theorem oX8_follow : x_okL mX8_follow 0 mX8_follow.2.2.2.2 = true := by decide +kernel
set_option maxRecDepth 100000 in
theorem wX8_follow : x_okM 103 mX8_follow = true := by decide +kernel
set_option maxRecDepth 100000 in
theorem oX8_turns : x_okL mX8_turns 0 mX8_turns.2.2.2.2 = true := by decide +kernel
set_option maxRecDepth 100000 in
theorem wX8_turns : x_okM 104 mX8_turns = true := by decide +kernel
set_option maxRecDepth 100000 in
theorem oX8_most : x_okL mX8_most 0 mX8_most.2.2.2.2 = true := by decide +kernel
set_option maxRecDepth 100000 in
theorem wX8_most : x_okM 105 mX8_most = true := by decide +kernel
set_option maxRecDepth 100000 in
theorem oX8_by : x_okL mX8_by 0 mX8_by.2.2.2.2 = true := by decide +kernel
set_option maxRecDepth 100000 in
theorem wX8_by : x_okM 106 mX8_by = true := by decide +kernel
set_option maxRecDepth 100000 in
theorem oX8_order : x_okL mX8_order 0 mX8_order.2.2.2.2 = true := by decide +kernel
set_option maxRecDepth 100000 in
theorem wX8_order : x_okM 107 mX8_order = true := by decide +kernel
set_option maxRecDepth 100000 in
theorem oX8_kinds : x_okL mX8_kinds 0 mX8_kinds.2.2.2.2 = true := by decide +kernel
set_option maxRecDepth 100000 in
theorem wX8_kinds : x_okM 108 mX8_kinds = true := by decide +kernel
set_option maxRecDepth 100000 in
theorem oX8_places : x_okL mX8_places 0 mX8_places.2.2.2.2 = true := by decide +kernel
set_option maxRecDepth 100000 in
theorem wX8_places : x_okM 109 mX8_places = true := by decide +kernel
set_option maxRecDepth 100000 in
theorem oX8_speeds : x_okL mX8_speeds 0 mX8_speeds.2.2.2.2 = true := by decide +kernel
set_option maxRecDepth 100000 in
theorem wX8_speeds : x_okM 110 mX8_speeds = true := by decide +kernel
set_option maxRecDepth 100000 in
theorem oX8_fainter : x_okL mX8_fainter 0 mX8_fainter.2.2.2.2 = true := by decide +kernel
set_option maxRecDepth 100000 in
theorem wX8_fainter : x_okM 111 mX8_fainter = true := by decide +kernel
set_option maxRecDepth 100000 in
theorem oX8_cloud : x_okL mX8_cloud 0 mX8_cloud.2.2.2.2 = true := by decide +kernel
set_option maxRecDepth 100000 in
theorem wX8_cloud : x_okM 112 mX8_cloud = true := by decide +kernel
set_option maxRecDepth 100000 in
theorem oX8_mid : x_okL mX8_mid 0 mX8_mid.2.2.2.2 = true := by decide +kernel
set_option maxRecDepth 100000 in
theorem wX8_mid : x_okM 113 mX8_mid = true := by decide +kernel
set_option maxRecDepth 100000 in
theorem oX8_odds : x_okL mX8_odds 0 mX8_odds.2.2.2.2 = true := by decide +kernel
set_option maxRecDepth 100000 in
theorem wX8_odds : x_okM 114 mX8_odds = true := by decide +kernel
set_option maxRecDepth 100000 in
theorem oX8_lots : x_okL mX8_lots 0 mX8_lots.2.2.2.2 = true := by decide +kernel
set_option maxRecDepth 100000 in
theorem wX8_lots : x_okM 115 mX8_lots = true := by decide +kernel
set_option maxRecDepth 100000 in
theorem oX8_asked : x_okL mX8_asked 0 mX8_asked.2.2.2.2 = true := by decide +kernel
set_option maxRecDepth 100000 in
theorem wX8_asked : x_okM 116 mX8_asked = true := by decide +kernel
set_option maxRecDepth 100000 in
theorem oX8_upper : x_okL mX8_upper 0 mX8_upper.2.2.2.2 = true := by decide +kernel
set_option maxRecDepth 100000 in
theorem wX8_upper : x_okM 117 mX8_upper = true := by decide +kernel
set_option maxRecDepth 100000 in
theorem oX8_lower : x_okL mX8_lower 0 mX8_lower.2.2.2.2 = true := by decide +kernel
set_option maxRecDepth 100000 in
theorem wX8_lower : x_okM 118 mX8_lower = true := by decide +kernel
set_option maxRecDepth 100000 in
theorem oX8_count : x_okL mX8_count 0 mX8_count.2.2.2.2 = true := by decide +kernel
set_option maxRecDepth 100000 in
theorem wX8_count : x_okM 119 mX8_count = true := by decide +kernel
set_option maxRecDepth 100000 in
theorem oX8_finding : x_okL mX8_finding 0 mX8_finding.2.2.2.2 = true := by decide +kernel
set_option maxRecDepth 100000 in
theorem wX8_finding : x_okM 120 mX8_finding = true := by decide +kernel
set_option maxRecDepth 100000 in
theorem oX8_findings : x_okL mX8_findings 0 mX8_findings.2.2.2.2 = true := by decide +kernel
set_option maxRecDepth 100000 in
theorem wX8_findings : x_okM 121 mX8_findings = true := by decide +kernel
set_option maxRecDepth 100000 in
theorem oX8_digest : x_okL mX8_digest 0 mX8_digest.2.2.2.2 = true := by decide +kernel
set_option maxRecDepth 100000 in
theorem wX8_digest : x_okM 122 mX8_digest = true := by decide +kernel
set_option maxRecDepth 100000 in
theorem oX8_round : x_okL mX8_round 0 mX8_round.2.2.2.2 = true := by decide +kernel
set_option maxRecDepth 100000 in
theorem wX8_round : x_okM 123 mX8_round = true := by decide +kernel
set_option maxRecDepth 100000 in
theorem oX8_isTooFar : x_okL mX8_isTooFar 0 mX8_isTooFar.2.2.2.2 = true := by decide +kernel
set_option maxRecDepth 100000 in
theorem wX8_isTooFar : x_okM 124 mX8_isTooFar = true := by decide +kernel
set_option maxRecDepth 100000 in
theorem oX8_isNoFollowing : x_okL mX8_isNoFollowing 0 mX8_isNoFollowing.2.2.2.2 = true := by decide +kernel
set_option maxRecDepth 100000 in
theorem wX8_isNoFollowing : x_okM 125 mX8_isNoFollowing = true := by decide +kernel
set_option maxRecDepth 100000 in
theorem oX8_lineAt : x_okL mX8_lineAt 0 mX8_lineAt.2.2.2.2 = true := by decide +kernel
set_option maxRecDepth 100000 in
theorem wX8_lineAt : x_okM 126 mX8_lineAt = true := by decide +kernel
set_option maxRecDepth 100000 in
theorem oX8_lightAt : x_okL mX8_lightAt 0 mX8_lightAt.2.2.2.2 = true := by decide +kernel
set_option maxRecDepth 100000 in
theorem wX8_lightAt : x_okM 127 mX8_lightAt = true := by decide +kernel
set_option maxRecDepth 100000 in
theorem oX8_found : x_okL mX8_found 0 mX8_found.2.2.2.2 = true := by decide +kernel
set_option maxRecDepth 100000 in
theorem wX8_found : x_okM 128 mX8_found = true := by decide +kernel
set_option maxRecDepth 100000 in
theorem oX8_renewed : x_okL mX8_renewed 0 mX8_renewed.2.2.2.2 = true := by decide +kernel
set_option maxRecDepth 100000 in
theorem wX8_renewed : x_okM 129 mX8_renewed = true := by decide +kernel
