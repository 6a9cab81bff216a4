set_option maxRecDepth 100000 in
theorem oX8_refuseLine : x_okL mX8_refuseLine 0 mX8_refuseLine.2.2.2.2 = true := by decide +kernel
set_option maxRecDepth 100000 in
theorem wX8_refuseLine : x_okM 130 mX8_refuseLine = true := by decide +kernel
set_option maxRecDepth 100000 in
theorem oX8_refusePlace : x_okL mX8_refusePlace 0 mX8_refusePlace.2.2.2.2 = true := by decide +kernel
set_option maxRecDepth 100000 in
theorem wX8_refusePlace : x_okM 131 mX8_refusePlace = true := by decide +kernel
set_option maxRecDepth 100000 in
theorem oX8_refuseTurns : x_okL mX8_refuseTurns 0 mX8_refuseTurns.2.2.2.2 = true := by decide +kernel
set_option maxRecDepth 100000 in
theorem wX8_refuseTurns : x_okM 132 mX8_refuseTurns = true := by decide +kernel
set_option maxRecDepth 100000 in
theorem oX8_refuseNotes : x_okL mX8_refuseNotes 0 mX8_refuseNotes.2.2.2.2 = true := by decide +kernel
set_option maxRecDepth 100000 in
theorem wX8_refuseNotes : x_okM 133 mX8_refuseNotes = true := by decide +kernel
set_option maxRecDepth 100000 in
theorem oX8_gainIn : x_okL mX8_gainIn 0 mX8_gainIn.2.2.2.2 = true := by decide +kernel
set_option maxRecDepth 100000 in
theorem wX8_gainIn : x_okM 134 mX8_gainIn = true := by decide +kernel
set_option maxRecDepth 100000 in
theorem oX8_timesOver : x_okL mX8_timesOver 0 mX8_timesOver.2.2.2.2 = true := by decide +kernel
set_option maxRecDepth 100000 in
theorem wX8_timesOver : x_okM 135 mX8_timesOver = true := by decide +kernel
set_option maxRecDepth 100000 in
theorem oX8_overFor : x_okL mX8_overFor 0 mX8_overFor.2.2.2.2 = true := by decide +kernel
set_option maxRecDepth 100000 in
theorem wX8_overFor : x_okM 136 mX8_overFor = true := by decide +kernel
set_option maxRecDepth 100000 in
theorem oX8_guessed : x_okL mX8_guessed 0 mX8_guessed.2.2.2.2 = true := by decide +kernel
set_option maxRecDepth 100000 in
theorem wX8_guessed : x_okM 137 mX8_guessed = true := by decide +kernel
set_option maxRecDepth 100000 in
theorem oX8_guessFits : x_okL mX8_guessFits 0 mX8_guessFits.2.2.2.2 = true := by decide +kernel
set_option maxRecDepth 100000 in
theorem wX8_guessFits : x_okM 138 mX8_guessFits = true := by decide +kernel
set_option maxRecDepth 100000 in
theorem oX8_passMoment : x_okL mX8_passMoment 0 mX8_passMoment.2.2.2.2 = true := by decide +kernel
set_option maxRecDepth 100000 in
theorem wX8_passMoment : x_okM 139 mX8_passMoment = true := by decide +kernel
set_option maxRecDepth 100000 in
theorem oX8_bySleep : x_okL mX8_bySleep 0 mX8_bySleep.2.2.2.2 = true := by decide +kernel
set_option maxRecDepth 100000 in
theorem wX8_bySleep : x_okM 140 mX8_bySleep = true := by decide +kernel
set_option maxRecDepth 100000 in
theorem oX8_tellChances : x_okL mX8_tellChances 0 mX8_tellChances.2.2.2.2 = true := by decide +kernel
set_option maxRecDepth 100000 in
theorem wX8_tellChances : x_okM 141 mX8_tellChances = true := by decide +kernel
set_option maxRecDepth 100000 in
theorem oX8_greatestCommon : x_okL mX8_greatestCommon 0 mX8_greatestCommon.2.2.2.2 = true := by decide +kernel
set_option maxRecDepth 100000 in
theorem wX8_greatestCommon : x_okM 142 mX8_greatestCommon = true := by decide +kernel
set_option maxRecDepth 100000 in
theorem oX8_factOf : x_okL mX8_factOf 0 mX8_factOf.2.2.2.2 = true := by decide +kernel
set_option maxRecDepth 100000 in
theorem wX8_factOf : x_okM 143 mX8_factOf = true := by decide +kernel
set_option maxRecDepth 100000 in
theorem oX8_counted : x_okL mX8_counted 0 mX8_counted.2.2.2.2 = true := by decide +kernel
set_option maxRecDepth 100000 in
theorem wX8_counted : x_okM 144 mX8_counted = true := by decide +kernel
set_option maxRecDepth 100000 in
theorem oX8_lightsOf : x_okL mX8_lightsOf 0 mX8_lightsOf.2.2.2.2 = true := by decide +kernel
set_option maxRecDepth 100000 in
theorem wX8_lightsOf : x_okM 145 mX8_lightsOf = true := by decide +kernel
set_option maxRecDepth 100000 in
theorem oX8_linesThere : x_okL mX8_linesThere 0 mX8_linesThere.2.2.2.2 = true := by decide +kernel
set_option maxRecDepth 100000 in
theorem wX8_linesThere : x_okM 146 mX8_linesThere = true := by decide +kernel
set_option maxRecDepth 100000 in
theorem oX8_keptThere : x_okL mX8_keptThere 0 mX8_keptThere.2.2.2.2 = true := by decide +kernel
set_option maxRecDepth 100000 in
theorem wX8_keptThere : x_okM 147 mX8_keptThere = true := by decide +kernel
set_option maxRecDepth 100000 in
theorem oX9_init : x_okL mX9_init 0 mX9_init.2.2.2.2 = true := by decide +kernel
set_option maxRecDepth 100000 in
theorem wX9_init : x_okM 148 mX9_init = true := by decide +kernel
set_option maxRecDepth 100000 in
theorem oX9_in : x_okL mX9_in 0 mX9_in.2.2.2.2 = true := by decide +kernel
set_option maxRecDepth 100000 in
theorem wX9_in : x_okM 149 mX9_in = true := by decide +kernel
set_option maxRecDepth 100000 in
theorem oX9_has : x_okL mX9_has 0 mX9_has.2.2.2.2 = true := by decide +kernel
set_option maxRecDepth 100000 in
theorem wX9_has : x_okM 150 mX9_has = true := by decide +kernel
set_option maxRecDepth 100000 in
theorem oX9_find : x_okL mX9_find 0 mX9_find.2.2.2.2 = true := by decide +kernel
set_option maxRecDepth 100000 in
theorem wX9_find : x_okM 151 mX9_find = true := by decide +kernel
set_option maxRecDepth 100000 in
theorem oX9_tell : x_okL mX9_tell 0 mX9_tell.2.2.2.2 = true := by decide +kernel
set_option maxRecDepth 100000 in
theorem wX9_tell : x_okM 152 mX9_tell = true := by decide +kernel
set_option maxRecDepth 100000 in
theorem oX9_isRow : x_okL mX9_isRow 0 mX9_isRow.2.2.2.2 = true := by decide +kernel
set_option maxRecDepth 100000 in
theorem wX9_isRow : x_okM 153 mX9_isRow = true := by decide +kernel
set_option maxRecDepth 100000 in
theorem oX9_isText : x_okL mX9_isText 0 mX9_isText.2.2.2.2 = true := by decide +kernel
set_option maxRecDepth 100000 in
theorem wX9_isText : x_okM 154 mX9_isText = true := by decide +kernel
set_option maxRecDepth 100000 in
theorem oX9_row : x_okL mX9_row 0 mX9_row.2.2.2.2 = true := by decide +kernel
set_option maxRecDepth 100000 in
theorem wX9_row : x_okM 155 mX9_row = true := by decide +kernel
set_option maxRecDepth 100000 in
theorem oX9_makeRow : x_okL mX9_makeRow 0 mX9_makeRow.2.2.2.2 = true := by decide +kernel
set_option maxRecDepth 100000 in
theorem wX9_makeRow : x_okM 156 mX9_makeRow = true := by decide +kernel
set_option maxRecDepth 100000 in
theorem oX9_refused : x_okL mX9_refused 0 mX9_refused.2.2.2.2 = true := by decide +kernel
set_option maxRecDepth 100000 in
theorem wX9_refused : x_okM 157 mX9_refused = true := by decide +kernel
set_option maxRecDepth 100000 in
theorem oX9_lay : x_okL mX9_lay 0 mX9_lay.2.2.2.2 = true := by decide +kernel
set_option maxRecDepth 100000 in
theorem wX9_lay : x_okM 158 mX9_lay = true := by decide +kernel
set_option maxRecDepth 100000 in
theorem oX9_at : x_okL mX9_at 0 mX9_at.2.2.2.2 = true := by decide +kernel
set_option maxRecDepth 100000 in
theorem wX9_at : x_okM 159 mX9_at = true := by decide +kernel
set_option maxRecDepth 100000 in
theorem oX9_tear : x_okL mX9_tear 0 mX9_tear.2.2.2.2 = true := by decide +kernel
set_option maxRecDepth 100000 in
theorem wX9_tear : x_okM 160 mX9_tear = true := by decide +kernel
set_option maxRecDepth 100000 in
theorem oX9_isSpan : x_okL mX9_isSpan 0 mX9_isSpan.2.2.2.2 = true := by decide +kernel
set_option maxRecDepth 100000 in
theorem wX9_isSpan : x_okM 161 mX9_isSpan = true := by decide +kernel
set_option maxRecDepth 100000 in
theorem oX9_copy : x_okL mX9_copy 0 mX9_copy.2.2.2.2 = true := by decide +kernel
set_option maxRecDepth 100000 in
theorem wX9_copy : x_okM 162 mX9_copy = true := by decide +kernel
set_option maxRecDepth 100000 in
theorem oX9_mean : x_okL mX9_mean 0 mX9_mean.2.2.2.2 = true := by decide +kernel
set_option maxRecDepth 100000 in
theorem wX9_mean : x_okM 163 mX9_mean = true := by decide +kernel
set_option maxRecDepth 100000 in
theorem oX9_text : x_okL mX9_text 0 mX9_text.2.2.2.2 = true := by decide +kernel
set_option maxRecDepth 100000 in
theorem wX9_text : x_okM 164 mX9_text = true := by decide +kernel
set_option maxRecDepth 100000 in
theorem oX9_put : x_okL mX9_put 0 mX9_put.2.2.2.2 = true := by decide +kernel
set_option maxRecDepth 100000 in
theorem wX9_put : x_okM 165 mX9_put = true := by decide +kernel
set_option maxRecDepth 100000 in
theorem oX9_here : x_okL mX9_here 0 mX9_here.2.2.2.2 = true := by decide +kernel
set_option maxRecDepth 100000 in
theorem wX9_here : x_okM 166 mX9_here = true := by decide +kernel
set_option maxRecDepth 100000 in
theorem oX9_skip : x_okL mX9_skip 0 mX9_skip.2.2.2.2 = true := by decide +kernel
set_option maxRecDepth 100000 in
theorem wX9_skip : x_okM 167 mX9_skip = true := by decide +kernel
set_option maxRecDepth 100000 in
theorem oX9_figure : x_okL mX9_figure 0 mX9_figure.2.2.2.2 = true := by decide +kernel
set_option maxRecDepth 100000 in
theorem wX9_figure : x_okM 168 mX9_figure = true := by decide +kernel
set_option maxRecDepth 100000 in
theorem oX9_figures : x_okL mX9_figures 0 mX9_figures.2.2.2.2 = true := by decide +kernel
set_option maxRecDepth 100000 in
theorem wX9_figures : x_okM 169 mX9_figures = true := by decide +kernel
set_option maxRecDepth 100000 in
theorem oX9_readsSlit : x_okL mX9_readsSlit 0 mX9_readsSlit.2.2.2.2 = true := by decide +kernel
set_option maxRecDepth 100000 in
theorem wX9_readsSlit : x_okM 170 mX9_readsSlit = true := by decide +kernel
set_option maxRecDepth 100000 in
theorem oX9_kindOfLetter : x_okL mX9_kindOfLetter 0 mX9_kindOfLetter.2.2.2.2 = true := by decide +kernel
set_option maxRecDepth 100000 in
theorem wX9_kindOfLetter : x_okM 171 mX9_kindOfLetter = true := by decide +kernel
set_option maxRecDepth 100000 in
theorem oX9_readsLight : x_okL mX9_readsLight 0 mX9_readsLight.2.2.2.2 = true := by decide +kernel
set_option maxRecDepth 100000 in
theorem wX9_readsLight : x_okM 172 mX9_readsLight = true := by decide +kernel
set_option maxRecDepth 100000 in
theorem oX9_faultOf : x_okL mX9_faultOf 0 mX9_faultOf.2.2.2.2 = true := by decide +kernel
set_option maxRecDepth 100000 in
theorem wX9_faultOf : x_okM 173 mX9_faultOf = true := by decide +kernel
set_option maxRecDepth 100000 in
theorem oX9_fault : x_okL mX9_fault 0 mX9_fault.2.2.2.2 = true := by decide +kernel
set_option maxRecDepth 100000 in
theorem wX9_fault : x_okM 174 mX9_fault = true := by decide +kernel
set_option maxRecDepth 100000 in
theorem oX9_dome : x_okL mX9_dome 0 mX9_dome.2.2.2.2 = true := by decide +kernel
set_option maxRecDepth 100000 in
theorem wX9_dome : x_okM 175 mX9_dome = true := by decide +kernel
set_option maxRecDepth 100000 in
theorem oX9_isLight : x_okL mX9_isLight 0 mX9_isLight.2.2.2.2 = true := by decide +kernel
set_option maxRecDepth 100000 in
theorem wX9_isLight : x_okM 176 mX9_isLight = true := by decide +kernel
set_option maxRecDepth 100000 in
theorem oX9_ring : x_okL mX9_ring 0 mX9_ring.2.2.2.2 = true := by decide +kernel
set_option maxRecDepth 100000 in
theorem wX9_ring : x_okM 177 mX9_ring = true := by decide +kernel
set_option maxRecDepth 100000 in
theorem oX9_moved : x_okL mX9_moved 0 mX9_moved.2.2.2.2 = true := by decide +kernel
set_option maxRecDepth 100000 in
theorem wX9_moved : x_okM 178 mX9_moved = true := by decide +kernel
set_option maxRecDepth 100000 in
theorem oX9_placeAt : x_okL mX9_placeAt 0 mX9_placeAt.2.2.2.2 = true := by decide +kernel
set_option maxRecDepth 100000 in
theorem wX9_placeAt : x_okM 179 mX9_placeAt = true := by decide +kernel
set_option maxRecDepth 100000 in
theorem oX9_now : x_okL mX9_now 0 mX9_now.2.2.2.2 = true := by decide +kernel
set_option maxRecDepth 100000 in
theorem wX9_now : x_okM 180 mX9_now = true := by decide +kernel
set_option maxRecDepth 100000 in
theorem oX9_brightOf : x_okL mX9_brightOf 0 mX9_brightOf.2.2.2.2 = true := by decide +kernel
set_option maxRecDepth 100000 in
theorem wX9_brightOf : x_okM 181 mX9_brightOf = true := by decide +kernel
set_option maxRecDepth 100000 in
theorem oX9_brightAt : x_okL mX9_brightAt 0 mX9_brightAt.2.2.2.2 = true := by decide +kernel
set_option maxRecDepth 100000 in
theorem wX9_brightAt : x_okM 182 mX9_brightAt = true := by decide +kernel
set_option maxRecDepth 100000 in
theorem oX9_times : x_okL mX9_times 0 mX9_times.2.2.2.2 = true := by decide +kernel
set_option maxRecDepth 100000 in
theorem wX9_times : x_okM 183 mX9_times = true := by decide +kernel
set_option maxRecDepth 100000 in
theorem oX9_got : x_okL mX9_got 0 mX9_got.2.2.2.2 = true := by decide +kernel
set_option maxRecDepth 100000 in
theorem wX9_got : x_okM 184 mX9_got = true := by decide +kernel
set_option maxRecDepth 100000 in
theorem oX9_gotNow : x_okL mX9_gotNow 0 mX9_gotNow.2.2.2.2 = true := by decide +kernel
set_option maxRecDepth 100000 in
theorem wX9_gotNow : x_okM 185 mX9_gotNow = true := by decide +kernel
set_option maxRecDepth 100000 in
theorem oX9_toldOf : x_okL mX9_toldOf 0 mX9_toldOf.2.2.2.2 = true := by decide +kernel
set_option maxRecDepth 100000 in
theorem wX9_toldOf : x_okM 186 mX9_toldOf = true := by decide +kernel
set_option maxRecDepth 100000 in
theorem oX9_light : x_okL mX9_light 0 mX9_light.2.2.2.2 = true := by decide +kernel
set_option maxRecDepth 100000 in
theorem wX9_light : x_okM 187 mX9_light = true := by decide +kernel
set_option maxRecDepth 100000 in
theorem oX9_isOf : x_okL mX9_isOf 0 mX9_isOf.2.2.2.2 = true := by decide +kernel
set_option maxRecDepth 100000 in
theorem wX9_isOf : x_okM 188 mX9_isOf = true := by decide +kernel
set_option maxRecDepth 100000 in
theorem oX9_moves : x_okL mX9_moves 0 mX9_moves.2.2.2.2 = true := by decide +kernel
set_option maxRecDepth 100000 in
theorem wX9_moves : x_okM 189 mX9_moves = true := by decide +kernel
set_option maxRecDepth 100000 in
theorem oX9_back : x_okL mX9_back 0 mX9_back.2.2.2.2 = true := by decide +kernel
set_option maxRecDepth 100000 in
theorem wX9_back : x_okM 190 mX9_back = true := by decide +kernel
set_option maxRecDepth 100000 in
theorem oX9_fourBrights : x_okL mX9_fourBrights 0 mX9_fourBrights.2.2.2.2 = true := by decide +kernel
set_option maxRecDepth 100000 in
theorem wX9_fourBrights : x_okM 191 mX9_fourBrights = true := by decide +kernel
set_option maxRecDepth 100000 in
theorem oX9_offBest : x_okL mX9_offBest 0 mX9_offBest.2.2.2.2 = true := by decide +kernel
set_option maxRecDepth 100000 in
theorem wX9_offBest : x_okM 192 mX9_offBest = true := by decide +kernel
set_option maxRecDepth 100000 in
theorem oX9_mark : x_okL mX9_mark 0 mX9_mark.2.2.2.2 = true := by decide +kernel
set_option maxRecDepth 100000 in
theorem wX9_mark : x_okM 193 mX9_mark = true := by decide +kernel
set_option maxRecDepth 100000 in
theorem oX9_keepPast : x_okL mX9_keepPast 0 mX9_keepPast.2.2.2.2 = true := by decide +kernel
set_option maxRecDepth 100000 in
theorem wX9_keepPast : x_okM 194 mX9_keepPast = true := by decide +kernel
