/-- the words of the tables that stay true -/
def okw : Cond → Bool
  | .fieldLinkNest .. => true
  | .methodLinkNest .. => true
  | w => w.onTables && w.keeps
abbrev okl : List Cond := lw_tbl.filter okw
theorem tk_336 : Cond.fieldLink RX7 10 RX7 "rows" "LHomeDrives$Rows;" ∈ okl := List.mem_filter.mpr ⟨List.mem_of_getElem? (i := 336) (by decide +kernel), rfl⟩
theorem tk_337 : Cond.fieldLink RX7 19 RX7 "reader" "LHomeDrives$Reader;" ∈ okl := List.mem_filter.mpr ⟨List.mem_of_getElem? (i := 337) (by decide +kernel), rfl⟩
theorem tk_338 : Cond.fieldLink RX7 26 RX7 "images" "[LHomeDrives$Evening;" ∈ okl := List.mem_filter.mpr ⟨List.mem_of_getElem? (i := 338) (by decide +kernel), rfl⟩
theorem tk_339 : Cond.fieldLink RX7 33 RX7 "drinks" "LHomeDrives$Drinks;" ∈ okl := List.mem_filter.mpr ⟨List.mem_of_getElem? (i := 339) (by decide +kernel), rfl⟩
theorem tk_340 : Cond.fieldLink RX7 40 RX7 "planner" "LHomeDrives$Planner;" ∈ okl := List.mem_filter.mpr ⟨List.mem_of_getElem? (i := 340) (by decide +kernel), rfl⟩
theorem tk_341 : Cond.fieldLink RX7 47 RX7 "book" "LHomeDrives$Book;" ∈ okl := List.mem_filter.mpr ⟨List.mem_of_getElem? (i := 341) (by decide +kernel), rfl⟩
theorem tk_342 : Cond.fieldLink RX7 54 RX7 "asks" "LHomeDrives$Asks;" ∈ okl := List.mem_filter.mpr ⟨List.mem_of_getElem? (i := 342) (by decide +kernel), rfl⟩
theorem tk_343 : Cond.fieldLink RX7 58 RX7 "now" "LHomeDrives$Evening;" ∈ okl := List.mem_filter.mpr ⟨List.mem_of_getElem? (i := 343) (by decide +kernel), rfl⟩
theorem tk_344 : Cond.fieldLink RX7 62 RX7 "draft" "LHomeDrives$Evening;" ∈ okl := List.mem_filter.mpr ⟨List.mem_of_getElem? (i := 344) (by decide +kernel), rfl⟩
theorem tk_345 : Cond.fieldLink RX7 65 RX7 "finding" "I" ∈ okl := List.mem_filter.mpr ⟨List.mem_of_getElem? (i := 345) (by decide +kernel), rfl⟩
theorem tk_129 : Cond.fieldLinkNest RX7 116 RX5 "faultPlace" "I" "HomeDrives" ∈ okl := List.mem_filter.mpr ⟨List.mem_of_getElem? (i := 129) (by decide +kernel), rfl⟩
theorem tk_177 : Cond.fieldLinkNest RX7 122 RX3 "people" "I" "HomeDrives" ∈ okl := List.mem_filter.mpr ⟨List.mem_of_getElem? (i := 177) (by decide +kernel), rfl⟩
theorem tk_127 : Cond.fieldLinkNest RX7 125 RX5 "faultNumber" "I" "HomeDrives" ∈ okl := List.mem_filter.mpr ⟨List.mem_of_getElem? (i := 127) (by decide +kernel), rfl⟩
theorem tk_197 : Cond.fieldLinkNest RX7 131 RX3 "glasses" "[I" "HomeDrives" ∈ okl := List.mem_filter.mpr ⟨List.mem_of_getElem? (i := 197) (by decide +kernel), rfl⟩
theorem tk_253 : Cond.fieldLinkNest RX7 140 RX2 "kept" "I" "HomeDrives" ∈ okl := List.mem_filter.mpr ⟨List.mem_of_getElem? (i := 253) (by decide +kernel), rfl⟩
theorem tk_193 : Cond.fieldLinkNest RX7 148 RX3 "homes" "[I" "HomeDrives" ∈ okl := List.mem_filter.mpr ⟨List.mem_of_getElem? (i := 193) (by decide +kernel), rfl⟩
theorem tk_199 : Cond.fieldLinkNest RX7 154 RX3 "quarrels" "[I" "HomeDrives" ∈ okl := List.mem_filter.mpr ⟨List.mem_of_getElem? (i := 199) (by decide +kernel), rfl⟩
theorem tk_202 : Cond.fieldLinkNest RX7 160 RX3 "owners" "[I" "HomeDrives" ∈ okl := List.mem_filter.mpr ⟨List.mem_of_getElem? (i := 202) (by decide +kernel), rfl⟩
theorem tk_204 : Cond.fieldLinkNest RX7 163 RX3 "seats" "[I" "HomeDrives" ∈ okl := List.mem_filter.mpr ⟨List.mem_of_getElem? (i := 204) (by decide +kernel), rfl⟩
theorem tk_206 : Cond.fieldLinkNest RX7 166 RX3 "snow" "[I" "HomeDrives" ∈ okl := List.mem_filter.mpr ⟨List.mem_of_getElem? (i := 206) (by decide +kernel), rfl⟩
theorem tk_163 : Cond.fieldLinkNest RX7 169 RX3 "told" "Z" "HomeDrives" ∈ okl := List.mem_filter.mpr ⟨List.mem_of_getElem? (i := 163) (by decide +kernel), rfl⟩
theorem tk_271 : Cond.fieldLinkNest RX7 200 RX4 "couch" "I" "HomeDrives" ∈ okl := List.mem_filter.mpr ⟨List.mem_of_getElem? (i := 271) (by decide +kernel), rfl⟩
theorem tk_273 : Cond.fieldLinkNest RX7 208 RX4 "minutes" "I" "HomeDrives" ∈ okl := List.mem_filter.mpr ⟨List.mem_of_getElem? (i := 273) (by decide +kernel), rfl⟩
theorem tk_182 : Cond.fieldLinkNest RX7 225 RX3 "cars" "I" "HomeDrives" ∈ okl := List.mem_filter.mpr ⟨List.mem_of_getElem? (i := 182) (by decide +kernel), rfl⟩
theorem tk_313 : Cond.fieldLinkNest RX7 248 RX1 "times" "[I" "HomeDrives" ∈ okl := List.mem_filter.mpr ⟨List.mem_of_getElem? (i := 313) (by decide +kernel), rfl⟩
theorem tk_315 : Cond.fieldLinkNest RX7 254 RX1 "always" "I" "HomeDrives" ∈ okl := List.mem_filter.mpr ⟨List.mem_of_getElem? (i := 315) (by decide +kernel), rfl⟩
theorem tk_189 : Cond.fieldLinkNest RX7 263 RX3 "kinds" "[I" "HomeDrives" ∈ okl := List.mem_filter.mpr ⟨List.mem_of_getElem? (i := 189) (by decide +kernel), rfl⟩
theorem tk_330 : Cond.fieldLinkNest RX7 275 RX0 "left" "I" "HomeDrives" ∈ okl := List.mem_filter.mpr ⟨List.mem_of_getElem? (i := 330) (by decide +kernel), rfl⟩
theorem tk_328 : Cond.fieldLinkNest RX7 278 RX0 "numbers" "[I" "HomeDrives" ∈ okl := List.mem_filter.mpr ⟨List.mem_of_getElem? (i := 328) (by decide +kernel), rfl⟩
theorem tk_174 : Cond.fieldLinkNest RX7 284 RX3 "quarrelsTold" "I" "HomeDrives" ∈ okl := List.mem_filter.mpr ⟨List.mem_of_getElem? (i := 174) (by decide +kernel), rfl⟩
theorem tk_125 : Cond.fieldLinkNest RX7 290 RX5 "length" "I" "HomeDrives" ∈ okl := List.mem_filter.mpr ⟨List.mem_of_getElem? (i := 125) (by decide +kernel), rfl⟩
theorem tk_602 : Cond.fieldLink RX7 296 RX7 "KIND_ABOVE" "[I" ∈ okl := List.mem_filter.mpr ⟨List.mem_of_getElem? (i := 602) (by decide +kernel), rfl⟩
theorem tk_327 : Cond.fieldLink RX0 9 RX0 "numbers" "[I" ∈ okl := List.mem_filter.mpr ⟨List.mem_of_getElem? (i := 327) (by decide +kernel), rfl⟩
theorem tk_329 : Cond.fieldLink RX0 15 RX0 "left" "I" ∈ okl := List.mem_filter.mpr ⟨List.mem_of_getElem? (i := 329) (by decide +kernel), rfl⟩
theorem tk_897 : Cond.fieldLinkNest RX0 19 RX7 "SIZE_BODIES" "[I" "HomeDrives" ∈ okl := List.mem_filter.mpr ⟨List.mem_of_getElem? (i := 897) (by decide +kernel), rfl⟩
theorem tk_899 : Cond.fieldLinkNest RX0 22 RX7 "MARK_BODIES" "[I" "HomeDrives" ∈ okl := List.mem_filter.mpr ⟨List.mem_of_getElem? (i := 899) (by decide +kernel), rfl⟩
theorem tk_188 : Cond.fieldLinkNest RX0 25 RX3 "kinds" "[I" "HomeDrives" ∈ okl := List.mem_filter.mpr ⟨List.mem_of_getElem? (i := 188) (by decide +kernel), rfl⟩
theorem tk_901 : Cond.fieldLinkNest RX0 30 RX7 "KIND_ABOVE" "[I" "HomeDrives" ∈ okl := List.mem_filter.mpr ⟨List.mem_of_getElem? (i := 901) (by decide +kernel), rfl⟩
theorem tk_196 : Cond.fieldLinkNest RX0 47 RX3 "glasses" "[I" "HomeDrives" ∈ okl := List.mem_filter.mpr ⟨List.mem_of_getElem? (i := 196) (by decide +kernel), rfl⟩
theorem tk_191 : Cond.fieldLinkNest RX0 53 RX3 "homes" "[I" "HomeDrives" ∈ okl := List.mem_filter.mpr ⟨List.mem_of_getElem? (i := 191) (by decide +kernel), rfl⟩
theorem tk_312 : Cond.fieldLink RX1 9 RX1 "times" "[I" ∈ okl := List.mem_filter.mpr ⟨List.mem_of_getElem? (i := 312) (by decide +kernel), rfl⟩
theorem tk_314 : Cond.fieldLink RX1 15 RX1 "always" "I" ∈ okl := List.mem_filter.mpr ⟨List.mem_of_getElem? (i := 314) (by decide +kernel), rfl⟩
theorem tk_250 : Cond.fieldLink RX2 9 RX2 "who" "[I" ∈ okl := List.mem_filter.mpr ⟨List.mem_of_getElem? (i := 250) (by decide +kernel), rfl⟩
theorem tk_251 : Cond.fieldLink RX2 15 RX2 "many" "[I" ∈ okl := List.mem_filter.mpr ⟨List.mem_of_getElem? (i := 251) (by decide +kernel), rfl⟩
theorem tk_252 : Cond.fieldLink RX2 18 RX2 "kept" "I" ∈ okl := List.mem_filter.mpr ⟨List.mem_of_getElem? (i := 252) (by decide +kernel), rfl⟩
theorem tk_195 : Cond.fieldLinkNest RX2 28 RX3 "glasses" "[I" "HomeDrives" ∈ okl := List.mem_filter.mpr ⟨List.mem_of_getElem? (i := 195) (by decide +kernel), rfl⟩
theorem tk_162 : Cond.fieldLink RX3 9 RX3 "told" "Z" ∈ okl := List.mem_filter.mpr ⟨List.mem_of_getElem? (i := 162) (by decide +kernel), rfl⟩
theorem tk_186 : Cond.fieldLink RX3 15 RX3 "minutes" "[I" ∈ okl := List.mem_filter.mpr ⟨List.mem_of_getElem? (i := 186) (by decide +kernel), rfl⟩
theorem tk_187 : Cond.fieldLink RX3 19 RX3 "kinds" "[I" ∈ okl := List.mem_filter.mpr ⟨List.mem_of_getElem? (i := 187) (by decide +kernel), rfl⟩
theorem tk_190 : Cond.fieldLink RX3 22 RX3 "homes" "[I" ∈ okl := List.mem_filter.mpr ⟨List.mem_of_getElem? (i := 190) (by decide +kernel), rfl⟩
theorem tk_194 : Cond.fieldLink RX3 25 RX3 "glasses" "[I" ∈ okl := List.mem_filter.mpr ⟨List.mem_of_getElem? (i := 194) (by decide +kernel), rfl⟩
theorem tk_198 : Cond.fieldLink RX3 28 RX3 "quarrels" "[I" ∈ okl := List.mem_filter.mpr ⟨List.mem_of_getElem? (i := 198) (by decide +kernel), rfl⟩
theorem tk_200 : Cond.fieldLink RX3 31 RX3 "owners" "[I" ∈ okl := List.mem_filter.mpr ⟨List.mem_of_getElem? (i := 200) (by decide +kernel), rfl⟩
theorem tk_203 : Cond.fieldLink RX3 34 RX3 "seats" "[I" ∈ okl := List.mem_filter.mpr ⟨List.mem_of_getElem? (i := 203) (by decide +kernel), rfl⟩
theorem tk_205 : Cond.fieldLink RX3 37 RX3 "snow" "[I" ∈ okl := List.mem_filter.mpr ⟨List.mem_of_getElem? (i := 205) (by decide +kernel), rfl⟩
theorem tk_168 : Cond.fieldLink RX3 40 RX3 "waysTold" "I" ∈ okl := List.mem_filter.mpr ⟨List.mem_of_getElem? (i := 168) (by decide +kernel), rfl⟩
theorem tk_170 : Cond.fieldLink RX3 44 RX3 "hillsTold" "I" ∈ okl := List.mem_filter.mpr ⟨List.mem_of_getElem? (i := 170) (by decide +kernel), rfl⟩
theorem tk_172 : Cond.fieldLink RX3 47 RX3 "quarrelsTold" "I" ∈ okl := List.mem_filter.mpr ⟨List.mem_of_getElem? (i := 172) (by decide +kernel), rfl⟩
theorem tk_175 : Cond.fieldLink RX3 50 RX3 "people" "I" ∈ okl := List.mem_filter.mpr ⟨List.mem_of_getElem? (i := 175) (by decide +kernel), rfl⟩
theorem tk_179 : Cond.fieldLink RX3 53 RX3 "cars" "I" ∈ okl := List.mem_filter.mpr ⟨List.mem_of_getElem? (i := 179) (by decide +kernel), rfl⟩
theorem tk_183 : Cond.fieldLink RX3 56 RX3 "hills" "I" ∈ okl := List.mem_filter.mpr ⟨List.mem_of_getElem? (i := 183) (by decide +kernel), rfl⟩
theorem tk_184 : Cond.fieldLink RX3 59 RX3 "sick" "I" ∈ okl := List.mem_filter.mpr ⟨List.mem_of_getElem? (i := 184) (by decide +kernel), rfl⟩
theorem tk_164 : Cond.fieldLink RX3 69 RX3 "limit" "I" ∈ okl := List.mem_filter.mpr ⟨List.mem_of_getElem? (i := 164) (by decide +kernel), rfl⟩
theorem tk_166 : Cond.fieldLink RX3 72 RX3 "rate" "I" ∈ okl := List.mem_filter.mpr ⟨List.mem_of_getElem? (i := 166) (by decide +kernel), rfl⟩
theorem tk_267 : Cond.fieldLink RX4 9 RX4 "known" "[I" ∈ okl := List.mem_filter.mpr ⟨List.mem_of_getElem? (i := 267) (by decide +kernel), rfl⟩
theorem tk_268 : Cond.fieldLink RX4 15 RX4 "riders" "[I" ∈ okl := List.mem_filter.mpr ⟨List.mem_of_getElem? (i := 268) (by decide +kernel), rfl⟩
theorem tk_269 : Cond.fieldLink RX4 18 RX4 "planned" "I" ∈ okl := List.mem_filter.mpr ⟨List.mem_of_getElem? (i := 269) (by decide +kernel), rfl⟩
theorem tk_270 : Cond.fieldLink RX4 22 RX4 "couch" "I" ∈ okl := List.mem_filter.mpr ⟨List.mem_of_getElem? (i := 270) (by decide +kernel), rfl⟩
theorem tk_272 : Cond.fieldLink RX4 25 RX4 "minutes" "I" ∈ okl := List.mem_filter.mpr ⟨List.mem_of_getElem? (i := 272) (by decide +kernel), rfl⟩
theorem tk_274 : Cond.fieldLink RX4 28 RX4 "fewest" "I" ∈ okl := List.mem_filter.mpr ⟨List.mem_of_getElem? (i := 274) (by decide +kernel), rfl⟩
theorem tk_275 : Cond.fieldLink RX4 31 RX4 "aboard" "[I" ∈ okl := List.mem_filter.mpr ⟨List.mem_of_getElem? (i := 275) (by decide +kernel), rfl⟩
theorem tk_278 : Cond.fieldLink RX4 34 RX4 "line" "[I" ∈ okl := List.mem_filter.mpr ⟨List.mem_of_getElem? (i := 278) (by decide +kernel), rfl⟩
theorem tk_279 : Cond.fieldLink RX4 37 RX4 "shortestLine" "[I" ∈ okl := List.mem_filter.mpr ⟨List.mem_of_getElem? (i := 279) (by decide +kernel), rfl⟩
theorem tk_276 : Cond.fieldLink RX4 46 RX4 "going" "I" ∈ okl := List.mem_filter.mpr ⟨List.mem_of_getElem? (i := 276) (by decide +kernel), rfl⟩
theorem tk_277 : Cond.fieldLink RX4 49 RX4 "drivers" "I" ∈ okl := List.mem_filter.mpr ⟨List.mem_of_getElem? (i := 277) (by decide +kernel), rfl⟩
theorem tk_201 : Cond.fieldLinkNest RX4 56 RX3 "owners" "[I" "HomeDrives" ∈ okl := List.mem_filter.mpr ⟨List.mem_of_getElem? (i := 201) (by decide +kernel), rfl⟩
theorem tk_176 : Cond.fieldLinkNest RX4 71 RX3 "people" "I" "HomeDrives" ∈ okl := List.mem_filter.mpr ⟨List.mem_of_getElem? (i := 176) (by decide +kernel), rfl⟩
theorem tk_180 : Cond.fieldLinkNest RX4 78 RX3 "cars" "I" "HomeDrives" ∈ okl := List.mem_filter.mpr ⟨List.mem_of_getElem? (i := 180) (by decide +kernel), rfl⟩
theorem tk_280 : Cond.fieldLink RX4 96 RX4 "shortest" "I" ∈ okl := List.mem_filter.mpr ⟨List.mem_of_getElem? (i := 280) (by decide +kernel), rfl⟩
theorem tk_185 : Cond.fieldLinkNest RX4 111 RX3 "sick" "I" "HomeDrives" ∈ okl := List.mem_filter.mpr ⟨List.mem_of_getElem? (i := 185) (by decide +kernel), rfl⟩
theorem tk_192 : Cond.fieldLinkNest RX4 114 RX3 "homes" "[I" "HomeDrives" ∈ okl := List.mem_filter.mpr ⟨List.mem_of_getElem? (i := 192) (by decide +kernel), rfl⟩
theorem tk_123 : Cond.fieldLink RX5 9 RX5 "tape" "[B" ∈ okl := List.mem_filter.mpr ⟨List.mem_of_getElem? (i := 123) (by decide +kernel), rfl⟩
theorem tk_124 : Cond.fieldLink RX5 15 RX5 "length" "I" ∈ okl := List.mem_filter.mpr ⟨List.mem_of_getElem? (i := 124) (by decide +kernel), rfl⟩
theorem tk_126 : Cond.fieldLink RX5 19 RX5 "faultNumber" "I" ∈ okl := List.mem_filter.mpr ⟨List.mem_of_getElem? (i := 126) (by decide +kernel), rfl⟩
theorem tk_128 : Cond.fieldLink RX5 22 RX5 "faultPlace" "I" ∈ okl := List.mem_filter.mpr ⟨List.mem_of_getElem? (i := 128) (by decide +kernel), rfl⟩
theorem tk_132 : Cond.fieldLink RX5 26 RX5 "end" "I" ∈ okl := List.mem_filter.mpr ⟨List.mem_of_getElem? (i := 132) (by decide +kernel), rfl⟩
theorem tk_134 : Cond.fieldLink RX5 29 RX5 "reached" "I" ∈ okl := List.mem_filter.mpr ⟨List.mem_of_getElem? (i := 134) (by decide +kernel), rfl⟩
theorem tk_130 : Cond.fieldLink RX5 44 RX5 "sort" "I" ∈ okl := List.mem_filter.mpr ⟨List.mem_of_getElem? (i := 130) (by decide +kernel), rfl⟩
theorem tk_133 : Cond.fieldLink RX5 67 RX5 "value" "I" ∈ okl := List.mem_filter.mpr ⟨List.mem_of_getElem? (i := 133) (by decide +kernel), rfl⟩
theorem tk_165 : Cond.fieldLinkNest RX5 70 RX3 "limit" "I" "HomeDrives" ∈ okl := List.mem_filter.mpr ⟨List.mem_of_getElem? (i := 165) (by decide +kernel), rfl⟩
theorem tk_167 : Cond.fieldLinkNest RX5 73 RX3 "rate" "I" "HomeDrives" ∈ okl := List.mem_filter.mpr ⟨List.mem_of_getElem? (i := 167) (by decide +kernel), rfl⟩
theorem tk_169 : Cond.fieldLinkNest RX5 109 RX3 "waysTold" "I" "HomeDrives" ∈ okl := List.mem_filter.mpr ⟨List.mem_of_getElem? (i := 169) (by decide +kernel), rfl⟩
theorem tk_171 : Cond.fieldLinkNest RX5 116 RX3 "hillsTold" "I" "HomeDrives" ∈ okl := List.mem_filter.mpr ⟨List.mem_of_getElem? (i := 171) (by decide +kernel), rfl⟩
theorem tk_178 : Cond.fieldLinkNest RX5 123 RX3 "people" "I" "HomeDrives" ∈ okl := List.mem_filter.mpr ⟨List.mem_of_getElem? (i := 178) (by decide +kernel), rfl⟩
theorem tk_181 : Cond.fieldLinkNest RX5 142 RX3 "cars" "I" "HomeDrives" ∈ okl := List.mem_filter.mpr ⟨List.mem_of_getElem? (i := 181) (by decide +kernel), rfl⟩
theorem tk_173 : Cond.fieldLinkNest RX5 153 RX3 "quarrelsTold" "I" "HomeDrives" ∈ okl := List.mem_filter.mpr ⟨List.mem_of_getElem? (i := 173) (by decide +kernel), rfl⟩
theorem tk_131 : Cond.fieldLink RX5 160 RX5 "start" "I" ∈ okl := List.mem_filter.mpr ⟨List.mem_of_getElem? (i := 131) (by decide +kernel), rfl⟩
theorem tk_106 : Cond.fieldLink RX6 9 RX6 "lanes" "[I" ∈ okl := List.mem_filter.mpr ⟨List.mem_of_getElem? (i := 106) (by decide +kernel), rfl⟩
theorem tk_107 : Cond.fieldLink RX6 15 RX6 "sizes" "[I" ∈ okl := List.mem_filter.mpr ⟨List.mem_of_getElem? (i := 107) (by decide +kernel), rfl⟩
theorem tk_108 : Cond.fieldLink RX6 20 RX6 "items" "[[I" ∈ okl := List.mem_filter.mpr ⟨List.mem_of_getElem? (i := 108) (by decide +kernel), rfl⟩
theorem tk_941 : Cond.fieldLink RX8 7 RX8 "lane" "[I" ∈ okl := List.mem_filter.mpr ⟨List.mem_of_getElem? (i := 941) (by decide +kernel), rfl⟩
theorem tk_942 : Cond.fieldLink RX8 13 RX8 "many" "[I" ∈ okl := List.mem_filter.mpr ⟨List.mem_of_getElem? (i := 942) (by decide +kernel), rfl⟩
theorem tk_943 : Cond.fieldLink RX8 16 RX8 "item" "[I" ∈ okl := List.mem_filter.mpr ⟨List.mem_of_getElem? (i := 943) (by decide +kernel), rfl⟩
theorem tk_944 : Cond.fieldLink RX8 19 RX8 "evening" "[I" ∈ okl := List.mem_filter.mpr ⟨List.mem_of_getElem? (i := 944) (by decide +kernel), rfl⟩
theorem tk_945 : Cond.fieldLink RX8 22 RX8 "fresh" "[I" ∈ okl := List.mem_filter.mpr ⟨List.mem_of_getElem? (i := 945) (by decide +kernel), rfl⟩
theorem tk_947 : Cond.fieldLink RX8 25 RX8 "who" "[I" ∈ okl := List.mem_filter.mpr ⟨List.mem_of_getElem? (i := 947) (by decide +kernel), rfl⟩
theorem tk_948 : Cond.fieldLink RX8 28 RX8 "drank" "[I" ∈ okl := List.mem_filter.mpr ⟨List.mem_of_getElem? (i := 948) (by decide +kernel), rfl⟩
theorem tk_950 : Cond.fieldLink RX8 31 RX8 "tape" "[I" ∈ okl := List.mem_filter.mpr ⟨List.mem_of_getElem? (i := 950) (by decide +kernel), rfl⟩
theorem tk_960 : Cond.fieldLink RX8 34 RX8 "takes" "[I" ∈ okl := List.mem_filter.mpr ⟨List.mem_of_getElem? (i := 960) (by decide +kernel), rfl⟩
theorem tk_961 : Cond.fieldLink RX8 37 RX8 "riders" "[I" ∈ okl := List.mem_filter.mpr ⟨List.mem_of_getElem? (i := 961) (by decide +kernel), rfl⟩
theorem tk_962 : Cond.fieldLink RX8 40 RX8 "tried" "[I" ∈ okl := List.mem_filter.mpr ⟨List.mem_of_getElem? (i := 962) (by decide +kernel), rfl⟩
theorem tk_963 : Cond.fieldLink RX8 43 RX8 "best" "[I" ∈ okl := List.mem_filter.mpr ⟨List.mem_of_getElem? (i := 963) (by decide +kernel), rfl⟩
theorem tk_964 : Cond.fieldLink RX8 46 RX8 "inCar" "[I" ∈ okl := List.mem_filter.mpr ⟨List.mem_of_getElem? (i := 964) (by decide +kernel), rfl⟩
theorem tk_968 : Cond.fieldLink RX8 49 RX8 "rider" "[I" ∈ okl := List.mem_filter.mpr ⟨List.mem_of_getElem? (i := 968) (by decide +kernel), rfl⟩
theorem tk_970 : Cond.fieldLink RX8 52 RX8 "triedIn" "[I" ∈ okl := List.mem_filter.mpr ⟨List.mem_of_getElem? (i := 970) (by decide +kernel), rfl⟩
theorem tk_971 : Cond.fieldLink RX8 55 RX8 "times" "[I" ∈ okl := List.mem_filter.mpr ⟨List.mem_of_getElem? (i := 971) (by decide +kernel), rfl⟩
theorem tk_972 : Cond.fieldLink RX8 58 RX8 "isKept" "[Z" ∈ okl := List.mem_filter.mpr ⟨List.mem_of_getElem? (i := 972) (by decide +kernel), rfl⟩
theorem tk_973 : Cond.fieldLink RX8 62 RX8 "kept" "[I" ∈ okl := List.mem_filter.mpr ⟨List.mem_of_getElem? (i := 973) (by decide +kernel), rfl⟩
theorem tk_974 : Cond.fieldLink RX8 65 RX8 "trace" "[I" ∈ okl := List.mem_filter.mpr ⟨List.mem_of_getElem? (i := 974) (by decide +kernel), rfl⟩
theorem tk_939 : Cond.fieldLink RX8 68 RX8 "thrown" "I" ∈ okl := List.mem_filter.mpr ⟨List.mem_of_getElem? (i := 939) (by decide +kernel), rfl⟩
theorem tk_940 : Cond.fieldLink RX8 72 RX8 "status" "I" ∈ okl := List.mem_filter.mpr ⟨List.mem_of_getElem? (i := 940) (by decide +kernel), rfl⟩
theorem tk_951 : Cond.fieldLink RX8 95 RX8 "taped" "I" ∈ okl := List.mem_filter.mpr ⟨List.mem_of_getElem? (i := 951) (by decide +kernel), rfl⟩
theorem tk_953 : Cond.fieldLink RX8 101 RX8 "length" "I" ∈ okl := List.mem_filter.mpr ⟨List.mem_of_getElem? (i := 953) (by decide +kernel), rfl⟩
theorem tk_954 : Cond.fieldLink RX8 105 RX8 "cursor" "I" ∈ okl := List.mem_filter.mpr ⟨List.mem_of_getElem? (i := 954) (by decide +kernel), rfl⟩
theorem tk_956 : Cond.fieldLink RX8 111 RX8 "start" "I" ∈ okl := List.mem_filter.mpr ⟨List.mem_of_getElem? (i := 956) (by decide +kernel), rfl⟩
theorem tk_955 : Cond.fieldLink RX8 114 RX8 "token" "I" ∈ okl := List.mem_filter.mpr ⟨List.mem_of_getElem? (i := 955) (by decide +kernel), rfl⟩
theorem tk_957 : Cond.fieldLink RX8 123 RX8 "till" "I" ∈ okl := List.mem_filter.mpr ⟨List.mem_of_getElem? (i := 957) (by decide +kernel), rfl⟩
theorem tk_958 : Cond.fieldLink RX8 126 RX8 "fault" "I" ∈ okl := List.mem_filter.mpr ⟨List.mem_of_getElem? (i := 958) (by decide +kernel), rfl⟩
theorem tk_959 : Cond.fieldLink RX8 132 RX8 "faultAt" "I" ∈ okl := List.mem_filter.mpr ⟨List.mem_of_getElem? (i := 959) (by decide +kernel), rfl⟩
theorem tk_952 : Cond.fieldLink RX8 213 RX8 "latest" "I" ∈ okl := List.mem_filter.mpr ⟨List.mem_of_getElem? (i := 952) (by decide +kernel), rfl⟩
theorem tk_946 : Cond.fieldLink RX8 217 RX8 "isThere" "Z" ∈ okl := List.mem_filter.mpr ⟨List.mem_of_getElem? (i := 946) (by decide +kernel), rfl⟩
theorem tk_949 : Cond.fieldLink RX8 221 RX8 "drinks" "I" ∈ okl := List.mem_filter.mpr ⟨List.mem_of_getElem? (i := 949) (by decide +kernel), rfl⟩
theorem tk_969 : Cond.fieldLink RX8 284 RX8 "riderMany" "I" ∈ okl := List.mem_filter.mpr ⟨List.mem_of_getElem? (i := 969) (by decide +kernel), rfl⟩
theorem tk_966 : Cond.fieldLink RX8 287 RX8 "going" "I" ∈ okl := List.mem_filter.mpr ⟨List.mem_of_getElem? (i := 966) (by decide +kernel), rfl⟩
theorem tk_967 : Cond.fieldLink RX8 302 RX8 "together" "I" ∈ okl := List.mem_filter.mpr ⟨List.mem_of_getElem? (i := 967) (by decide +kernel), rfl⟩
theorem tk_965 : Cond.fieldLink RX8 311 RX8 "stay" "I" ∈ okl := List.mem_filter.mpr ⟨List.mem_of_getElem? (i := 965) (by decide +kernel), rfl⟩
theorem tk_975 : Cond.fieldLink RX8 333 RX8 "traced" "I" ∈ okl := List.mem_filter.mpr ⟨List.mem_of_getElem? (i := 975) (by decide +kernel), rfl⟩
theorem tk_1418 : Cond.fieldLink RJ0 9 RJ0 "value" "[B" ∈ okl := List.mem_filter.mpr ⟨List.mem_of_getElem? (i := 1418) (by decide +kernel), rfl⟩
theorem tk_1419 : Cond.fieldLink RJ0 15 RJ0 "coder" "B" ∈ okl := List.mem_filter.mpr ⟨List.mem_of_getElem? (i := 1419) (by decide +kernel), rfl⟩
theorem tk_494 : Cond.fieldLink RJ0 38 RJ0 "COMPACT_STRINGS" "Z" ∈ okl := List.mem_filter.mpr ⟨List.mem_of_getElem? (i := 494) (by decide +kernel), rfl⟩
theorem tk_510 : Cond.fieldLink RJ0 1053 RJ3 "SIOOBE_FORMATTER" "Ljava/util/function/BiFunction;" ∈ okl := List.mem_filter.mpr ⟨List.mem_of_getElem? (i := 510) (by decide +kernel), rfl⟩
theorem tk_528 : Cond.fieldLink RJ2 44 RJ2 "$assertionsDisabled" "Z" ∈ okl := List.mem_filter.mpr ⟨List.mem_of_getElem? (i := 528) (by decide +kernel), rfl⟩
theorem tk_530 : Cond.fieldLink RJ2 59 RJ2 "HI_BYTE_SHIFT" "I" ∈ okl := List.mem_filter.mpr ⟨List.mem_of_getElem? (i := 530) (by decide +kernel), rfl⟩
theorem tk_532 : Cond.fieldLink RJ2 63 RJ2 "LO_BYTE_SHIFT" "I" ∈ okl := List.mem_filter.mpr ⟨List.mem_of_getElem? (i := 532) (by decide +kernel), rfl⟩
theorem tk_374 : Cond.constant RX7 73 (-1000001) ∈ okl := List.mem_filter.mpr ⟨List.mem_of_getElem? (i := 374) (by decide +kernel), rfl⟩
theorem tk_630 : Cond.constant RX7 115 (-1000100) ∈ okl := List.mem_filter.mpr ⟨List.mem_of_getElem? (i := 630) (by decide +kernel), rfl⟩
theorem tk_656 : Cond.constant RX7 135 (-1000003) ∈ okl := List.mem_filter.mpr ⟨List.mem_of_getElem? (i := 656) (by decide +kernel), rfl⟩
theorem tk_666 : Cond.constant RX7 143 (-1000002) ∈ okl := List.mem_filter.mpr ⟨List.mem_of_getElem? (i := 666) (by decide +kernel), rfl⟩
theorem tk_693 : Cond.constant RX7 180 (-1000000) ∈ okl := List.mem_filter.mpr ⟨List.mem_of_getElem? (i := 693) (by decide +kernel), rfl⟩
theorem tk_379 : Cond.constant RX7 293 (-1000010) ∈ okl := List.mem_filter.mpr ⟨List.mem_of_getElem? (i := 379) (by decide +kernel), rfl⟩
theorem tk_454 : Cond.constant RX3 62 (1000000) ∈ okl := List.mem_filter.mpr ⟨List.mem_of_getElem? (i := 454) (by decide +kernel), rfl⟩
theorem tk_612 : Cond.constant RX3 94 (-1000000) ∈ okl := List.mem_filter.mpr ⟨List.mem_of_getElem? (i := 612) (by decide +kernel), rfl⟩
theorem tk_768 : Cond.constant RX4 95 (1000000) ∈ okl := List.mem_filter.mpr ⟨List.mem_of_getElem? (i := 768) (by decide +kernel), rfl⟩
theorem tk_799 : Cond.constant RX4 106 (-1000000) ∈ okl := List.mem_filter.mpr ⟨List.mem_of_getElem? (i := 799) (by decide +kernel), rfl⟩
theorem tk_441 : Cond.constant RX5 25 (-1000003) ∈ okl := List.mem_filter.mpr ⟨List.mem_of_getElem? (i := 441) (by decide +kernel), rfl⟩
theorem tk_613 : Cond.constant RX5 149 (-1000000) ∈ okl := List.mem_filter.mpr ⟨List.mem_of_getElem? (i := 613) (by decide +kernel), rfl⟩
theorem tk_1069 : Cond.constant RX8 75 (-1000010) ∈ okl := List.mem_filter.mpr ⟨List.mem_of_getElem? (i := 1069) (by decide +kernel), rfl⟩
theorem tk_1064 : Cond.constant RX8 88 (-1000001) ∈ okl := List.mem_filter.mpr ⟨List.mem_of_getElem? (i := 1064) (by decide +kernel), rfl⟩
theorem tk_1087 : Cond.constant RX8 98 (-1000003) ∈ okl := List.mem_filter.mpr ⟨List.mem_of_getElem? (i := 1087) (by decide +kernel), rfl⟩
theorem tk_1105 : Cond.constant RX8 104 (-1000000) ∈ okl := List.mem_filter.mpr ⟨List.mem_of_getElem? (i := 1105) (by decide +kernel), rfl⟩
theorem tk_1182 : Cond.constant RX8 216 (-1000100) ∈ okl := List.mem_filter.mpr ⟨List.mem_of_getElem? (i := 1182) (by decide +kernel), rfl⟩
theorem tk_1208 : Cond.constant RX8 240 (-1000002) ∈ okl := List.mem_filter.mpr ⟨List.mem_of_getElem? (i := 1208) (by decide +kernel), rfl⟩
theorem tk_757 : Cond.constant RJ6 265 (1431655765) ∈ okl := List.mem_filter.mpr ⟨List.mem_of_getElem? (i := 757) (by decide +kernel), rfl⟩
theorem tk_758 : Cond.constant RJ6 266 (858993459) ∈ okl := List.mem_filter.mpr ⟨List.mem_of_getElem? (i := 758) (by decide +kernel), rfl⟩
theorem tk_759 : Cond.constant RJ6 267 (252645135) ∈ okl := List.mem_filter.mpr ⟨List.mem_of_getElem? (i := 759) (by decide +kernel), rfl⟩
theorem tk_1417 : Cond.constantLong RL 32 (4294967295) ∈ okl := List.mem_filter.mpr ⟨List.mem_of_getElem? (i := 1417) (by decide +kernel), rfl⟩
theorem tk_1059 : Cond.constantLong RX8 76 (7) ∈ okl := List.mem_filter.mpr ⟨List.mem_of_getElem? (i := 1059) (by decide +kernel), rfl⟩
theorem tk_1063 : Cond.constantLong RX8 86 (2) ∈ okl := List.mem_filter.mpr ⟨List.mem_of_getElem? (i := 1063) (by decide +kernel), rfl⟩
theorem tk_1086 : Cond.constantLong RX8 93 (8) ∈ okl := List.mem_filter.mpr ⟨List.mem_of_getElem? (i := 1086) (by decide +kernel), rfl⟩
theorem tk_1088 : Cond.constantLong RX8 99 (255) ∈ okl := List.mem_filter.mpr ⟨List.mem_of_getElem? (i := 1088) (by decide +kernel), rfl⟩
theorem tk_1163 : Cond.constantLong RX8 147 (482854660462) ∈ okl := List.mem_filter.mpr ⟨List.mem_of_getElem? (i := 1163) (by decide +kernel), rfl⟩
theorem tk_1164 : Cond.constantLong RX8 149 (1936286571) ∈ okl := List.mem_filter.mpr ⟨List.mem_of_getElem? (i := 1164) (by decide +kernel), rfl⟩
theorem tk_1165 : Cond.constantLong RX8 151 (426953501796) ∈ okl := List.mem_filter.mpr ⟨List.mem_of_getElem? (i := 1165) (by decide +kernel), rfl⟩
theorem tk_1166 : Cond.constantLong RX8 153 (110442558416242) ∈ okl := List.mem_filter.mpr ⟨List.mem_of_getElem? (i := 1166) (by decide +kernel), rfl⟩
theorem tk_1167 : Cond.constantLong RX8 155 (8319400174449812850) ∈ okl := List.mem_filter.mpr ⟨List.mem_of_getElem? (i := 1167) (by decide +kernel), rfl⟩
theorem tk_1116 : Cond.constantLong RX8 186 (7102839) ∈ okl := List.mem_filter.mpr ⟨List.mem_of_getElem? (i := 1116) (by decide +kernel), rfl⟩
theorem tk_1137 : Cond.constantLong RX8 188 (7823737) ∈ okl := List.mem_filter.mpr ⟨List.mem_of_getElem? (i := 1137) (by decide +kernel), rfl⟩
theorem tk_1150 : Cond.constantLong RX8 193 (1751739500) ∈ okl := List.mem_filter.mpr ⟨List.mem_of_getElem? (i := 1150) (by decide +kernel), rfl⟩
theorem tk_1155 : Cond.constantLong RX8 198 (123581014175598) ∈ okl := List.mem_filter.mpr ⟨List.mem_of_getElem? (i := 1155) (by decide +kernel), rfl⟩
theorem tk_1168 : Cond.constantLong RX8 203 (6513010) ∈ okl := List.mem_filter.mpr ⟨List.mem_of_getElem? (i := 1168) (by decide +kernel), rfl⟩
theorem tk_1177 : Cond.constantLong RX8 208 (31935733760681324) ∈ okl := List.mem_filter.mpr ⟨List.mem_of_getElem? (i := 1177) (by decide +kernel), rfl⟩
theorem tk_1245 : Cond.constantLong RX8 227 (600) ∈ okl := List.mem_filter.mpr ⟨List.mem_of_getElem? (i := 1245) (by decide +kernel), rfl⟩
theorem tk_1199 : Cond.constantLong RX8 235 (9) ∈ okl := List.mem_filter.mpr ⟨List.mem_of_getElem? (i := 1199) (by decide +kernel), rfl⟩
theorem tk_1213 : Cond.constantLong RX8 241 (3) ∈ okl := List.mem_filter.mpr ⟨List.mem_of_getElem? (i := 1213) (by decide +kernel), rfl⟩
theorem tk_1348 : Cond.constantLong RX8 320 (40) ∈ okl := List.mem_filter.mpr ⟨List.mem_of_getElem? (i := 1348) (by decide +kernel), rfl⟩
theorem tk_1377 : Cond.constantLong RX8 328 (5) ∈ okl := List.mem_filter.mpr ⟨List.mem_of_getElem? (i := 1377) (by decide +kernel), rfl⟩
theorem tk_72 : Cond.initialized RL ∈ okl := List.mem_filter.mpr ⟨List.mem_of_getElem? (i := 72) (by decide +kernel), rfl⟩
theorem tk_73 : Cond.initialized RX7 ∈ okl := List.mem_filter.mpr ⟨List.mem_of_getElem? (i := 73) (by decide +kernel), rfl⟩
theorem tk_74 : Cond.initialized RX6 ∈ okl := List.mem_filter.mpr ⟨List.mem_of_getElem? (i := 74) (by decide +kernel), rfl⟩
theorem tk_75 : Cond.initialized RX5 ∈ okl := List.mem_filter.mpr ⟨List.mem_of_getElem? (i := 75) (by decide +kernel), rfl⟩
theorem tk_76 : Cond.initialized RX3 ∈ okl := List.mem_filter.mpr ⟨List.mem_of_getElem? (i := 76) (by decide +kernel), rfl⟩
theorem tk_77 : Cond.initialized RX2 ∈ okl := List.mem_filter.mpr ⟨List.mem_of_getElem? (i := 77) (by decide +kernel), rfl⟩
theorem tk_78 : Cond.initialized RX4 ∈ okl := List.mem_filter.mpr ⟨List.mem_of_getElem? (i := 78) (by decide +kernel), rfl⟩
theorem tk_79 : Cond.initialized RX1 ∈ okl := List.mem_filter.mpr ⟨List.mem_of_getElem? (i := 79) (by decide +kernel), rfl⟩
theorem tk_80 : Cond.initialized RX0 ∈ okl := List.mem_filter.mpr ⟨List.mem_of_getElem? (i := 80) (by decide +kernel), rfl⟩
theorem tk_81 : Cond.initialized RX8 ∈ okl := List.mem_filter.mpr ⟨List.mem_of_getElem? (i := 81) (by decide +kernel), rfl⟩
theorem tk_82 : Cond.initialized RJ7 ∈ okl := List.mem_filter.mpr ⟨List.mem_of_getElem? (i := 82) (by decide +kernel), rfl⟩
theorem tk_83 : Cond.initialized RJ10 ∈ okl := List.mem_filter.mpr ⟨List.mem_of_getElem? (i := 83) (by decide +kernel), rfl⟩
theorem tk_84 : Cond.initialized RJ0 ∈ okl := List.mem_filter.mpr ⟨List.mem_of_getElem? (i := 84) (by decide +kernel), rfl⟩
theorem tk_85 : Cond.initialized RJ1 ∈ okl := List.mem_filter.mpr ⟨List.mem_of_getElem? (i := 85) (by decide +kernel), rfl⟩
theorem tk_86 : Cond.initialized RJ3 ∈ okl := List.mem_filter.mpr ⟨List.mem_of_getElem? (i := 86) (by decide +kernel), rfl⟩
theorem tk_87 : Cond.initialized RJ2 ∈ okl := List.mem_filter.mpr ⟨List.mem_of_getElem? (i := 87) (by decide +kernel), rfl⟩
theorem tk_88 : Cond.initialized RJ9 ∈ okl := List.mem_filter.mpr ⟨List.mem_of_getElem? (i := 88) (by decide +kernel), rfl⟩
theorem tk_89 : Cond.initialized RJ6 ∈ okl := List.mem_filter.mpr ⟨List.mem_of_getElem? (i := 89) (by decide +kernel), rfl⟩
theorem tk_95 : Cond.methodLink RX7 1 (⟨"java/lang/Object", "<init>", "()V"⟩ : MethodName) ∈ okl := List.mem_filter.mpr ⟨List.mem_of_getElem? (i := 95) (by decide +kernel), rfl⟩
theorem tk_100 : Cond.methodLinkNest RX7 9 yX6_init "HomeDrives" ∈ okl := List.mem_filter.mpr ⟨List.mem_of_getElem? (i := 100) (by decide +kernel), rfl⟩
theorem tk_119 : Cond.methodLinkNest RX7 18 yX5_init "HomeDrives" ∈ okl := List.mem_filter.mpr ⟨List.mem_of_getElem? (i := 119) (by decide +kernel), rfl⟩
theorem tk_158 : Cond.methodLinkNest RX7 25 yX3_init "HomeDrives" ∈ okl := List.mem_filter.mpr ⟨List.mem_of_getElem? (i := 158) (by decide +kernel), rfl⟩
theorem tk_246 : Cond.methodLinkNest RX7 32 yX2_init "HomeDrives" ∈ okl := List.mem_filter.mpr ⟨List.mem_of_getElem? (i := 246) (by decide +kernel), rfl⟩
theorem tk_263 : Cond.methodLinkNest RX7 39 yX4_init "HomeDrives" ∈ okl := List.mem_filter.mpr ⟨List.mem_of_getElem? (i := 263) (by decide +kernel), rfl⟩
theorem tk_308 : Cond.methodLinkNest RX7 46 yX1_init "HomeDrives" ∈ okl := List.mem_filter.mpr ⟨List.mem_of_getElem? (i := 308) (by decide +kernel), rfl⟩
theorem tk_323 : Cond.methodLinkNest RX7 53 yX0_init "HomeDrives" ∈ okl := List.mem_filter.mpr ⟨List.mem_of_getElem? (i := 323) (by decide +kernel), rfl⟩
theorem tk_371 : Cond.methodLink RX7 69 yX7_isRow ∈ okl := List.mem_filter.mpr ⟨List.mem_of_getElem? (i := 371) (by decide +kernel), rfl⟩
theorem tk_375 : Cond.methodLink RX7 74 yX7_found ∈ okl := List.mem_filter.mpr ⟨List.mem_of_getElem? (i := 375) (by decide +kernel), rfl⟩
theorem tk_380 : Cond.methodLink RX7 78 yX6_make ∈ okl := List.mem_filter.mpr ⟨List.mem_of_getElem? (i := 380) (by decide +kernel), rfl⟩
theorem tk_387 : Cond.methodLink RX7 82 yX7_fine ∈ okl := List.mem_filter.mpr ⟨List.mem_of_getElem? (i := 387) (by decide +kernel), rfl⟩
theorem tk_395 : Cond.methodLink RX7 85 yX6_isMissing ∈ okl := List.mem_filter.mpr ⟨List.mem_of_getElem? (i := 395) (by decide +kernel), rfl⟩
theorem tk_399 : Cond.methodLink RX7 88 yX6_hasStretch ∈ okl := List.mem_filter.mpr ⟨List.mem_of_getElem? (i := 399) (by decide +kernel), rfl⟩
theorem tk_403 : Cond.methodLink RX7 92 yX6_put ∈ okl := List.mem_filter.mpr ⟨List.mem_of_getElem? (i := 403) (by decide +kernel), rfl⟩
theorem tk_414 : Cond.methodLink RX7 96 yX6_areOfOneLane ∈ okl := List.mem_filter.mpr ⟨List.mem_of_getElem? (i := 414) (by decide +kernel), rfl⟩
theorem tk_418 : Cond.methodLink RX7 100 yX6_move ∈ okl := List.mem_filter.mpr ⟨List.mem_of_getElem? (i := 418) (by decide +kernel), rfl⟩
theorem tk_429 : Cond.methodLink RX7 104 yX6_takeAway ∈ okl := List.mem_filter.mpr ⟨List.mem_of_getElem? (i := 429) (by decide +kernel), rfl⟩
theorem tk_437 : Cond.methodLink RX7 107 yX5_append ∈ okl := List.mem_filter.mpr ⟨List.mem_of_getElem? (i := 437) (by decide +kernel), rfl⟩
theorem tk_446 : Cond.methodLink RX7 111 yX5_readInto ∈ okl := List.mem_filter.mpr ⟨List.mem_of_getElem? (i := 446) (by decide +kernel), rfl⟩
theorem tk_631 : Cond.methodLink RX7 119 yX7_beginAnew ∈ okl := List.mem_filter.mpr ⟨List.mem_of_getElem? (i := 631) (by decide +kernel), rfl⟩
theorem tk_652 : Cond.methodLink RX7 128 yX3_hasPerson ∈ okl := List.mem_filter.mpr ⟨List.mem_of_getElem? (i := 652) (by decide +kernel), rfl⟩
theorem tk_657 : Cond.methodLink RX7 136 yX2_keep ∈ okl := List.mem_filter.mpr ⟨List.mem_of_getElem? (i := 657) (by decide +kernel), rfl⟩
theorem tk_667 : Cond.methodLink RX7 144 yX2_takeBack ∈ okl := List.mem_filter.mpr ⟨List.mem_of_getElem? (i := 667) (by decide +kernel), rfl⟩
theorem tk_675 : Cond.methodLink RX7 151 yX3_carOf ∈ okl := List.mem_filter.mpr ⟨List.mem_of_getElem? (i := 675) (by decide +kernel), rfl⟩
theorem tk_680 : Cond.methodLink RX7 157 yX3_hasCar ∈ okl := List.mem_filter.mpr ⟨List.mem_of_getElem? (i := 680) (by decide +kernel), rfl⟩
theorem tk_688 : Cond.methodLink RX7 173 yX3_areJoined ∈ okl := List.mem_filter.mpr ⟨List.mem_of_getElem? (i := 688) (by decide +kernel), rfl⟩
theorem tk_692 : Cond.methodLink RX7 176 yX3_minutesBetween ∈ okl := List.mem_filter.mpr ⟨List.mem_of_getElem? (i := 692) (by decide +kernel), rfl⟩
theorem tk_698 : Cond.methodLink RX7 181 yX7_isMinute ∈ okl := List.mem_filter.mpr ⟨List.mem_of_getElem? (i := 698) (by decide +kernel), rfl⟩
theorem tk_701 : Cond.methodLink RX7 184 yX3_drunkAfter ∈ okl := List.mem_filter.mpr ⟨List.mem_of_getElem? (i := 701) (by decide +kernel), rfl⟩
theorem tk_708 : Cond.methodLink RX7 187 yX3_mayDrive ∈ okl := List.mem_filter.mpr ⟨List.mem_of_getElem? (i := 708) (by decide +kernel), rfl⟩
theorem tk_724 : Cond.methodLink RX7 190 yX7_commonDivisor ∈ okl := List.mem_filter.mpr ⟨List.mem_of_getElem? (i := 724) (by decide +kernel), rfl⟩
theorem tk_731 : Cond.methodLink RX7 193 yX3_carsThatGo ∈ okl := List.mem_filter.mpr ⟨List.mem_of_getElem? (i := 731) (by decide +kernel), rfl⟩
theorem tk_745 : Cond.methodLink RX7 196 yX4_plan ∈ okl := List.mem_filter.mpr ⟨List.mem_of_getElem? (i := 745) (by decide +kernel), rfl⟩
theorem tk_784 : Cond.methodLink RX7 203 yJ6_bitCount_0f7a4 ∈ okl := List.mem_filter.mpr ⟨List.mem_of_getElem? (i := 784) (by decide +kernel), rfl⟩
theorem tk_785 : Cond.methodLink RX7 211 yX4_ridersOf ∈ okl := List.mem_filter.mpr ⟨List.mem_of_getElem? (i := 785) (by decide +kernel), rfl⟩
theorem tk_793 : Cond.methodLink RX7 214 yX7_hasBit ∈ okl := List.mem_filter.mpr ⟨List.mem_of_getElem? (i := 793) (by decide +kernel), rfl⟩
theorem tk_794 : Cond.methodLink RX7 217 yX4_minutesOf ∈ okl := List.mem_filter.mpr ⟨List.mem_of_getElem? (i := 794) (by decide +kernel), rfl⟩
theorem tk_795 : Cond.methodLink RX7 221 yX4_setDownAs ∈ okl := List.mem_filter.mpr ⟨List.mem_of_getElem? (i := 795) (by decide +kernel), rfl⟩
theorem tk_808 : Cond.methodLink RX7 228 yX3_tripsFor ∈ okl := List.mem_filter.mpr ⟨List.mem_of_getElem? (i := 808) (by decide +kernel), rfl⟩
theorem tk_820 : Cond.methodLink RX7 231 yX3_bestHouse ∈ okl := List.mem_filter.mpr ⟨List.mem_of_getElem? (i := 820) (by decide +kernel), rfl⟩
theorem tk_828 : Cond.methodLink RX7 235 yX3_farFromAll ∈ okl := List.mem_filter.mpr ⟨List.mem_of_getElem? (i := 828) (by decide +kernel), rfl⟩
theorem tk_833 : Cond.methodLink RX7 238 yX1_countDrives ∈ okl := List.mem_filter.mpr ⟨List.mem_of_getElem? (i := 833) (by decide +kernel), rfl⟩
theorem tk_842 : Cond.methodLink RX7 242 yX1_missingDrives ∈ okl := List.mem_filter.mpr ⟨List.mem_of_getElem? (i := 842) (by decide +kernel), rfl⟩
theorem tk_850 : Cond.methodLink RX7 245 yX1_firstOfFewest ∈ okl := List.mem_filter.mpr ⟨List.mem_of_getElem? (i := 850) (by decide +kernel), rfl⟩
theorem tk_858 : Cond.methodLink RX7 251 yX1_countSitters ∈ okl := List.mem_filter.mpr ⟨List.mem_of_getElem? (i := 858) (by decide +kernel), rfl⟩
theorem tk_862 : Cond.methodLink RX7 257 yX1_firstOfMost ∈ okl := List.mem_filter.mpr ⟨List.mem_of_getElem? (i := 862) (by decide +kernel), rfl⟩
theorem tk_867 : Cond.methodLink RX7 260 yX3_takeFrom ∈ okl := List.mem_filter.mpr ⟨List.mem_of_getElem? (i := 867) (by decide +kernel), rfl⟩
theorem tk_884 : Cond.methodLink RX7 266 yX7_isOfKind ∈ okl := List.mem_filter.mpr ⟨List.mem_of_getElem? (i := 884) (by decide +kernel), rfl⟩
theorem tk_889 : Cond.methodLink RX7 269 yX0_forget ∈ okl := List.mem_filter.mpr ⟨List.mem_of_getElem? (i := 889) (by decide +kernel), rfl⟩
theorem tk_893 : Cond.methodLink RX7 272 yX0_pose ∈ okl := List.mem_filter.mpr ⟨List.mem_of_getElem? (i := 893) (by decide +kernel), rfl⟩
theorem tk_920 : Cond.methodLink RX7 281 yX6_present ∈ okl := List.mem_filter.mpr ⟨List.mem_of_getElem? (i := 920) (by decide +kernel), rfl⟩
theorem tk_925 : Cond.methodLink RX7 287 yX3_glassesInAll ∈ okl := List.mem_filter.mpr ⟨List.mem_of_getElem? (i := 925) (by decide +kernel), rfl⟩
theorem tk_635 : Cond.methodLink RX7 294 yX2_forget ∈ okl := List.mem_filter.mpr ⟨List.mem_of_getElem? (i := 635) (by decide +kernel), rfl⟩
theorem tk_639 : Cond.methodLink RX7 295 yX4_forget ∈ okl := List.mem_filter.mpr ⟨List.mem_of_getElem? (i := 639) (by decide +kernel), rfl⟩
theorem tk_326 : Cond.methodLink RX0 3 (⟨"java/lang/Object", "<init>", "()V"⟩ : MethodName) ∈ okl := List.mem_filter.mpr ⟨List.mem_of_getElem? (i := 326) (by decide +kernel), rfl⟩
theorem tk_902 : Cond.methodLink RX0 33 Lib.Math.max.name ∈ okl := List.mem_filter.mpr ⟨List.mem_of_getElem? (i := 902) (by decide +kernel), rfl⟩
theorem tk_903 : Cond.methodLink RX0 39 yX0_begin ∈ okl := List.mem_filter.mpr ⟨List.mem_of_getElem? (i := 903) (by decide +kernel), rfl⟩
theorem tk_907 : Cond.methodLink RX0 43 yX0_leave ∈ okl := List.mem_filter.mpr ⟨List.mem_of_getElem? (i := 907) (by decide +kernel), rfl⟩
theorem tk_911 : Cond.methodLink RX0 50 yX0_pose ∈ okl := List.mem_filter.mpr ⟨List.mem_of_getElem? (i := 911) (by decide +kernel), rfl⟩
theorem tk_311 : Cond.methodLink RX1 3 (⟨"java/lang/Object", "<init>", "()V"⟩ : MethodName) ∈ okl := List.mem_filter.mpr ⟨List.mem_of_getElem? (i := 311) (by decide +kernel), rfl⟩
theorem tk_837 : Cond.methodLink RX1 19 yJ7_fill_53178 ∈ okl := List.mem_filter.mpr ⟨List.mem_of_getElem? (i := 837) (by decide +kernel), rfl⟩
theorem tk_838 : Cond.methodLink RX1 25 yX6_item ∈ okl := List.mem_filter.mpr ⟨List.mem_of_getElem? (i := 838) (by decide +kernel), rfl⟩
theorem tk_846 : Cond.methodLink RX1 31 yX1_firstOfMost ∈ okl := List.mem_filter.mpr ⟨List.mem_of_getElem? (i := 846) (by decide +kernel), rfl⟩
theorem tk_249 : Cond.methodLink RX2 3 (⟨"java/lang/Object", "<init>", "()V"⟩ : MethodName) ∈ okl := List.mem_filter.mpr ⟨List.mem_of_getElem? (i := 249) (by decide +kernel), rfl⟩
theorem tk_661 : Cond.methodLink RX2 22 arraycopyName ∈ okl := List.mem_filter.mpr ⟨List.mem_of_getElem? (i := 661) (by decide +kernel), rfl⟩
theorem tk_161 : Cond.methodLink RX3 3 (⟨"java/lang/Object", "<init>", "()V"⟩ : MethodName) ∈ okl := List.mem_filter.mpr ⟨List.mem_of_getElem? (i := 161) (by decide +kernel), rfl⟩
theorem tk_455 : Cond.methodLink RX3 63 yJ7_fill_53178 ∈ okl := List.mem_filter.mpr ⟨List.mem_of_getElem? (i := 455) (by decide +kernel), rfl⟩
theorem tk_871 : Cond.methodLink RX3 75 arraycopyName ∈ okl := List.mem_filter.mpr ⟨List.mem_of_getElem? (i := 871) (by decide +kernel), rfl⟩
theorem tk_567 : Cond.methodLink RX3 81 yX3_minutesBetween ∈ okl := List.mem_filter.mpr ⟨List.mem_of_getElem? (i := 567) (by decide +kernel), rfl⟩
theorem tk_571 : Cond.methodLink RX3 85 Lib.Math.min.name ∈ okl := List.mem_filter.mpr ⟨List.mem_of_getElem? (i := 571) (by decide +kernel), rfl⟩
theorem tk_599 : Cond.methodLinkNest RX3 90 yX7_isOfKind "HomeDrives" ∈ okl := List.mem_filter.mpr ⟨List.mem_of_getElem? (i := 599) (by decide +kernel), rfl⟩
theorem tk_705 : Cond.methodLink RX3 95 Lib.Math.max.name ∈ okl := List.mem_filter.mpr ⟨List.mem_of_getElem? (i := 705) (by decide +kernel), rfl⟩
theorem tk_712 : Cond.methodLinkNest RX3 98 yX7_hasBit "HomeDrives" ∈ okl := List.mem_filter.mpr ⟨List.mem_of_getElem? (i := 712) (by decide +kernel), rfl⟩
theorem tk_715 : Cond.methodLink RX3 101 yX3_drunkAfter ∈ okl := List.mem_filter.mpr ⟨List.mem_of_getElem? (i := 715) (by decide +kernel), rfl⟩
theorem tk_740 : Cond.methodLink RX3 104 yX3_areJoined ∈ okl := List.mem_filter.mpr ⟨List.mem_of_getElem? (i := 740) (by decide +kernel), rfl⟩
theorem tk_735 : Cond.methodLink RX3 107 yX3_mayDrive ∈ okl := List.mem_filter.mpr ⟨List.mem_of_getElem? (i := 735) (by decide +kernel), rfl⟩
theorem tk_736 : Cond.methodLink RX3 111 yX3_reaches ∈ okl := List.mem_filter.mpr ⟨List.mem_of_getElem? (i := 736) (by decide +kernel), rfl⟩
theorem tk_783 : Cond.methodLink RX3 114 yJ6_bitCount_0f7a4 ∈ okl := List.mem_filter.mpr ⟨List.mem_of_getElem? (i := 783) (by decide +kernel), rfl⟩
theorem tk_812 : Cond.methodLink RX3 120 yX3_peopleWhoDriveOnSunday ∈ okl := List.mem_filter.mpr ⟨List.mem_of_getElem? (i := 812) (by decide +kernel), rfl⟩
theorem tk_824 : Cond.methodLink RX3 124 yX3_farFromAll ∈ okl := List.mem_filter.mpr ⟨List.mem_of_getElem? (i := 824) (by decide +kernel), rfl⟩
theorem tk_266 : Cond.methodLink RX4 3 (⟨"java/lang/Object", "<init>", "()V"⟩ : MethodName) ∈ okl := List.mem_filter.mpr ⟨List.mem_of_getElem? (i := 266) (by decide +kernel), rfl⟩
theorem tk_643 : Cond.methodLink RX4 40 yJ7_fill_53178 ∈ okl := List.mem_filter.mpr ⟨List.mem_of_getElem? (i := 643) (by decide +kernel), rfl⟩
theorem tk_749 : Cond.methodLinkNest RX4 52 yX7_hasBit "HomeDrives" ∈ okl := List.mem_filter.mpr ⟨List.mem_of_getElem? (i := 749) (by decide +kernel), rfl⟩
theorem tk_750 : Cond.methodLink RX4 61 yX4_seat ∈ okl := List.mem_filter.mpr ⟨List.mem_of_getElem? (i := 750) (by decide +kernel), rfl⟩
theorem tk_754 : Cond.methodLink RX4 65 yJ6_bitCount_0f7a4 ∈ okl := List.mem_filter.mpr ⟨List.mem_of_getElem? (i := 754) (by decide +kernel), rfl⟩
theorem tk_760 : Cond.methodLink RX4 74 yX4_keepIfBetter ∈ okl := List.mem_filter.mpr ⟨List.mem_of_getElem? (i := 760) (by decide +kernel), rfl⟩
theorem tk_779 : Cond.methodLink RX4 81 yX3_hasRoomFor ∈ okl := List.mem_filter.mpr ⟨List.mem_of_getElem? (i := 779) (by decide +kernel), rfl⟩
theorem tk_764 : Cond.methodLink RX4 85 yX4_minutesOf ∈ okl := List.mem_filter.mpr ⟨List.mem_of_getElem? (i := 764) (by decide +kernel), rfl⟩
theorem tk_778 : Cond.methodLink RX4 89 arraycopyName ∈ okl := List.mem_filter.mpr ⟨List.mem_of_getElem? (i := 778) (by decide +kernel), rfl⟩
theorem tk_769 : Cond.methodLink RX4 99 yX3_siteOfOwner ∈ okl := List.mem_filter.mpr ⟨List.mem_of_getElem? (i := 769) (by decide +kernel), rfl⟩
theorem tk_773 : Cond.methodLink RX4 102 yX4_walk ∈ okl := List.mem_filter.mpr ⟨List.mem_of_getElem? (i := 773) (by decide +kernel), rfl⟩
theorem tk_777 : Cond.methodLink RX4 107 yX3_minutesBetween ∈ okl := List.mem_filter.mpr ⟨List.mem_of_getElem? (i := 777) (by decide +kernel), rfl⟩
theorem tk_122 : Cond.methodLink RX5 3 (⟨"java/lang/Object", "<init>", "()V"⟩ : MethodName) ∈ okl := List.mem_filter.mpr ⟨List.mem_of_getElem? (i := 122) (by decide +kernel), rfl⟩
theorem tk_450 : Cond.methodLink RX5 32 yX3_clear ∈ okl := List.mem_filter.mpr ⟨List.mem_of_getElem? (i := 450) (by decide +kernel), rfl⟩
theorem tk_456 : Cond.methodLink RX5 37 yX5_readLaw ∈ okl := List.mem_filter.mpr ⟨List.mem_of_getElem? (i := 456) (by decide +kernel), rfl⟩
theorem tk_460 : Cond.methodLink RX5 41 yX5_readToken ∈ okl := List.mem_filter.mpr ⟨List.mem_of_getElem? (i := 460) (by decide +kernel), rfl⟩
theorem tk_546 : Cond.methodLink RX5 47 yX5_readStatement ∈ okl := List.mem_filter.mpr ⟨List.mem_of_getElem? (i := 546) (by decide +kernel), rfl⟩
theorem tk_626 : Cond.methodLink RX5 50 yX3_finish ∈ okl := List.mem_filter.mpr ⟨List.mem_of_getElem? (i := 626) (by decide +kernel), rfl⟩
theorem tk_482 : Cond.methodLink RX5 55 yX5_isWord ∈ okl := List.mem_filter.mpr ⟨List.mem_of_getElem? (i := 482) (by decide +kernel), rfl⟩
theorem tk_534 : Cond.methodLink RX5 59 yX5_fail ∈ okl := List.mem_filter.mpr ⟨List.mem_of_getElem? (i := 534) (by decide +kernel), rfl⟩
theorem tk_538 : Cond.methodLink RX5 63 yX5_readNumber ∈ okl := List.mem_filter.mpr ⟨List.mem_of_getElem? (i := 538) (by decide +kernel), rfl⟩
theorem tk_542 : Cond.methodLink RX5 76 yX5_readSign ∈ okl := List.mem_filter.mpr ⟨List.mem_of_getElem? (i := 542) (by decide +kernel), rfl⟩
theorem tk_550 : Cond.methodLink RX5 80 yX5_statementWord ∈ okl := List.mem_filter.mpr ⟨List.mem_of_getElem? (i := 550) (by decide +kernel), rfl⟩
theorem tk_559 : Cond.methodLink RX5 84 yX5_readWay ∈ okl := List.mem_filter.mpr ⟨List.mem_of_getElem? (i := 559) (by decide +kernel), rfl⟩
theorem tk_574 : Cond.methodLink RX5 87 yX5_readHill ∈ okl := List.mem_filter.mpr ⟨List.mem_of_getElem? (i := 574) (by decide +kernel), rfl⟩
theorem tk_582 : Cond.methodLink RX5 90 yX5_readPerson ∈ okl := List.mem_filter.mpr ⟨List.mem_of_getElem? (i := 582) (by decide +kernel), rfl⟩
theorem tk_604 : Cond.methodLink RX5 93 yX5_readCar ∈ okl := List.mem_filter.mpr ⟨List.mem_of_getElem? (i := 604) (by decide +kernel), rfl⟩
theorem tk_618 : Cond.methodLink RX5 96 yX5_readQuarrel ∈ okl := List.mem_filter.mpr ⟨List.mem_of_getElem? (i := 618) (by decide +kernel), rfl⟩
theorem tk_563 : Cond.methodLink RX5 112 yX3_addWay ∈ okl := List.mem_filter.mpr ⟨List.mem_of_getElem? (i := 563) (by decide +kernel), rfl⟩
theorem tk_578 : Cond.methodLink RX5 119 yX3_addHill ∈ okl := List.mem_filter.mpr ⟨List.mem_of_getElem? (i := 578) (by decide +kernel), rfl⟩
theorem tk_586 : Cond.methodLink RX5 126 yX5_kindWord ∈ okl := List.mem_filter.mpr ⟨List.mem_of_getElem? (i := 586) (by decide +kernel), rfl⟩
theorem tk_595 : Cond.methodLink RX5 129 yX3_addPerson ∈ okl := List.mem_filter.mpr ⟨List.mem_of_getElem? (i := 595) (by decide +kernel), rfl⟩
theorem tk_608 : Cond.methodLink RX5 145 yX3_carOf ∈ okl := List.mem_filter.mpr ⟨List.mem_of_getElem? (i := 608) (by decide +kernel), rfl⟩
theorem tk_614 : Cond.methodLink RX5 150 yX3_addCar ∈ okl := List.mem_filter.mpr ⟨List.mem_of_getElem? (i := 614) (by decide +kernel), rfl⟩
theorem tk_622 : Cond.methodLink RX5 156 yX3_addQuarrel ∈ okl := List.mem_filter.mpr ⟨List.mem_of_getElem? (i := 622) (by decide +kernel), rfl⟩
theorem tk_464 : Cond.methodLink RX5 163 yX5_isGap ∈ okl := List.mem_filter.mpr ⟨List.mem_of_getElem? (i := 464) (by decide +kernel), rfl⟩
theorem tk_467 : Cond.methodLink RX5 167 yX5_isLetter ∈ okl := List.mem_filter.mpr ⟨List.mem_of_getElem? (i := 467) (by decide +kernel), rfl⟩
theorem tk_470 : Cond.methodLink RX5 170 yX5_readLetters ∈ okl := List.mem_filter.mpr ⟨List.mem_of_getElem? (i := 470) (by decide +kernel), rfl⟩
theorem tk_474 : Cond.methodLink RX5 173 yX5_isFigure ∈ okl := List.mem_filter.mpr ⟨List.mem_of_getElem? (i := 474) (by decide +kernel), rfl⟩
theorem tk_477 : Cond.methodLink RX5 176 yX5_readFigures ∈ okl := List.mem_filter.mpr ⟨List.mem_of_getElem? (i := 477) (by decide +kernel), rfl⟩
theorem tk_486 : Cond.methodLink RX5 179 yJ0_length_8abf5 ∈ okl := List.mem_filter.mpr ⟨List.mem_of_getElem? (i := 486) (by decide +kernel), rfl⟩
theorem tk_496 : Cond.methodLink RX5 183 yJ0_charAt_5068e ∈ okl := List.mem_filter.mpr ⟨List.mem_of_getElem? (i := 496) (by decide +kernel), rfl⟩
theorem tk_103 : Cond.methodLink RX6 3 (⟨"java/lang/Object", "<init>", "()V"⟩ : MethodName) ∈ okl := List.mem_filter.mpr ⟨List.mem_of_getElem? (i := 103) (by decide +kernel), rfl⟩
theorem tk_384 : Cond.methodLink RX6 23 yJ7_fill_53178 ∈ okl := List.mem_filter.mpr ⟨List.mem_of_getElem? (i := 384) (by decide +kernel), rfl⟩
theorem tk_407 : Cond.methodLink RX6 29 yX6_inLane ∈ okl := List.mem_filter.mpr ⟨List.mem_of_getElem? (i := 407) (by decide +kernel), rfl⟩
theorem tk_422 : Cond.methodLink RX6 33 arraycopyName ∈ okl := List.mem_filter.mpr ⟨List.mem_of_getElem? (i := 422) (by decide +kernel), rfl⟩
theorem tk_924 : Cond.methodLink RX6 39 yX6_isMissing ∈ okl := List.mem_filter.mpr ⟨List.mem_of_getElem? (i := 924) (by decide +kernel), rfl⟩
theorem tk_92 : Cond.methodLink RL 9 yX7_init ∈ okl := List.mem_filter.mpr ⟨List.mem_of_getElem? (i := 92) (by decide +kernel), rfl⟩
theorem tk_935 : Cond.methodLink RL 12 yX8_init ∈ okl := List.mem_filter.mpr ⟨List.mem_of_getElem? (i := 935) (by decide +kernel), rfl⟩
theorem tk_367 : Cond.methodLink RL 13 yX7_row ∈ okl := List.mem_filter.mpr ⟨List.mem_of_getElem? (i := 367) (by decide +kernel), rfl⟩
theorem tk_1052 : Cond.methodLink RL 17 yX8_row ∈ okl := List.mem_filter.mpr ⟨List.mem_of_getElem? (i := 1052) (by decide +kernel), rfl⟩
theorem tk_391 : Cond.methodLink RL 18 yX7_set ∈ okl := List.mem_filter.mpr ⟨List.mem_of_getElem? (i := 391) (by decide +kernel), rfl⟩
theorem tk_1070 : Cond.methodLink RL 21 yX8_set ∈ okl := List.mem_filter.mpr ⟨List.mem_of_getElem? (i := 1070) (by decide +kernel), rfl⟩
theorem tk_410 : Cond.methodLink RL 22 yX7_copy ∈ okl := List.mem_filter.mpr ⟨List.mem_of_getElem? (i := 410) (by decide +kernel), rfl⟩
theorem tk_1074 : Cond.methodLink RL 26 yX8_copy ∈ okl := List.mem_filter.mpr ⟨List.mem_of_getElem? (i := 1074) (by decide +kernel), rfl⟩
theorem tk_425 : Cond.methodLink RL 27 yX7_drop ∈ okl := List.mem_filter.mpr ⟨List.mem_of_getElem? (i := 425) (by decide +kernel), rfl⟩
theorem tk_1078 : Cond.methodLink RL 31 yX8_drop ∈ okl := List.mem_filter.mpr ⟨List.mem_of_getElem? (i := 1078) (by decide +kernel), rfl⟩
theorem tk_433 : Cond.methodLink RL 34 yX7_feed ∈ okl := List.mem_filter.mpr ⟨List.mem_of_getElem? (i := 433) (by decide +kernel), rfl⟩
theorem tk_1082 : Cond.methodLink RL 38 yX8_feed ∈ okl := List.mem_filter.mpr ⟨List.mem_of_getElem? (i := 1082) (by decide +kernel), rfl⟩
theorem tk_442 : Cond.methodLink RL 39 yX7_evening ∈ okl := List.mem_filter.mpr ⟨List.mem_of_getElem? (i := 442) (by decide +kernel), rfl⟩
theorem tk_1089 : Cond.methodLink RL 43 yX8_evening ∈ okl := List.mem_filter.mpr ⟨List.mem_of_getElem? (i := 1089) (by decide +kernel), rfl⟩
theorem tk_644 : Cond.methodLink RL 44 yX7_fault ∈ okl := List.mem_filter.mpr ⟨List.mem_of_getElem? (i := 644) (by decide +kernel), rfl⟩
theorem tk_1187 : Cond.methodLink RL 47 yX8_fault ∈ okl := List.mem_filter.mpr ⟨List.mem_of_getElem? (i := 1187) (by decide +kernel), rfl⟩
theorem tk_648 : Cond.methodLink RL 48 yX7_drink ∈ okl := List.mem_filter.mpr ⟨List.mem_of_getElem? (i := 648) (by decide +kernel), rfl⟩
theorem tk_1191 : Cond.methodLink RL 52 yX8_drink ∈ okl := List.mem_filter.mpr ⟨List.mem_of_getElem? (i := 1191) (by decide +kernel), rfl⟩
theorem tk_662 : Cond.methodLink RL 53 yX7_undo ∈ okl := List.mem_filter.mpr ⟨List.mem_of_getElem? (i := 662) (by decide +kernel), rfl⟩
theorem tk_1204 : Cond.methodLink RL 56 yX8_undo ∈ okl := List.mem_filter.mpr ⟨List.mem_of_getElem? (i := 1204) (by decide +kernel), rfl⟩
theorem tk_671 : Cond.methodLink RL 57 yX7_person ∈ okl := List.mem_filter.mpr ⟨List.mem_of_getElem? (i := 671) (by decide +kernel), rfl⟩
theorem tk_1209 : Cond.methodLink RL 60 yX8_person ∈ okl := List.mem_filter.mpr ⟨List.mem_of_getElem? (i := 1209) (by decide +kernel), rfl⟩
theorem tk_676 : Cond.methodLink RL 61 yX7_car ∈ okl := List.mem_filter.mpr ⟨List.mem_of_getElem? (i := 676) (by decide +kernel), rfl⟩
theorem tk_1222 : Cond.methodLink RL 64 yX8_car ∈ okl := List.mem_filter.mpr ⟨List.mem_of_getElem? (i := 1222) (by decide +kernel), rfl⟩
theorem tk_684 : Cond.methodLink RL 65 yX7_far ∈ okl := List.mem_filter.mpr ⟨List.mem_of_getElem? (i := 684) (by decide +kernel), rfl⟩
theorem tk_1230 : Cond.methodLink RL 68 yX8_far ∈ okl := List.mem_filter.mpr ⟨List.mem_of_getElem? (i := 1230) (by decide +kernel), rfl⟩
theorem tk_694 : Cond.methodLink RL 69 yX7_may ∈ okl := List.mem_filter.mpr ⟨List.mem_of_getElem? (i := 694) (by decide +kernel), rfl⟩
theorem tk_1238 : Cond.methodLink RL 72 yX8_may ∈ okl := List.mem_filter.mpr ⟨List.mem_of_getElem? (i := 1238) (by decide +kernel), rfl⟩
theorem tk_716 : Cond.methodLink RL 73 yX7_soon ∈ okl := List.mem_filter.mpr ⟨List.mem_of_getElem? (i := 716) (by decide +kernel), rfl⟩
theorem tk_1254 : Cond.methodLink RL 76 yX8_soon ∈ okl := List.mem_filter.mpr ⟨List.mem_of_getElem? (i := 1254) (by decide +kernel), rfl⟩
theorem tk_720 : Cond.methodLink RL 77 yX7_odds ∈ okl := List.mem_filter.mpr ⟨List.mem_of_getElem? (i := 720) (by decide +kernel), rfl⟩
theorem tk_1258 : Cond.methodLink RL 81 yX8_odds ∈ okl := List.mem_filter.mpr ⟨List.mem_of_getElem? (i := 1258) (by decide +kernel), rfl⟩
theorem tk_727 : Cond.methodLink RL 82 yX7_goes ∈ okl := List.mem_filter.mpr ⟨List.mem_of_getElem? (i := 727) (by decide +kernel), rfl⟩
theorem tk_1265 : Cond.methodLink RL 85 yX8_goes ∈ okl := List.mem_filter.mpr ⟨List.mem_of_getElem? (i := 1265) (by decide +kernel), rfl⟩
theorem tk_741 : Cond.methodLink RL 86 yX7_home ∈ okl := List.mem_filter.mpr ⟨List.mem_of_getElem? (i := 741) (by decide +kernel), rfl⟩
theorem tk_1281 : Cond.methodLink RL 89 yX8_home ∈ okl := List.mem_filter.mpr ⟨List.mem_of_getElem? (i := 1281) (by decide +kernel), rfl⟩
theorem tk_789 : Cond.methodLink RL 90 yX7_order ∈ okl := List.mem_filter.mpr ⟨List.mem_of_getElem? (i := 789) (by decide +kernel), rfl⟩
theorem tk_1324 : Cond.methodLink RL 93 yX8_order ∈ okl := List.mem_filter.mpr ⟨List.mem_of_getElem? (i := 1324) (by decide +kernel), rfl⟩
theorem tk_800 : Cond.methodLink RL 94 yX7_detour ∈ okl := List.mem_filter.mpr ⟨List.mem_of_getElem? (i := 800) (by decide +kernel), rfl⟩
theorem tk_1328 : Cond.methodLink RL 97 yX8_detour ∈ okl := List.mem_filter.mpr ⟨List.mem_of_getElem? (i := 1328) (by decide +kernel), rfl⟩
theorem tk_804 : Cond.methodLink RL 98 yX7_fetch ∈ okl := List.mem_filter.mpr ⟨List.mem_of_getElem? (i := 804) (by decide +kernel), rfl⟩
theorem tk_1332 : Cond.methodLink RL 101 yX8_fetch ∈ okl := List.mem_filter.mpr ⟨List.mem_of_getElem? (i := 1332) (by decide +kernel), rfl⟩
theorem tk_816 : Cond.methodLink RL 102 yX7_house ∈ okl := List.mem_filter.mpr ⟨List.mem_of_getElem? (i := 816) (by decide +kernel), rfl⟩
theorem tk_1336 : Cond.methodLink RL 105 yX8_house ∈ okl := List.mem_filter.mpr ⟨List.mem_of_getElem? (i := 1336) (by decide +kernel), rfl⟩
theorem tk_829 : Cond.methodLink RL 106 yX7_turn ∈ okl := List.mem_filter.mpr ⟨List.mem_of_getElem? (i := 829) (by decide +kernel), rfl⟩
theorem tk_1344 : Cond.methodLink RL 109 yX8_turn ∈ okl := List.mem_filter.mpr ⟨List.mem_of_getElem? (i := 1344) (by decide +kernel), rfl⟩
theorem tk_854 : Cond.methodLink RL 110 yX7_gloves ∈ okl := List.mem_filter.mpr ⟨List.mem_of_getElem? (i := 854) (by decide +kernel), rfl⟩
theorem tk_1357 : Cond.methodLink RL 113 yX8_gloves ∈ okl := List.mem_filter.mpr ⟨List.mem_of_getElem? (i := 1357) (by decide +kernel), rfl⟩
theorem tk_863 : Cond.methodLink RL 114 yX7_image ∈ okl := List.mem_filter.mpr ⟨List.mem_of_getElem? (i := 863) (by decide +kernel), rfl⟩
theorem tk_1361 : Cond.methodLink RL 117 yX8_image ∈ okl := List.mem_filter.mpr ⟨List.mem_of_getElem? (i := 1361) (by decide +kernel), rfl⟩
theorem tk_872 : Cond.methodLink RL 118 yX7_restore ∈ okl := List.mem_filter.mpr ⟨List.mem_of_getElem? (i := 872) (by decide +kernel), rfl⟩
theorem tk_1365 : Cond.methodLink RL 121 yX8_restore ∈ okl := List.mem_filter.mpr ⟨List.mem_of_getElem? (i := 1365) (by decide +kernel), rfl⟩
theorem tk_876 : Cond.methodLink RL 122 yX7_kind ∈ okl := List.mem_filter.mpr ⟨List.mem_of_getElem? (i := 876) (by decide +kernel), rfl⟩
theorem tk_1369 : Cond.methodLink RL 125 yX8_kind ∈ okl := List.mem_filter.mpr ⟨List.mem_of_getElem? (i := 1369) (by decide +kernel), rfl⟩
theorem tk_880 : Cond.methodLink RL 126 yX7_as ∈ okl := List.mem_filter.mpr ⟨List.mem_of_getElem? (i := 880) (by decide +kernel), rfl⟩
theorem tk_1373 : Cond.methodLink RL 129 yX8_as ∈ okl := List.mem_filter.mpr ⟨List.mem_of_getElem? (i := 1373) (by decide +kernel), rfl⟩
theorem tk_885 : Cond.methodLink RL 130 yX7_ask ∈ okl := List.mem_filter.mpr ⟨List.mem_of_getElem? (i := 885) (by decide +kernel), rfl⟩
theorem tk_1381 : Cond.methodLink RL 133 yX8_ask ∈ okl := List.mem_filter.mpr ⟨List.mem_of_getElem? (i := 1381) (by decide +kernel), rfl⟩
theorem tk_912 : Cond.methodLink RL 134 yX7_trace ∈ okl := List.mem_filter.mpr ⟨List.mem_of_getElem? (i := 912) (by decide +kernel), rfl⟩
theorem tk_1405 : Cond.methodLink RL 137 yX8_trace ∈ okl := List.mem_filter.mpr ⟨List.mem_of_getElem? (i := 1405) (by decide +kernel), rfl⟩
theorem tk_916 : Cond.methodLink RL 138 yX7_count ∈ okl := List.mem_filter.mpr ⟨List.mem_of_getElem? (i := 916) (by decide +kernel), rfl⟩
theorem tk_1409 : Cond.methodLink RL 141 yX8_count ∈ okl := List.mem_filter.mpr ⟨List.mem_of_getElem? (i := 1409) (by decide +kernel), rfl⟩
theorem tk_929 : Cond.methodLink RL 142 yX7_status ∈ okl := List.mem_filter.mpr ⟨List.mem_of_getElem? (i := 929) (by decide +kernel), rfl⟩
theorem tk_1413 : Cond.methodLink RL 145 yX8_status ∈ okl := List.mem_filter.mpr ⟨List.mem_of_getElem? (i := 1413) (by decide +kernel), rfl⟩
theorem tk_938 : Cond.methodLink RX8 1 (⟨"java/lang/Object", "<init>", "()V"⟩ : MethodName) ∈ okl := List.mem_filter.mpr ⟨List.mem_of_getElem? (i := 938) (by decide +kernel), rfl⟩
theorem tk_1060 : Cond.methodLink RX8 78 yX8_in ∈ okl := List.mem_filter.mpr ⟨List.mem_of_getElem? (i := 1060) (by decide +kernel), rfl⟩
theorem tk_1056 : Cond.methodLink RX8 82 yX8_isRow ∈ okl := List.mem_filter.mpr ⟨List.mem_of_getElem? (i := 1056) (by decide +kernel), rfl⟩
theorem tk_1065 : Cond.methodLink RX8 89 yX8_finding ∈ okl := List.mem_filter.mpr ⟨List.mem_of_getElem? (i := 1065) (by decide +kernel), rfl⟩
theorem tk_1101 : Cond.methodLink RX8 108 yX8_byteAt ∈ okl := List.mem_filter.mpr ⟨List.mem_of_getElem? (i := 1101) (by decide +kernel), rfl⟩
theorem tk_1106 : Cond.methodLink RX8 117 yX8_isLetter ∈ okl := List.mem_filter.mpr ⟨List.mem_of_getElem? (i := 1106) (by decide +kernel), rfl⟩
theorem tk_1109 : Cond.methodLink RX8 120 yX8_isFigure ∈ okl := List.mem_filter.mpr ⟨List.mem_of_getElem? (i := 1109) (by decide +kernel), rfl⟩
theorem tk_1097 : Cond.methodLink RX8 129 yX8_next ∈ okl := List.mem_filter.mpr ⟨List.mem_of_getElem? (i := 1097) (by decide +kernel), rfl⟩
theorem tk_1121 : Cond.methodLink RX8 135 yX8_bad ∈ okl := List.mem_filter.mpr ⟨List.mem_of_getElem? (i := 1121) (by decide +kernel), rfl⟩
theorem tk_1129 : Cond.methodLink RX8 139 yX8_figures ∈ okl := List.mem_filter.mpr ⟨List.mem_of_getElem? (i := 1129) (by decide +kernel), rfl⟩
theorem tk_1117 : Cond.methodLink RX8 143 yX8_must ∈ okl := List.mem_filter.mpr ⟨List.mem_of_getElem? (i := 1117) (by decide +kernel), rfl⟩
theorem tk_1125 : Cond.methodLink RX8 157 yX8_number ∈ okl := List.mem_filter.mpr ⟨List.mem_of_getElem? (i := 1125) (by decide +kernel), rfl⟩
theorem tk_1142 : Cond.methodLink RX8 161 yX8_begins ∈ okl := List.mem_filter.mpr ⟨List.mem_of_getElem? (i := 1142) (by decide +kernel), rfl⟩
theorem tk_1146 : Cond.methodLink RX8 165 yX8_unlike ∈ okl := List.mem_filter.mpr ⟨List.mem_of_getElem? (i := 1146) (by decide +kernel), rfl⟩
theorem tk_1133 : Cond.methodLink RX8 169 yX8_mustEnd ∈ okl := List.mem_filter.mpr ⟨List.mem_of_getElem? (i := 1133) (by decide +kernel), rfl⟩
theorem tk_1112 : Cond.methodLink RX8 172 yX8_name ∈ okl := List.mem_filter.mpr ⟨List.mem_of_getElem? (i := 1112) (by decide +kernel), rfl⟩
theorem tk_1160 : Cond.methodLink RX8 176 yX8_kindBy ∈ okl := List.mem_filter.mpr ⟨List.mem_of_getElem? (i := 1160) (by decide +kernel), rfl⟩
theorem tk_1173 : Cond.methodLink RX8 180 yX8_isOwner ∈ okl := List.mem_filter.mpr ⟨List.mem_of_getElem? (i := 1173) (by decide +kernel), rfl⟩
theorem tk_1093 : Cond.methodLink RX8 183 yX8_begin ∈ okl := List.mem_filter.mpr ⟨List.mem_of_getElem? (i := 1093) (by decide +kernel), rfl⟩
theorem tk_1138 : Cond.methodLink RX8 190 yX8_readWay ∈ okl := List.mem_filter.mpr ⟨List.mem_of_getElem? (i := 1138) (by decide +kernel), rfl⟩
theorem tk_1151 : Cond.methodLink RX8 195 yX8_readHill ∈ okl := List.mem_filter.mpr ⟨List.mem_of_getElem? (i := 1151) (by decide +kernel), rfl⟩
theorem tk_1156 : Cond.methodLink RX8 200 yX8_readPerson ∈ okl := List.mem_filter.mpr ⟨List.mem_of_getElem? (i := 1156) (by decide +kernel), rfl⟩
theorem tk_1169 : Cond.methodLink RX8 205 yX8_readCar ∈ okl := List.mem_filter.mpr ⟨List.mem_of_getElem? (i := 1169) (by decide +kernel), rfl⟩
theorem tk_1178 : Cond.methodLink RX8 210 yX8_readQuarrel ∈ okl := List.mem_filter.mpr ⟨List.mem_of_getElem? (i := 1178) (by decide +kernel), rfl⟩
theorem tk_1183 : Cond.methodLink RX8 224 yX8_layFar ∈ okl := List.mem_filter.mpr ⟨List.mem_of_getElem? (i := 1183) (by decide +kernel), rfl⟩
theorem tk_1218 : Cond.methodLink RX8 229 yX8_car0 ∈ okl := List.mem_filter.mpr ⟨List.mem_of_getElem? (i := 1218) (by decide +kernel), rfl⟩
theorem tk_1195 : Cond.methodLink RX8 232 yX8_isPerson ∈ okl := List.mem_filter.mpr ⟨List.mem_of_getElem? (i := 1195) (by decide +kernel), rfl⟩
theorem tk_1200 : Cond.methodLink RX8 237 yX8_of ∈ okl := List.mem_filter.mpr ⟨List.mem_of_getElem? (i := 1200) (by decide +kernel), rfl⟩
theorem tk_1214 : Cond.methodLink RX8 243 yX8_carOf ∈ okl := List.mem_filter.mpr ⟨List.mem_of_getElem? (i := 1214) (by decide +kernel), rfl⟩
theorem tk_1226 : Cond.methodLink RX8 246 yX8_isCar ∈ okl := List.mem_filter.mpr ⟨List.mem_of_getElem? (i := 1226) (by decide +kernel), rfl⟩
theorem tk_1234 : Cond.methodLink RX8 249 yX8_farOf ∈ okl := List.mem_filter.mpr ⟨List.mem_of_getElem? (i := 1234) (by decide +kernel), rfl⟩
theorem tk_1246 : Cond.methodLink RX8 252 yX8_drunk ∈ okl := List.mem_filter.mpr ⟨List.mem_of_getElem? (i := 1246) (by decide +kernel), rfl⟩
theorem tk_1242 : Cond.methodLink RX8 255 yX8_isMinute ∈ okl := List.mem_filter.mpr ⟨List.mem_of_getElem? (i := 1242) (by decide +kernel), rfl⟩
theorem tk_1250 : Cond.methodLink RX8 258 yX8_mayDrive ∈ okl := List.mem_filter.mpr ⟨List.mem_of_getElem? (i := 1250) (by decide +kernel), rfl⟩
theorem tk_1262 : Cond.methodLink RX8 262 yX8_divisor ∈ okl := List.mem_filter.mpr ⟨List.mem_of_getElem? (i := 1262) (by decide +kernel), rfl⟩
theorem tk_1277 : Cond.methodLink RX8 265 yX8_isOnHill ∈ okl := List.mem_filter.mpr ⟨List.mem_of_getElem? (i := 1277) (by decide +kernel), rfl⟩
theorem tk_1273 : Cond.methodLink RX8 268 yX8_doesGo ∈ okl := List.mem_filter.mpr ⟨List.mem_of_getElem? (i := 1273) (by decide +kernel), rfl⟩
theorem tk_1269 : Cond.methodLink RX8 272 yX8_goingAt ∈ okl := List.mem_filter.mpr ⟨List.mem_of_getElem? (i := 1269) (by decide +kernel), rfl⟩
theorem tk_1301 : Cond.methodLink RX8 275 yX8_bits ∈ okl := List.mem_filter.mpr ⟨List.mem_of_getElem? (i := 1301) (by decide +kernel), rfl⟩
theorem tk_1308 : Cond.methodLink RX8 278 yX8_layTried ∈ okl := List.mem_filter.mpr ⟨List.mem_of_getElem? (i := 1308) (by decide +kernel), rfl⟩
theorem tk_1312 : Cond.methodLink RX8 281 yX8_minutesBy ∈ okl := List.mem_filter.mpr ⟨List.mem_of_getElem? (i := 1312) (by decide +kernel), rfl⟩
theorem tk_1297 : Cond.methodLink RX8 290 yX8_fits ∈ okl := List.mem_filter.mpr ⟨List.mem_of_getElem? (i := 1297) (by decide +kernel), rfl⟩
theorem tk_1304 : Cond.methodLink RX8 293 yX8_leastOf ∈ okl := List.mem_filter.mpr ⟨List.mem_of_getElem? (i := 1304) (by decide +kernel), rfl⟩
theorem tk_1289 : Cond.methodLink RX8 296 yX8_layRiders ∈ okl := List.mem_filter.mpr ⟨List.mem_of_getElem? (i := 1289) (by decide +kernel), rfl⟩
theorem tk_1293 : Cond.methodLink RX8 299 yX8_layTakes ∈ okl := List.mem_filter.mpr ⟨List.mem_of_getElem? (i := 1293) (by decide +kernel), rfl⟩
theorem tk_1316 : Cond.methodLink RX8 305 yX8_layRow ∈ okl := List.mem_filter.mpr ⟨List.mem_of_getElem? (i := 1316) (by decide +kernel), rfl⟩
theorem tk_1320 : Cond.methodLink RX8 308 yX8_sumOf ∈ okl := List.mem_filter.mpr ⟨List.mem_of_getElem? (i := 1320) (by decide +kernel), rfl⟩
theorem tk_1285 : Cond.methodLink RX8 314 yX8_layHome ∈ okl := List.mem_filter.mpr ⟨List.mem_of_getElem? (i := 1285) (by decide +kernel), rfl⟩
theorem tk_1340 : Cond.methodLink RX8 317 yX8_allFar ∈ okl := List.mem_filter.mpr ⟨List.mem_of_getElem? (i := 1340) (by decide +kernel), rfl⟩
theorem tk_1349 : Cond.methodLink RX8 322 yX8_lack ∈ okl := List.mem_filter.mpr ⟨List.mem_of_getElem? (i := 1349) (by decide +kernel), rfl⟩
theorem tk_1353 : Cond.methodLink RX8 325 yX8_noTimes ∈ okl := List.mem_filter.mpr ⟨List.mem_of_getElem? (i := 1353) (by decide +kernel), rfl⟩
theorem tk_1378 : Cond.methodLink RX8 330 yX8_isOf ∈ okl := List.mem_filter.mpr ⟨List.mem_of_getElem? (i := 1378) (by decide +kernel), rfl⟩
theorem tk_1393 : Cond.methodLink RX8 336 yX8_began ∈ okl := List.mem_filter.mpr ⟨List.mem_of_getElem? (i := 1393) (by decide +kernel), rfl⟩
theorem tk_1397 : Cond.methodLink RX8 339 yX8_plainSize ∈ okl := List.mem_filter.mpr ⟨List.mem_of_getElem? (i := 1397) (by decide +kernel), rfl⟩
theorem tk_1389 : Cond.methodLink RX8 342 yX8_sickSize ∈ okl := List.mem_filter.mpr ⟨List.mem_of_getElem? (i := 1389) (by decide +kernel), rfl⟩
theorem tk_1401 : Cond.methodLink RX8 345 yX8_markOf ∈ okl := List.mem_filter.mpr ⟨List.mem_of_getElem? (i := 1401) (by decide +kernel), rfl⟩
theorem tk_1385 : Cond.methodLink RX8 348 yX8_sizeOf ∈ okl := List.mem_filter.mpr ⟨List.mem_of_getElem? (i := 1385) (by decide +kernel), rfl⟩
theorem tk_490 : Cond.methodLink RJ0 335 yJ0_coder_7d493 ∈ okl := List.mem_filter.mpr ⟨List.mem_of_getElem? (i := 490) (by decide +kernel), rfl⟩
theorem tk_500 : Cond.methodLink RJ0 492 yJ0_isLatin1_aae02 ∈ okl := List.mem_filter.mpr ⟨List.mem_of_getElem? (i := 500) (by decide +kernel), rfl⟩
theorem tk_504 : Cond.methodLink RJ0 495 yJ1_charAt_3b067 ∈ okl := List.mem_filter.mpr ⟨List.mem_of_getElem? (i := 504) (by decide +kernel), rfl⟩
theorem tk_515 : Cond.methodLink RJ0 498 yJ2_charAt_3b067 ∈ okl := List.mem_filter.mpr ⟨List.mem_of_getElem? (i := 515) (by decide +kernel), rfl⟩
theorem tk_512 : Cond.methodLink RJ0 1059 yJ3_checkIndex_8e157 ∈ okl := List.mem_filter.mpr ⟨List.mem_of_getElem? (i := 512) (by decide +kernel), rfl⟩
theorem tk_507 : Cond.methodLink RJ1 9 yJ0_checkIndex_df160 ∈ okl := List.mem_filter.mpr ⟨List.mem_of_getElem? (i := 507) (by decide +kernel), rfl⟩
theorem tk_521 : Cond.methodLink RJ2 48 yJ2_length_9d52b ∈ okl := List.mem_filter.mpr ⟨List.mem_of_getElem? (i := 521) (by decide +kernel), rfl⟩
theorem tk_518 : Cond.methodLink RJ2 67 yJ2_checkIndex_2214a ∈ okl := List.mem_filter.mpr ⟨List.mem_of_getElem? (i := 518) (by decide +kernel), rfl⟩
theorem tk_525 : Cond.methodLink RJ2 71 yJ2_getChar_3b067 ∈ okl := List.mem_filter.mpr ⟨List.mem_of_getElem? (i := 525) (by decide +kernel), rfl⟩
theorem tk_524 : Cond.methodLink RJ2 414 yJ0_checkIndex_df160 ∈ okl := List.mem_filter.mpr ⟨List.mem_of_getElem? (i := 524) (by decide +kernel), rfl⟩
theorem tk_94 : Cond.code yX7_init cX7_init 1 none ∈ okl := List.mem_filter.mpr ⟨List.mem_of_getElem? (i := 94) (by decide +kernel), rfl⟩
theorem tk_102 : Cond.code yX6_init cX6_init 1 none ∈ okl := List.mem_filter.mpr ⟨List.mem_of_getElem? (i := 102) (by decide +kernel), rfl⟩
theorem tk_121 : Cond.code yX5_init cX5_init 1 none ∈ okl := List.mem_filter.mpr ⟨List.mem_of_getElem? (i := 121) (by decide +kernel), rfl⟩
theorem tk_160 : Cond.code yX3_init cX3_init 1 none ∈ okl := List.mem_filter.mpr ⟨List.mem_of_getElem? (i := 160) (by decide +kernel), rfl⟩
theorem tk_248 : Cond.code yX2_init cX2_init 1 none ∈ okl := List.mem_filter.mpr ⟨List.mem_of_getElem? (i := 248) (by decide +kernel), rfl⟩
theorem tk_265 : Cond.code yX4_init cX4_init 1 none ∈ okl := List.mem_filter.mpr ⟨List.mem_of_getElem? (i := 265) (by decide +kernel), rfl⟩
theorem tk_310 : Cond.code yX1_init cX1_init 1 none ∈ okl := List.mem_filter.mpr ⟨List.mem_of_getElem? (i := 310) (by decide +kernel), rfl⟩
theorem tk_325 : Cond.code yX0_init cX0_init 1 none ∈ okl := List.mem_filter.mpr ⟨List.mem_of_getElem? (i := 325) (by decide +kernel), rfl⟩
theorem tk_370 : Cond.code yX7_row cX7_row 4 (some .int) ∈ okl := List.mem_filter.mpr ⟨List.mem_of_getElem? (i := 370) (by decide +kernel), rfl⟩
theorem tk_368 : Cond.instanceMethod yX7_row ∈ okl := List.mem_filter.mpr ⟨List.mem_of_getElem? (i := 368) (by decide +kernel), rfl⟩
theorem tk_369 : Cond.selects RX7 yX7_row yX7_row ∈ okl := List.mem_filter.mpr ⟨List.mem_of_getElem? (i := 369) (by decide +kernel), rfl⟩
theorem tk_373 : Cond.code yX7_isRow cX7_isRow 1 (some .boolean) ∈ okl := List.mem_filter.mpr ⟨List.mem_of_getElem? (i := 373) (by decide +kernel), rfl⟩
theorem tk_372 : Cond.static yX7_isRow ∈ okl := List.mem_filter.mpr ⟨List.mem_of_getElem? (i := 372) (by decide +kernel), rfl⟩
theorem tk_378 : Cond.code yX7_found cX7_found 2 (some .int) ∈ okl := List.mem_filter.mpr ⟨List.mem_of_getElem? (i := 378) (by decide +kernel), rfl⟩
theorem tk_377 : Cond.instanceMethod yX7_found ∈ okl := List.mem_filter.mpr ⟨List.mem_of_getElem? (i := 377) (by decide +kernel), rfl⟩
theorem tk_0 : Cond.selects RX7 yX7_found yX7_found ∈ okl := List.mem_filter.mpr ⟨List.mem_of_getElem? (i := 0) (by decide +kernel), rfl⟩
theorem tk_383 : Cond.code yX6_make cX6_make 4 none ∈ okl := List.mem_filter.mpr ⟨List.mem_of_getElem? (i := 383) (by decide +kernel), rfl⟩
theorem tk_381 : Cond.instanceMethod yX6_make ∈ okl := List.mem_filter.mpr ⟨List.mem_of_getElem? (i := 381) (by decide +kernel), rfl⟩
theorem tk_382 : Cond.selects RX6 yX6_make yX6_make ∈ okl := List.mem_filter.mpr ⟨List.mem_of_getElem? (i := 382) (by decide +kernel), rfl⟩
theorem tk_386 : Cond.code yJ7_fill_53178 cJ7_fill_53178 4 none ∈ okl := List.mem_filter.mpr ⟨List.mem_of_getElem? (i := 386) (by decide +kernel), rfl⟩
theorem tk_385 : Cond.static yJ7_fill_53178 ∈ okl := List.mem_filter.mpr ⟨List.mem_of_getElem? (i := 385) (by decide +kernel), rfl⟩
theorem tk_390 : Cond.code yX7_fine cX7_fine 2 (some .int) ∈ okl := List.mem_filter.mpr ⟨List.mem_of_getElem? (i := 390) (by decide +kernel), rfl⟩
theorem tk_389 : Cond.instanceMethod yX7_fine ∈ okl := List.mem_filter.mpr ⟨List.mem_of_getElem? (i := 389) (by decide +kernel), rfl⟩
theorem tk_1 : Cond.selects RX7 yX7_fine yX7_fine ∈ okl := List.mem_filter.mpr ⟨List.mem_of_getElem? (i := 1) (by decide +kernel), rfl⟩
theorem tk_394 : Cond.code yX7_set cX7_set 4 (some .int) ∈ okl := List.mem_filter.mpr ⟨List.mem_of_getElem? (i := 394) (by decide +kernel), rfl⟩
theorem tk_392 : Cond.instanceMethod yX7_set ∈ okl := List.mem_filter.mpr ⟨List.mem_of_getElem? (i := 392) (by decide +kernel), rfl⟩
theorem tk_393 : Cond.selects RX7 yX7_set yX7_set ∈ okl := List.mem_filter.mpr ⟨List.mem_of_getElem? (i := 393) (by decide +kernel), rfl⟩
theorem tk_398 : Cond.code yX6_isMissing cX6_isMissing 2 (some .boolean) ∈ okl := List.mem_filter.mpr ⟨List.mem_of_getElem? (i := 398) (by decide +kernel), rfl⟩
theorem tk_396 : Cond.instanceMethod yX6_isMissing ∈ okl := List.mem_filter.mpr ⟨List.mem_of_getElem? (i := 396) (by decide +kernel), rfl⟩
theorem tk_397 : Cond.selects RX6 yX6_isMissing yX6_isMissing ∈ okl := List.mem_filter.mpr ⟨List.mem_of_getElem? (i := 397) (by decide +kernel), rfl⟩
theorem tk_402 : Cond.code yX6_hasStretch cX6_hasStretch 4 (some .boolean) ∈ okl := List.mem_filter.mpr ⟨List.mem_of_getElem? (i := 402) (by decide +kernel), rfl⟩
theorem tk_400 : Cond.instanceMethod yX6_hasStretch ∈ okl := List.mem_filter.mpr ⟨List.mem_of_getElem? (i := 400) (by decide +kernel), rfl⟩
theorem tk_401 : Cond.selects RX6 yX6_hasStretch yX6_hasStretch ∈ okl := List.mem_filter.mpr ⟨List.mem_of_getElem? (i := 401) (by decide +kernel), rfl⟩
theorem tk_406 : Cond.code yX6_put cX6_put 4 (some .int) ∈ okl := List.mem_filter.mpr ⟨List.mem_of_getElem? (i := 406) (by decide +kernel), rfl⟩
theorem tk_404 : Cond.instanceMethod yX6_put ∈ okl := List.mem_filter.mpr ⟨List.mem_of_getElem? (i := 404) (by decide +kernel), rfl⟩
theorem tk_405 : Cond.selects RX6 yX6_put yX6_put ∈ okl := List.mem_filter.mpr ⟨List.mem_of_getElem? (i := 405) (by decide +kernel), rfl⟩
theorem tk_409 : Cond.code yX6_inLane cX6_inLane 2 (some .int) ∈ okl := List.mem_filter.mpr ⟨List.mem_of_getElem? (i := 409) (by decide +kernel), rfl⟩
theorem tk_408 : Cond.static yX6_inLane ∈ okl := List.mem_filter.mpr ⟨List.mem_of_getElem? (i := 408) (by decide +kernel), rfl⟩
theorem tk_413 : Cond.code yX7_copy cX7_copy 6 (some .int) ∈ okl := List.mem_filter.mpr ⟨List.mem_of_getElem? (i := 413) (by decide +kernel), rfl⟩
theorem tk_411 : Cond.instanceMethod yX7_copy ∈ okl := List.mem_filter.mpr ⟨List.mem_of_getElem? (i := 411) (by decide +kernel), rfl⟩
theorem tk_412 : Cond.selects RX7 yX7_copy yX7_copy ∈ okl := List.mem_filter.mpr ⟨List.mem_of_getElem? (i := 412) (by decide +kernel), rfl⟩
theorem tk_417 : Cond.code yX6_areOfOneLane cX6_areOfOneLane 3 (some .boolean) ∈ okl := List.mem_filter.mpr ⟨List.mem_of_getElem? (i := 417) (by decide +kernel), rfl⟩
theorem tk_415 : Cond.instanceMethod yX6_areOfOneLane ∈ okl := List.mem_filter.mpr ⟨List.mem_of_getElem? (i := 415) (by decide +kernel), rfl⟩
theorem tk_416 : Cond.selects RX6 yX6_areOfOneLane yX6_areOfOneLane ∈ okl := List.mem_filter.mpr ⟨List.mem_of_getElem? (i := 416) (by decide +kernel), rfl⟩
theorem tk_421 : Cond.code yX6_move cX6_move 6 none ∈ okl := List.mem_filter.mpr ⟨List.mem_of_getElem? (i := 421) (by decide +kernel), rfl⟩
theorem tk_419 : Cond.instanceMethod yX6_move ∈ okl := List.mem_filter.mpr ⟨List.mem_of_getElem? (i := 419) (by decide +kernel), rfl⟩
theorem tk_420 : Cond.selects RX6 yX6_move yX6_move ∈ okl := List.mem_filter.mpr ⟨List.mem_of_getElem? (i := 420) (by decide +kernel), rfl⟩
theorem tk_428 : Cond.code yX7_drop cX7_drop 2 (some .int) ∈ okl := List.mem_filter.mpr ⟨List.mem_of_getElem? (i := 428) (by decide +kernel), rfl⟩
theorem tk_426 : Cond.instanceMethod yX7_drop ∈ okl := List.mem_filter.mpr ⟨List.mem_of_getElem? (i := 426) (by decide +kernel), rfl⟩
theorem tk_427 : Cond.selects RX7 yX7_drop yX7_drop ∈ okl := List.mem_filter.mpr ⟨List.mem_of_getElem? (i := 427) (by decide +kernel), rfl⟩
theorem tk_432 : Cond.code yX6_takeAway cX6_takeAway 2 (some .int) ∈ okl := List.mem_filter.mpr ⟨List.mem_of_getElem? (i := 432) (by decide +kernel), rfl⟩
theorem tk_430 : Cond.instanceMethod yX6_takeAway ∈ okl := List.mem_filter.mpr ⟨List.mem_of_getElem? (i := 430) (by decide +kernel), rfl⟩
theorem tk_431 : Cond.selects RX6 yX6_takeAway yX6_takeAway ∈ okl := List.mem_filter.mpr ⟨List.mem_of_getElem? (i := 431) (by decide +kernel), rfl⟩
theorem tk_436 : Cond.code yX7_feed cX7_feed 4 (some .int) ∈ okl := List.mem_filter.mpr ⟨List.mem_of_getElem? (i := 436) (by decide +kernel), rfl⟩
theorem tk_434 : Cond.instanceMethod yX7_feed ∈ okl := List.mem_filter.mpr ⟨List.mem_of_getElem? (i := 434) (by decide +kernel), rfl⟩
theorem tk_435 : Cond.selects RX7 yX7_feed yX7_feed ∈ okl := List.mem_filter.mpr ⟨List.mem_of_getElem? (i := 435) (by decide +kernel), rfl⟩
theorem tk_440 : Cond.code yX5_append cX5_append 5 (some .int) ∈ okl := List.mem_filter.mpr ⟨List.mem_of_getElem? (i := 440) (by decide +kernel), rfl⟩
theorem tk_438 : Cond.instanceMethod yX5_append ∈ okl := List.mem_filter.mpr ⟨List.mem_of_getElem? (i := 438) (by decide +kernel), rfl⟩
theorem tk_439 : Cond.selects RX5 yX5_append yX5_append ∈ okl := List.mem_filter.mpr ⟨List.mem_of_getElem? (i := 439) (by decide +kernel), rfl⟩
theorem tk_445 : Cond.code yX7_evening cX7_evening 2 (some .int) ∈ okl := List.mem_filter.mpr ⟨List.mem_of_getElem? (i := 445) (by decide +kernel), rfl⟩
theorem tk_443 : Cond.instanceMethod yX7_evening ∈ okl := List.mem_filter.mpr ⟨List.mem_of_getElem? (i := 443) (by decide +kernel), rfl⟩
theorem tk_444 : Cond.selects RX7 yX7_evening yX7_evening ∈ okl := List.mem_filter.mpr ⟨List.mem_of_getElem? (i := 444) (by decide +kernel), rfl⟩
theorem tk_449 : Cond.code yX5_readInto cX5_readInto 4 (some .boolean) ∈ okl := List.mem_filter.mpr ⟨List.mem_of_getElem? (i := 449) (by decide +kernel), rfl⟩
theorem tk_447 : Cond.instanceMethod yX5_readInto ∈ okl := List.mem_filter.mpr ⟨List.mem_of_getElem? (i := 447) (by decide +kernel), rfl⟩
theorem tk_448 : Cond.selects RX5 yX5_readInto yX5_readInto ∈ okl := List.mem_filter.mpr ⟨List.mem_of_getElem? (i := 448) (by decide +kernel), rfl⟩
theorem tk_453 : Cond.code yX3_clear cX3_clear 2 none ∈ okl := List.mem_filter.mpr ⟨List.mem_of_getElem? (i := 453) (by decide +kernel), rfl⟩
theorem tk_451 : Cond.instanceMethod yX3_clear ∈ okl := List.mem_filter.mpr ⟨List.mem_of_getElem? (i := 451) (by decide +kernel), rfl⟩
theorem tk_452 : Cond.selects RX3 yX3_clear yX3_clear ∈ okl := List.mem_filter.mpr ⟨List.mem_of_getElem? (i := 452) (by decide +kernel), rfl⟩
theorem tk_459 : Cond.code yX5_readLaw cX5_readLaw 2 (some .boolean) ∈ okl := List.mem_filter.mpr ⟨List.mem_of_getElem? (i := 459) (by decide +kernel), rfl⟩
theorem tk_458 : Cond.instanceMethod yX5_readLaw ∈ okl := List.mem_filter.mpr ⟨List.mem_of_getElem? (i := 458) (by decide +kernel), rfl⟩
theorem tk_2 : Cond.selects RX5 yX5_readLaw yX5_readLaw ∈ okl := List.mem_filter.mpr ⟨List.mem_of_getElem? (i := 2) (by decide +kernel), rfl⟩
theorem tk_463 : Cond.code yX5_readToken cX5_readToken 1 none ∈ okl := List.mem_filter.mpr ⟨List.mem_of_getElem? (i := 463) (by decide +kernel), rfl⟩
theorem tk_462 : Cond.instanceMethod yX5_readToken ∈ okl := List.mem_filter.mpr ⟨List.mem_of_getElem? (i := 462) (by decide +kernel), rfl⟩
theorem tk_3 : Cond.selects RX5 yX5_readToken yX5_readToken ∈ okl := List.mem_filter.mpr ⟨List.mem_of_getElem? (i := 3) (by decide +kernel), rfl⟩
theorem tk_466 : Cond.code yX5_isGap cX5_isGap 1 (some .boolean) ∈ okl := List.mem_filter.mpr ⟨List.mem_of_getElem? (i := 466) (by decide +kernel), rfl⟩
theorem tk_465 : Cond.static yX5_isGap ∈ okl := List.mem_filter.mpr ⟨List.mem_of_getElem? (i := 465) (by decide +kernel), rfl⟩
theorem tk_469 : Cond.code yX5_isLetter cX5_isLetter 1 (some .boolean) ∈ okl := List.mem_filter.mpr ⟨List.mem_of_getElem? (i := 469) (by decide +kernel), rfl⟩
theorem tk_468 : Cond.static yX5_isLetter ∈ okl := List.mem_filter.mpr ⟨List.mem_of_getElem? (i := 468) (by decide +kernel), rfl⟩
theorem tk_473 : Cond.code yX5_readLetters cX5_readLetters 1 none ∈ okl := List.mem_filter.mpr ⟨List.mem_of_getElem? (i := 473) (by decide +kernel), rfl⟩
theorem tk_472 : Cond.instanceMethod yX5_readLetters ∈ okl := List.mem_filter.mpr ⟨List.mem_of_getElem? (i := 472) (by decide +kernel), rfl⟩
theorem tk_4 : Cond.selects RX5 yX5_readLetters yX5_readLetters ∈ okl := List.mem_filter.mpr ⟨List.mem_of_getElem? (i := 4) (by decide +kernel), rfl⟩
theorem tk_476 : Cond.code yX5_isFigure cX5_isFigure 1 (some .boolean) ∈ okl := List.mem_filter.mpr ⟨List.mem_of_getElem? (i := 476) (by decide +kernel), rfl⟩
theorem tk_475 : Cond.static yX5_isFigure ∈ okl := List.mem_filter.mpr ⟨List.mem_of_getElem? (i := 475) (by decide +kernel), rfl⟩
theorem tk_480 : Cond.code yX5_readFigures cX5_readFigures 1 none ∈ okl := List.mem_filter.mpr ⟨List.mem_of_getElem? (i := 480) (by decide +kernel), rfl⟩
theorem tk_479 : Cond.instanceMethod yX5_readFigures ∈ okl := List.mem_filter.mpr ⟨List.mem_of_getElem? (i := 479) (by decide +kernel), rfl⟩
theorem tk_5 : Cond.selects RX5 yX5_readFigures yX5_readFigures ∈ okl := List.mem_filter.mpr ⟨List.mem_of_getElem? (i := 5) (by decide +kernel), rfl⟩
theorem tk_485 : Cond.code yX5_isWord cX5_isWord 3 (some .boolean) ∈ okl := List.mem_filter.mpr ⟨List.mem_of_getElem? (i := 485) (by decide +kernel), rfl⟩
theorem tk_484 : Cond.instanceMethod yX5_isWord ∈ okl := List.mem_filter.mpr ⟨List.mem_of_getElem? (i := 484) (by decide +kernel), rfl⟩
theorem tk_6 : Cond.selects RX5 yX5_isWord yX5_isWord ∈ okl := List.mem_filter.mpr ⟨List.mem_of_getElem? (i := 6) (by decide +kernel), rfl⟩
theorem tk_489 : Cond.code yJ0_length_8abf5 cJ0_length_8abf5 1 (some .int) ∈ okl := List.mem_filter.mpr ⟨List.mem_of_getElem? (i := 489) (by decide +kernel), rfl⟩
theorem tk_487 : Cond.instanceMethod yJ0_length_8abf5 ∈ okl := List.mem_filter.mpr ⟨List.mem_of_getElem? (i := 487) (by decide +kernel), rfl⟩
theorem tk_488 : Cond.selects RJ0 yJ0_length_8abf5 yJ0_length_8abf5 ∈ okl := List.mem_filter.mpr ⟨List.mem_of_getElem? (i := 488) (by decide +kernel), rfl⟩
theorem tk_493 : Cond.code yJ0_coder_7d493 cJ0_coder_7d493 1 (some .byte) ∈ okl := List.mem_filter.mpr ⟨List.mem_of_getElem? (i := 493) (by decide +kernel), rfl⟩
theorem tk_491 : Cond.instanceMethod yJ0_coder_7d493 ∈ okl := List.mem_filter.mpr ⟨List.mem_of_getElem? (i := 491) (by decide +kernel), rfl⟩
theorem tk_492 : Cond.selects RJ0 yJ0_coder_7d493 yJ0_coder_7d493 ∈ okl := List.mem_filter.mpr ⟨List.mem_of_getElem? (i := 492) (by decide +kernel), rfl⟩
theorem tk_499 : Cond.code yJ0_charAt_5068e cJ0_charAt_5068e 2 (some .char) ∈ okl := List.mem_filter.mpr ⟨List.mem_of_getElem? (i := 499) (by decide +kernel), rfl⟩
theorem tk_497 : Cond.instanceMethod yJ0_charAt_5068e ∈ okl := List.mem_filter.mpr ⟨List.mem_of_getElem? (i := 497) (by decide +kernel), rfl⟩
theorem tk_498 : Cond.selects RJ0 yJ0_charAt_5068e yJ0_charAt_5068e ∈ okl := List.mem_filter.mpr ⟨List.mem_of_getElem? (i := 498) (by decide +kernel), rfl⟩
theorem tk_503 : Cond.code yJ0_isLatin1_aae02 cJ0_isLatin1_aae02 1 (some .boolean) ∈ okl := List.mem_filter.mpr ⟨List.mem_of_getElem? (i := 503) (by decide +kernel), rfl⟩
theorem tk_501 : Cond.instanceMethod yJ0_isLatin1_aae02 ∈ okl := List.mem_filter.mpr ⟨List.mem_of_getElem? (i := 501) (by decide +kernel), rfl⟩
theorem tk_502 : Cond.selects RJ0 yJ0_isLatin1_aae02 yJ0_isLatin1_aae02 ∈ okl := List.mem_filter.mpr ⟨List.mem_of_getElem? (i := 502) (by decide +kernel), rfl⟩
theorem tk_506 : Cond.code yJ1_charAt_3b067 cJ1_charAt_3b067 2 (some .char) ∈ okl := List.mem_filter.mpr ⟨List.mem_of_getElem? (i := 506) (by decide +kernel), rfl⟩
theorem tk_505 : Cond.static yJ1_charAt_3b067 ∈ okl := List.mem_filter.mpr ⟨List.mem_of_getElem? (i := 505) (by decide +kernel), rfl⟩
theorem tk_509 : Cond.code yJ0_checkIndex_df160 cJ0_checkIndex_df160 2 none ∈ okl := List.mem_filter.mpr ⟨List.mem_of_getElem? (i := 509) (by decide +kernel), rfl⟩
theorem tk_508 : Cond.static yJ0_checkIndex_df160 ∈ okl := List.mem_filter.mpr ⟨List.mem_of_getElem? (i := 508) (by decide +kernel), rfl⟩
theorem tk_514 : Cond.code yJ3_checkIndex_8e157 cJ3_checkIndex_8e157 3 (some .int) ∈ okl := List.mem_filter.mpr ⟨List.mem_of_getElem? (i := 514) (by decide +kernel), rfl⟩
theorem tk_513 : Cond.static yJ3_checkIndex_8e157 ∈ okl := List.mem_filter.mpr ⟨List.mem_of_getElem? (i := 513) (by decide +kernel), rfl⟩
theorem tk_517 : Cond.code yJ2_charAt_3b067 cJ2_charAt_3b067 2 (some .char) ∈ okl := List.mem_filter.mpr ⟨List.mem_of_getElem? (i := 517) (by decide +kernel), rfl⟩
theorem tk_516 : Cond.static yJ2_charAt_3b067 ∈ okl := List.mem_filter.mpr ⟨List.mem_of_getElem? (i := 516) (by decide +kernel), rfl⟩
theorem tk_520 : Cond.code yJ2_checkIndex_2214a cJ2_checkIndex_2214a 2 none ∈ okl := List.mem_filter.mpr ⟨List.mem_of_getElem? (i := 520) (by decide +kernel), rfl⟩
theorem tk_519 : Cond.static yJ2_checkIndex_2214a ∈ okl := List.mem_filter.mpr ⟨List.mem_of_getElem? (i := 519) (by decide +kernel), rfl⟩
theorem tk_523 : Cond.code yJ2_length_9d52b cJ2_length_9d52b 1 (some .int) ∈ okl := List.mem_filter.mpr ⟨List.mem_of_getElem? (i := 523) (by decide +kernel), rfl⟩
theorem tk_522 : Cond.static yJ2_length_9d52b ∈ okl := List.mem_filter.mpr ⟨List.mem_of_getElem? (i := 522) (by decide +kernel), rfl⟩
theorem tk_527 : Cond.code yJ2_getChar_3b067 cJ2_getChar_3b067 2 (some .char) ∈ okl := List.mem_filter.mpr ⟨List.mem_of_getElem? (i := 527) (by decide +kernel), rfl⟩
theorem tk_526 : Cond.static yJ2_getChar_3b067 ∈ okl := List.mem_filter.mpr ⟨List.mem_of_getElem? (i := 526) (by decide +kernel), rfl⟩
theorem tk_537 : Cond.code yX5_fail cX5_fail 2 (some .boolean) ∈ okl := List.mem_filter.mpr ⟨List.mem_of_getElem? (i := 537) (by decide +kernel), rfl⟩
theorem tk_536 : Cond.instanceMethod yX5_fail ∈ okl := List.mem_filter.mpr ⟨List.mem_of_getElem? (i := 536) (by decide +kernel), rfl⟩
theorem tk_7 : Cond.selects RX5 yX5_fail yX5_fail ∈ okl := List.mem_filter.mpr ⟨List.mem_of_getElem? (i := 7) (by decide +kernel), rfl⟩
theorem tk_541 : Cond.code yX5_readNumber cX5_readNumber 3 (some .boolean) ∈ okl := List.mem_filter.mpr ⟨List.mem_of_getElem? (i := 541) (by decide +kernel), rfl⟩
theorem tk_540 : Cond.instanceMethod yX5_readNumber ∈ okl := List.mem_filter.mpr ⟨List.mem_of_getElem? (i := 540) (by decide +kernel), rfl⟩
theorem tk_8 : Cond.selects RX5 yX5_readNumber yX5_readNumber ∈ okl := List.mem_filter.mpr ⟨List.mem_of_getElem? (i := 8) (by decide +kernel), rfl⟩
theorem tk_545 : Cond.code yX5_readSign cX5_readSign 1 (some .boolean) ∈ okl := List.mem_filter.mpr ⟨List.mem_of_getElem? (i := 545) (by decide +kernel), rfl⟩
theorem tk_544 : Cond.instanceMethod yX5_readSign ∈ okl := List.mem_filter.mpr ⟨List.mem_of_getElem? (i := 544) (by decide +kernel), rfl⟩
theorem tk_9 : Cond.selects RX5 yX5_readSign yX5_readSign ∈ okl := List.mem_filter.mpr ⟨List.mem_of_getElem? (i := 9) (by decide +kernel), rfl⟩
theorem tk_549 : Cond.code yX5_readStatement cX5_readStatement 3 (some .boolean) ∈ okl := List.mem_filter.mpr ⟨List.mem_of_getElem? (i := 549) (by decide +kernel), rfl⟩
theorem tk_548 : Cond.instanceMethod yX5_readStatement ∈ okl := List.mem_filter.mpr ⟨List.mem_of_getElem? (i := 548) (by decide +kernel), rfl⟩
theorem tk_10 : Cond.selects RX5 yX5_readStatement yX5_readStatement ∈ okl := List.mem_filter.mpr ⟨List.mem_of_getElem? (i := 10) (by decide +kernel), rfl⟩
theorem tk_553 : Cond.code yX5_statementWord cX5_statementWord 1 (some .int) ∈ okl := List.mem_filter.mpr ⟨List.mem_of_getElem? (i := 553) (by decide +kernel), rfl⟩
theorem tk_552 : Cond.instanceMethod yX5_statementWord ∈ okl := List.mem_filter.mpr ⟨List.mem_of_getElem? (i := 552) (by decide +kernel), rfl⟩
theorem tk_11 : Cond.selects RX5 yX5_statementWord yX5_statementWord ∈ okl := List.mem_filter.mpr ⟨List.mem_of_getElem? (i := 11) (by decide +kernel), rfl⟩
theorem tk_562 : Cond.code yX5_readWay cX5_readWay 4 (some .boolean) ∈ okl := List.mem_filter.mpr ⟨List.mem_of_getElem? (i := 562) (by decide +kernel), rfl⟩
theorem tk_561 : Cond.instanceMethod yX5_readWay ∈ okl := List.mem_filter.mpr ⟨List.mem_of_getElem? (i := 561) (by decide +kernel), rfl⟩
theorem tk_12 : Cond.selects RX5 yX5_readWay yX5_readWay ∈ okl := List.mem_filter.mpr ⟨List.mem_of_getElem? (i := 12) (by decide +kernel), rfl⟩
theorem tk_566 : Cond.code yX3_addWay cX3_addWay 5 none ∈ okl := List.mem_filter.mpr ⟨List.mem_of_getElem? (i := 566) (by decide +kernel), rfl⟩
theorem tk_564 : Cond.instanceMethod yX3_addWay ∈ okl := List.mem_filter.mpr ⟨List.mem_of_getElem? (i := 564) (by decide +kernel), rfl⟩
theorem tk_565 : Cond.selects RX3 yX3_addWay yX3_addWay ∈ okl := List.mem_filter.mpr ⟨List.mem_of_getElem? (i := 565) (by decide +kernel), rfl⟩
theorem tk_570 : Cond.code yX3_minutesBetween cX3_minutesBetween 3 (some .int) ∈ okl := List.mem_filter.mpr ⟨List.mem_of_getElem? (i := 570) (by decide +kernel), rfl⟩
theorem tk_568 : Cond.instanceMethod yX3_minutesBetween ∈ okl := List.mem_filter.mpr ⟨List.mem_of_getElem? (i := 568) (by decide +kernel), rfl⟩
theorem tk_569 : Cond.selects RX3 yX3_minutesBetween yX3_minutesBetween ∈ okl := List.mem_filter.mpr ⟨List.mem_of_getElem? (i := 569) (by decide +kernel), rfl⟩
theorem tk_573 : Cond.code yJ9_min_7cf53 cJ9_min_7cf53 2 (some .int) ∈ okl := List.mem_filter.mpr ⟨List.mem_of_getElem? (i := 573) (by decide +kernel), rfl⟩
theorem tk_572 : Cond.static yJ9_min_7cf53 ∈ okl := List.mem_filter.mpr ⟨List.mem_of_getElem? (i := 572) (by decide +kernel), rfl⟩
theorem tk_577 : Cond.code yX5_readHill cX5_readHill 2 (some .boolean) ∈ okl := List.mem_filter.mpr ⟨List.mem_of_getElem? (i := 577) (by decide +kernel), rfl⟩
theorem tk_576 : Cond.instanceMethod yX5_readHill ∈ okl := List.mem_filter.mpr ⟨List.mem_of_getElem? (i := 576) (by decide +kernel), rfl⟩
theorem tk_13 : Cond.selects RX5 yX5_readHill yX5_readHill ∈ okl := List.mem_filter.mpr ⟨List.mem_of_getElem? (i := 13) (by decide +kernel), rfl⟩
theorem tk_581 : Cond.code yX3_addHill cX3_addHill 2 none ∈ okl := List.mem_filter.mpr ⟨List.mem_of_getElem? (i := 581) (by decide +kernel), rfl⟩
theorem tk_579 : Cond.instanceMethod yX3_addHill ∈ okl := List.mem_filter.mpr ⟨List.mem_of_getElem? (i := 579) (by decide +kernel), rfl⟩
theorem tk_580 : Cond.selects RX3 yX3_addHill yX3_addHill ∈ okl := List.mem_filter.mpr ⟨List.mem_of_getElem? (i := 580) (by decide +kernel), rfl⟩
theorem tk_585 : Cond.code yX5_readPerson cX5_readPerson 4 (some .boolean) ∈ okl := List.mem_filter.mpr ⟨List.mem_of_getElem? (i := 585) (by decide +kernel), rfl⟩
theorem tk_584 : Cond.instanceMethod yX5_readPerson ∈ okl := List.mem_filter.mpr ⟨List.mem_of_getElem? (i := 584) (by decide +kernel), rfl⟩
theorem tk_14 : Cond.selects RX5 yX5_readPerson yX5_readPerson ∈ okl := List.mem_filter.mpr ⟨List.mem_of_getElem? (i := 14) (by decide +kernel), rfl⟩
theorem tk_589 : Cond.code yX5_kindWord cX5_kindWord 1 (some .int) ∈ okl := List.mem_filter.mpr ⟨List.mem_of_getElem? (i := 589) (by decide +kernel), rfl⟩
theorem tk_588 : Cond.instanceMethod yX5_kindWord ∈ okl := List.mem_filter.mpr ⟨List.mem_of_getElem? (i := 588) (by decide +kernel), rfl⟩
theorem tk_15 : Cond.selects RX5 yX5_kindWord yX5_kindWord ∈ okl := List.mem_filter.mpr ⟨List.mem_of_getElem? (i := 15) (by decide +kernel), rfl⟩
theorem tk_598 : Cond.code yX3_addPerson cX3_addPerson 4 none ∈ okl := List.mem_filter.mpr ⟨List.mem_of_getElem? (i := 598) (by decide +kernel), rfl⟩
theorem tk_596 : Cond.instanceMethod yX3_addPerson ∈ okl := List.mem_filter.mpr ⟨List.mem_of_getElem? (i := 596) (by decide +kernel), rfl⟩
theorem tk_597 : Cond.selects RX3 yX3_addPerson yX3_addPerson ∈ okl := List.mem_filter.mpr ⟨List.mem_of_getElem? (i := 597) (by decide +kernel), rfl⟩
theorem tk_601 : Cond.code yX7_isOfKind cX7_isOfKind 4 (some .boolean) ∈ okl := List.mem_filter.mpr ⟨List.mem_of_getElem? (i := 601) (by decide +kernel), rfl⟩
theorem tk_600 : Cond.static yX7_isOfKind ∈ okl := List.mem_filter.mpr ⟨List.mem_of_getElem? (i := 600) (by decide +kernel), rfl⟩
theorem tk_607 : Cond.code yX5_readCar cX5_readCar 4 (some .boolean) ∈ okl := List.mem_filter.mpr ⟨List.mem_of_getElem? (i := 607) (by decide +kernel), rfl⟩
theorem tk_606 : Cond.instanceMethod yX5_readCar ∈ okl := List.mem_filter.mpr ⟨List.mem_of_getElem? (i := 606) (by decide +kernel), rfl⟩
theorem tk_16 : Cond.selects RX5 yX5_readCar yX5_readCar ∈ okl := List.mem_filter.mpr ⟨List.mem_of_getElem? (i := 16) (by decide +kernel), rfl⟩
theorem tk_611 : Cond.code yX3_carOf cX3_carOf 3 (some .int) ∈ okl := List.mem_filter.mpr ⟨List.mem_of_getElem? (i := 611) (by decide +kernel), rfl⟩
theorem tk_609 : Cond.instanceMethod yX3_carOf ∈ okl := List.mem_filter.mpr ⟨List.mem_of_getElem? (i := 609) (by decide +kernel), rfl⟩
theorem tk_610 : Cond.selects RX3 yX3_carOf yX3_carOf ∈ okl := List.mem_filter.mpr ⟨List.mem_of_getElem? (i := 610) (by decide +kernel), rfl⟩
theorem tk_617 : Cond.code yX3_addCar cX3_addCar 4 none ∈ okl := List.mem_filter.mpr ⟨List.mem_of_getElem? (i := 617) (by decide +kernel), rfl⟩
theorem tk_615 : Cond.instanceMethod yX3_addCar ∈ okl := List.mem_filter.mpr ⟨List.mem_of_getElem? (i := 615) (by decide +kernel), rfl⟩
theorem tk_616 : Cond.selects RX3 yX3_addCar yX3_addCar ∈ okl := List.mem_filter.mpr ⟨List.mem_of_getElem? (i := 616) (by decide +kernel), rfl⟩
theorem tk_621 : Cond.code yX5_readQuarrel cX5_readQuarrel 4 (some .boolean) ∈ okl := List.mem_filter.mpr ⟨List.mem_of_getElem? (i := 621) (by decide +kernel), rfl⟩
theorem tk_620 : Cond.instanceMethod yX5_readQuarrel ∈ okl := List.mem_filter.mpr ⟨List.mem_of_getElem? (i := 620) (by decide +kernel), rfl⟩
theorem tk_17 : Cond.selects RX5 yX5_readQuarrel yX5_readQuarrel ∈ okl := List.mem_filter.mpr ⟨List.mem_of_getElem? (i := 17) (by decide +kernel), rfl⟩
theorem tk_625 : Cond.code yX3_addQuarrel cX3_addQuarrel 3 none ∈ okl := List.mem_filter.mpr ⟨List.mem_of_getElem? (i := 625) (by decide +kernel), rfl⟩
theorem tk_623 : Cond.instanceMethod yX3_addQuarrel ∈ okl := List.mem_filter.mpr ⟨List.mem_of_getElem? (i := 623) (by decide +kernel), rfl⟩
theorem tk_624 : Cond.selects RX3 yX3_addQuarrel yX3_addQuarrel ∈ okl := List.mem_filter.mpr ⟨List.mem_of_getElem? (i := 624) (by decide +kernel), rfl⟩
theorem tk_629 : Cond.code yX3_finish cX3_finish 5 none ∈ okl := List.mem_filter.mpr ⟨List.mem_of_getElem? (i := 629) (by decide +kernel), rfl⟩
theorem tk_627 : Cond.instanceMethod yX3_finish ∈ okl := List.mem_filter.mpr ⟨List.mem_of_getElem? (i := 627) (by decide +kernel), rfl⟩
theorem tk_628 : Cond.selects RX3 yX3_finish yX3_finish ∈ okl := List.mem_filter.mpr ⟨List.mem_of_getElem? (i := 628) (by decide +kernel), rfl⟩
theorem tk_634 : Cond.code yX7_beginAnew cX7_beginAnew 1 none ∈ okl := List.mem_filter.mpr ⟨List.mem_of_getElem? (i := 634) (by decide +kernel), rfl⟩
theorem tk_633 : Cond.instanceMethod yX7_beginAnew ∈ okl := List.mem_filter.mpr ⟨List.mem_of_getElem? (i := 633) (by decide +kernel), rfl⟩
theorem tk_18 : Cond.selects RX7 yX7_beginAnew yX7_beginAnew ∈ okl := List.mem_filter.mpr ⟨List.mem_of_getElem? (i := 18) (by decide +kernel), rfl⟩
theorem tk_638 : Cond.code yX2_forget cX2_forget 1 none ∈ okl := List.mem_filter.mpr ⟨List.mem_of_getElem? (i := 638) (by decide +kernel), rfl⟩
theorem tk_636 : Cond.instanceMethod yX2_forget ∈ okl := List.mem_filter.mpr ⟨List.mem_of_getElem? (i := 636) (by decide +kernel), rfl⟩
theorem tk_637 : Cond.selects RX2 yX2_forget yX2_forget ∈ okl := List.mem_filter.mpr ⟨List.mem_of_getElem? (i := 637) (by decide +kernel), rfl⟩
theorem tk_642 : Cond.code yX4_forget cX4_forget 1 none ∈ okl := List.mem_filter.mpr ⟨List.mem_of_getElem? (i := 642) (by decide +kernel), rfl⟩
theorem tk_640 : Cond.instanceMethod yX4_forget ∈ okl := List.mem_filter.mpr ⟨List.mem_of_getElem? (i := 640) (by decide +kernel), rfl⟩
theorem tk_641 : Cond.selects RX4 yX4_forget yX4_forget ∈ okl := List.mem_filter.mpr ⟨List.mem_of_getElem? (i := 641) (by decide +kernel), rfl⟩
theorem tk_647 : Cond.code yX7_fault cX7_fault 1 (some .int) ∈ okl := List.mem_filter.mpr ⟨List.mem_of_getElem? (i := 647) (by decide +kernel), rfl⟩
theorem tk_645 : Cond.instanceMethod yX7_fault ∈ okl := List.mem_filter.mpr ⟨List.mem_of_getElem? (i := 645) (by decide +kernel), rfl⟩
theorem tk_646 : Cond.selects RX7 yX7_fault yX7_fault ∈ okl := List.mem_filter.mpr ⟨List.mem_of_getElem? (i := 646) (by decide +kernel), rfl⟩
theorem tk_651 : Cond.code yX7_drink cX7_drink 3 (some .int) ∈ okl := List.mem_filter.mpr ⟨List.mem_of_getElem? (i := 651) (by decide +kernel), rfl⟩
theorem tk_649 : Cond.instanceMethod yX7_drink ∈ okl := List.mem_filter.mpr ⟨List.mem_of_getElem? (i := 649) (by decide +kernel), rfl⟩
theorem tk_650 : Cond.selects RX7 yX7_drink yX7_drink ∈ okl := List.mem_filter.mpr ⟨List.mem_of_getElem? (i := 650) (by decide +kernel), rfl⟩
theorem tk_655 : Cond.code yX3_hasPerson cX3_hasPerson 2 (some .boolean) ∈ okl := List.mem_filter.mpr ⟨List.mem_of_getElem? (i := 655) (by decide +kernel), rfl⟩
theorem tk_653 : Cond.instanceMethod yX3_hasPerson ∈ okl := List.mem_filter.mpr ⟨List.mem_of_getElem? (i := 653) (by decide +kernel), rfl⟩
theorem tk_654 : Cond.selects RX3 yX3_hasPerson yX3_hasPerson ∈ okl := List.mem_filter.mpr ⟨List.mem_of_getElem? (i := 654) (by decide +kernel), rfl⟩
theorem tk_660 : Cond.code yX2_keep cX2_keep 3 none ∈ okl := List.mem_filter.mpr ⟨List.mem_of_getElem? (i := 660) (by decide +kernel), rfl⟩
theorem tk_658 : Cond.instanceMethod yX2_keep ∈ okl := List.mem_filter.mpr ⟨List.mem_of_getElem? (i := 658) (by decide +kernel), rfl⟩
theorem tk_659 : Cond.selects RX2 yX2_keep yX2_keep ∈ okl := List.mem_filter.mpr ⟨List.mem_of_getElem? (i := 659) (by decide +kernel), rfl⟩
theorem tk_665 : Cond.code yX7_undo cX7_undo 1 (some .int) ∈ okl := List.mem_filter.mpr ⟨List.mem_of_getElem? (i := 665) (by decide +kernel), rfl⟩
theorem tk_663 : Cond.instanceMethod yX7_undo ∈ okl := List.mem_filter.mpr ⟨List.mem_of_getElem? (i := 663) (by decide +kernel), rfl⟩
theorem tk_664 : Cond.selects RX7 yX7_undo yX7_undo ∈ okl := List.mem_filter.mpr ⟨List.mem_of_getElem? (i := 664) (by decide +kernel), rfl⟩
theorem tk_670 : Cond.code yX2_takeBack cX2_takeBack 2 none ∈ okl := List.mem_filter.mpr ⟨List.mem_of_getElem? (i := 670) (by decide +kernel), rfl⟩
theorem tk_668 : Cond.instanceMethod yX2_takeBack ∈ okl := List.mem_filter.mpr ⟨List.mem_of_getElem? (i := 668) (by decide +kernel), rfl⟩
theorem tk_669 : Cond.selects RX2 yX2_takeBack yX2_takeBack ∈ okl := List.mem_filter.mpr ⟨List.mem_of_getElem? (i := 669) (by decide +kernel), rfl⟩
theorem tk_674 : Cond.code yX7_person cX7_person 3 (some .int) ∈ okl := List.mem_filter.mpr ⟨List.mem_of_getElem? (i := 674) (by decide +kernel), rfl⟩
theorem tk_672 : Cond.instanceMethod yX7_person ∈ okl := List.mem_filter.mpr ⟨List.mem_of_getElem? (i := 672) (by decide +kernel), rfl⟩
theorem tk_673 : Cond.selects RX7 yX7_person yX7_person ∈ okl := List.mem_filter.mpr ⟨List.mem_of_getElem? (i := 673) (by decide +kernel), rfl⟩
theorem tk_679 : Cond.code yX7_car cX7_car 3 (some .int) ∈ okl := List.mem_filter.mpr ⟨List.mem_of_getElem? (i := 679) (by decide +kernel), rfl⟩
theorem tk_677 : Cond.instanceMethod yX7_car ∈ okl := List.mem_filter.mpr ⟨List.mem_of_getElem? (i := 677) (by decide +kernel), rfl⟩
theorem tk_678 : Cond.selects RX7 yX7_car yX7_car ∈ okl := List.mem_filter.mpr ⟨List.mem_of_getElem? (i := 678) (by decide +kernel), rfl⟩
theorem tk_683 : Cond.code yX3_hasCar cX3_hasCar 2 (some .boolean) ∈ okl := List.mem_filter.mpr ⟨List.mem_of_getElem? (i := 683) (by decide +kernel), rfl⟩
theorem tk_681 : Cond.instanceMethod yX3_hasCar ∈ okl := List.mem_filter.mpr ⟨List.mem_of_getElem? (i := 681) (by decide +kernel), rfl⟩
theorem tk_682 : Cond.selects RX3 yX3_hasCar yX3_hasCar ∈ okl := List.mem_filter.mpr ⟨List.mem_of_getElem? (i := 682) (by decide +kernel), rfl⟩
theorem tk_687 : Cond.code yX7_far cX7_far 3 (some .int) ∈ okl := List.mem_filter.mpr ⟨List.mem_of_getElem? (i := 687) (by decide +kernel), rfl⟩
theorem tk_685 : Cond.instanceMethod yX7_far ∈ okl := List.mem_filter.mpr ⟨List.mem_of_getElem? (i := 685) (by decide +kernel), rfl⟩
theorem tk_686 : Cond.selects RX7 yX7_far yX7_far ∈ okl := List.mem_filter.mpr ⟨List.mem_of_getElem? (i := 686) (by decide +kernel), rfl⟩
theorem tk_691 : Cond.code yX3_areJoined cX3_areJoined 3 (some .boolean) ∈ okl := List.mem_filter.mpr ⟨List.mem_of_getElem? (i := 691) (by decide +kernel), rfl⟩
theorem tk_689 : Cond.instanceMethod yX3_areJoined ∈ okl := List.mem_filter.mpr ⟨List.mem_of_getElem? (i := 689) (by decide +kernel), rfl⟩
theorem tk_690 : Cond.selects RX3 yX3_areJoined yX3_areJoined ∈ okl := List.mem_filter.mpr ⟨List.mem_of_getElem? (i := 690) (by decide +kernel), rfl⟩
theorem tk_697 : Cond.code yX7_may cX7_may 4 (some .int) ∈ okl := List.mem_filter.mpr ⟨List.mem_of_getElem? (i := 697) (by decide +kernel), rfl⟩
theorem tk_695 : Cond.instanceMethod yX7_may ∈ okl := List.mem_filter.mpr ⟨List.mem_of_getElem? (i := 695) (by decide +kernel), rfl⟩
theorem tk_696 : Cond.selects RX7 yX7_may yX7_may ∈ okl := List.mem_filter.mpr ⟨List.mem_of_getElem? (i := 696) (by decide +kernel), rfl⟩
theorem tk_700 : Cond.code yX7_isMinute cX7_isMinute 1 (some .boolean) ∈ okl := List.mem_filter.mpr ⟨List.mem_of_getElem? (i := 700) (by decide +kernel), rfl⟩
theorem tk_699 : Cond.static yX7_isMinute ∈ okl := List.mem_filter.mpr ⟨List.mem_of_getElem? (i := 699) (by decide +kernel), rfl⟩
theorem tk_704 : Cond.code yX3_drunkAfter cX3_drunkAfter 3 (some .int) ∈ okl := List.mem_filter.mpr ⟨List.mem_of_getElem? (i := 704) (by decide +kernel), rfl⟩
theorem tk_702 : Cond.instanceMethod yX3_drunkAfter ∈ okl := List.mem_filter.mpr ⟨List.mem_of_getElem? (i := 702) (by decide +kernel), rfl⟩
theorem tk_703 : Cond.selects RX3 yX3_drunkAfter yX3_drunkAfter ∈ okl := List.mem_filter.mpr ⟨List.mem_of_getElem? (i := 703) (by decide +kernel), rfl⟩
theorem tk_707 : Cond.code yJ9_max_7cf53 cJ9_max_7cf53 2 (some .int) ∈ okl := List.mem_filter.mpr ⟨List.mem_of_getElem? (i := 707) (by decide +kernel), rfl⟩
theorem tk_706 : Cond.static yJ9_max_7cf53 ∈ okl := List.mem_filter.mpr ⟨List.mem_of_getElem? (i := 706) (by decide +kernel), rfl⟩
theorem tk_711 : Cond.code yX3_mayDrive cX3_mayDrive 4 (some .boolean) ∈ okl := List.mem_filter.mpr ⟨List.mem_of_getElem? (i := 711) (by decide +kernel), rfl⟩
theorem tk_709 : Cond.instanceMethod yX3_mayDrive ∈ okl := List.mem_filter.mpr ⟨List.mem_of_getElem? (i := 709) (by decide +kernel), rfl⟩
theorem tk_710 : Cond.selects RX3 yX3_mayDrive yX3_mayDrive ∈ okl := List.mem_filter.mpr ⟨List.mem_of_getElem? (i := 710) (by decide +kernel), rfl⟩
theorem tk_714 : Cond.code yX7_hasBit cX7_hasBit 2 (some .boolean) ∈ okl := List.mem_filter.mpr ⟨List.mem_of_getElem? (i := 714) (by decide +kernel), rfl⟩
theorem tk_713 : Cond.static yX7_hasBit ∈ okl := List.mem_filter.mpr ⟨List.mem_of_getElem? (i := 713) (by decide +kernel), rfl⟩
theorem tk_719 : Cond.code yX7_soon cX7_soon 3 (some .int) ∈ okl := List.mem_filter.mpr ⟨List.mem_of_getElem? (i := 719) (by decide +kernel), rfl⟩
theorem tk_717 : Cond.instanceMethod yX7_soon ∈ okl := List.mem_filter.mpr ⟨List.mem_of_getElem? (i := 717) (by decide +kernel), rfl⟩
theorem tk_718 : Cond.selects RX7 yX7_soon yX7_soon ∈ okl := List.mem_filter.mpr ⟨List.mem_of_getElem? (i := 718) (by decide +kernel), rfl⟩
theorem tk_723 : Cond.code yX7_odds cX7_odds 7 (some .int) ∈ okl := List.mem_filter.mpr ⟨List.mem_of_getElem? (i := 723) (by decide +kernel), rfl⟩
theorem tk_721 : Cond.instanceMethod yX7_odds ∈ okl := List.mem_filter.mpr ⟨List.mem_of_getElem? (i := 721) (by decide +kernel), rfl⟩
theorem tk_722 : Cond.selects RX7 yX7_odds yX7_odds ∈ okl := List.mem_filter.mpr ⟨List.mem_of_getElem? (i := 722) (by decide +kernel), rfl⟩
theorem tk_726 : Cond.code yX7_commonDivisor cX7_commonDivisor 3 (some .int) ∈ okl := List.mem_filter.mpr ⟨List.mem_of_getElem? (i := 726) (by decide +kernel), rfl⟩
theorem tk_725 : Cond.static yX7_commonDivisor ∈ okl := List.mem_filter.mpr ⟨List.mem_of_getElem? (i := 725) (by decide +kernel), rfl⟩
theorem tk_730 : Cond.code yX7_goes cX7_goes 2 (some .int) ∈ okl := List.mem_filter.mpr ⟨List.mem_of_getElem? (i := 730) (by decide +kernel), rfl⟩
theorem tk_728 : Cond.instanceMethod yX7_goes ∈ okl := List.mem_filter.mpr ⟨List.mem_of_getElem? (i := 728) (by decide +kernel), rfl⟩
theorem tk_729 : Cond.selects RX7 yX7_goes yX7_goes ∈ okl := List.mem_filter.mpr ⟨List.mem_of_getElem? (i := 729) (by decide +kernel), rfl⟩
theorem tk_734 : Cond.code yX3_carsThatGo cX3_carsThatGo 5 (some .int) ∈ okl := List.mem_filter.mpr ⟨List.mem_of_getElem? (i := 734) (by decide +kernel), rfl⟩
theorem tk_732 : Cond.instanceMethod yX3_carsThatGo ∈ okl := List.mem_filter.mpr ⟨List.mem_of_getElem? (i := 732) (by decide +kernel), rfl⟩
theorem tk_733 : Cond.selects RX3 yX3_carsThatGo yX3_carsThatGo ∈ okl := List.mem_filter.mpr ⟨List.mem_of_getElem? (i := 733) (by decide +kernel), rfl⟩
theorem tk_739 : Cond.code yX3_reaches cX3_reaches 4 (some .boolean) ∈ okl := List.mem_filter.mpr ⟨List.mem_of_getElem? (i := 739) (by decide +kernel), rfl⟩
theorem tk_737 : Cond.instanceMethod yX3_reaches ∈ okl := List.mem_filter.mpr ⟨List.mem_of_getElem? (i := 737) (by decide +kernel), rfl⟩
theorem tk_738 : Cond.selects RX3 yX3_reaches yX3_reaches ∈ okl := List.mem_filter.mpr ⟨List.mem_of_getElem? (i := 738) (by decide +kernel), rfl⟩
theorem tk_744 : Cond.code yX7_home cX7_home 3 (some .int) ∈ okl := List.mem_filter.mpr ⟨List.mem_of_getElem? (i := 744) (by decide +kernel), rfl⟩
theorem tk_742 : Cond.instanceMethod yX7_home ∈ okl := List.mem_filter.mpr ⟨List.mem_of_getElem? (i := 742) (by decide +kernel), rfl⟩
theorem tk_743 : Cond.selects RX7 yX7_home yX7_home ∈ okl := List.mem_filter.mpr ⟨List.mem_of_getElem? (i := 743) (by decide +kernel), rfl⟩
theorem tk_748 : Cond.code yX4_plan cX4_plan 4 none ∈ okl := List.mem_filter.mpr ⟨List.mem_of_getElem? (i := 748) (by decide +kernel), rfl⟩
theorem tk_746 : Cond.instanceMethod yX4_plan ∈ okl := List.mem_filter.mpr ⟨List.mem_of_getElem? (i := 746) (by decide +kernel), rfl⟩
theorem tk_747 : Cond.selects RX4 yX4_plan yX4_plan ∈ okl := List.mem_filter.mpr ⟨List.mem_of_getElem? (i := 747) (by decide +kernel), rfl⟩
theorem tk_753 : Cond.code yX4_seat cX4_seat 6 none ∈ okl := List.mem_filter.mpr ⟨List.mem_of_getElem? (i := 753) (by decide +kernel), rfl⟩
theorem tk_752 : Cond.instanceMethod yX4_seat ∈ okl := List.mem_filter.mpr ⟨List.mem_of_getElem? (i := 752) (by decide +kernel), rfl⟩
theorem tk_19 : Cond.selects RX4 yX4_seat yX4_seat ∈ okl := List.mem_filter.mpr ⟨List.mem_of_getElem? (i := 19) (by decide +kernel), rfl⟩
theorem tk_756 : Cond.code yJ6_bitCount_0f7a4 cJ6_bitCount_0f7a4 1 (some .int) ∈ okl := List.mem_filter.mpr ⟨List.mem_of_getElem? (i := 756) (by decide +kernel), rfl⟩
theorem tk_755 : Cond.static yJ6_bitCount_0f7a4 ∈ okl := List.mem_filter.mpr ⟨List.mem_of_getElem? (i := 755) (by decide +kernel), rfl⟩
theorem tk_763 : Cond.code yX4_keepIfBetter cX4_keepIfBetter 5 none ∈ okl := List.mem_filter.mpr ⟨List.mem_of_getElem? (i := 763) (by decide +kernel), rfl⟩
theorem tk_762 : Cond.instanceMethod yX4_keepIfBetter ∈ okl := List.mem_filter.mpr ⟨List.mem_of_getElem? (i := 762) (by decide +kernel), rfl⟩
theorem tk_20 : Cond.selects RX4 yX4_keepIfBetter yX4_keepIfBetter ∈ okl := List.mem_filter.mpr ⟨List.mem_of_getElem? (i := 20) (by decide +kernel), rfl⟩
theorem tk_767 : Cond.code yX4_minutesOf cX4_minutesOf 5 (some .int) ∈ okl := List.mem_filter.mpr ⟨List.mem_of_getElem? (i := 767) (by decide +kernel), rfl⟩
theorem tk_765 : Cond.instanceMethod yX4_minutesOf ∈ okl := List.mem_filter.mpr ⟨List.mem_of_getElem? (i := 765) (by decide +kernel), rfl⟩
theorem tk_766 : Cond.selects RX4 yX4_minutesOf yX4_minutesOf ∈ okl := List.mem_filter.mpr ⟨List.mem_of_getElem? (i := 766) (by decide +kernel), rfl⟩
theorem tk_772 : Cond.code yX3_siteOfOwner cX3_siteOfOwner 2 (some .int) ∈ okl := List.mem_filter.mpr ⟨List.mem_of_getElem? (i := 772) (by decide +kernel), rfl⟩
theorem tk_770 : Cond.instanceMethod yX3_siteOfOwner ∈ okl := List.mem_filter.mpr ⟨List.mem_of_getElem? (i := 770) (by decide +kernel), rfl⟩
theorem tk_771 : Cond.selects RX3 yX3_siteOfOwner yX3_siteOfOwner ∈ okl := List.mem_filter.mpr ⟨List.mem_of_getElem? (i := 771) (by decide +kernel), rfl⟩
theorem tk_776 : Cond.code yX4_walk cX4_walk 10 none ∈ okl := List.mem_filter.mpr ⟨List.mem_of_getElem? (i := 776) (by decide +kernel), rfl⟩
theorem tk_775 : Cond.instanceMethod yX4_walk ∈ okl := List.mem_filter.mpr ⟨List.mem_of_getElem? (i := 775) (by decide +kernel), rfl⟩
theorem tk_21 : Cond.selects RX4 yX4_walk yX4_walk ∈ okl := List.mem_filter.mpr ⟨List.mem_of_getElem? (i := 21) (by decide +kernel), rfl⟩
theorem tk_782 : Cond.code yX3_hasRoomFor cX3_hasRoomFor 5 (some .boolean) ∈ okl := List.mem_filter.mpr ⟨List.mem_of_getElem? (i := 782) (by decide +kernel), rfl⟩
theorem tk_780 : Cond.instanceMethod yX3_hasRoomFor ∈ okl := List.mem_filter.mpr ⟨List.mem_of_getElem? (i := 780) (by decide +kernel), rfl⟩
theorem tk_781 : Cond.selects RX3 yX3_hasRoomFor yX3_hasRoomFor ∈ okl := List.mem_filter.mpr ⟨List.mem_of_getElem? (i := 781) (by decide +kernel), rfl⟩
theorem tk_788 : Cond.code yX4_ridersOf cX4_ridersOf 2 (some .int) ∈ okl := List.mem_filter.mpr ⟨List.mem_of_getElem? (i := 788) (by decide +kernel), rfl⟩
theorem tk_786 : Cond.instanceMethod yX4_ridersOf ∈ okl := List.mem_filter.mpr ⟨List.mem_of_getElem? (i := 786) (by decide +kernel), rfl⟩
theorem tk_787 : Cond.selects RX4 yX4_ridersOf yX4_ridersOf ∈ okl := List.mem_filter.mpr ⟨List.mem_of_getElem? (i := 787) (by decide +kernel), rfl⟩
theorem tk_792 : Cond.code yX7_order cX7_order 6 (some .int) ∈ okl := List.mem_filter.mpr ⟨List.mem_of_getElem? (i := 792) (by decide +kernel), rfl⟩
theorem tk_790 : Cond.instanceMethod yX7_order ∈ okl := List.mem_filter.mpr ⟨List.mem_of_getElem? (i := 790) (by decide +kernel), rfl⟩
theorem tk_791 : Cond.selects RX7 yX7_order yX7_order ∈ okl := List.mem_filter.mpr ⟨List.mem_of_getElem? (i := 791) (by decide +kernel), rfl⟩
theorem tk_798 : Cond.code yX4_setDownAs cX4_setDownAs 5 (some .int) ∈ okl := List.mem_filter.mpr ⟨List.mem_of_getElem? (i := 798) (by decide +kernel), rfl⟩
theorem tk_796 : Cond.instanceMethod yX4_setDownAs ∈ okl := List.mem_filter.mpr ⟨List.mem_of_getElem? (i := 796) (by decide +kernel), rfl⟩
theorem tk_797 : Cond.selects RX4 yX4_setDownAs yX4_setDownAs ∈ okl := List.mem_filter.mpr ⟨List.mem_of_getElem? (i := 797) (by decide +kernel), rfl⟩
theorem tk_803 : Cond.code yX7_detour cX7_detour 6 (some .int) ∈ okl := List.mem_filter.mpr ⟨List.mem_of_getElem? (i := 803) (by decide +kernel), rfl⟩
theorem tk_801 : Cond.instanceMethod yX7_detour ∈ okl := List.mem_filter.mpr ⟨List.mem_of_getElem? (i := 801) (by decide +kernel), rfl⟩
theorem tk_802 : Cond.selects RX7 yX7_detour yX7_detour ∈ okl := List.mem_filter.mpr ⟨List.mem_of_getElem? (i := 802) (by decide +kernel), rfl⟩
theorem tk_807 : Cond.code yX7_fetch cX7_fetch 2 (some .int) ∈ okl := List.mem_filter.mpr ⟨List.mem_of_getElem? (i := 807) (by decide +kernel), rfl⟩
theorem tk_805 : Cond.instanceMethod yX7_fetch ∈ okl := List.mem_filter.mpr ⟨List.mem_of_getElem? (i := 805) (by decide +kernel), rfl⟩
theorem tk_806 : Cond.selects RX7 yX7_fetch yX7_fetch ∈ okl := List.mem_filter.mpr ⟨List.mem_of_getElem? (i := 806) (by decide +kernel), rfl⟩
theorem tk_811 : Cond.code yX3_tripsFor cX3_tripsFor 5 (some .int) ∈ okl := List.mem_filter.mpr ⟨List.mem_of_getElem? (i := 811) (by decide +kernel), rfl⟩
theorem tk_809 : Cond.instanceMethod yX3_tripsFor ∈ okl := List.mem_filter.mpr ⟨List.mem_of_getElem? (i := 809) (by decide +kernel), rfl⟩
theorem tk_810 : Cond.selects RX3 yX3_tripsFor yX3_tripsFor ∈ okl := List.mem_filter.mpr ⟨List.mem_of_getElem? (i := 810) (by decide +kernel), rfl⟩
theorem tk_815 : Cond.code yX3_peopleWhoDriveOnSunday cX3_peopleWhoDriveOnSunday 3 (some .int) ∈ okl := List.mem_filter.mpr ⟨List.mem_of_getElem? (i := 815) (by decide +kernel), rfl⟩
theorem tk_814 : Cond.instanceMethod yX3_peopleWhoDriveOnSunday ∈ okl := List.mem_filter.mpr ⟨List.mem_of_getElem? (i := 814) (by decide +kernel), rfl⟩
theorem tk_22 : Cond.selects RX3 yX3_peopleWhoDriveOnSunday yX3_peopleWhoDriveOnSunday ∈ okl := List.mem_filter.mpr ⟨List.mem_of_getElem? (i := 22) (by decide +kernel), rfl⟩
theorem tk_819 : Cond.code yX7_house cX7_house 3 (some .int) ∈ okl := List.mem_filter.mpr ⟨List.mem_of_getElem? (i := 819) (by decide +kernel), rfl⟩
theorem tk_817 : Cond.instanceMethod yX7_house ∈ okl := List.mem_filter.mpr ⟨List.mem_of_getElem? (i := 817) (by decide +kernel), rfl⟩
theorem tk_818 : Cond.selects RX7 yX7_house yX7_house ∈ okl := List.mem_filter.mpr ⟨List.mem_of_getElem? (i := 818) (by decide +kernel), rfl⟩
theorem tk_823 : Cond.code yX3_bestHouse cX3_bestHouse 5 (some .int) ∈ okl := List.mem_filter.mpr ⟨List.mem_of_getElem? (i := 823) (by decide +kernel), rfl⟩
theorem tk_821 : Cond.instanceMethod yX3_bestHouse ∈ okl := List.mem_filter.mpr ⟨List.mem_of_getElem? (i := 821) (by decide +kernel), rfl⟩
theorem tk_822 : Cond.selects RX3 yX3_bestHouse yX3_bestHouse ∈ okl := List.mem_filter.mpr ⟨List.mem_of_getElem? (i := 822) (by decide +kernel), rfl⟩
theorem tk_827 : Cond.code yX3_farFromAll cX3_farFromAll 4 (some .int) ∈ okl := List.mem_filter.mpr ⟨List.mem_of_getElem? (i := 827) (by decide +kernel), rfl⟩
theorem tk_825 : Cond.instanceMethod yX3_farFromAll ∈ okl := List.mem_filter.mpr ⟨List.mem_of_getElem? (i := 825) (by decide +kernel), rfl⟩
theorem tk_826 : Cond.selects RX3 yX3_farFromAll yX3_farFromAll ∈ okl := List.mem_filter.mpr ⟨List.mem_of_getElem? (i := 826) (by decide +kernel), rfl⟩
theorem tk_832 : Cond.code yX7_turn cX7_turn 5 (some .int) ∈ okl := List.mem_filter.mpr ⟨List.mem_of_getElem? (i := 832) (by decide +kernel), rfl⟩
theorem tk_830 : Cond.instanceMethod yX7_turn ∈ okl := List.mem_filter.mpr ⟨List.mem_of_getElem? (i := 830) (by decide +kernel), rfl⟩
theorem tk_831 : Cond.selects RX7 yX7_turn yX7_turn ∈ okl := List.mem_filter.mpr ⟨List.mem_of_getElem? (i := 831) (by decide +kernel), rfl⟩
theorem tk_836 : Cond.code yX1_countDrives cX1_countDrives 7 (some .boolean) ∈ okl := List.mem_filter.mpr ⟨List.mem_of_getElem? (i := 836) (by decide +kernel), rfl⟩
theorem tk_834 : Cond.instanceMethod yX1_countDrives ∈ okl := List.mem_filter.mpr ⟨List.mem_of_getElem? (i := 834) (by decide +kernel), rfl⟩
theorem tk_835 : Cond.selects RX1 yX1_countDrives yX1_countDrives ∈ okl := List.mem_filter.mpr ⟨List.mem_of_getElem? (i := 835) (by decide +kernel), rfl⟩
theorem tk_841 : Cond.code yX6_item cX6_item 3 (some .int) ∈ okl := List.mem_filter.mpr ⟨List.mem_of_getElem? (i := 841) (by decide +kernel), rfl⟩
theorem tk_839 : Cond.instanceMethod yX6_item ∈ okl := List.mem_filter.mpr ⟨List.mem_of_getElem? (i := 839) (by decide +kernel), rfl⟩
theorem tk_840 : Cond.selects RX6 yX6_item yX6_item ∈ okl := List.mem_filter.mpr ⟨List.mem_of_getElem? (i := 840) (by decide +kernel), rfl⟩
theorem tk_845 : Cond.code yX1_missingDrives cX1_missingDrives 5 (some .int) ∈ okl := List.mem_filter.mpr ⟨List.mem_of_getElem? (i := 845) (by decide +kernel), rfl⟩
theorem tk_843 : Cond.instanceMethod yX1_missingDrives ∈ okl := List.mem_filter.mpr ⟨List.mem_of_getElem? (i := 843) (by decide +kernel), rfl⟩
theorem tk_844 : Cond.selects RX1 yX1_missingDrives yX1_missingDrives ∈ okl := List.mem_filter.mpr ⟨List.mem_of_getElem? (i := 844) (by decide +kernel), rfl⟩
theorem tk_849 : Cond.code yX1_firstOfMost cX1_firstOfMost 4 (some .int) ∈ okl := List.mem_filter.mpr ⟨List.mem_of_getElem? (i := 849) (by decide +kernel), rfl⟩
theorem tk_847 : Cond.instanceMethod yX1_firstOfMost ∈ okl := List.mem_filter.mpr ⟨List.mem_of_getElem? (i := 847) (by decide +kernel), rfl⟩
theorem tk_848 : Cond.selects RX1 yX1_firstOfMost yX1_firstOfMost ∈ okl := List.mem_filter.mpr ⟨List.mem_of_getElem? (i := 848) (by decide +kernel), rfl⟩
theorem tk_853 : Cond.code yX1_firstOfFewest cX1_firstOfFewest 4 (some .int) ∈ okl := List.mem_filter.mpr ⟨List.mem_of_getElem? (i := 853) (by decide +kernel), rfl⟩
theorem tk_851 : Cond.instanceMethod yX1_firstOfFewest ∈ okl := List.mem_filter.mpr ⟨List.mem_of_getElem? (i := 851) (by decide +kernel), rfl⟩
theorem tk_852 : Cond.selects RX1 yX1_firstOfFewest yX1_firstOfFewest ∈ okl := List.mem_filter.mpr ⟨List.mem_of_getElem? (i := 852) (by decide +kernel), rfl⟩
theorem tk_857 : Cond.code yX7_gloves cX7_gloves 4 (some .int) ∈ okl := List.mem_filter.mpr ⟨List.mem_of_getElem? (i := 857) (by decide +kernel), rfl⟩
theorem tk_855 : Cond.instanceMethod yX7_gloves ∈ okl := List.mem_filter.mpr ⟨List.mem_of_getElem? (i := 855) (by decide +kernel), rfl⟩
theorem tk_856 : Cond.selects RX7 yX7_gloves yX7_gloves ∈ okl := List.mem_filter.mpr ⟨List.mem_of_getElem? (i := 856) (by decide +kernel), rfl⟩
theorem tk_861 : Cond.code yX1_countSitters cX1_countSitters 9 (some .boolean) ∈ okl := List.mem_filter.mpr ⟨List.mem_of_getElem? (i := 861) (by decide +kernel), rfl⟩
theorem tk_859 : Cond.instanceMethod yX1_countSitters ∈ okl := List.mem_filter.mpr ⟨List.mem_of_getElem? (i := 859) (by decide +kernel), rfl⟩
theorem tk_860 : Cond.selects RX1 yX1_countSitters yX1_countSitters ∈ okl := List.mem_filter.mpr ⟨List.mem_of_getElem? (i := 860) (by decide +kernel), rfl⟩
theorem tk_866 : Cond.code yX7_image cX7_image 2 (some .int) ∈ okl := List.mem_filter.mpr ⟨List.mem_of_getElem? (i := 866) (by decide +kernel), rfl⟩
theorem tk_864 : Cond.instanceMethod yX7_image ∈ okl := List.mem_filter.mpr ⟨List.mem_of_getElem? (i := 864) (by decide +kernel), rfl⟩
theorem tk_865 : Cond.selects RX7 yX7_image yX7_image ∈ okl := List.mem_filter.mpr ⟨List.mem_of_getElem? (i := 865) (by decide +kernel), rfl⟩
theorem tk_870 : Cond.code yX3_takeFrom cX3_takeFrom 2 none ∈ okl := List.mem_filter.mpr ⟨List.mem_of_getElem? (i := 870) (by decide +kernel), rfl⟩
theorem tk_868 : Cond.instanceMethod yX3_takeFrom ∈ okl := List.mem_filter.mpr ⟨List.mem_of_getElem? (i := 868) (by decide +kernel), rfl⟩
theorem tk_869 : Cond.selects RX3 yX3_takeFrom yX3_takeFrom ∈ okl := List.mem_filter.mpr ⟨List.mem_of_getElem? (i := 869) (by decide +kernel), rfl⟩
theorem tk_875 : Cond.code yX7_restore cX7_restore 2 (some .int) ∈ okl := List.mem_filter.mpr ⟨List.mem_of_getElem? (i := 875) (by decide +kernel), rfl⟩
theorem tk_873 : Cond.instanceMethod yX7_restore ∈ okl := List.mem_filter.mpr ⟨List.mem_of_getElem? (i := 873) (by decide +kernel), rfl⟩
theorem tk_874 : Cond.selects RX7 yX7_restore yX7_restore ∈ okl := List.mem_filter.mpr ⟨List.mem_of_getElem? (i := 874) (by decide +kernel), rfl⟩
theorem tk_879 : Cond.code yX7_kind cX7_kind 2 (some .int) ∈ okl := List.mem_filter.mpr ⟨List.mem_of_getElem? (i := 879) (by decide +kernel), rfl⟩
theorem tk_877 : Cond.instanceMethod yX7_kind ∈ okl := List.mem_filter.mpr ⟨List.mem_of_getElem? (i := 877) (by decide +kernel), rfl⟩
theorem tk_878 : Cond.selects RX7 yX7_kind yX7_kind ∈ okl := List.mem_filter.mpr ⟨List.mem_of_getElem? (i := 878) (by decide +kernel), rfl⟩
theorem tk_883 : Cond.code yX7_as cX7_as 3 (some .int) ∈ okl := List.mem_filter.mpr ⟨List.mem_of_getElem? (i := 883) (by decide +kernel), rfl⟩
theorem tk_881 : Cond.instanceMethod yX7_as ∈ okl := List.mem_filter.mpr ⟨List.mem_of_getElem? (i := 881) (by decide +kernel), rfl⟩
theorem tk_882 : Cond.selects RX7 yX7_as yX7_as ∈ okl := List.mem_filter.mpr ⟨List.mem_of_getElem? (i := 882) (by decide +kernel), rfl⟩
theorem tk_888 : Cond.code yX7_ask cX7_ask 3 (some .int) ∈ okl := List.mem_filter.mpr ⟨List.mem_of_getElem? (i := 888) (by decide +kernel), rfl⟩
theorem tk_886 : Cond.instanceMethod yX7_ask ∈ okl := List.mem_filter.mpr ⟨List.mem_of_getElem? (i := 886) (by decide +kernel), rfl⟩
theorem tk_887 : Cond.selects RX7 yX7_ask yX7_ask ∈ okl := List.mem_filter.mpr ⟨List.mem_of_getElem? (i := 887) (by decide +kernel), rfl⟩
theorem tk_892 : Cond.code yX0_forget cX0_forget 1 none ∈ okl := List.mem_filter.mpr ⟨List.mem_of_getElem? (i := 892) (by decide +kernel), rfl⟩
theorem tk_890 : Cond.instanceMethod yX0_forget ∈ okl := List.mem_filter.mpr ⟨List.mem_of_getElem? (i := 890) (by decide +kernel), rfl⟩
theorem tk_891 : Cond.selects RX0 yX0_forget yX0_forget ∈ okl := List.mem_filter.mpr ⟨List.mem_of_getElem? (i := 891) (by decide +kernel), rfl⟩
theorem tk_896 : Cond.code yX0_pose cX0_pose 8 (some .int) ∈ okl := List.mem_filter.mpr ⟨List.mem_of_getElem? (i := 896) (by decide +kernel), rfl⟩
theorem tk_894 : Cond.instanceMethod yX0_pose ∈ okl := List.mem_filter.mpr ⟨List.mem_of_getElem? (i := 894) (by decide +kernel), rfl⟩
theorem tk_895 : Cond.selects RX0 yX0_pose yX0_pose ∈ okl := List.mem_filter.mpr ⟨List.mem_of_getElem? (i := 895) (by decide +kernel), rfl⟩
theorem tk_906 : Cond.code yX0_begin cX0_begin 6 (some .int) ∈ okl := List.mem_filter.mpr ⟨List.mem_of_getElem? (i := 906) (by decide +kernel), rfl⟩
theorem tk_905 : Cond.instanceMethod yX0_begin ∈ okl := List.mem_filter.mpr ⟨List.mem_of_getElem? (i := 905) (by decide +kernel), rfl⟩
theorem tk_23 : Cond.selects RX0 yX0_begin yX0_begin ∈ okl := List.mem_filter.mpr ⟨List.mem_of_getElem? (i := 23) (by decide +kernel), rfl⟩
theorem tk_910 : Cond.code yX0_leave cX0_leave 2 none ∈ okl := List.mem_filter.mpr ⟨List.mem_of_getElem? (i := 910) (by decide +kernel), rfl⟩
theorem tk_909 : Cond.instanceMethod yX0_leave ∈ okl := List.mem_filter.mpr ⟨List.mem_of_getElem? (i := 909) (by decide +kernel), rfl⟩
theorem tk_24 : Cond.selects RX0 yX0_leave yX0_leave ∈ okl := List.mem_filter.mpr ⟨List.mem_of_getElem? (i := 24) (by decide +kernel), rfl⟩
theorem tk_915 : Cond.code yX7_trace cX7_trace 2 (some .int) ∈ okl := List.mem_filter.mpr ⟨List.mem_of_getElem? (i := 915) (by decide +kernel), rfl⟩
theorem tk_913 : Cond.instanceMethod yX7_trace ∈ okl := List.mem_filter.mpr ⟨List.mem_of_getElem? (i := 913) (by decide +kernel), rfl⟩
theorem tk_914 : Cond.selects RX7 yX7_trace yX7_trace ∈ okl := List.mem_filter.mpr ⟨List.mem_of_getElem? (i := 914) (by decide +kernel), rfl⟩
theorem tk_919 : Cond.code yX7_count cX7_count 2 (some .int) ∈ okl := List.mem_filter.mpr ⟨List.mem_of_getElem? (i := 919) (by decide +kernel), rfl⟩
theorem tk_917 : Cond.instanceMethod yX7_count ∈ okl := List.mem_filter.mpr ⟨List.mem_of_getElem? (i := 917) (by decide +kernel), rfl⟩
theorem tk_918 : Cond.selects RX7 yX7_count yX7_count ∈ okl := List.mem_filter.mpr ⟨List.mem_of_getElem? (i := 918) (by decide +kernel), rfl⟩
theorem tk_923 : Cond.code yX6_present cX6_present 3 (some .int) ∈ okl := List.mem_filter.mpr ⟨List.mem_of_getElem? (i := 923) (by decide +kernel), rfl⟩
theorem tk_921 : Cond.instanceMethod yX6_present ∈ okl := List.mem_filter.mpr ⟨List.mem_of_getElem? (i := 921) (by decide +kernel), rfl⟩
theorem tk_922 : Cond.selects RX6 yX6_present yX6_present ∈ okl := List.mem_filter.mpr ⟨List.mem_of_getElem? (i := 922) (by decide +kernel), rfl⟩
theorem tk_928 : Cond.code yX3_glassesInAll cX3_glassesInAll 3 (some .int) ∈ okl := List.mem_filter.mpr ⟨List.mem_of_getElem? (i := 928) (by decide +kernel), rfl⟩
theorem tk_926 : Cond.instanceMethod yX3_glassesInAll ∈ okl := List.mem_filter.mpr ⟨List.mem_of_getElem? (i := 926) (by decide +kernel), rfl⟩
theorem tk_927 : Cond.selects RX3 yX3_glassesInAll yX3_glassesInAll ∈ okl := List.mem_filter.mpr ⟨List.mem_of_getElem? (i := 927) (by decide +kernel), rfl⟩
theorem tk_932 : Cond.code yX7_status cX7_status 1 (some .int) ∈ okl := List.mem_filter.mpr ⟨List.mem_of_getElem? (i := 932) (by decide +kernel), rfl⟩
theorem tk_930 : Cond.instanceMethod yX7_status ∈ okl := List.mem_filter.mpr ⟨List.mem_of_getElem? (i := 930) (by decide +kernel), rfl⟩
theorem tk_931 : Cond.selects RX7 yX7_status yX7_status ∈ okl := List.mem_filter.mpr ⟨List.mem_of_getElem? (i := 931) (by decide +kernel), rfl⟩
theorem tk_937 : Cond.code yX8_init cX8_init 1 none ∈ okl := List.mem_filter.mpr ⟨List.mem_of_getElem? (i := 937) (by decide +kernel), rfl⟩
theorem tk_1055 : Cond.code yX8_row cX8_row 5 (some .int) ∈ okl := List.mem_filter.mpr ⟨List.mem_of_getElem? (i := 1055) (by decide +kernel), rfl⟩
theorem tk_1053 : Cond.instanceMethod yX8_row ∈ okl := List.mem_filter.mpr ⟨List.mem_of_getElem? (i := 1053) (by decide +kernel), rfl⟩
theorem tk_1054 : Cond.selects RX8 yX8_row yX8_row ∈ okl := List.mem_filter.mpr ⟨List.mem_of_getElem? (i := 1054) (by decide +kernel), rfl⟩
theorem tk_1058 : Cond.code yX8_isRow cX8_isRow 1 (some .boolean) ∈ okl := List.mem_filter.mpr ⟨List.mem_of_getElem? (i := 1058) (by decide +kernel), rfl⟩
theorem tk_1057 : Cond.static yX8_isRow ∈ okl := List.mem_filter.mpr ⟨List.mem_of_getElem? (i := 1057) (by decide +kernel), rfl⟩
theorem tk_1062 : Cond.code yX8_in cX8_in 6 (some .boolean) ∈ okl := List.mem_filter.mpr ⟨List.mem_of_getElem? (i := 1062) (by decide +kernel), rfl⟩
theorem tk_1061 : Cond.static yX8_in ∈ okl := List.mem_filter.mpr ⟨List.mem_of_getElem? (i := 1061) (by decide +kernel), rfl⟩
theorem tk_1068 : Cond.code yX8_finding cX8_finding 2 (some .int) ∈ okl := List.mem_filter.mpr ⟨List.mem_of_getElem? (i := 1068) (by decide +kernel), rfl⟩
theorem tk_1067 : Cond.instanceMethod yX8_finding ∈ okl := List.mem_filter.mpr ⟨List.mem_of_getElem? (i := 1067) (by decide +kernel), rfl⟩
theorem tk_25 : Cond.selects RX8 yX8_finding yX8_finding ∈ okl := List.mem_filter.mpr ⟨List.mem_of_getElem? (i := 25) (by decide +kernel), rfl⟩
theorem tk_1073 : Cond.code yX8_set cX8_set 4 (some .int) ∈ okl := List.mem_filter.mpr ⟨List.mem_of_getElem? (i := 1073) (by decide +kernel), rfl⟩
theorem tk_1071 : Cond.instanceMethod yX8_set ∈ okl := List.mem_filter.mpr ⟨List.mem_of_getElem? (i := 1071) (by decide +kernel), rfl⟩
theorem tk_1072 : Cond.selects RX8 yX8_set yX8_set ∈ okl := List.mem_filter.mpr ⟨List.mem_of_getElem? (i := 1072) (by decide +kernel), rfl⟩
theorem tk_1077 : Cond.code yX8_copy cX8_copy 9 (some .int) ∈ okl := List.mem_filter.mpr ⟨List.mem_of_getElem? (i := 1077) (by decide +kernel), rfl⟩
theorem tk_1075 : Cond.instanceMethod yX8_copy ∈ okl := List.mem_filter.mpr ⟨List.mem_of_getElem? (i := 1075) (by decide +kernel), rfl⟩
theorem tk_1076 : Cond.selects RX8 yX8_copy yX8_copy ∈ okl := List.mem_filter.mpr ⟨List.mem_of_getElem? (i := 1076) (by decide +kernel), rfl⟩
theorem tk_1081 : Cond.code yX8_drop cX8_drop 2 (some .int) ∈ okl := List.mem_filter.mpr ⟨List.mem_of_getElem? (i := 1081) (by decide +kernel), rfl⟩
theorem tk_1079 : Cond.instanceMethod yX8_drop ∈ okl := List.mem_filter.mpr ⟨List.mem_of_getElem? (i := 1079) (by decide +kernel), rfl⟩
theorem tk_1080 : Cond.selects RX8 yX8_drop yX8_drop ∈ okl := List.mem_filter.mpr ⟨List.mem_of_getElem? (i := 1080) (by decide +kernel), rfl⟩
theorem tk_1085 : Cond.code yX8_feed cX8_feed 5 (some .int) ∈ okl := List.mem_filter.mpr ⟨List.mem_of_getElem? (i := 1085) (by decide +kernel), rfl⟩
theorem tk_1083 : Cond.instanceMethod yX8_feed ∈ okl := List.mem_filter.mpr ⟨List.mem_of_getElem? (i := 1083) (by decide +kernel), rfl⟩
theorem tk_1084 : Cond.selects RX8 yX8_feed yX8_feed ∈ okl := List.mem_filter.mpr ⟨List.mem_of_getElem? (i := 1084) (by decide +kernel), rfl⟩
theorem tk_1092 : Cond.code yX8_evening cX8_evening 2 (some .int) ∈ okl := List.mem_filter.mpr ⟨List.mem_of_getElem? (i := 1092) (by decide +kernel), rfl⟩
theorem tk_1090 : Cond.instanceMethod yX8_evening ∈ okl := List.mem_filter.mpr ⟨List.mem_of_getElem? (i := 1090) (by decide +kernel), rfl⟩
theorem tk_1091 : Cond.selects RX8 yX8_evening yX8_evening ∈ okl := List.mem_filter.mpr ⟨List.mem_of_getElem? (i := 1091) (by decide +kernel), rfl⟩
theorem tk_1096 : Cond.code yX8_begin cX8_begin 1 none ∈ okl := List.mem_filter.mpr ⟨List.mem_of_getElem? (i := 1096) (by decide +kernel), rfl⟩
theorem tk_1095 : Cond.instanceMethod yX8_begin ∈ okl := List.mem_filter.mpr ⟨List.mem_of_getElem? (i := 1095) (by decide +kernel), rfl⟩
theorem tk_26 : Cond.selects RX8 yX8_begin yX8_begin ∈ okl := List.mem_filter.mpr ⟨List.mem_of_getElem? (i := 26) (by decide +kernel), rfl⟩
theorem tk_1100 : Cond.code yX8_next cX8_next 2 none ∈ okl := List.mem_filter.mpr ⟨List.mem_of_getElem? (i := 1100) (by decide +kernel), rfl⟩
theorem tk_1099 : Cond.instanceMethod yX8_next ∈ okl := List.mem_filter.mpr ⟨List.mem_of_getElem? (i := 1099) (by decide +kernel), rfl⟩
theorem tk_27 : Cond.selects RX8 yX8_next yX8_next ∈ okl := List.mem_filter.mpr ⟨List.mem_of_getElem? (i := 27) (by decide +kernel), rfl⟩
theorem tk_1104 : Cond.code yX8_byteAt cX8_byteAt 2 (some .int) ∈ okl := List.mem_filter.mpr ⟨List.mem_of_getElem? (i := 1104) (by decide +kernel), rfl⟩
theorem tk_1103 : Cond.instanceMethod yX8_byteAt ∈ okl := List.mem_filter.mpr ⟨List.mem_of_getElem? (i := 1103) (by decide +kernel), rfl⟩
theorem tk_28 : Cond.selects RX8 yX8_byteAt yX8_byteAt ∈ okl := List.mem_filter.mpr ⟨List.mem_of_getElem? (i := 28) (by decide +kernel), rfl⟩
theorem tk_1108 : Cond.code yX8_isLetter cX8_isLetter 1 (some .boolean) ∈ okl := List.mem_filter.mpr ⟨List.mem_of_getElem? (i := 1108) (by decide +kernel), rfl⟩
theorem tk_1107 : Cond.static yX8_isLetter ∈ okl := List.mem_filter.mpr ⟨List.mem_of_getElem? (i := 1107) (by decide +kernel), rfl⟩
theorem tk_1111 : Cond.code yX8_isFigure cX8_isFigure 1 (some .boolean) ∈ okl := List.mem_filter.mpr ⟨List.mem_of_getElem? (i := 1111) (by decide +kernel), rfl⟩
theorem tk_1110 : Cond.static yX8_isFigure ∈ okl := List.mem_filter.mpr ⟨List.mem_of_getElem? (i := 1110) (by decide +kernel), rfl⟩
theorem tk_1115 : Cond.code yX8_name cX8_name 4 (some .long) ∈ okl := List.mem_filter.mpr ⟨List.mem_of_getElem? (i := 1115) (by decide +kernel), rfl⟩
theorem tk_1114 : Cond.instanceMethod yX8_name ∈ okl := List.mem_filter.mpr ⟨List.mem_of_getElem? (i := 1114) (by decide +kernel), rfl⟩
theorem tk_29 : Cond.selects RX8 yX8_name yX8_name ∈ okl := List.mem_filter.mpr ⟨List.mem_of_getElem? (i := 29) (by decide +kernel), rfl⟩
theorem tk_1120 : Cond.code yX8_must cX8_must 2 none ∈ okl := List.mem_filter.mpr ⟨List.mem_of_getElem? (i := 1120) (by decide +kernel), rfl⟩
theorem tk_1119 : Cond.instanceMethod yX8_must ∈ okl := List.mem_filter.mpr ⟨List.mem_of_getElem? (i := 1119) (by decide +kernel), rfl⟩
theorem tk_30 : Cond.selects RX8 yX8_must yX8_must ∈ okl := List.mem_filter.mpr ⟨List.mem_of_getElem? (i := 30) (by decide +kernel), rfl⟩
theorem tk_1124 : Cond.code yX8_bad cX8_bad 2 none ∈ okl := List.mem_filter.mpr ⟨List.mem_of_getElem? (i := 1124) (by decide +kernel), rfl⟩
theorem tk_1123 : Cond.instanceMethod yX8_bad ∈ okl := List.mem_filter.mpr ⟨List.mem_of_getElem? (i := 1123) (by decide +kernel), rfl⟩
theorem tk_31 : Cond.selects RX8 yX8_bad yX8_bad ∈ okl := List.mem_filter.mpr ⟨List.mem_of_getElem? (i := 31) (by decide +kernel), rfl⟩
theorem tk_1128 : Cond.code yX8_number cX8_number 4 (some .int) ∈ okl := List.mem_filter.mpr ⟨List.mem_of_getElem? (i := 1128) (by decide +kernel), rfl⟩
theorem tk_1127 : Cond.instanceMethod yX8_number ∈ okl := List.mem_filter.mpr ⟨List.mem_of_getElem? (i := 1127) (by decide +kernel), rfl⟩
theorem tk_32 : Cond.selects RX8 yX8_number yX8_number ∈ okl := List.mem_filter.mpr ⟨List.mem_of_getElem? (i := 32) (by decide +kernel), rfl⟩
theorem tk_1132 : Cond.code yX8_figures cX8_figures 3 (some .int) ∈ okl := List.mem_filter.mpr ⟨List.mem_of_getElem? (i := 1132) (by decide +kernel), rfl⟩
theorem tk_1131 : Cond.instanceMethod yX8_figures ∈ okl := List.mem_filter.mpr ⟨List.mem_of_getElem? (i := 1131) (by decide +kernel), rfl⟩
theorem tk_33 : Cond.selects RX8 yX8_figures yX8_figures ∈ okl := List.mem_filter.mpr ⟨List.mem_of_getElem? (i := 33) (by decide +kernel), rfl⟩
theorem tk_1136 : Cond.code yX8_mustEnd cX8_mustEnd 1 none ∈ okl := List.mem_filter.mpr ⟨List.mem_of_getElem? (i := 1136) (by decide +kernel), rfl⟩
theorem tk_1135 : Cond.instanceMethod yX8_mustEnd ∈ okl := List.mem_filter.mpr ⟨List.mem_of_getElem? (i := 1135) (by decide +kernel), rfl⟩
theorem tk_34 : Cond.selects RX8 yX8_mustEnd yX8_mustEnd ∈ okl := List.mem_filter.mpr ⟨List.mem_of_getElem? (i := 34) (by decide +kernel), rfl⟩
theorem tk_1141 : Cond.code yX8_readWay cX8_readWay 5 none ∈ okl := List.mem_filter.mpr ⟨List.mem_of_getElem? (i := 1141) (by decide +kernel), rfl⟩
theorem tk_1140 : Cond.instanceMethod yX8_readWay ∈ okl := List.mem_filter.mpr ⟨List.mem_of_getElem? (i := 1140) (by decide +kernel), rfl⟩
theorem tk_35 : Cond.selects RX8 yX8_readWay yX8_readWay ∈ okl := List.mem_filter.mpr ⟨List.mem_of_getElem? (i := 35) (by decide +kernel), rfl⟩
theorem tk_1145 : Cond.code yX8_begins cX8_begins 3 none ∈ okl := List.mem_filter.mpr ⟨List.mem_of_getElem? (i := 1145) (by decide +kernel), rfl⟩
theorem tk_1144 : Cond.instanceMethod yX8_begins ∈ okl := List.mem_filter.mpr ⟨List.mem_of_getElem? (i := 1144) (by decide +kernel), rfl⟩
theorem tk_36 : Cond.selects RX8 yX8_begins yX8_begins ∈ okl := List.mem_filter.mpr ⟨List.mem_of_getElem? (i := 36) (by decide +kernel), rfl⟩
theorem tk_1149 : Cond.code yX8_unlike cX8_unlike 4 (some .int) ∈ okl := List.mem_filter.mpr ⟨List.mem_of_getElem? (i := 1149) (by decide +kernel), rfl⟩
theorem tk_1148 : Cond.instanceMethod yX8_unlike ∈ okl := List.mem_filter.mpr ⟨List.mem_of_getElem? (i := 1148) (by decide +kernel), rfl⟩
theorem tk_37 : Cond.selects RX8 yX8_unlike yX8_unlike ∈ okl := List.mem_filter.mpr ⟨List.mem_of_getElem? (i := 37) (by decide +kernel), rfl⟩
theorem tk_1154 : Cond.code yX8_readHill cX8_readHill 2 none ∈ okl := List.mem_filter.mpr ⟨List.mem_of_getElem? (i := 1154) (by decide +kernel), rfl⟩
theorem tk_1153 : Cond.instanceMethod yX8_readHill ∈ okl := List.mem_filter.mpr ⟨List.mem_of_getElem? (i := 1153) (by decide +kernel), rfl⟩
theorem tk_38 : Cond.selects RX8 yX8_readHill yX8_readHill ∈ okl := List.mem_filter.mpr ⟨List.mem_of_getElem? (i := 38) (by decide +kernel), rfl⟩
theorem tk_1159 : Cond.code yX8_readPerson cX8_readPerson 5 none ∈ okl := List.mem_filter.mpr ⟨List.mem_of_getElem? (i := 1159) (by decide +kernel), rfl⟩
theorem tk_1158 : Cond.instanceMethod yX8_readPerson ∈ okl := List.mem_filter.mpr ⟨List.mem_of_getElem? (i := 1158) (by decide +kernel), rfl⟩
theorem tk_39 : Cond.selects RX8 yX8_readPerson yX8_readPerson ∈ okl := List.mem_filter.mpr ⟨List.mem_of_getElem? (i := 39) (by decide +kernel), rfl⟩
theorem tk_1162 : Cond.code yX8_kindBy cX8_kindBy 2 (some .int) ∈ okl := List.mem_filter.mpr ⟨List.mem_of_getElem? (i := 1162) (by decide +kernel), rfl⟩
theorem tk_1161 : Cond.static yX8_kindBy ∈ okl := List.mem_filter.mpr ⟨List.mem_of_getElem? (i := 1161) (by decide +kernel), rfl⟩
theorem tk_1172 : Cond.code yX8_readCar cX8_readCar 5 none ∈ okl := List.mem_filter.mpr ⟨List.mem_of_getElem? (i := 1172) (by decide +kernel), rfl⟩
theorem tk_1171 : Cond.instanceMethod yX8_readCar ∈ okl := List.mem_filter.mpr ⟨List.mem_of_getElem? (i := 1171) (by decide +kernel), rfl⟩
theorem tk_40 : Cond.selects RX8 yX8_readCar yX8_readCar ∈ okl := List.mem_filter.mpr ⟨List.mem_of_getElem? (i := 40) (by decide +kernel), rfl⟩
theorem tk_1176 : Cond.code yX8_isOwner cX8_isOwner 4 (some .boolean) ∈ okl := List.mem_filter.mpr ⟨List.mem_of_getElem? (i := 1176) (by decide +kernel), rfl⟩
theorem tk_1175 : Cond.instanceMethod yX8_isOwner ∈ okl := List.mem_filter.mpr ⟨List.mem_of_getElem? (i := 1175) (by decide +kernel), rfl⟩
theorem tk_41 : Cond.selects RX8 yX8_isOwner yX8_isOwner ∈ okl := List.mem_filter.mpr ⟨List.mem_of_getElem? (i := 41) (by decide +kernel), rfl⟩
theorem tk_1181 : Cond.code yX8_readQuarrel cX8_readQuarrel 3 none ∈ okl := List.mem_filter.mpr ⟨List.mem_of_getElem? (i := 1181) (by decide +kernel), rfl⟩
theorem tk_1180 : Cond.instanceMethod yX8_readQuarrel ∈ okl := List.mem_filter.mpr ⟨List.mem_of_getElem? (i := 1180) (by decide +kernel), rfl⟩
theorem tk_42 : Cond.selects RX8 yX8_readQuarrel yX8_readQuarrel ∈ okl := List.mem_filter.mpr ⟨List.mem_of_getElem? (i := 42) (by decide +kernel), rfl⟩
theorem tk_1186 : Cond.code yX8_layFar cX8_layFar 5 none ∈ okl := List.mem_filter.mpr ⟨List.mem_of_getElem? (i := 1186) (by decide +kernel), rfl⟩
theorem tk_1185 : Cond.instanceMethod yX8_layFar ∈ okl := List.mem_filter.mpr ⟨List.mem_of_getElem? (i := 1185) (by decide +kernel), rfl⟩
theorem tk_43 : Cond.selects RX8 yX8_layFar yX8_layFar ∈ okl := List.mem_filter.mpr ⟨List.mem_of_getElem? (i := 43) (by decide +kernel), rfl⟩
theorem tk_1190 : Cond.code yX8_fault cX8_fault 1 (some .int) ∈ okl := List.mem_filter.mpr ⟨List.mem_of_getElem? (i := 1190) (by decide +kernel), rfl⟩
theorem tk_1188 : Cond.instanceMethod yX8_fault ∈ okl := List.mem_filter.mpr ⟨List.mem_of_getElem? (i := 1188) (by decide +kernel), rfl⟩
theorem tk_1189 : Cond.selects RX8 yX8_fault yX8_fault ∈ okl := List.mem_filter.mpr ⟨List.mem_of_getElem? (i := 1189) (by decide +kernel), rfl⟩
theorem tk_1194 : Cond.code yX8_drink cX8_drink 5 (some .int) ∈ okl := List.mem_filter.mpr ⟨List.mem_of_getElem? (i := 1194) (by decide +kernel), rfl⟩
theorem tk_1192 : Cond.instanceMethod yX8_drink ∈ okl := List.mem_filter.mpr ⟨List.mem_of_getElem? (i := 1192) (by decide +kernel), rfl⟩
theorem tk_1193 : Cond.selects RX8 yX8_drink yX8_drink ∈ okl := List.mem_filter.mpr ⟨List.mem_of_getElem? (i := 1193) (by decide +kernel), rfl⟩
theorem tk_1198 : Cond.code yX8_isPerson cX8_isPerson 2 (some .boolean) ∈ okl := List.mem_filter.mpr ⟨List.mem_of_getElem? (i := 1198) (by decide +kernel), rfl⟩
theorem tk_1197 : Cond.instanceMethod yX8_isPerson ∈ okl := List.mem_filter.mpr ⟨List.mem_of_getElem? (i := 1197) (by decide +kernel), rfl⟩
theorem tk_44 : Cond.selects RX8 yX8_isPerson yX8_isPerson ∈ okl := List.mem_filter.mpr ⟨List.mem_of_getElem? (i := 44) (by decide +kernel), rfl⟩
theorem tk_1203 : Cond.code yX8_of cX8_of 3 (some .int) ∈ okl := List.mem_filter.mpr ⟨List.mem_of_getElem? (i := 1203) (by decide +kernel), rfl⟩
theorem tk_1202 : Cond.instanceMethod yX8_of ∈ okl := List.mem_filter.mpr ⟨List.mem_of_getElem? (i := 1202) (by decide +kernel), rfl⟩
theorem tk_45 : Cond.selects RX8 yX8_of yX8_of ∈ okl := List.mem_filter.mpr ⟨List.mem_of_getElem? (i := 45) (by decide +kernel), rfl⟩
theorem tk_1207 : Cond.code yX8_undo cX8_undo 1 (some .int) ∈ okl := List.mem_filter.mpr ⟨List.mem_of_getElem? (i := 1207) (by decide +kernel), rfl⟩
theorem tk_1205 : Cond.instanceMethod yX8_undo ∈ okl := List.mem_filter.mpr ⟨List.mem_of_getElem? (i := 1205) (by decide +kernel), rfl⟩
theorem tk_1206 : Cond.selects RX8 yX8_undo yX8_undo ∈ okl := List.mem_filter.mpr ⟨List.mem_of_getElem? (i := 1206) (by decide +kernel), rfl⟩
theorem tk_1212 : Cond.code yX8_person cX8_person 3 (some .int) ∈ okl := List.mem_filter.mpr ⟨List.mem_of_getElem? (i := 1212) (by decide +kernel), rfl⟩
theorem tk_1210 : Cond.instanceMethod yX8_person ∈ okl := List.mem_filter.mpr ⟨List.mem_of_getElem? (i := 1210) (by decide +kernel), rfl⟩
theorem tk_1211 : Cond.selects RX8 yX8_person yX8_person ∈ okl := List.mem_filter.mpr ⟨List.mem_of_getElem? (i := 1211) (by decide +kernel), rfl⟩
theorem tk_1217 : Cond.code yX8_carOf cX8_carOf 3 (some .int) ∈ okl := List.mem_filter.mpr ⟨List.mem_of_getElem? (i := 1217) (by decide +kernel), rfl⟩
theorem tk_1216 : Cond.instanceMethod yX8_carOf ∈ okl := List.mem_filter.mpr ⟨List.mem_of_getElem? (i := 1216) (by decide +kernel), rfl⟩
theorem tk_46 : Cond.selects RX8 yX8_carOf yX8_carOf ∈ okl := List.mem_filter.mpr ⟨List.mem_of_getElem? (i := 46) (by decide +kernel), rfl⟩
theorem tk_1221 : Cond.code yX8_car0 cX8_car0 3 (some .int) ∈ okl := List.mem_filter.mpr ⟨List.mem_of_getElem? (i := 1221) (by decide +kernel), rfl⟩
theorem tk_1220 : Cond.instanceMethod yX8_car0 ∈ okl := List.mem_filter.mpr ⟨List.mem_of_getElem? (i := 1220) (by decide +kernel), rfl⟩
theorem tk_47 : Cond.selects RX8 yX8_car0 yX8_car0 ∈ okl := List.mem_filter.mpr ⟨List.mem_of_getElem? (i := 47) (by decide +kernel), rfl⟩
theorem tk_1225 : Cond.code yX8_car cX8_car 3 (some .int) ∈ okl := List.mem_filter.mpr ⟨List.mem_of_getElem? (i := 1225) (by decide +kernel), rfl⟩
theorem tk_1223 : Cond.instanceMethod yX8_car ∈ okl := List.mem_filter.mpr ⟨List.mem_of_getElem? (i := 1223) (by decide +kernel), rfl⟩
theorem tk_1224 : Cond.selects RX8 yX8_car yX8_car ∈ okl := List.mem_filter.mpr ⟨List.mem_of_getElem? (i := 1224) (by decide +kernel), rfl⟩
theorem tk_1229 : Cond.code yX8_isCar cX8_isCar 2 (some .boolean) ∈ okl := List.mem_filter.mpr ⟨List.mem_of_getElem? (i := 1229) (by decide +kernel), rfl⟩
theorem tk_1228 : Cond.instanceMethod yX8_isCar ∈ okl := List.mem_filter.mpr ⟨List.mem_of_getElem? (i := 1228) (by decide +kernel), rfl⟩
theorem tk_48 : Cond.selects RX8 yX8_isCar yX8_isCar ∈ okl := List.mem_filter.mpr ⟨List.mem_of_getElem? (i := 48) (by decide +kernel), rfl⟩
theorem tk_1233 : Cond.code yX8_far cX8_far 3 (some .int) ∈ okl := List.mem_filter.mpr ⟨List.mem_of_getElem? (i := 1233) (by decide +kernel), rfl⟩
theorem tk_1231 : Cond.instanceMethod yX8_far ∈ okl := List.mem_filter.mpr ⟨List.mem_of_getElem? (i := 1231) (by decide +kernel), rfl⟩
theorem tk_1232 : Cond.selects RX8 yX8_far yX8_far ∈ okl := List.mem_filter.mpr ⟨List.mem_of_getElem? (i := 1232) (by decide +kernel), rfl⟩
theorem tk_1237 : Cond.code yX8_farOf cX8_farOf 3 (some .int) ∈ okl := List.mem_filter.mpr ⟨List.mem_of_getElem? (i := 1237) (by decide +kernel), rfl⟩
theorem tk_1236 : Cond.instanceMethod yX8_farOf ∈ okl := List.mem_filter.mpr ⟨List.mem_of_getElem? (i := 1236) (by decide +kernel), rfl⟩
theorem tk_49 : Cond.selects RX8 yX8_farOf yX8_farOf ∈ okl := List.mem_filter.mpr ⟨List.mem_of_getElem? (i := 49) (by decide +kernel), rfl⟩
theorem tk_1241 : Cond.code yX8_may cX8_may 4 (some .int) ∈ okl := List.mem_filter.mpr ⟨List.mem_of_getElem? (i := 1241) (by decide +kernel), rfl⟩
theorem tk_1239 : Cond.instanceMethod yX8_may ∈ okl := List.mem_filter.mpr ⟨List.mem_of_getElem? (i := 1239) (by decide +kernel), rfl⟩
theorem tk_1240 : Cond.selects RX8 yX8_may yX8_may ∈ okl := List.mem_filter.mpr ⟨List.mem_of_getElem? (i := 1240) (by decide +kernel), rfl⟩
theorem tk_1244 : Cond.code yX8_isMinute cX8_isMinute 1 (some .boolean) ∈ okl := List.mem_filter.mpr ⟨List.mem_of_getElem? (i := 1244) (by decide +kernel), rfl⟩
theorem tk_1243 : Cond.static yX8_isMinute ∈ okl := List.mem_filter.mpr ⟨List.mem_of_getElem? (i := 1243) (by decide +kernel), rfl⟩
theorem tk_1249 : Cond.code yX8_drunk cX8_drunk 4 (some .int) ∈ okl := List.mem_filter.mpr ⟨List.mem_of_getElem? (i := 1249) (by decide +kernel), rfl⟩
theorem tk_1248 : Cond.instanceMethod yX8_drunk ∈ okl := List.mem_filter.mpr ⟨List.mem_of_getElem? (i := 1248) (by decide +kernel), rfl⟩
theorem tk_50 : Cond.selects RX8 yX8_drunk yX8_drunk ∈ okl := List.mem_filter.mpr ⟨List.mem_of_getElem? (i := 50) (by decide +kernel), rfl⟩
theorem tk_1253 : Cond.code yX8_mayDrive cX8_mayDrive 5 (some .boolean) ∈ okl := List.mem_filter.mpr ⟨List.mem_of_getElem? (i := 1253) (by decide +kernel), rfl⟩
theorem tk_1252 : Cond.instanceMethod yX8_mayDrive ∈ okl := List.mem_filter.mpr ⟨List.mem_of_getElem? (i := 1252) (by decide +kernel), rfl⟩
theorem tk_51 : Cond.selects RX8 yX8_mayDrive yX8_mayDrive ∈ okl := List.mem_filter.mpr ⟨List.mem_of_getElem? (i := 51) (by decide +kernel), rfl⟩
theorem tk_1257 : Cond.code yX8_soon cX8_soon 3 (some .int) ∈ okl := List.mem_filter.mpr ⟨List.mem_of_getElem? (i := 1257) (by decide +kernel), rfl⟩
theorem tk_1255 : Cond.instanceMethod yX8_soon ∈ okl := List.mem_filter.mpr ⟨List.mem_of_getElem? (i := 1255) (by decide +kernel), rfl⟩
theorem tk_1256 : Cond.selects RX8 yX8_soon yX8_soon ∈ okl := List.mem_filter.mpr ⟨List.mem_of_getElem? (i := 1256) (by decide +kernel), rfl⟩
theorem tk_1261 : Cond.code yX8_odds cX8_odds 7 (some .int) ∈ okl := List.mem_filter.mpr ⟨List.mem_of_getElem? (i := 1261) (by decide +kernel), rfl⟩
theorem tk_1259 : Cond.instanceMethod yX8_odds ∈ okl := List.mem_filter.mpr ⟨List.mem_of_getElem? (i := 1259) (by decide +kernel), rfl⟩
theorem tk_1260 : Cond.selects RX8 yX8_odds yX8_odds ∈ okl := List.mem_filter.mpr ⟨List.mem_of_getElem? (i := 1260) (by decide +kernel), rfl⟩
theorem tk_1264 : Cond.code yX8_divisor cX8_divisor 5 (some .int) ∈ okl := List.mem_filter.mpr ⟨List.mem_of_getElem? (i := 1264) (by decide +kernel), rfl⟩
theorem tk_1263 : Cond.static yX8_divisor ∈ okl := List.mem_filter.mpr ⟨List.mem_of_getElem? (i := 1263) (by decide +kernel), rfl⟩
theorem tk_1268 : Cond.code yX8_goes cX8_goes 2 (some .int) ∈ okl := List.mem_filter.mpr ⟨List.mem_of_getElem? (i := 1268) (by decide +kernel), rfl⟩
theorem tk_1266 : Cond.instanceMethod yX8_goes ∈ okl := List.mem_filter.mpr ⟨List.mem_of_getElem? (i := 1266) (by decide +kernel), rfl⟩
theorem tk_1267 : Cond.selects RX8 yX8_goes yX8_goes ∈ okl := List.mem_filter.mpr ⟨List.mem_of_getElem? (i := 1267) (by decide +kernel), rfl⟩
theorem tk_1272 : Cond.code yX8_goingAt cX8_goingAt 4 (some .int) ∈ okl := List.mem_filter.mpr ⟨List.mem_of_getElem? (i := 1272) (by decide +kernel), rfl⟩
theorem tk_1271 : Cond.instanceMethod yX8_goingAt ∈ okl := List.mem_filter.mpr ⟨List.mem_of_getElem? (i := 1271) (by decide +kernel), rfl⟩
theorem tk_52 : Cond.selects RX8 yX8_goingAt yX8_goingAt ∈ okl := List.mem_filter.mpr ⟨List.mem_of_getElem? (i := 52) (by decide +kernel), rfl⟩
theorem tk_1276 : Cond.code yX8_doesGo cX8_doesGo 4 (some .boolean) ∈ okl := List.mem_filter.mpr ⟨List.mem_of_getElem? (i := 1276) (by decide +kernel), rfl⟩
theorem tk_1275 : Cond.instanceMethod yX8_doesGo ∈ okl := List.mem_filter.mpr ⟨List.mem_of_getElem? (i := 1275) (by decide +kernel), rfl⟩
theorem tk_53 : Cond.selects RX8 yX8_doesGo yX8_doesGo ∈ okl := List.mem_filter.mpr ⟨List.mem_of_getElem? (i := 53) (by decide +kernel), rfl⟩
theorem tk_1280 : Cond.code yX8_isOnHill cX8_isOnHill 2 (some .boolean) ∈ okl := List.mem_filter.mpr ⟨List.mem_of_getElem? (i := 1280) (by decide +kernel), rfl⟩
theorem tk_1279 : Cond.instanceMethod yX8_isOnHill ∈ okl := List.mem_filter.mpr ⟨List.mem_of_getElem? (i := 1279) (by decide +kernel), rfl⟩
theorem tk_54 : Cond.selects RX8 yX8_isOnHill yX8_isOnHill ∈ okl := List.mem_filter.mpr ⟨List.mem_of_getElem? (i := 54) (by decide +kernel), rfl⟩
theorem tk_1284 : Cond.code yX8_home cX8_home 3 (some .int) ∈ okl := List.mem_filter.mpr ⟨List.mem_of_getElem? (i := 1284) (by decide +kernel), rfl⟩
theorem tk_1282 : Cond.instanceMethod yX8_home ∈ okl := List.mem_filter.mpr ⟨List.mem_of_getElem? (i := 1282) (by decide +kernel), rfl⟩
theorem tk_1283 : Cond.selects RX8 yX8_home yX8_home ∈ okl := List.mem_filter.mpr ⟨List.mem_of_getElem? (i := 1283) (by decide +kernel), rfl⟩
theorem tk_1288 : Cond.code yX8_layHome cX8_layHome 7 none ∈ okl := List.mem_filter.mpr ⟨List.mem_of_getElem? (i := 1288) (by decide +kernel), rfl⟩
theorem tk_1287 : Cond.instanceMethod yX8_layHome ∈ okl := List.mem_filter.mpr ⟨List.mem_of_getElem? (i := 1287) (by decide +kernel), rfl⟩
theorem tk_55 : Cond.selects RX8 yX8_layHome yX8_layHome ∈ okl := List.mem_filter.mpr ⟨List.mem_of_getElem? (i := 55) (by decide +kernel), rfl⟩
theorem tk_1292 : Cond.code yX8_layRiders cX8_layRiders 3 none ∈ okl := List.mem_filter.mpr ⟨List.mem_of_getElem? (i := 1292) (by decide +kernel), rfl⟩
theorem tk_1291 : Cond.instanceMethod yX8_layRiders ∈ okl := List.mem_filter.mpr ⟨List.mem_of_getElem? (i := 1291) (by decide +kernel), rfl⟩
theorem tk_56 : Cond.selects RX8 yX8_layRiders yX8_layRiders ∈ okl := List.mem_filter.mpr ⟨List.mem_of_getElem? (i := 56) (by decide +kernel), rfl⟩
theorem tk_1296 : Cond.code yX8_layTakes cX8_layTakes 4 none ∈ okl := List.mem_filter.mpr ⟨List.mem_of_getElem? (i := 1296) (by decide +kernel), rfl⟩
theorem tk_1295 : Cond.instanceMethod yX8_layTakes ∈ okl := List.mem_filter.mpr ⟨List.mem_of_getElem? (i := 1295) (by decide +kernel), rfl⟩
theorem tk_57 : Cond.selects RX8 yX8_layTakes yX8_layTakes ∈ okl := List.mem_filter.mpr ⟨List.mem_of_getElem? (i := 57) (by decide +kernel), rfl⟩
theorem tk_1300 : Cond.code yX8_fits cX8_fits 7 (some .boolean) ∈ okl := List.mem_filter.mpr ⟨List.mem_of_getElem? (i := 1300) (by decide +kernel), rfl⟩
theorem tk_1299 : Cond.instanceMethod yX8_fits ∈ okl := List.mem_filter.mpr ⟨List.mem_of_getElem? (i := 1299) (by decide +kernel), rfl⟩
theorem tk_58 : Cond.selects RX8 yX8_fits yX8_fits ∈ okl := List.mem_filter.mpr ⟨List.mem_of_getElem? (i := 58) (by decide +kernel), rfl⟩
theorem tk_1303 : Cond.code yX8_bits cX8_bits 3 (some .int) ∈ okl := List.mem_filter.mpr ⟨List.mem_of_getElem? (i := 1303) (by decide +kernel), rfl⟩
theorem tk_1302 : Cond.static yX8_bits ∈ okl := List.mem_filter.mpr ⟨List.mem_of_getElem? (i := 1302) (by decide +kernel), rfl⟩
theorem tk_1307 : Cond.code yX8_leastOf cX8_leastOf 9 (some .int) ∈ okl := List.mem_filter.mpr ⟨List.mem_of_getElem? (i := 1307) (by decide +kernel), rfl⟩
theorem tk_1306 : Cond.instanceMethod yX8_leastOf ∈ okl := List.mem_filter.mpr ⟨List.mem_of_getElem? (i := 1306) (by decide +kernel), rfl⟩
theorem tk_59 : Cond.selects RX8 yX8_leastOf yX8_leastOf ∈ okl := List.mem_filter.mpr ⟨List.mem_of_getElem? (i := 59) (by decide +kernel), rfl⟩
theorem tk_1311 : Cond.code yX8_layTried cX8_layTried 6 (some .boolean) ∈ okl := List.mem_filter.mpr ⟨List.mem_of_getElem? (i := 1311) (by decide +kernel), rfl⟩
theorem tk_1310 : Cond.instanceMethod yX8_layTried ∈ okl := List.mem_filter.mpr ⟨List.mem_of_getElem? (i := 1310) (by decide +kernel), rfl⟩
theorem tk_60 : Cond.selects RX8 yX8_layTried yX8_layTried ∈ okl := List.mem_filter.mpr ⟨List.mem_of_getElem? (i := 60) (by decide +kernel), rfl⟩
theorem tk_1315 : Cond.code yX8_minutesBy cX8_minutesBy 6 (some .int) ∈ okl := List.mem_filter.mpr ⟨List.mem_of_getElem? (i := 1315) (by decide +kernel), rfl⟩
theorem tk_1314 : Cond.instanceMethod yX8_minutesBy ∈ okl := List.mem_filter.mpr ⟨List.mem_of_getElem? (i := 1314) (by decide +kernel), rfl⟩
theorem tk_61 : Cond.selects RX8 yX8_minutesBy yX8_minutesBy ∈ okl := List.mem_filter.mpr ⟨List.mem_of_getElem? (i := 61) (by decide +kernel), rfl⟩
theorem tk_1319 : Cond.code yX8_layRow cX8_layRow 4 none ∈ okl := List.mem_filter.mpr ⟨List.mem_of_getElem? (i := 1319) (by decide +kernel), rfl⟩
theorem tk_1318 : Cond.instanceMethod yX8_layRow ∈ okl := List.mem_filter.mpr ⟨List.mem_of_getElem? (i := 1318) (by decide +kernel), rfl⟩
theorem tk_62 : Cond.selects RX8 yX8_layRow yX8_layRow ∈ okl := List.mem_filter.mpr ⟨List.mem_of_getElem? (i := 62) (by decide +kernel), rfl⟩
theorem tk_1323 : Cond.code yX8_sumOf cX8_sumOf 5 (some .int) ∈ okl := List.mem_filter.mpr ⟨List.mem_of_getElem? (i := 1323) (by decide +kernel), rfl⟩
theorem tk_1322 : Cond.instanceMethod yX8_sumOf ∈ okl := List.mem_filter.mpr ⟨List.mem_of_getElem? (i := 1322) (by decide +kernel), rfl⟩
theorem tk_63 : Cond.selects RX8 yX8_sumOf yX8_sumOf ∈ okl := List.mem_filter.mpr ⟨List.mem_of_getElem? (i := 63) (by decide +kernel), rfl⟩
theorem tk_1327 : Cond.code yX8_order cX8_order 5 (some .int) ∈ okl := List.mem_filter.mpr ⟨List.mem_of_getElem? (i := 1327) (by decide +kernel), rfl⟩
theorem tk_1325 : Cond.instanceMethod yX8_order ∈ okl := List.mem_filter.mpr ⟨List.mem_of_getElem? (i := 1325) (by decide +kernel), rfl⟩
theorem tk_1326 : Cond.selects RX8 yX8_order yX8_order ∈ okl := List.mem_filter.mpr ⟨List.mem_of_getElem? (i := 1326) (by decide +kernel), rfl⟩
theorem tk_1331 : Cond.code yX8_detour cX8_detour 4 (some .int) ∈ okl := List.mem_filter.mpr ⟨List.mem_of_getElem? (i := 1331) (by decide +kernel), rfl⟩
theorem tk_1329 : Cond.instanceMethod yX8_detour ∈ okl := List.mem_filter.mpr ⟨List.mem_of_getElem? (i := 1329) (by decide +kernel), rfl⟩
theorem tk_1330 : Cond.selects RX8 yX8_detour yX8_detour ∈ okl := List.mem_filter.mpr ⟨List.mem_of_getElem? (i := 1330) (by decide +kernel), rfl⟩
theorem tk_1335 : Cond.code yX8_fetch cX8_fetch 7 (some .int) ∈ okl := List.mem_filter.mpr ⟨List.mem_of_getElem? (i := 1335) (by decide +kernel), rfl⟩
theorem tk_1333 : Cond.instanceMethod yX8_fetch ∈ okl := List.mem_filter.mpr ⟨List.mem_of_getElem? (i := 1333) (by decide +kernel), rfl⟩
theorem tk_1334 : Cond.selects RX8 yX8_fetch yX8_fetch ∈ okl := List.mem_filter.mpr ⟨List.mem_of_getElem? (i := 1334) (by decide +kernel), rfl⟩
theorem tk_1339 : Cond.code yX8_house cX8_house 6 (some .int) ∈ okl := List.mem_filter.mpr ⟨List.mem_of_getElem? (i := 1339) (by decide +kernel), rfl⟩
theorem tk_1337 : Cond.instanceMethod yX8_house ∈ okl := List.mem_filter.mpr ⟨List.mem_of_getElem? (i := 1337) (by decide +kernel), rfl⟩
theorem tk_1338 : Cond.selects RX8 yX8_house yX8_house ∈ okl := List.mem_filter.mpr ⟨List.mem_of_getElem? (i := 1338) (by decide +kernel), rfl⟩
theorem tk_1343 : Cond.code yX8_allFar cX8_allFar 4 (some .int) ∈ okl := List.mem_filter.mpr ⟨List.mem_of_getElem? (i := 1343) (by decide +kernel), rfl⟩
theorem tk_1342 : Cond.instanceMethod yX8_allFar ∈ okl := List.mem_filter.mpr ⟨List.mem_of_getElem? (i := 1342) (by decide +kernel), rfl⟩
theorem tk_64 : Cond.selects RX8 yX8_allFar yX8_allFar ∈ okl := List.mem_filter.mpr ⟨List.mem_of_getElem? (i := 64) (by decide +kernel), rfl⟩
theorem tk_1347 : Cond.code yX8_turn cX8_turn 8 (some .int) ∈ okl := List.mem_filter.mpr ⟨List.mem_of_getElem? (i := 1347) (by decide +kernel), rfl⟩
theorem tk_1345 : Cond.instanceMethod yX8_turn ∈ okl := List.mem_filter.mpr ⟨List.mem_of_getElem? (i := 1345) (by decide +kernel), rfl⟩
theorem tk_1346 : Cond.selects RX8 yX8_turn yX8_turn ∈ okl := List.mem_filter.mpr ⟨List.mem_of_getElem? (i := 1346) (by decide +kernel), rfl⟩
theorem tk_1352 : Cond.code yX8_lack cX8_lack 3 (some .int) ∈ okl := List.mem_filter.mpr ⟨List.mem_of_getElem? (i := 1352) (by decide +kernel), rfl⟩
theorem tk_1351 : Cond.instanceMethod yX8_lack ∈ okl := List.mem_filter.mpr ⟨List.mem_of_getElem? (i := 1351) (by decide +kernel), rfl⟩
theorem tk_65 : Cond.selects RX8 yX8_lack yX8_lack ∈ okl := List.mem_filter.mpr ⟨List.mem_of_getElem? (i := 65) (by decide +kernel), rfl⟩
theorem tk_1356 : Cond.code yX8_noTimes cX8_noTimes 2 none ∈ okl := List.mem_filter.mpr ⟨List.mem_of_getElem? (i := 1356) (by decide +kernel), rfl⟩
theorem tk_1355 : Cond.instanceMethod yX8_noTimes ∈ okl := List.mem_filter.mpr ⟨List.mem_of_getElem? (i := 1355) (by decide +kernel), rfl⟩
theorem tk_66 : Cond.selects RX8 yX8_noTimes yX8_noTimes ∈ okl := List.mem_filter.mpr ⟨List.mem_of_getElem? (i := 66) (by decide +kernel), rfl⟩
theorem tk_1360 : Cond.code yX8_gloves cX8_gloves 10 (some .int) ∈ okl := List.mem_filter.mpr ⟨List.mem_of_getElem? (i := 1360) (by decide +kernel), rfl⟩
theorem tk_1358 : Cond.instanceMethod yX8_gloves ∈ okl := List.mem_filter.mpr ⟨List.mem_of_getElem? (i := 1358) (by decide +kernel), rfl⟩
theorem tk_1359 : Cond.selects RX8 yX8_gloves yX8_gloves ∈ okl := List.mem_filter.mpr ⟨List.mem_of_getElem? (i := 1359) (by decide +kernel), rfl⟩
theorem tk_1364 : Cond.code yX8_image cX8_image 3 (some .int) ∈ okl := List.mem_filter.mpr ⟨List.mem_of_getElem? (i := 1364) (by decide +kernel), rfl⟩
theorem tk_1362 : Cond.instanceMethod yX8_image ∈ okl := List.mem_filter.mpr ⟨List.mem_of_getElem? (i := 1362) (by decide +kernel), rfl⟩
theorem tk_1363 : Cond.selects RX8 yX8_image yX8_image ∈ okl := List.mem_filter.mpr ⟨List.mem_of_getElem? (i := 1363) (by decide +kernel), rfl⟩
theorem tk_1368 : Cond.code yX8_restore cX8_restore 3 (some .int) ∈ okl := List.mem_filter.mpr ⟨List.mem_of_getElem? (i := 1368) (by decide +kernel), rfl⟩
theorem tk_1366 : Cond.instanceMethod yX8_restore ∈ okl := List.mem_filter.mpr ⟨List.mem_of_getElem? (i := 1366) (by decide +kernel), rfl⟩
theorem tk_1367 : Cond.selects RX8 yX8_restore yX8_restore ∈ okl := List.mem_filter.mpr ⟨List.mem_of_getElem? (i := 1367) (by decide +kernel), rfl⟩
theorem tk_1372 : Cond.code yX8_kind cX8_kind 2 (some .int) ∈ okl := List.mem_filter.mpr ⟨List.mem_of_getElem? (i := 1372) (by decide +kernel), rfl⟩
theorem tk_1370 : Cond.instanceMethod yX8_kind ∈ okl := List.mem_filter.mpr ⟨List.mem_of_getElem? (i := 1370) (by decide +kernel), rfl⟩
theorem tk_1371 : Cond.selects RX8 yX8_kind yX8_kind ∈ okl := List.mem_filter.mpr ⟨List.mem_of_getElem? (i := 1371) (by decide +kernel), rfl⟩
theorem tk_1376 : Cond.code yX8_as cX8_as 3 (some .int) ∈ okl := List.mem_filter.mpr ⟨List.mem_of_getElem? (i := 1376) (by decide +kernel), rfl⟩
theorem tk_1374 : Cond.instanceMethod yX8_as ∈ okl := List.mem_filter.mpr ⟨List.mem_of_getElem? (i := 1374) (by decide +kernel), rfl⟩
theorem tk_1375 : Cond.selects RX8 yX8_as yX8_as ∈ okl := List.mem_filter.mpr ⟨List.mem_of_getElem? (i := 1375) (by decide +kernel), rfl⟩
theorem tk_1380 : Cond.code yX8_isOf cX8_isOf 2 (some .boolean) ∈ okl := List.mem_filter.mpr ⟨List.mem_of_getElem? (i := 1380) (by decide +kernel), rfl⟩
theorem tk_1379 : Cond.static yX8_isOf ∈ okl := List.mem_filter.mpr ⟨List.mem_of_getElem? (i := 1379) (by decide +kernel), rfl⟩
theorem tk_1384 : Cond.code yX8_ask cX8_ask 3 (some .int) ∈ okl := List.mem_filter.mpr ⟨List.mem_of_getElem? (i := 1384) (by decide +kernel), rfl⟩
theorem tk_1382 : Cond.instanceMethod yX8_ask ∈ okl := List.mem_filter.mpr ⟨List.mem_of_getElem? (i := 1382) (by decide +kernel), rfl⟩
theorem tk_1383 : Cond.selects RX8 yX8_ask yX8_ask ∈ okl := List.mem_filter.mpr ⟨List.mem_of_getElem? (i := 1383) (by decide +kernel), rfl⟩
theorem tk_1388 : Cond.code yX8_sizeOf cX8_sizeOf 4 (some .int) ∈ okl := List.mem_filter.mpr ⟨List.mem_of_getElem? (i := 1388) (by decide +kernel), rfl⟩
theorem tk_1387 : Cond.instanceMethod yX8_sizeOf ∈ okl := List.mem_filter.mpr ⟨List.mem_of_getElem? (i := 1387) (by decide +kernel), rfl⟩
theorem tk_67 : Cond.selects RX8 yX8_sizeOf yX8_sizeOf ∈ okl := List.mem_filter.mpr ⟨List.mem_of_getElem? (i := 67) (by decide +kernel), rfl⟩
theorem tk_1392 : Cond.code yX8_sickSize cX8_sickSize 3 (some .int) ∈ okl := List.mem_filter.mpr ⟨List.mem_of_getElem? (i := 1392) (by decide +kernel), rfl⟩
theorem tk_1391 : Cond.instanceMethod yX8_sickSize ∈ okl := List.mem_filter.mpr ⟨List.mem_of_getElem? (i := 1391) (by decide +kernel), rfl⟩
theorem tk_68 : Cond.selects RX8 yX8_sickSize yX8_sickSize ∈ okl := List.mem_filter.mpr ⟨List.mem_of_getElem? (i := 68) (by decide +kernel), rfl⟩
theorem tk_1396 : Cond.code yX8_began cX8_began 2 none ∈ okl := List.mem_filter.mpr ⟨List.mem_of_getElem? (i := 1396) (by decide +kernel), rfl⟩
theorem tk_1395 : Cond.instanceMethod yX8_began ∈ okl := List.mem_filter.mpr ⟨List.mem_of_getElem? (i := 1395) (by decide +kernel), rfl⟩
theorem tk_69 : Cond.selects RX8 yX8_began yX8_began ∈ okl := List.mem_filter.mpr ⟨List.mem_of_getElem? (i := 69) (by decide +kernel), rfl⟩
theorem tk_1400 : Cond.code yX8_plainSize cX8_plainSize 2 (some .int) ∈ okl := List.mem_filter.mpr ⟨List.mem_of_getElem? (i := 1400) (by decide +kernel), rfl⟩
theorem tk_1399 : Cond.instanceMethod yX8_plainSize ∈ okl := List.mem_filter.mpr ⟨List.mem_of_getElem? (i := 1399) (by decide +kernel), rfl⟩
theorem tk_70 : Cond.selects RX8 yX8_plainSize yX8_plainSize ∈ okl := List.mem_filter.mpr ⟨List.mem_of_getElem? (i := 70) (by decide +kernel), rfl⟩
theorem tk_1404 : Cond.code yX8_markOf cX8_markOf 4 (some .int) ∈ okl := List.mem_filter.mpr ⟨List.mem_of_getElem? (i := 1404) (by decide +kernel), rfl⟩
theorem tk_1403 : Cond.instanceMethod yX8_markOf ∈ okl := List.mem_filter.mpr ⟨List.mem_of_getElem? (i := 1403) (by decide +kernel), rfl⟩
theorem tk_71 : Cond.selects RX8 yX8_markOf yX8_markOf ∈ okl := List.mem_filter.mpr ⟨List.mem_of_getElem? (i := 71) (by decide +kernel), rfl⟩
theorem tk_1408 : Cond.code yX8_trace cX8_trace 2 (some .int) ∈ okl := List.mem_filter.mpr ⟨List.mem_of_getElem? (i := 1408) (by decide +kernel), rfl⟩
theorem tk_1406 : Cond.instanceMethod yX8_trace ∈ okl := List.mem_filter.mpr ⟨List.mem_of_getElem? (i := 1406) (by decide +kernel), rfl⟩
theorem tk_1407 : Cond.selects RX8 yX8_trace yX8_trace ∈ okl := List.mem_filter.mpr ⟨List.mem_of_getElem? (i := 1407) (by decide +kernel), rfl⟩
theorem tk_1412 : Cond.code yX8_count cX8_count 4 (some .int) ∈ okl := List.mem_filter.mpr ⟨List.mem_of_getElem? (i := 1412) (by decide +kernel), rfl⟩
theorem tk_1410 : Cond.instanceMethod yX8_count ∈ okl := List.mem_filter.mpr ⟨List.mem_of_getElem? (i := 1410) (by decide +kernel), rfl⟩
theorem tk_1411 : Cond.selects RX8 yX8_count yX8_count ∈ okl := List.mem_filter.mpr ⟨List.mem_of_getElem? (i := 1411) (by decide +kernel), rfl⟩
theorem tk_1416 : Cond.code yX8_status cX8_status 1 (some .int) ∈ okl := List.mem_filter.mpr ⟨List.mem_of_getElem? (i := 1416) (by decide +kernel), rfl⟩
theorem tk_1414 : Cond.instanceMethod yX8_status ∈ okl := List.mem_filter.mpr ⟨List.mem_of_getElem? (i := 1414) (by decide +kernel), rfl⟩
theorem tk_1415 : Cond.selects RX8 yX8_status yX8_status ∈ okl := List.mem_filter.mpr ⟨List.mem_of_getElem? (i := 1415) (by decide +kernel), rfl⟩
