def D_L_isWell_b152 (k74 : Int32 → Int32 → Int32 → Int32 → Hp → Option (Int32 × Hp)) (a85 : Nat) (i86 : Int32) (i87 : Int32) (i88 : Int32) (i89 : Int32) (i90 : Int32) (i91 : Int32) (i92 : Int32) (i93 : Int32) (i95 : Int32) (s94 : Hp) : Option (Int32 × Hp) :=
  k74 i89 i90 i95 (i93 + 1) s94
def D_L_isWell_b151 (k74 : Int32 → Int32 → Int32 → Int32 → Hp → Option (Int32 × Hp)) (a75 : Nat) (i76 : Int32) (i77 : Int32) (i78 : Int32) (i79 : Int32) (i80 : Int32) (i81 : Int32) (i82 : Int32) (i83 : Int32) (s84 : Hp) : Option (Int32 × Hp) :=
  D_L_isWell_b152 k74 a75 i76 i77 i78 i79 i80 i81 i82 i83 (0 : Int32) s84
def D_L_isWell_w74 (a51 : Nat) (i52 : Int32) (i53 : Int32) (i54 : Int32) (i55 : Int32) (i56 : Int32) (k160 : Int32 → Int32 → Int32 → Hp → Option (Int32 × Hp)) : Nat → Int32 → Int32 → Int32 → Int32 → Hp → Option (Int32 × Hp)
  | 0, _, _, _, _, _ => none
  | n62 + 1, i57, i58, i59, i60, s61 =>
  if i52 ≤ i60 then
  k160 i57 i58 i59 s61
  else
  if i59 = 0 then
  k160 i57 i58 i59 s61
  else
  bd (D_X9_of a51 i60 (3 : Int32) s61) fun i63 s64 =>
  nm (i57 + i63) fun i65 =>
  bd (D_X9_of a51 i60 (4 : Int32) s64) fun i66 s67 =>
  nm (i58 ||| (i66 <<< (i60 &&& 31))) fun i68 =>
  bd (D_X9_of a51 i60 (0 : Int32) s67) fun i69 s70 =>
  bd (D_X9_of a51 i60 (1 : Int32) s70) fun i71 s72 =>
  bd (D_X9_in a51 i69 i71 s72) fun i73 s74 =>
  if i73 = i60 then
  bd (D_X9_of a51 i60 (3 : Int32) s74) fun i106 s107 =>
  if (100 : Int32) < i106 then
  D_L_isWell_b151 (D_L_isWell_w74 a51 i52 i53 i54 i55 i56 k160 n62) a51 i52 i53 i54 i65 i68 i55 i56 i60 s107
  else
  D_L_isWell_b152 (D_L_isWell_w74 a51 i52 i53 i54 i55 i56 k160 n62) a51 i52 i53 i54 i65 i68 i55 i56 i60 (1 : Int32) s107
  else
  D_L_isWell_b151 (D_L_isWell_w74 a51 i52 i53 i54 i55 i56 k160 n62) a51 i52 i53 i54 i65 i68 i55 i56 i60 s74
def D_L_isWell_b403 (k228 : Int32 → Int32 → Int32 → Int32 → Int32 → Hp → Option (Int32 × Hp)) (a304 : Nat) (i305 : Int32) (i306 : Int32) (i307 : Int32) (i308 : Int32) (i309 : Int32) (i310 : Int32) (i311 : Int32) (i312 : Int32) (i313 : Int32) (i314 : Int32) (i315 : Int32) (i316 : Int32) (i317 : Int32) (i318 : Int32) (i319 : Int32) (i320 : Int32) (i322 : Int32) (s321 : Hp) : Option (Int32 × Hp) :=
  k228 i312 i318 i319 i322 (i320 + 1) s321
def D_L_isWell_b401 (k228 : Int32 → Int32 → Int32 → Int32 → Int32 → Hp → Option (Int32 × Hp)) (a285 : Nat) (i286 : Int32) (i287 : Int32) (i288 : Int32) (i289 : Int32) (i290 : Int32) (i291 : Int32) (i292 : Int32) (i293 : Int32) (i294 : Int32) (i295 : Int32) (i296 : Int32) (i297 : Int32) (i298 : Int32) (i299 : Int32) (i300 : Int32) (i301 : Int32) (i302 : Int32) (s303 : Hp) : Option (Int32 × Hp) :=
  D_L_isWell_b403 k228 a285 i286 i287 i288 i289 i290 i291 i292 i293 i294 i295 i296 i297 i298 i299 i300 i302 i301 s303
def D_L_isWell_b371 (k228 : Int32 → Int32 → Int32 → Int32 → Int32 → Hp → Option (Int32 × Hp)) (a262 : Nat) (i263 : Int32) (i264 : Int32) (i265 : Int32) (i266 : Int32) (i267 : Int32) (i268 : Int32) (i269 : Int32) (i270 : Int32) (i271 : Int32) (i272 : Int32) (i273 : Int32) (i274 : Int32) (i275 : Int32) (i276 : Int32) (i277 : Int32) (i278 : Int32) (i279 : Int32) (i280 : Int32) (i282 : Int32) (i283 : Int32) (s281 : Hp) : Option (Int32 × Hp) :=
  nm (i283 + i282) fun i284 =>
  if i279 = 0 then
  D_L_isWell_b401 k228 a262 i263 i264 i265 i266 i267 i268 i269 i270 i271 i272 i273 i274 i275 i276 i284 i277 i278 s281
  else
  if ((i275 >>> (i278 &&& 31)) &&& (1 : Int32)) = 0 then
  if i277 ≤ i280 then
  D_L_isWell_b401 k228 a262 i263 i264 i265 i266 i267 i268 i269 i270 i271 i272 i273 i274 i275 i276 i284 i277 i278 s281
  else
  D_L_isWell_b403 k228 a262 i263 i264 i265 i266 i267 i268 i269 i270 i271 i272 i273 i274 i275 i276 i284 i278 i280 s281
  else
  D_L_isWell_b401 k228 a262 i263 i264 i265 i266 i267 i268 i269 i270 i271 i272 i273 i274 i275 i276 i284 i277 i278 s281
def D_L_isWell_b355 (k228 : Int32 → Int32 → Int32 → Int32 → Int32 → Hp → Option (Int32 × Hp)) (a239 : Nat) (i240 : Int32) (i241 : Int32) (i242 : Int32) (i243 : Int32) (i244 : Int32) (i245 : Int32) (i246 : Int32) (i247 : Int32) (i248 : Int32) (i249 : Int32) (i250 : Int32) (i251 : Int32) (i252 : Int32) (i253 : Int32) (i254 : Int32) (i255 : Int32) (i256 : Int32) (i257 : Int32) (i259 : Int32) (i260 : Int32) (s258 : Hp) : Option (Int32 × Hp) :=
  nm (i260 + i259) fun i261 =>
  if i256 = 0 then
  D_L_isWell_b371 k228 a239 i240 i241 i242 i243 i244 i245 i246 i247 i248 i249 i250 i251 i252 i261 i254 i255 i256 i257 (0 : Int32) i253 s258
  else
  D_L_isWell_b371 k228 a239 i240 i241 i242 i243 i244 i245 i246 i247 i248 i249 i250 i251 i252 i261 i254 i255 i256 i257 i257 i253 s258
def D_L_isWell_b334 (k228 : Int32 → Int32 → Int32 → Int32 → Int32 → Hp → Option (Int32 × Hp)) (a218 : Nat) (i219 : Int32) (i220 : Int32) (i221 : Int32) (i222 : Int32) (i223 : Int32) (i224 : Int32) (i225 : Int32) (i226 : Int32) (i227 : Int32) (i228 : Int32) (i229 : Int32) (i230 : Int32) (i231 : Int32) (i232 : Int32) (i233 : Int32) (i234 : Int32) (i235 : Int32) (i236 : Int32) (i238 : Int32) (s237 : Hp) : Option (Int32 × Hp) :=
  if ((i230 >>> (i234 &&& 31)) &&& (1 : Int32)) = (1 : Int32) then
  D_L_isWell_b355 k228 a218 i219 i220 i221 i222 i223 i224 i225 i238 i226 i227 i228 i229 i230 i232 i233 i234 i235 i236 i236 i231 s237
  else
  D_L_isWell_b355 k228 a218 i219 i220 i221 i222 i223 i224 i225 i238 i226 i227 i228 i229 i230 i232 i233 i234 i235 i236 (0 : Int32) i231 s237
def D_L_isWell_b333 (k228 : Int32 → Int32 → Int32 → Int32 → Int32 → Hp → Option (Int32 × Hp)) (a198 : Nat) (i199 : Int32) (i200 : Int32) (i201 : Int32) (i202 : Int32) (i203 : Int32) (i204 : Int32) (i205 : Int32) (i206 : Int32) (i207 : Int32) (i208 : Int32) (i209 : Int32) (i210 : Int32) (i211 : Int32) (i212 : Int32) (i213 : Int32) (i214 : Int32) (i215 : Int32) (i216 : Int32) (s217 : Hp) : Option (Int32 × Hp) :=
  D_L_isWell_b334 k228 a198 i199 i200 i201 i202 i203 i204 i205 i206 i207 i208 i209 i210 i211 i212 i213 i214 i215 i216 (0 : Int32) s217
def D_L_isWell_b329 (k228 : Int32 → Int32 → Int32 → Int32 → Int32 → Hp → Option (Int32 × Hp)) (a403 : Nat) (i404 : Int32) (i405 : Int32) (i406 : Int32) (i407 : Int32) (i408 : Int32) (i409 : Int32) (i410 : Int32) (i411 : Int32) (i412 : Int32) (i413 : Int32) (i414 : Int32) (i415 : Int32) (i416 : Int32) (i417 : Int32) (i418 : Int32) (i419 : Int32) (i420 : Int32) (i421 : Int32) (s422 : Hp) : Option (Int32 × Hp) :=
  D_L_isWell_b334 k228 a403 i404 i405 i406 i407 i408 i409 i410 i411 i412 i413 i414 i415 i416 i417 i418 i419 i420 i421 (1 : Int32) s422
def D_L_isWell_b314 (k228 : Int32 → Int32 → Int32 → Int32 → Int32 → Hp → Option (Int32 × Hp)) (a383 : Nat) (i384 : Int32) (i385 : Int32) (i386 : Int32) (i387 : Int32) (i388 : Int32) (i389 : Int32) (i390 : Int32) (i391 : Int32) (i392 : Int32) (i393 : Int32) (i394 : Int32) (i395 : Int32) (i396 : Int32) (i397 : Int32) (i398 : Int32) (i399 : Int32) (i400 : Int32) (i401 : Int32) (s402 : Hp) : Option (Int32 × Hp) :=
  if i400 = 0 then
  if ((i395 >>> (i399 &&& 31)) &&& (1 : Int32)) = 0 then
  D_L_isWell_b329 k228 a383 i384 i385 i386 i387 i388 i389 i390 i391 i392 i393 i394 i395 i396 i397 i398 i399 i400 i401 s402
  else
  D_L_isWell_b333 k228 a383 i384 i385 i386 i387 i388 i389 i390 i391 i392 i393 i394 i395 i396 i397 i398 i399 i400 i401 s402
  else
  D_L_isWell_b329 k228 a383 i384 i385 i386 i387 i388 i389 i390 i391 i392 i393 i394 i395 i396 i397 i398 i399 i400 i401 s402
def D_L_isWell_b287 (k228 : Int32 → Int32 → Int32 → Int32 → Int32 → Hp → Option (Int32 × Hp)) (a361 : Nat) (i362 : Int32) (i363 : Int32) (i364 : Int32) (i365 : Int32) (i366 : Int32) (i367 : Int32) (i368 : Int32) (i369 : Int32) (i370 : Int32) (i371 : Int32) (i372 : Int32) (i373 : Int32) (i374 : Int32) (i375 : Int32) (i376 : Int32) (i377 : Int32) (i378 : Int32) (i379 : Int32) (i381 : Int32) (i382 : Int32) (s380 : Hp) : Option (Int32 × Hp) :=
  if i382 = i381 then
  if i378 = 0 then
  D_L_isWell_b314 k228 a361 i362 i363 i364 i365 i366 i367 i368 i369 i370 i371 i372 i373 i374 i375 i376 i377 i378 i379 s380
  else
  bd (D_X9_at a361 i377 i369 (2 : Int32) s380) fun i435 s436 =>
  if ((i373 >>> (i377 &&& 31)) &&& (1 : Int32)) = i435 then
  D_L_isWell_b314 k228 a361 i362 i363 i364 i365 i366 i367 i368 i369 i370 i371 i372 i373 i374 i375 i376 i377 i378 i379 s436
  else
  D_L_isWell_b333 k228 a361 i362 i363 i364 i365 i366 i367 i368 i369 i370 i371 i372 i373 i374 i375 i376 i377 i378 i379 s436
  else
  D_L_isWell_b333 k228 a361 i362 i363 i364 i365 i366 i367 i368 i369 i370 i371 i372 i373 i374 i375 i376 i377 i378 i379 s380
def D_L_isWell_b250 (k228 : Int32 → Int32 → Int32 → Int32 → Int32 → Hp → Option (Int32 × Hp)) (a176 : Nat) (i177 : Int32) (i178 : Int32) (i179 : Int32) (i180 : Int32) (i181 : Int32) (i182 : Int32) (i183 : Int32) (i184 : Int32) (i185 : Int32) (i186 : Int32) (i187 : Int32) (i188 : Int32) (i189 : Int32) (i190 : Int32) (i191 : Int32) (i192 : Int32) (i193 : Int32) (i195 : Int32) (s194 : Hp) : Option (Int32 × Hp) :=
  bd (D_X9_at a176 i193 i185 (1 : Int32) s194) fun i196 s197 =>
  if i184 = 0 then
  D_L_isWell_b333 k228 a176 i177 i178 i179 i180 i181 i182 i183 i185 i186 i187 i188 i189 i190 i191 i192 i193 i195 i196 s197
  else
  bd (D_X9_of a176 i193 (2 : Int32) s197) fun i359 s360 =>
  if i359 = i187 then
  D_L_isWell_b287 k228 a176 i177 i178 i179 i180 i181 i182 i183 i185 i186 i187 i188 i189 i190 i191 i192 i193 i195 i196 (1 : Int32) i195 s360
  else
  D_L_isWell_b287 k228 a176 i177 i178 i179 i180 i181 i182 i183 i185 i186 i187 i188 i189 i190 i191 i192 i193 i195 i196 (0 : Int32) i195 s360
def D_L_isWell_w228 (a156 : Nat) (i157 : Int32) (i158 : Int32) (i159 : Int32) (i160 : Int32) (i161 : Int32) (i162 : Int32) (i163 : Int32) (i164 : Int32) (i165 : Int32) (i166 : Int32) (i167 : Int32) (i168 : Int32) (k411 : Int32 → Int32 → Int32 → Int32 → Hp → Option (Int32 × Hp)) : Nat → Int32 → Int32 → Int32 → Int32 → Int32 → Hp → Option (Int32 × Hp)
  | 0, _, _, _, _, _, _ => none
  | n175 + 1, i169, i170, i171, i172, i173, s174 =>
  if i157 ≤ i173 then
  k411 i169 i170 i171 i172 s174
  else
  if ((i167 >>> (i173 &&& 31)) &&& (1 : Int32)) = (1 : Int32) then
  D_L_isWell_b250 (D_L_isWell_w228 a156 i157 i158 i159 i160 i161 i162 i163 i164 i165 i166 i167 i168 k411 n175) a156 i157 i158 i159 i160 i161 i162 i163 i169 i164 i165 i166 i167 i168 i170 i171 i172 i173 (1 : Int32) s174
  else
  D_L_isWell_b250 (D_L_isWell_w228 a156 i157 i158 i159 i160 i161 i162 i163 i164 i165 i166 i167 i168 k411 n175) a156 i157 i158 i159 i160 i161 i162 i163 i169 i164 i165 i166 i167 i168 i170 i171 i172 i173 (0 : Int32) s174
def D_L_isWell_b491 (k181 : Int32 → Int32 → Int32 → Int32 → Hp → Option (Int32 × Hp)) (a489 : Nat) (i490 : Int32) (i491 : Int32) (i492 : Int32) (i493 : Int32) (i494 : Int32) (i495 : Int32) (i496 : Int32) (i497 : Int32) (i498 : Int32) (i499 : Int32) (i501 : Int32) (s500 : Hp) : Option (Int32 × Hp) :=
  k181 i501 i496 i498 (i499 + 1) s500
def D_L_isWell_b468 (k181 : Int32 → Int32 → Int32 → Int32 → Hp → Option (Int32 × Hp)) (a473 : Nat) (i474 : Int32) (i475 : Int32) (i476 : Int32) (i477 : Int32) (i478 : Int32) (i479 : Int32) (i480 : Int32) (i481 : Int32) (i482 : Int32) (i483 : Int32) (i484 : Int32) (i485 : Int32) (i487 : Int32) (s486 : Hp) : Option (Int32 × Hp) :=
  nm (i482 + i484) fun i488 =>
  if i485 ≤ i479 then
  D_L_isWell_b491 k181 a473 i474 i475 i476 i477 i478 i480 i487 i481 i488 i483 i479 s486
  else
  D_L_isWell_b491 k181 a473 i474 i475 i476 i477 i478 i480 i487 i481 i488 i483 i485 s486
def D_L_isWell_b467 (k181 : Int32 → Int32 → Int32 → Int32 → Hp → Option (Int32 × Hp)) (a459 : Nat) (i460 : Int32) (i461 : Int32) (i462 : Int32) (i463 : Int32) (i464 : Int32) (i465 : Int32) (i466 : Int32) (i467 : Int32) (i468 : Int32) (i469 : Int32) (i470 : Int32) (i471 : Int32) (s472 : Hp) : Option (Int32 × Hp) :=
  D_L_isWell_b468 k181 a459 i460 i461 i462 i463 i464 i465 i466 i467 i468 i469 i470 i471 (0 : Int32) s472
def D_L_isWell_b463 (k181 : Int32 → Int32 → Int32 → Int32 → Hp → Option (Int32 × Hp)) (a519 : Nat) (i520 : Int32) (i521 : Int32) (i522 : Int32) (i523 : Int32) (i524 : Int32) (i525 : Int32) (i526 : Int32) (i527 : Int32) (i528 : Int32) (i529 : Int32) (i530 : Int32) (i531 : Int32) (s532 : Hp) : Option (Int32 × Hp) :=
  D_L_isWell_b468 k181 a519 i520 i521 i522 i523 i524 i525 i526 i527 i528 i529 i530 i531 (1 : Int32) s532
def D_L_isWell_w181 (a138 : Nat) (i139 : Int32) (i140 : Int32) (i141 : Int32) (i142 : Int32) (i143 : Int32) (i144 : Int32) (i145 : Int32) (k499 : Int32 → Int32 → Int32 → Hp → Option (Int32 × Hp)) : Nat → Int32 → Int32 → Int32 → Int32 → Hp → Option (Int32 × Hp)
  | 0, _, _, _, _, _ => none
  | n151 + 1, i146, i147, i148, i149, s150 =>
  if (4 : Int32) ≤ i149 then
  k499 i146 i147 i148 s150
  else
  if i147 = 0 then
  k499 i146 i147 i148 s150
  else
  bd (D_X9_point a138 i149 i145 (1 : Int32) s150) fun i152 s153 =>
  bd (D_X9_point a138 i149 i145 (2 : Int32) s153) fun i154 s155 =>
  D_L_isWell_w228 a138 i139 i140 i141 i142 i143 i146 i144 i145 i148 i149 i152 i154 (fun i455 i456 i457 i458 s454 =>
  if i455 = 0 then
  D_L_isWell_b467 (D_L_isWell_w181 a138 i139 i140 i141 i142 i143 i144 i145 k499 n151) a138 i139 i140 i141 i142 i143 i146 i144 i145 i148 i149 i456 i457 s454
  else
  bd (D_X9_point a138 i149 i145 (0 : Int32) s454) fun i517 s518 =>
  if i456 = i517 then
  if i140 < i456 then
  D_L_isWell_b467 (D_L_isWell_w181 a138 i139 i140 i141 i142 i143 i144 i145 k499 n151) a138 i139 i140 i141 i142 i143 i146 i144 i145 i148 i149 i456 i457 s518
  else
  if i458 = (1000 : Int32) then
  if i154 = i152 then
  D_L_isWell_b463 (D_L_isWell_w181 a138 i139 i140 i141 i142 i143 i144 i145 k499 n151) a138 i139 i140 i141 i142 i143 i146 i144 i145 i148 i149 i456 i457 s518
  else
  D_L_isWell_b467 (D_L_isWell_w181 a138 i139 i140 i141 i142 i143 i144 i145 k499 n151) a138 i139 i140 i141 i142 i143 i146 i144 i145 i148 i149 i456 i457 s518
  else
  if (i456 + i458) ≤ i140 then
  D_L_isWell_b467 (D_L_isWell_w181 a138 i139 i140 i141 i142 i143 i144 i145 k499 n151) a138 i139 i140 i141 i142 i143 i146 i144 i145 i148 i149 i456 i457 s518
  else
  D_L_isWell_b463 (D_L_isWell_w181 a138 i139 i140 i141 i142 i143 i144 i145 k499 n151) a138 i139 i140 i141 i142 i143 i146 i144 i145 i148 i149 i456 i457 s518
  else
  D_L_isWell_b467 (D_L_isWell_w181 a138 i139 i140 i141 i142 i143 i144 i145 k499 n151) a138 i139 i140 i141 i142 i143 i146 i144 i145 i148 i149 i456 i457 s518
  ) FU i147 (0 : Int32) (0 : Int32) (1000 : Int32) (0 : Int32) s155
def D_L_isWell_b665 (k507 : Int32 → Int32 → Hp → Option (Int32 × Hp)) (a616 : Nat) (i617 : Int32) (i618 : Int32) (i619 : Int32) (i620 : Int32) (i621 : Int32) (i622 : Int32) (i623 : Int32) (i624 : Int32) (i625 : Int32) (i627 : Int32) (s626 : Hp) : Option (Int32 × Hp) :=
  k507 i627 (i625 + 1) s626
def D_L_isWell_b664 (k507 : Int32 → Int32 → Hp → Option (Int32 × Hp)) (a605 : Nat) (i606 : Int32) (i607 : Int32) (i608 : Int32) (i609 : Int32) (i610 : Int32) (i611 : Int32) (i612 : Int32) (i613 : Int32) (i614 : Int32) (s615 : Hp) : Option (Int32 × Hp) :=
  D_L_isWell_b665 k507 a605 i606 i607 i608 i609 i610 i611 i612 i613 i614 (0 : Int32) s615
def D_L_isWell_b660 (k507 : Int32 → Int32 → Hp → Option (Int32 × Hp)) (a694 : Nat) (i695 : Int32) (i696 : Int32) (i697 : Int32) (i698 : Int32) (i699 : Int32) (i700 : Int32) (i701 : Int32) (i702 : Int32) (i703 : Int32) (s704 : Hp) : Option (Int32 × Hp) :=
  D_L_isWell_b665 k507 a694 i695 i696 i697 i698 i699 i700 i701 i702 i703 (1 : Int32) s704
def D_L_isWell_b631 (k507 : Int32 → Int32 → Hp → Option (Int32 × Hp)) (a681 : Nat) (i682 : Int32) (i683 : Int32) (i684 : Int32) (i685 : Int32) (i686 : Int32) (i687 : Int32) (i688 : Int32) (i689 : Int32) (i690 : Int32) (i691 : Int32) (i692 : Int32) (s693 : Hp) : Option (Int32 × Hp) :=
  if (60 : Int32) < i691 then
  D_L_isWell_b664 k507 a681 i682 i683 i684 i685 i686 i687 i688 i689 i690 s693
  else
  if i692 = 0 then
  bd (D_X9_of a681 i690 (3 : Int32) s693) fun i708 s709 =>
  if (50 : Int32) < i708 then
  D_L_isWell_b660 k507 a681 i682 i683 i684 i685 i686 i687 i688 i689 i690 s709
  else
  if i691 ≤ 0 then
  D_L_isWell_b664 k507 a681 i682 i683 i684 i685 i686 i687 i688 i689 i690 s709
  else
  D_L_isWell_b660 k507 a681 i682 i683 i684 i685 i686 i687 i688 i689 i690 s709
  else
  D_L_isWell_b660 k507 a681 i682 i683 i684 i685 i686 i687 i688 i689 i690 s693
def D_L_isWell_b609 (k507 : Int32 → Int32 → Hp → Option (Int32 × Hp)) (a667 : Nat) (i668 : Int32) (i669 : Int32) (i670 : Int32) (i671 : Int32) (i672 : Int32) (i673 : Int32) (i674 : Int32) (i675 : Int32) (i676 : Int32) (i677 : Int32) (i678 : Int32) (i679 : Int32) (s680 : Hp) : Option (Int32 × Hp) :=
  if i677 < 0 then
  D_L_isWell_b631 k507 a667 i668 i669 i670 i671 i672 i673 i674 i675 i676 i678 i679 s680
  else
  bd (D_X9_of a667 i677 (0 : Int32) s680) fun i713 s714 =>
  bd (D_X9_of a667 i676 (0 : Int32) s714) fun i715 s716 =>
  if i715 ≤ i713 then
  D_L_isWell_b664 k507 a667 i668 i669 i670 i671 i672 i673 i674 i675 i676 s716
  else
  D_L_isWell_b631 k507 a667 i668 i669 i670 i671 i672 i673 i674 i675 i676 i678 i679 s716
def D_L_isWell_b596 (k507 : Int32 → Int32 → Hp → Option (Int32 × Hp)) (a651 : Nat) (i652 : Int32) (i653 : Int32) (i654 : Int32) (i655 : Int32) (i656 : Int32) (i657 : Int32) (i658 : Int32) (i659 : Int32) (i660 : Int32) (i661 : Int32) (i662 : Int32) (i663 : Int32) (i665 : Int32) (i666 : Int32) (s664 : Hp) : Option (Int32 × Hp) :=
  if i666 = i665 then
  if i663 = 0 then
  D_L_isWell_b609 k507 a651 i652 i653 i654 i655 i656 i657 i658 i659 i660 i661 i662 i663 s664
  else
  if i662 = 0 then
  D_L_isWell_b609 k507 a651 i652 i653 i654 i655 i656 i657 i658 i659 i660 i661 i662 i663 s664
  else
  D_L_isWell_b664 k507 a651 i652 i653 i654 i655 i656 i657 i658 i659 i660 s664
  else
  D_L_isWell_b664 k507 a651 i652 i653 i654 i655 i656 i657 i658 i659 i660 s664
def D_L_isWell_b578 (k507 : Int32 → Int32 → Hp → Option (Int32 × Hp)) (a634 : Nat) (i635 : Int32) (i636 : Int32) (i637 : Int32) (i638 : Int32) (i639 : Int32) (i640 : Int32) (i641 : Int32) (i642 : Int32) (i643 : Int32) (i644 : Int32) (i645 : Int32) (i646 : Int32) (i648 : Int32) (s647 : Hp) : Option (Int32 × Hp) :=
  bd (D_X9_at a634 i643 i642 (0 : Int32) s647) fun i649 s650 =>
  if i649 = (1 : Int32) then
  D_L_isWell_b596 k507 a634 i635 i636 i637 i638 i639 i640 i641 i642 i643 i644 i645 i646 (1 : Int32) i648 s650
  else
  D_L_isWell_b596 k507 a634 i635 i636 i637 i638 i639 i640 i641 i642 i643 i644 i645 i646 (0 : Int32) i648 s650
def D_L_isWell_b561 (k507 : Int32 → Int32 → Hp → Option (Int32 × Hp)) (a590 : Nat) (i591 : Int32) (i592 : Int32) (i593 : Int32) (i594 : Int32) (i595 : Int32) (i596 : Int32) (i597 : Int32) (i598 : Int32) (i599 : Int32) (i600 : Int32) (i601 : Int32) (i602 : Int32) (i604 : Int32) (s603 : Hp) : Option (Int32 × Hp) :=
  if i598 = 0 then
  D_L_isWell_b664 k507 a590 i591 i592 i593 i594 i595 i596 i597 i599 i600 s603
  else
  if i601 < 0 then
  D_L_isWell_b578 k507 a590 i591 i592 i593 i594 i595 i596 i597 i599 i600 i601 i602 i604 (0 : Int32) s603
  else
  D_L_isWell_b578 k507 a590 i591 i592 i593 i594 i595 i596 i597 i599 i600 i601 i602 i604 (1 : Int32) s603
def D_L_isWell_b556 (k507 : Int32 → Int32 → Hp → Option (Int32 × Hp)) (a576 : Nat) (i577 : Int32) (i578 : Int32) (i579 : Int32) (i580 : Int32) (i581 : Int32) (i582 : Int32) (i583 : Int32) (i584 : Int32) (i585 : Int32) (i586 : Int32) (i587 : Int32) (i588 : Int32) (s589 : Hp) : Option (Int32 × Hp) :=
  D_L_isWell_b561 k507 a576 i577 i578 i579 i580 i581 i582 i583 i584 i585 i586 i587 i588 (1 : Int32) s589
def D_L_isWell_w507 (a559 : Nat) (i560 : Int32) (i561 : Int32) (i562 : Int32) (i563 : Int32) (i564 : Int32) (i565 : Int32) (i566 : Int32) (i567 : Int32) (k673 : Int32 → Hp → Option (Int32 × Hp)) : Nat → Int32 → Int32 → Hp → Option (Int32 × Hp)
  | 0, _, _, _ => none
  | n571 + 1, i568, i569, s570 =>
  if i560 ≤ i569 then
  k673 i568 s570
  else
  bd (D_X9_at a559 i569 i567 (3 : Int32) s570) fun i572 s573 =>
  bd (D_X9_at a559 i569 i567 (1 : Int32) s573) fun i574 s575 =>
  if i566 = 0 then
  if 0 ≤ i572 then
  D_L_isWell_b556 (D_L_isWell_w507 a559 i560 i561 i562 i563 i564 i565 i566 i567 k673 n571) a559 i560 i561 i562 i563 i564 i565 i566 i568 i567 i569 i572 i574 s575
  else
  bd (D_X9_of a559 i569 (4 : Int32) s575) fun i732 s733 =>
  if i732 = (1 : Int32) then
  D_L_isWell_b556 (D_L_isWell_w507 a559 i560 i561 i562 i563 i564 i565 i566 i567 k673 n571) a559 i560 i561 i562 i563 i564 i565 i566 i568 i567 i569 i572 i574 s733
  else
  D_L_isWell_b561 (D_L_isWell_w507 a559 i560 i561 i562 i563 i564 i565 i566 i567 k673 n571) a559 i560 i561 i562 i563 i564 i565 i566 i568 i567 i569 i572 i574 (0 : Int32) s733
  else
  D_L_isWell_b556 (D_L_isWell_w507 a559 i560 i561 i562 i563 i564 i565 i566 i567 k673 n571) a559 i560 i561 i562 i563 i564 i565 i566 i568 i567 i569 i572 i574 s575
def D_L_isWell_b499 (k163 : Int32 → Int32 → Int32 → Int32 → Hp → Option (Int32 × Hp)) (a546 : Nat) (i547 : Int32) (i548 : Int32) (i549 : Int32) (i550 : Int32) (i551 : Int32) (i552 : Int32) (i553 : Int32) (i554 : Int32) (i555 : Int32) (i556 : Int32) (s557 : Hp) : Option (Int32 × Hp) :=
  nm (i549 + i556) fun i558 =>
  D_L_isWell_w507 a546 i547 i548 i558 i550 i551 i552 i553 i555 (fun i737 s736 =>
  k163 i558 i552 i737 (i555 + 1) s736
  ) FU i554 (0 : Int32) s557
def D_L_isWell_w163 (a126 : Nat) (i127 : Int32) (i128 : Int32) (i129 : Int32) (i130 : Int32) (i131 : Int32) (k679 : Int32 → Int32 → Int32 → Hp → Option (Int32 × Hp)) : Nat → Int32 → Int32 → Int32 → Int32 → Hp → Option (Int32 × Hp)
  | 0, _, _, _, _, _ => none
  | n137 + 1, i132, i133, i134, i135, s136 =>
  if (11 : Int32) ≤ i135 then
  k679 i132 i133 i134 s136
  else
  if i134 = 0 then
  k679 i132 i133 i134 s136
  else
  D_L_isWell_w181 a126 i127 i128 i132 i129 i130 i131 i135 (fun i543 i544 i545 s542 =>
  D_L_isWell_b499 (D_L_isWell_w163 a126 i127 i128 i129 i130 i131 k679 n137) a126 i127 i128 i132 i129 i130 i543 i131 i544 i135 i545 s542
  ) FU i133 i134 (0 : Int32) (0 : Int32) s136
def D_L_isWell_b679  (a751 : Nat) (i752 : Int32) (i753 : Int32) (i754 : Int32) (i755 : Int32) (i756 : Int32) (s757 : Hp) : Option (Int32 × Hp) :=
  if i756 = 0 then
  retZ (0 : Int32) ((0 : Int32), s757)
  else
  bd (D_X9_count a751 (5 : Int32) s757) fun i758 s759 =>
  if i752 = i758 then
  bd (D_X9_count a751 (7 : Int32) s759) fun i760 s761 =>
  if i753 = i760 then
  bd (D_X9_count a751 (6 : Int32) s761) fun i762 s763 =>
  if i754 = i762 then
  bd (D_X9_leastLimit a751 s763) fun i764 s765 =>
  if i755 = i764 then
  retZ (1 : Int32) ((1 : Int32), s765)
  else
  retZ (0 : Int32) ((0 : Int32), s765)
  else
  retZ (0 : Int32) ((0 : Int32), s763)
  else
  retZ (0 : Int32) ((0 : Int32), s761)
  else
  retZ (0 : Int32) ((0 : Int32), s759)
def D_L_isWell_b160  (a116 : Nat) (i117 : Int32) (i118 : Int32) (i119 : Int32) (i120 : Int32) (i121 : Int32) (i122 : Int32) (i123 : Int32) (i124 : Int32) (s125 : Hp) : Option (Int32 × Hp) :=
  D_L_isWell_w163 a116 i117 i118 i120 i121 i123 (fun i748 i749 i750 s747 =>
  D_L_isWell_b679 a116 i748 i120 i121 i749 i750 s747
  ) FU i119 i122 i124 (0 : Int32) s125
def D_L_isWell_b69  (a41 : Nat) (i42 : Int32) (i43 : Int32) (i44 : Int32) (i45 : Int32) (i46 : Int32) (i47 : Int32) (i48 : Int32) (i50 : Int32) (s49 : Hp) : Option (Int32 × Hp) :=
  D_L_isWell_w74 a41 i42 i43 i44 i47 i48 (fun i113 i114 i115 s112 =>
  D_L_isWell_b160 a41 i42 i43 i44 i113 i114 i47 i48 i115 s112
  ) FU i45 i46 i50 (0 : Int32) s49
def D_L_isWell_b61  (a30 : Nat) (i31 : Int32) (i32 : Int32) (i33 : Int32) (i34 : Int32) (i35 : Int32) (i36 : Int32) (i37 : Int32) (i39 : Int32) (i40 : Int32) (s38 : Hp) : Option (Int32 × Hp) :=
  if i40 = i39 then
  D_L_isWell_b69 a30 i31 i32 i33 i34 i35 i36 i37 (1 : Int32) s38
  else
  D_L_isWell_b69 a30 i31 i32 i33 i34 i35 i36 i37 (0 : Int32) s38
def D_L_isWell_b38  (a17 : Nat) (i18 : Int32) (i19 : Int32) (i20 : Int32) (i21 : Int32) (i22 : Int32) (i23 : Int32) (i25 : Int32) (s24 : Hp) : Option (Int32 × Hp) :=
  bd (D_X9_count a17 (2 : Int32) s24) fun i26 s27 =>
  bd (D_X9_count a17 (9 : Int32) s27) fun i28 s29 =>
  if i26 ≤ i28 then
  D_L_isWell_b61 a17 i18 i19 i20 i21 i22 i23 i25 (0 : Int32) i25 s29
  else
  D_L_isWell_b61 a17 i18 i19 i20 i21 i22 i23 i25 (1 : Int32) i25 s29
def D_L_isWell (a0 : Nat) (s0 : Hp) : Option (Int32 × Hp) :=
  bd (D_X9_count a0 (1 : Int32) s0) fun i11 s12 =>
  bd (D_X9_count a0 (8 : Int32) s12) fun i13 s14 =>
  bd (D_X9_count a0 (3 : Int32) s14) fun i15 s16 =>
  if i15 = (1 : Int32) then
  D_L_isWell_b38 a0 i11 i13 (0 : Int32) (0 : Int32) (0 : Int32) (1 : Int32) (1 : Int32) s16
  else
  D_L_isWell_b38 a0 i11 i13 (0 : Int32) (0 : Int32) (0 : Int32) (1 : Int32) (0 : Int32) s16
set_option maxRecDepth 100000 in
set_option maxHeartbeats 4000000 in
theorem K_L_isWell_b152 {l : Launch} {G : smG} {P : Option Value → Hp → Prop} {k74 : Int32 → Int32 → Int32 → Int32 → Hp → Option (Int32 × Hp)} {a85 : Nat} {i86 : Int32} {i87 : Int32} {i88 : Int32} {i89 : Int32} {i90 : Int32} {i91 : Int32} {i92 : Int32} {i93 : Int32} {i95 : Int32} {s94 : Hp} (hk74 : ∀ (i96 : Int32) (i97 : Int32) (i98 : Int32) (i99 : Int32) (s100 : Hp), OK jI (k74 i96 i97 i98 i99 s100) P → T l G RL cL_isWell 20 (sm_rm 6 0 0) (sm_E (some .boolean) yL_isWell.name) (sm_Qs G P 0 0) 0 0 74 [(0, .ref a85), (1, .int i86), (2, .int i87), (3, .int i88), (4, .int i96), (5, .int i97), (6, .int i91), (7, .int i92), (8, .int i98), (9, .int i99)] [] s100) (h : OK jI (D_L_isWell_b152 k74 a85 i86 i87 i88 i89 i90 i91 i92 i93 i95 s94) P) : T l G RL cL_isWell 20 (sm_rm 6 0 0) (sm_E (some .boolean) yL_isWell.name) (sm_Qs G P 0 0) 0 0 152 [(0, .ref a85), (1, .int i86), (2, .int i87), (3, .int i88), (4, .int i89), (5, .int i90), (6, .int i91), (7, .int i92), (9, .int i93)] [.int i95] s94 := by
  unfold D_L_isWell_b152 at h
  refine T_istore (lv' := [(8, .int i95), (0, .ref a85), (1, .int i86), (2, .int i87), (3, .int i88), (4, .int i89), (5, .int i90), (6, .int i91), (7, .int i92), (9, .int i93)]) dL_isWell_152 (by decide) rfl ?_
  refine T_iinc (i93 + 1) (lv' := [(9, .int (i93 + 1)), (8, .int i95), (0, .ref a85), (1, .int i86), (2, .int i87), (3, .int i88), (4, .int i89), (5, .int i90), (6, .int i91), (7, .int i92)]) dL_isWell_154 (j := 9) rfl rfl (by decide) rfl ?_
  refine T_goto 74 dL_isWell_157 (by decide) ?_
  refine T_lv (lv' := [(0, .ref a85), (1, .int i86), (2, .int i87), (3, .int i88), (4, .int i89), (5, .int i90), (6, .int i91), (7, .int i92), (8, .int i95), (9, .int (i93 + 1))]) [2, 3, 4, 5, 6, 7, 8, 9, 1, 0] rfl ?_
  exact hk74 i89 i90 i95 (i93 + 1) s94 h
set_option maxRecDepth 100000 in
set_option maxHeartbeats 4000000 in
theorem K_L_isWell_b151 {l : Launch} {G : smG} {P : Option Value → Hp → Prop} {k74 : Int32 → Int32 → Int32 → Int32 → Hp → Option (Int32 × Hp)} {a75 : Nat} {i76 : Int32} {i77 : Int32} {i78 : Int32} {i79 : Int32} {i80 : Int32} {i81 : Int32} {i82 : Int32} {i83 : Int32} {s84 : Hp} (hk74 : ∀ (i101 : Int32) (i102 : Int32) (i103 : Int32) (i104 : Int32) (s105 : Hp), OK jI (k74 i101 i102 i103 i104 s105) P → T l G RL cL_isWell 20 (sm_rm 6 0 0) (sm_E (some .boolean) yL_isWell.name) (sm_Qs G P 0 0) 0 0 74 [(0, .ref a75), (1, .int i76), (2, .int i77), (3, .int i78), (4, .int i101), (5, .int i102), (6, .int i81), (7, .int i82), (8, .int i103), (9, .int i104)] [] s105) (h : OK jI (D_L_isWell_b151 k74 a75 i76 i77 i78 i79 i80 i81 i82 i83 s84) P) : T l G RL cL_isWell 20 (sm_rm 6 0 0) (sm_E (some .boolean) yL_isWell.name) (sm_Qs G P 0 0) 0 0 151 [(0, .ref a75), (1, .int i76), (2, .int i77), (3, .int i78), (4, .int i79), (5, .int i80), (6, .int i81), (7, .int i82), (9, .int i83)] [] s84 := by
  unfold D_L_isWell_b151 at h
  refine T_iconst (0 : Int32) dL_isWell_151 (by decide) ?_
  exact K_L_isWell_b152 hk74 h
set_option maxRecDepth 100000 in
set_option maxHeartbeats 4000000 in
theorem K_L_isWell_w74 {l : Launch} {G : smG} {P : Option Value → Hp → Prop} {a51 : Nat} {i52 : Int32} {i53 : Int32} {i54 : Int32} {i55 : Int32} {i56 : Int32} {k160 : Int32 → Int32 → Int32 → Hp → Option (Int32 × Hp)} (hk160 : ∀ (i108 : Int32) (i109 : Int32) (i110 : Int32) (s111 : Hp), OK jI (k160 i108 i109 i110 s111) P → T l G RL cL_isWell 20 (sm_rm 6 0 0) (sm_E (some .boolean) yL_isWell.name) (sm_Qs G P 0 0) 0 0 160 [(0, .ref a51), (1, .int i52), (2, .int i53), (3, .int i54), (4, .int i108), (5, .int i109), (6, .int i55), (7, .int i56), (8, .int i110)] [] s111) : ∀ (n : Nat) (i57 : Int32) (i58 : Int32) (i59 : Int32) (i60 : Int32) (s61 : Hp), OK jI (D_L_isWell_w74 a51 i52 i53 i54 i55 i56 k160 n i57 i58 i59 i60 s61) P → T l G RL cL_isWell 20 (sm_rm 6 0 0) (sm_E (some .boolean) yL_isWell.name) (sm_Qs G P 0 0) 0 0 74 [(0, .ref a51), (1, .int i52), (2, .int i53), (3, .int i54), (4, .int i57), (5, .int i58), (6, .int i55), (7, .int i56), (8, .int i59), (9, .int i60)] [] s61 := by
  intro n
  induction n with
  | zero => intro i57 i58 i59 i60 s61 h; obtain ⟨_, h0, _⟩ := h; exact absurd h0 (by simp [D_L_isWell_w74])
  | succ n62 ih =>
    intro i57 i58 i59 i60 s61 h
    unfold D_L_isWell_w74 at h
    refine T_iload dL_isWell_74 9 rfl ?_
    refine T_iload_n dL_isWell_76 rfl 1 rfl ?_
    refine T_icmp_ge 160 dL_isWell_77 (by decide) h (fun _ h => ?_) (fun _ h => ?_)
    · refine T_lv (lv' := [(0, .ref a51), (1, .int i52), (2, .int i53), (3, .int i54), (4, .int i57), (5, .int i58), (6, .int i55), (7, .int i56), (8, .int i59)]) [0, 1, 2, 3, 4, 5, 6, 7, 8] rfl ?_
      exact hk160 i57 i58 i59 s61 h
    · refine T_iload dL_isWell_80 8 rfl ?_
      refine T_if_eq 160 dL_isWell_82 (by decide) h (fun _ h => ?_) (fun _ h => ?_)
      · refine T_lv (lv' := [(0, .ref a51), (1, .int i52), (2, .int i53), (3, .int i54), (4, .int i57), (5, .int i58), (6, .int i55), (7, .int i56), (8, .int i59)]) [0, 1, 2, 3, 4, 5, 6, 7, 8] rfl ?_
        exact hk160 i57 i58 i59 s61 h
      · refine T_iload dL_isWell_85 4 rfl ?_
        refine T_aload_n dL_isWell_87 rfl 0 rfl ?_
        refine T_iload dL_isWell_88 9 rfl ?_
        refine T_iconst (3 : Int32) dL_isWell_90 (by decide) ?_
        refine T_callVI (As := [.int i60, .int (3 : Int32)]) (rest := [.int i57]) (b := a51) (ci := 8) dL_isWell_91 mc_X9_of mi_X9_of ml_RL_28 rfl (fun _ hr => chk_of hr) rfl rfl (Nat.le_of_ble_eq_true rfl) ⟨⟨Nat.le_of_ble_eq_true rfl, Nat.le_of_ble_eq_true rfl⟩, ⟨Nat.le_of_ble_eq_true rfl, Nat.le_of_ble_eq_true rfl⟩⟩ K_X9_of h (fun i63 s64 h => ?_)
        refine T_iadd dL_isWell_94 ?_
        refine T_nm h (fun i65 h => ?_)
        refine T_istore (lv' := [(4, .int i65), (0, .ref a51), (1, .int i52), (2, .int i53), (3, .int i54), (5, .int i58), (6, .int i55), (7, .int i56), (8, .int i59), (9, .int i60)]) dL_isWell_95 (by decide) rfl ?_
        refine T_iload dL_isWell_97 5 rfl ?_
        refine T_aload_n dL_isWell_99 rfl 1 rfl ?_
        refine T_iload dL_isWell_100 9 rfl ?_
        refine T_iconst (4 : Int32) dL_isWell_102 (by decide) ?_
        refine T_callVI (As := [.int i60, .int (4 : Int32)]) (rest := [.int i58]) (b := a51) (ci := 8) dL_isWell_103 mc_X9_of mi_X9_of ml_RL_28 rfl (fun _ hr => chk_of hr) rfl rfl (Nat.le_of_ble_eq_true rfl) ⟨⟨Nat.le_of_ble_eq_true rfl, Nat.le_of_ble_eq_true rfl⟩, ⟨Nat.le_of_ble_eq_true rfl, Nat.le_of_ble_eq_true rfl⟩⟩ K_X9_of h (fun i66 s67 h => ?_)
        refine T_iload dL_isWell_106 9 rfl ?_
        refine T_ishl dL_isWell_108 ?_
        refine T_ior dL_isWell_109 ?_
        refine T_nm h (fun i68 h => ?_)
        refine T_istore (lv' := [(5, .int i68), (4, .int i65), (0, .ref a51), (1, .int i52), (2, .int i53), (3, .int i54), (6, .int i55), (7, .int i56), (8, .int i59), (9, .int i60)]) dL_isWell_110 (by decide) rfl ?_
        refine T_aload_n dL_isWell_112 rfl 2 rfl ?_
        refine T_aload_n dL_isWell_113 rfl 2 rfl ?_
        refine T_iload dL_isWell_114 9 rfl ?_
        refine T_iconst (0 : Int32) dL_isWell_116 (by decide) ?_
        refine T_callVI (As := [.int i60, .int (0 : Int32)]) (rest := [.ref a51]) (b := a51) (ci := 8) dL_isWell_117 mc_X9_of mi_X9_of ml_RL_28 rfl (fun _ hr => chk_of hr) rfl rfl (Nat.le_of_ble_eq_true rfl) ⟨⟨Nat.le_of_ble_eq_true rfl, Nat.le_of_ble_eq_true rfl⟩, ⟨Nat.le_of_ble_eq_true rfl, Nat.le_of_ble_eq_true rfl⟩⟩ K_X9_of h (fun i69 s70 h => ?_)
        refine T_aload_n dL_isWell_120 rfl 2 rfl ?_
        refine T_iload dL_isWell_121 9 rfl ?_
        refine T_iconst (1 : Int32) dL_isWell_123 (by decide) ?_
        refine T_callVI (As := [.int i60, .int (1 : Int32)]) (rest := [.int i69, .ref a51]) (b := a51) (ci := 8) dL_isWell_124 mc_X9_of mi_X9_of ml_RL_28 rfl (fun _ hr => chk_of hr) rfl rfl (Nat.le_of_ble_eq_true rfl) ⟨⟨Nat.le_of_ble_eq_true rfl, Nat.le_of_ble_eq_true rfl⟩, ⟨Nat.le_of_ble_eq_true rfl, Nat.le_of_ble_eq_true rfl⟩⟩ K_X9_of h (fun i71 s72 h => ?_)
        refine T_callVI (As := [.int i69, .int i71]) (rest := []) (b := a51) (ci := 8) dL_isWell_127 mc_X9_in mi_X9_in ml_RL_21 rfl (fun _ hr => chk_of hr) rfl rfl (Nat.le_of_ble_eq_true rfl) ⟨⟨Nat.le_of_ble_eq_true rfl, Nat.le_of_ble_eq_true rfl⟩, ⟨Nat.le_of_ble_eq_true rfl, Nat.le_of_ble_eq_true rfl⟩⟩ K_X9_in h (fun i73 s74 h => ?_)
        refine T_iload dL_isWell_130 9 rfl ?_
        refine T_icmp_ne 151 dL_isWell_132 (by decide) h (fun _ h => ?_) (fun _ h => ?_)
        · refine T_lv (lv' := [(0, .ref a51), (1, .int i52), (2, .int i53), (3, .int i54), (4, .int i65), (5, .int i68), (6, .int i55), (7, .int i56), (9, .int i60)]) [2, 3, 4, 5, 1, 0, 6, 7, 9] rfl ?_
          exact K_L_isWell_b151 ih h
        · refine T_aload_n dL_isWell_135 rfl 2 rfl ?_
          refine T_iload dL_isWell_136 9 rfl ?_
          refine T_iconst (3 : Int32) dL_isWell_138 (by decide) ?_
          refine T_callVI (As := [.int i60, .int (3 : Int32)]) (rest := []) (b := a51) (ci := 8) dL_isWell_139 mc_X9_of mi_X9_of ml_RL_28 rfl (fun _ hr => chk_of hr) rfl rfl (Nat.le_of_ble_eq_true rfl) ⟨⟨Nat.le_of_ble_eq_true rfl, Nat.le_of_ble_eq_true rfl⟩, ⟨Nat.le_of_ble_eq_true rfl, Nat.le_of_ble_eq_true rfl⟩⟩ K_X9_of h (fun i106 s107 h => ?_)
          refine T_bipush (100 : Int32) dL_isWell_142 (by decide) ?_
          refine T_icmp_gt 151 dL_isWell_144 (by decide) h (fun _ h => ?_) (fun _ h => ?_)
          · refine T_lv (lv' := [(0, .ref a51), (1, .int i52), (2, .int i53), (3, .int i54), (4, .int i65), (5, .int i68), (6, .int i55), (7, .int i56), (9, .int i60)]) [2, 3, 4, 5, 1, 0, 6, 7, 9] rfl ?_
            exact K_L_isWell_b151 ih h
          · refine T_iconst (1 : Int32) dL_isWell_147 (by decide) ?_
            refine T_goto 152 dL_isWell_148 (by decide) ?_
            refine T_lv (lv' := [(0, .ref a51), (1, .int i52), (2, .int i53), (3, .int i54), (4, .int i65), (5, .int i68), (6, .int i55), (7, .int i56), (9, .int i60)]) [2, 3, 4, 5, 1, 0, 6, 7, 9] rfl ?_
            exact K_L_isWell_b152 ih h
set_option maxRecDepth 100000 in
set_option maxHeartbeats 4000000 in
theorem K_L_isWell_b403 {l : Launch} {G : smG} {P : Option Value → Hp → Prop} {k228 : Int32 → Int32 → Int32 → Int32 → Int32 → Hp → Option (Int32 × Hp)} {a304 : Nat} {i305 : Int32} {i306 : Int32} {i307 : Int32} {i308 : Int32} {i309 : Int32} {i310 : Int32} {i311 : Int32} {i312 : Int32} {i313 : Int32} {i314 : Int32} {i315 : Int32} {i316 : Int32} {i317 : Int32} {i318 : Int32} {i319 : Int32} {i320 : Int32} {i322 : Int32} {s321 : Hp} (hk228 : ∀ (i323 : Int32) (i324 : Int32) (i325 : Int32) (i326 : Int32) (i327 : Int32) (s328 : Hp), OK jI (k228 i323 i324 i325 i326 i327 s328) P → T l G RL cL_isWell 20 (sm_rm 6 0 0) (sm_E (some .boolean) yL_isWell.name) (sm_Qs G P 0 0) 0 0 228 [(0, .ref a304), (1, .int i305), (2, .int i306), (3, .int i307), (4, .int i308), (5, .int i309), (6, .int i310), (7, .int i311), (8, .int i323), (9, .int i313), (10, .int i314), (11, .int i315), (12, .int i316), (13, .int i317), (14, .int i324), (15, .int i325), (16, .int i326), (17, .int i327)] [] s328) (h : OK jI (D_L_isWell_b403 k228 a304 i305 i306 i307 i308 i309 i310 i311 i312 i313 i314 i315 i316 i317 i318 i319 i320 i322 s321) P) : T l G RL cL_isWell 20 (sm_rm 6 0 0) (sm_E (some .boolean) yL_isWell.name) (sm_Qs G P 0 0) 0 0 403 [(0, .ref a304), (1, .int i305), (2, .int i306), (3, .int i307), (4, .int i308), (5, .int i309), (6, .int i310), (7, .int i311), (8, .int i312), (9, .int i313), (10, .int i314), (11, .int i315), (12, .int i316), (13, .int i317), (14, .int i318), (15, .int i319), (17, .int i320)] [.int i322] s321 := by
  unfold D_L_isWell_b403 at h
  refine T_istore (lv' := [(16, .int i322), (0, .ref a304), (1, .int i305), (2, .int i306), (3, .int i307), (4, .int i308), (5, .int i309), (6, .int i310), (7, .int i311), (8, .int i312), (9, .int i313), (10, .int i314), (11, .int i315), (12, .int i316), (13, .int i317), (14, .int i318), (15, .int i319), (17, .int i320)]) dL_isWell_403 (by decide) rfl ?_
  refine T_iinc (i320 + 1) (lv' := [(17, .int (i320 + 1)), (16, .int i322), (0, .ref a304), (1, .int i305), (2, .int i306), (3, .int i307), (4, .int i308), (5, .int i309), (6, .int i310), (7, .int i311), (8, .int i312), (9, .int i313), (10, .int i314), (11, .int i315), (12, .int i316), (13, .int i317), (14, .int i318), (15, .int i319)]) dL_isWell_405 (j := 17) rfl rfl (by decide) rfl ?_
  refine T_goto 228 dL_isWell_408 (by decide) ?_
  refine T_lv (lv' := [(0, .ref a304), (1, .int i305), (2, .int i306), (3, .int i307), (4, .int i308), (5, .int i309), (6, .int i310), (7, .int i311), (8, .int i312), (9, .int i313), (10, .int i314), (11, .int i315), (12, .int i316), (13, .int i317), (14, .int i318), (15, .int i319), (16, .int i322), (17, .int (i320 + 1))]) [2, 3, 4, 5, 6, 7, 8, 9, 10, 11, 12, 13, 14, 15, 16, 17, 1, 0] rfl ?_
  exact hk228 i312 i318 i319 i322 (i320 + 1) s321 h
set_option maxRecDepth 100000 in
set_option maxHeartbeats 4000000 in
theorem K_L_isWell_b401 {l : Launch} {G : smG} {P : Option Value → Hp → Prop} {k228 : Int32 → Int32 → Int32 → Int32 → Int32 → Hp → Option (Int32 × Hp)} {a285 : Nat} {i286 : Int32} {i287 : Int32} {i288 : Int32} {i289 : Int32} {i290 : Int32} {i291 : Int32} {i292 : Int32} {i293 : Int32} {i294 : Int32} {i295 : Int32} {i296 : Int32} {i297 : Int32} {i298 : Int32} {i299 : Int32} {i300 : Int32} {i301 : Int32} {i302 : Int32} {s303 : Hp} (hk228 : ∀ (i329 : Int32) (i330 : Int32) (i331 : Int32) (i332 : Int32) (i333 : Int32) (s334 : Hp), OK jI (k228 i329 i330 i331 i332 i333 s334) P → T l G RL cL_isWell 20 (sm_rm 6 0 0) (sm_E (some .boolean) yL_isWell.name) (sm_Qs G P 0 0) 0 0 228 [(0, .ref a285), (1, .int i286), (2, .int i287), (3, .int i288), (4, .int i289), (5, .int i290), (6, .int i291), (7, .int i292), (8, .int i329), (9, .int i294), (10, .int i295), (11, .int i296), (12, .int i297), (13, .int i298), (14, .int i330), (15, .int i331), (16, .int i332), (17, .int i333)] [] s334) (h : OK jI (D_L_isWell_b401 k228 a285 i286 i287 i288 i289 i290 i291 i292 i293 i294 i295 i296 i297 i298 i299 i300 i301 i302 s303) P) : T l G RL cL_isWell 20 (sm_rm 6 0 0) (sm_E (some .boolean) yL_isWell.name) (sm_Qs G P 0 0) 0 0 401 [(0, .ref a285), (1, .int i286), (2, .int i287), (3, .int i288), (4, .int i289), (5, .int i290), (6, .int i291), (7, .int i292), (8, .int i293), (9, .int i294), (10, .int i295), (11, .int i296), (12, .int i297), (13, .int i298), (14, .int i299), (15, .int i300), (16, .int i301), (17, .int i302)] [] s303 := by
  unfold D_L_isWell_b401 at h
  refine T_iload dL_isWell_401 16 rfl ?_
  refine T_lv (lv' := [(0, .ref a285), (1, .int i286), (2, .int i287), (3, .int i288), (4, .int i289), (5, .int i290), (6, .int i291), (7, .int i292), (8, .int i293), (9, .int i294), (10, .int i295), (11, .int i296), (12, .int i297), (13, .int i298), (14, .int i299), (15, .int i300), (17, .int i302)]) [0, 1, 2, 3, 4, 5, 6, 7, 8, 9, 10, 11, 12, 13, 14, 15, 17] rfl ?_
  exact K_L_isWell_b403 hk228 h
set_option maxRecDepth 100000 in
set_option maxHeartbeats 4000000 in
theorem K_L_isWell_b371 {l : Launch} {G : smG} {P : Option Value → Hp → Prop} {k228 : Int32 → Int32 → Int32 → Int32 → Int32 → Hp → Option (Int32 × Hp)} {a262 : Nat} {i263 : Int32} {i264 : Int32} {i265 : Int32} {i266 : Int32} {i267 : Int32} {i268 : Int32} {i269 : Int32} {i270 : Int32} {i271 : Int32} {i272 : Int32} {i273 : Int32} {i274 : Int32} {i275 : Int32} {i276 : Int32} {i277 : Int32} {i278 : Int32} {i279 : Int32} {i280 : Int32} {i282 : Int32} {i283 : Int32} {s281 : Hp} (hk228 : ∀ (i335 : Int32) (i336 : Int32) (i337 : Int32) (i338 : Int32) (i339 : Int32) (s340 : Hp), OK jI (k228 i335 i336 i337 i338 i339 s340) P → T l G RL cL_isWell 20 (sm_rm 6 0 0) (sm_E (some .boolean) yL_isWell.name) (sm_Qs G P 0 0) 0 0 228 [(0, .ref a262), (1, .int i263), (2, .int i264), (3, .int i265), (4, .int i266), (5, .int i267), (6, .int i268), (7, .int i269), (8, .int i335), (9, .int i271), (10, .int i272), (11, .int i273), (12, .int i274), (13, .int i275), (14, .int i336), (15, .int i337), (16, .int i338), (17, .int i339)] [] s340) (h : OK jI (D_L_isWell_b371 k228 a262 i263 i264 i265 i266 i267 i268 i269 i270 i271 i272 i273 i274 i275 i276 i277 i278 i279 i280 i282 i283 s281) P) : T l G RL cL_isWell 20 (sm_rm 6 0 0) (sm_E (some .boolean) yL_isWell.name) (sm_Qs G P 0 0) 0 0 371 [(0, .ref a262), (1, .int i263), (2, .int i264), (3, .int i265), (4, .int i266), (5, .int i267), (6, .int i268), (7, .int i269), (8, .int i270), (9, .int i271), (10, .int i272), (11, .int i273), (12, .int i274), (13, .int i275), (14, .int i276), (16, .int i277), (17, .int i278), (18, .int i279), (19, .int i280)] [.int i282, .int i283] s281 := by
  unfold D_L_isWell_b371 at h
  refine T_iadd dL_isWell_371 ?_
  refine T_nm h (fun i284 h => ?_)
  refine T_istore (lv' := [(15, .int i284), (0, .ref a262), (1, .int i263), (2, .int i264), (3, .int i265), (4, .int i266), (5, .int i267), (6, .int i268), (7, .int i269), (8, .int i270), (9, .int i271), (10, .int i272), (11, .int i273), (12, .int i274), (13, .int i275), (14, .int i276), (16, .int i277), (17, .int i278), (18, .int i279), (19, .int i280)]) dL_isWell_372 (by decide) rfl ?_
  refine T_iload dL_isWell_374 18 rfl ?_
  refine T_if_eq 401 dL_isWell_376 (by decide) h (fun _ h => ?_) (fun _ h => ?_)
  · refine T_lv (lv' := [(0, .ref a262), (1, .int i263), (2, .int i264), (3, .int i265), (4, .int i266), (5, .int i267), (6, .int i268), (7, .int i269), (8, .int i270), (9, .int i271), (10, .int i272), (11, .int i273), (12, .int i274), (13, .int i275), (14, .int i276), (15, .int i284), (16, .int i277), (17, .int i278)]) [1, 2, 3, 4, 5, 6, 7, 8, 9, 10, 11, 12, 13, 14, 15, 0, 16, 17] rfl ?_
    exact K_L_isWell_b401 hk228 h
  · refine T_iload dL_isWell_379 14 rfl ?_
    refine T_iload dL_isWell_381 17 rfl ?_
    refine T_ishr dL_isWell_383 ?_
    refine T_iconst (1 : Int32) dL_isWell_384 (by decide) ?_
    refine T_iand dL_isWell_385 ?_
    refine T_if_ne 401 dL_isWell_386 (by decide) h (fun _ h => ?_) (fun _ h => ?_)
    · refine T_lv (lv' := [(0, .ref a262), (1, .int i263), (2, .int i264), (3, .int i265), (4, .int i266), (5, .int i267), (6, .int i268), (7, .int i269), (8, .int i270), (9, .int i271), (10, .int i272), (11, .int i273), (12, .int i274), (13, .int i275), (14, .int i276), (15, .int i284), (16, .int i277), (17, .int i278)]) [1, 2, 3, 4, 5, 6, 7, 8, 9, 10, 11, 12, 13, 14, 15, 0, 16, 17] rfl ?_
      exact K_L_isWell_b401 hk228 h
    · refine T_iload dL_isWell_389 19 rfl ?_
      refine T_iload dL_isWell_391 16 rfl ?_
      refine T_icmp_ge 401 dL_isWell_393 (by decide) h (fun _ h => ?_) (fun _ h => ?_)
      · refine T_lv (lv' := [(0, .ref a262), (1, .int i263), (2, .int i264), (3, .int i265), (4, .int i266), (5, .int i267), (6, .int i268), (7, .int i269), (8, .int i270), (9, .int i271), (10, .int i272), (11, .int i273), (12, .int i274), (13, .int i275), (14, .int i276), (15, .int i284), (16, .int i277), (17, .int i278)]) [1, 2, 3, 4, 5, 6, 7, 8, 9, 10, 11, 12, 13, 14, 15, 0, 16, 17] rfl ?_
        exact K_L_isWell_b401 hk228 h
      · refine T_iload dL_isWell_396 19 rfl ?_
        refine T_goto 403 dL_isWell_398 (by decide) ?_
        refine T_lv (lv' := [(0, .ref a262), (1, .int i263), (2, .int i264), (3, .int i265), (4, .int i266), (5, .int i267), (6, .int i268), (7, .int i269), (8, .int i270), (9, .int i271), (10, .int i272), (11, .int i273), (12, .int i274), (13, .int i275), (14, .int i276), (15, .int i284), (17, .int i278)]) [1, 2, 3, 4, 5, 6, 7, 8, 9, 10, 11, 12, 13, 14, 15, 0, 17] rfl ?_
        exact K_L_isWell_b403 hk228 h
set_option maxRecDepth 100000 in
set_option maxHeartbeats 4000000 in
theorem K_L_isWell_b355 {l : Launch} {G : smG} {P : Option Value → Hp → Prop} {k228 : Int32 → Int32 → Int32 → Int32 → Int32 → Hp → Option (Int32 × Hp)} {a239 : Nat} {i240 : Int32} {i241 : Int32} {i242 : Int32} {i243 : Int32} {i244 : Int32} {i245 : Int32} {i246 : Int32} {i247 : Int32} {i248 : Int32} {i249 : Int32} {i250 : Int32} {i251 : Int32} {i252 : Int32} {i253 : Int32} {i254 : Int32} {i255 : Int32} {i256 : Int32} {i257 : Int32} {i259 : Int32} {i260 : Int32} {s258 : Hp} (hk228 : ∀ (i341 : Int32) (i342 : Int32) (i343 : Int32) (i344 : Int32) (i345 : Int32) (s346 : Hp), OK jI (k228 i341 i342 i343 i344 i345 s346) P → T l G RL cL_isWell 20 (sm_rm 6 0 0) (sm_E (some .boolean) yL_isWell.name) (sm_Qs G P 0 0) 0 0 228 [(0, .ref a239), (1, .int i240), (2, .int i241), (3, .int i242), (4, .int i243), (5, .int i244), (6, .int i245), (7, .int i246), (8, .int i341), (9, .int i248), (10, .int i249), (11, .int i250), (12, .int i251), (13, .int i252), (14, .int i342), (15, .int i343), (16, .int i344), (17, .int i345)] [] s346) (h : OK jI (D_L_isWell_b355 k228 a239 i240 i241 i242 i243 i244 i245 i246 i247 i248 i249 i250 i251 i252 i253 i254 i255 i256 i257 i259 i260 s258) P) : T l G RL cL_isWell 20 (sm_rm 6 0 0) (sm_E (some .boolean) yL_isWell.name) (sm_Qs G P 0 0) 0 0 355 [(0, .ref a239), (1, .int i240), (2, .int i241), (3, .int i242), (4, .int i243), (5, .int i244), (6, .int i245), (7, .int i246), (8, .int i247), (9, .int i248), (10, .int i249), (11, .int i250), (12, .int i251), (13, .int i252), (15, .int i253), (16, .int i254), (17, .int i255), (18, .int i256), (19, .int i257)] [.int i259, .int i260] s258 := by
  unfold D_L_isWell_b355 at h
  refine T_iadd dL_isWell_355 ?_
  refine T_nm h (fun i261 h => ?_)
  refine T_istore (lv' := [(14, .int i261), (0, .ref a239), (1, .int i240), (2, .int i241), (3, .int i242), (4, .int i243), (5, .int i244), (6, .int i245), (7, .int i246), (8, .int i247), (9, .int i248), (10, .int i249), (11, .int i250), (12, .int i251), (13, .int i252), (15, .int i253), (16, .int i254), (17, .int i255), (18, .int i256), (19, .int i257)]) dL_isWell_356 (by decide) rfl ?_
  refine T_iload dL_isWell_358 15 rfl ?_
  refine T_iload dL_isWell_360 18 rfl ?_
  refine T_if_eq 370 dL_isWell_362 (by decide) h (fun _ h => ?_) (fun _ h => ?_)
  · refine T_iconst (0 : Int32) dL_isWell_370 (by decide) ?_
    refine T_lv (lv' := [(0, .ref a239), (1, .int i240), (2, .int i241), (3, .int i242), (4, .int i243), (5, .int i244), (6, .int i245), (7, .int i246), (8, .int i247), (9, .int i248), (10, .int i249), (11, .int i250), (12, .int i251), (13, .int i252), (14, .int i261), (16, .int i254), (17, .int i255), (18, .int i256), (19, .int i257)]) [1, 2, 3, 4, 5, 6, 7, 8, 9, 10, 11, 12, 13, 14, 0, 16, 17, 18, 19] rfl ?_
    exact K_L_isWell_b371 hk228 h
  · refine T_iload dL_isWell_365 19 rfl ?_
    refine T_goto 371 dL_isWell_367 (by decide) ?_
    refine T_lv (lv' := [(0, .ref a239), (1, .int i240), (2, .int i241), (3, .int i242), (4, .int i243), (5, .int i244), (6, .int i245), (7, .int i246), (8, .int i247), (9, .int i248), (10, .int i249), (11, .int i250), (12, .int i251), (13, .int i252), (14, .int i261), (16, .int i254), (17, .int i255), (18, .int i256), (19, .int i257)]) [1, 2, 3, 4, 5, 6, 7, 8, 9, 10, 11, 12, 13, 14, 0, 16, 17, 18, 19] rfl ?_
    exact K_L_isWell_b371 hk228 h
set_option maxRecDepth 100000 in
set_option maxHeartbeats 4000000 in
theorem K_L_isWell_b334 {l : Launch} {G : smG} {P : Option Value → Hp → Prop} {k228 : Int32 → Int32 → Int32 → Int32 → Int32 → Hp → Option (Int32 × Hp)} {a218 : Nat} {i219 : Int32} {i220 : Int32} {i221 : Int32} {i222 : Int32} {i223 : Int32} {i224 : Int32} {i225 : Int32} {i226 : Int32} {i227 : Int32} {i228 : Int32} {i229 : Int32} {i230 : Int32} {i231 : Int32} {i232 : Int32} {i233 : Int32} {i234 : Int32} {i235 : Int32} {i236 : Int32} {i238 : Int32} {s237 : Hp} (hk228 : ∀ (i347 : Int32) (i348 : Int32) (i349 : Int32) (i350 : Int32) (i351 : Int32) (s352 : Hp), OK jI (k228 i347 i348 i349 i350 i351 s352) P → T l G RL cL_isWell 20 (sm_rm 6 0 0) (sm_E (some .boolean) yL_isWell.name) (sm_Qs G P 0 0) 0 0 228 [(0, .ref a218), (1, .int i219), (2, .int i220), (3, .int i221), (4, .int i222), (5, .int i223), (6, .int i224), (7, .int i225), (8, .int i347), (9, .int i226), (10, .int i227), (11, .int i228), (12, .int i229), (13, .int i230), (14, .int i348), (15, .int i349), (16, .int i350), (17, .int i351)] [] s352) (h : OK jI (D_L_isWell_b334 k228 a218 i219 i220 i221 i222 i223 i224 i225 i226 i227 i228 i229 i230 i231 i232 i233 i234 i235 i236 i238 s237) P) : T l G RL cL_isWell 20 (sm_rm 6 0 0) (sm_E (some .boolean) yL_isWell.name) (sm_Qs G P 0 0) 0 0 334 [(0, .ref a218), (1, .int i219), (2, .int i220), (3, .int i221), (4, .int i222), (5, .int i223), (6, .int i224), (7, .int i225), (9, .int i226), (10, .int i227), (11, .int i228), (12, .int i229), (13, .int i230), (14, .int i231), (15, .int i232), (16, .int i233), (17, .int i234), (18, .int i235), (19, .int i236)] [.int i238] s237 := by
  unfold D_L_isWell_b334 at h
  refine T_istore (lv' := [(8, .int i238), (0, .ref a218), (1, .int i219), (2, .int i220), (3, .int i221), (4, .int i222), (5, .int i223), (6, .int i224), (7, .int i225), (9, .int i226), (10, .int i227), (11, .int i228), (12, .int i229), (13, .int i230), (14, .int i231), (15, .int i232), (16, .int i233), (17, .int i234), (18, .int i235), (19, .int i236)]) dL_isWell_334 (by decide) rfl ?_
  refine T_iload dL_isWell_336 14 rfl ?_
  refine T_iload dL_isWell_338 13 rfl ?_
  refine T_iload dL_isWell_340 17 rfl ?_
  refine T_ishr dL_isWell_342 ?_
  refine T_iconst (1 : Int32) dL_isWell_343 (by decide) ?_
  refine T_iand dL_isWell_344 ?_
  refine T_iconst (1 : Int32) dL_isWell_345 (by decide) ?_
  refine T_icmp_ne 354 dL_isWell_346 (by decide) h (fun _ h => ?_) (fun _ h => ?_)
  · refine T_iconst (0 : Int32) dL_isWell_354 (by decide) ?_
    refine T_lv (lv' := [(0, .ref a218), (1, .int i219), (2, .int i220), (3, .int i221), (4, .int i222), (5, .int i223), (6, .int i224), (7, .int i225), (8, .int i238), (9, .int i226), (10, .int i227), (11, .int i228), (12, .int i229), (13, .int i230), (15, .int i232), (16, .int i233), (17, .int i234), (18, .int i235), (19, .int i236)]) [1, 2, 3, 4, 5, 6, 7, 8, 0, 9, 10, 11, 12, 13, 15, 16, 17, 18, 19] rfl ?_
    exact K_L_isWell_b355 hk228 h
  · refine T_iload dL_isWell_349 19 rfl ?_
    refine T_goto 355 dL_isWell_351 (by decide) ?_
    refine T_lv (lv' := [(0, .ref a218), (1, .int i219), (2, .int i220), (3, .int i221), (4, .int i222), (5, .int i223), (6, .int i224), (7, .int i225), (8, .int i238), (9, .int i226), (10, .int i227), (11, .int i228), (12, .int i229), (13, .int i230), (15, .int i232), (16, .int i233), (17, .int i234), (18, .int i235), (19, .int i236)]) [1, 2, 3, 4, 5, 6, 7, 8, 0, 9, 10, 11, 12, 13, 15, 16, 17, 18, 19] rfl ?_
    exact K_L_isWell_b355 hk228 h
set_option maxRecDepth 100000 in
set_option maxHeartbeats 4000000 in
theorem K_L_isWell_b333 {l : Launch} {G : smG} {P : Option Value → Hp → Prop} {k228 : Int32 → Int32 → Int32 → Int32 → Int32 → Hp → Option (Int32 × Hp)} {a198 : Nat} {i199 : Int32} {i200 : Int32} {i201 : Int32} {i202 : Int32} {i203 : Int32} {i204 : Int32} {i205 : Int32} {i206 : Int32} {i207 : Int32} {i208 : Int32} {i209 : Int32} {i210 : Int32} {i211 : Int32} {i212 : Int32} {i213 : Int32} {i214 : Int32} {i215 : Int32} {i216 : Int32} {s217 : Hp} (hk228 : ∀ (i353 : Int32) (i354 : Int32) (i355 : Int32) (i356 : Int32) (i357 : Int32) (s358 : Hp), OK jI (k228 i353 i354 i355 i356 i357 s358) P → T l G RL cL_isWell 20 (sm_rm 6 0 0) (sm_E (some .boolean) yL_isWell.name) (sm_Qs G P 0 0) 0 0 228 [(0, .ref a198), (1, .int i199), (2, .int i200), (3, .int i201), (4, .int i202), (5, .int i203), (6, .int i204), (7, .int i205), (8, .int i353), (9, .int i206), (10, .int i207), (11, .int i208), (12, .int i209), (13, .int i210), (14, .int i354), (15, .int i355), (16, .int i356), (17, .int i357)] [] s358) (h : OK jI (D_L_isWell_b333 k228 a198 i199 i200 i201 i202 i203 i204 i205 i206 i207 i208 i209 i210 i211 i212 i213 i214 i215 i216 s217) P) : T l G RL cL_isWell 20 (sm_rm 6 0 0) (sm_E (some .boolean) yL_isWell.name) (sm_Qs G P 0 0) 0 0 333 [(0, .ref a198), (1, .int i199), (2, .int i200), (3, .int i201), (4, .int i202), (5, .int i203), (6, .int i204), (7, .int i205), (9, .int i206), (10, .int i207), (11, .int i208), (12, .int i209), (13, .int i210), (14, .int i211), (15, .int i212), (16, .int i213), (17, .int i214), (18, .int i215), (19, .int i216)] [] s217 := by
  unfold D_L_isWell_b333 at h
  refine T_iconst (0 : Int32) dL_isWell_333 (by decide) ?_
  exact K_L_isWell_b334 hk228 h
set_option maxRecDepth 100000 in
set_option maxHeartbeats 4000000 in
theorem K_L_isWell_b329 {l : Launch} {G : smG} {P : Option Value → Hp → Prop} {k228 : Int32 → Int32 → Int32 → Int32 → Int32 → Hp → Option (Int32 × Hp)} {a403 : Nat} {i404 : Int32} {i405 : Int32} {i406 : Int32} {i407 : Int32} {i408 : Int32} {i409 : Int32} {i410 : Int32} {i411 : Int32} {i412 : Int32} {i413 : Int32} {i414 : Int32} {i415 : Int32} {i416 : Int32} {i417 : Int32} {i418 : Int32} {i419 : Int32} {i420 : Int32} {i421 : Int32} {s422 : Hp} (hk228 : ∀ (i423 : Int32) (i424 : Int32) (i425 : Int32) (i426 : Int32) (i427 : Int32) (s428 : Hp), OK jI (k228 i423 i424 i425 i426 i427 s428) P → T l G RL cL_isWell 20 (sm_rm 6 0 0) (sm_E (some .boolean) yL_isWell.name) (sm_Qs G P 0 0) 0 0 228 [(0, .ref a403), (1, .int i404), (2, .int i405), (3, .int i406), (4, .int i407), (5, .int i408), (6, .int i409), (7, .int i410), (8, .int i423), (9, .int i411), (10, .int i412), (11, .int i413), (12, .int i414), (13, .int i415), (14, .int i424), (15, .int i425), (16, .int i426), (17, .int i427)] [] s428) (h : OK jI (D_L_isWell_b329 k228 a403 i404 i405 i406 i407 i408 i409 i410 i411 i412 i413 i414 i415 i416 i417 i418 i419 i420 i421 s422) P) : T l G RL cL_isWell 20 (sm_rm 6 0 0) (sm_E (some .boolean) yL_isWell.name) (sm_Qs G P 0 0) 0 0 329 [(0, .ref a403), (1, .int i404), (2, .int i405), (3, .int i406), (4, .int i407), (5, .int i408), (6, .int i409), (7, .int i410), (9, .int i411), (10, .int i412), (11, .int i413), (12, .int i414), (13, .int i415), (14, .int i416), (15, .int i417), (16, .int i418), (17, .int i419), (18, .int i420), (19, .int i421)] [] s422 := by
  unfold D_L_isWell_b329 at h
  refine T_iconst (1 : Int32) dL_isWell_329 (by decide) ?_
  refine T_goto 334 dL_isWell_330 (by decide) ?_
  exact K_L_isWell_b334 hk228 h
set_option maxRecDepth 100000 in
set_option maxHeartbeats 4000000 in
theorem K_L_isWell_b314 {l : Launch} {G : smG} {P : Option Value → Hp → Prop} {k228 : Int32 → Int32 → Int32 → Int32 → Int32 → Hp → Option (Int32 × Hp)} {a383 : Nat} {i384 : Int32} {i385 : Int32} {i386 : Int32} {i387 : Int32} {i388 : Int32} {i389 : Int32} {i390 : Int32} {i391 : Int32} {i392 : Int32} {i393 : Int32} {i394 : Int32} {i395 : Int32} {i396 : Int32} {i397 : Int32} {i398 : Int32} {i399 : Int32} {i400 : Int32} {i401 : Int32} {s402 : Hp} (hk228 : ∀ (i429 : Int32) (i430 : Int32) (i431 : Int32) (i432 : Int32) (i433 : Int32) (s434 : Hp), OK jI (k228 i429 i430 i431 i432 i433 s434) P → T l G RL cL_isWell 20 (sm_rm 6 0 0) (sm_E (some .boolean) yL_isWell.name) (sm_Qs G P 0 0) 0 0 228 [(0, .ref a383), (1, .int i384), (2, .int i385), (3, .int i386), (4, .int i387), (5, .int i388), (6, .int i389), (7, .int i390), (8, .int i429), (9, .int i391), (10, .int i392), (11, .int i393), (12, .int i394), (13, .int i395), (14, .int i430), (15, .int i431), (16, .int i432), (17, .int i433)] [] s434) (h : OK jI (D_L_isWell_b314 k228 a383 i384 i385 i386 i387 i388 i389 i390 i391 i392 i393 i394 i395 i396 i397 i398 i399 i400 i401 s402) P) : T l G RL cL_isWell 20 (sm_rm 6 0 0) (sm_E (some .boolean) yL_isWell.name) (sm_Qs G P 0 0) 0 0 314 [(0, .ref a383), (1, .int i384), (2, .int i385), (3, .int i386), (4, .int i387), (5, .int i388), (6, .int i389), (7, .int i390), (9, .int i391), (10, .int i392), (11, .int i393), (12, .int i394), (13, .int i395), (14, .int i396), (15, .int i397), (16, .int i398), (17, .int i399), (18, .int i400), (19, .int i401)] [] s402 := by
  unfold D_L_isWell_b314 at h
  refine T_iload dL_isWell_314 17 rfl ?_
  refine T_if_ne 329 dL_isWell_316 (by decide) h (fun _ h => ?_) (fun _ h => ?_)
  · exact K_L_isWell_b329 hk228 h
  · refine T_iload dL_isWell_319 12 rfl ?_
    refine T_iload dL_isWell_321 16 rfl ?_
    refine T_ishr dL_isWell_323 ?_
    refine T_iconst (1 : Int32) dL_isWell_324 (by decide) ?_
    refine T_iand dL_isWell_325 ?_
    refine T_if_ne 333 dL_isWell_326 (by decide) h (fun _ h => ?_) (fun _ h => ?_)
    · exact K_L_isWell_b333 hk228 h
    · exact K_L_isWell_b329 hk228 h
set_option maxRecDepth 100000 in
set_option maxHeartbeats 4000000 in
theorem K_L_isWell_b287 {l : Launch} {G : smG} {P : Option Value → Hp → Prop} {k228 : Int32 → Int32 → Int32 → Int32 → Int32 → Hp → Option (Int32 × Hp)} {a361 : Nat} {i362 : Int32} {i363 : Int32} {i364 : Int32} {i365 : Int32} {i366 : Int32} {i367 : Int32} {i368 : Int32} {i369 : Int32} {i370 : Int32} {i371 : Int32} {i372 : Int32} {i373 : Int32} {i374 : Int32} {i375 : Int32} {i376 : Int32} {i377 : Int32} {i378 : Int32} {i379 : Int32} {i381 : Int32} {i382 : Int32} {s380 : Hp} (hk228 : ∀ (i437 : Int32) (i438 : Int32) (i439 : Int32) (i440 : Int32) (i441 : Int32) (s442 : Hp), OK jI (k228 i437 i438 i439 i440 i441 s442) P → T l G RL cL_isWell 20 (sm_rm 6 0 0) (sm_E (some .boolean) yL_isWell.name) (sm_Qs G P 0 0) 0 0 228 [(0, .ref a361), (1, .int i362), (2, .int i363), (3, .int i364), (4, .int i365), (5, .int i366), (6, .int i367), (7, .int i368), (8, .int i437), (9, .int i369), (10, .int i370), (11, .int i371), (12, .int i372), (13, .int i373), (14, .int i438), (15, .int i439), (16, .int i440), (17, .int i441)] [] s442) (h : OK jI (D_L_isWell_b287 k228 a361 i362 i363 i364 i365 i366 i367 i368 i369 i370 i371 i372 i373 i374 i375 i376 i377 i378 i379 i381 i382 s380) P) : T l G RL cL_isWell 20 (sm_rm 6 0 0) (sm_E (some .boolean) yL_isWell.name) (sm_Qs G P 0 0) 0 0 287 [(0, .ref a361), (1, .int i362), (2, .int i363), (3, .int i364), (4, .int i365), (5, .int i366), (6, .int i367), (7, .int i368), (9, .int i369), (10, .int i370), (11, .int i371), (12, .int i372), (13, .int i373), (14, .int i374), (15, .int i375), (16, .int i376), (17, .int i377), (18, .int i378), (19, .int i379)] [.int i381, .int i382] s380 := by
  unfold D_L_isWell_b287 at h
  refine T_icmp_ne 333 dL_isWell_287 (by decide) h (fun _ h => ?_) (fun _ h => ?_)
  · exact K_L_isWell_b333 hk228 h
  · refine T_iload dL_isWell_290 17 rfl ?_
    refine T_if_eq 314 dL_isWell_292 (by decide) h (fun _ h => ?_) (fun _ h => ?_)
    · exact K_L_isWell_b314 hk228 h
    · refine T_iload dL_isWell_295 12 rfl ?_
      refine T_iload dL_isWell_297 16 rfl ?_
      refine T_ishr dL_isWell_299 ?_
      refine T_iconst (1 : Int32) dL_isWell_300 (by decide) ?_
      refine T_iand dL_isWell_301 ?_
      refine T_aload_n dL_isWell_302 rfl 0 rfl ?_
      refine T_iload dL_isWell_303 16 rfl ?_
      refine T_iload dL_isWell_305 8 rfl ?_
      refine T_iconst (2 : Int32) dL_isWell_307 (by decide) ?_
      refine T_callVI (As := [.int i377, .int i369, .int (2 : Int32)]) (rest := [.int ((i373 >>> (i377 &&& 31)) &&& (1 : Int32))]) (b := a361) (ci := 8) dL_isWell_308 mc_X9_at mi_X9_at ml_RL_69 rfl (fun _ hr => chk_of hr) rfl rfl (Nat.le_of_ble_eq_true rfl) ⟨⟨Nat.le_of_ble_eq_true rfl, Nat.le_of_ble_eq_true rfl⟩, ⟨Nat.le_of_ble_eq_true rfl, Nat.le_of_ble_eq_true rfl⟩⟩ K_X9_at h (fun i435 s436 h => ?_)
      refine T_icmp_ne 333 dL_isWell_311 (by decide) h (fun _ h => ?_) (fun _ h => ?_)
      · exact K_L_isWell_b333 hk228 h
      · exact K_L_isWell_b314 hk228 h
set_option maxRecDepth 100000 in
set_option maxHeartbeats 4000000 in
theorem K_L_isWell_b250 {l : Launch} {G : smG} {P : Option Value → Hp → Prop} {k228 : Int32 → Int32 → Int32 → Int32 → Int32 → Hp → Option (Int32 × Hp)} {a176 : Nat} {i177 : Int32} {i178 : Int32} {i179 : Int32} {i180 : Int32} {i181 : Int32} {i182 : Int32} {i183 : Int32} {i184 : Int32} {i185 : Int32} {i186 : Int32} {i187 : Int32} {i188 : Int32} {i189 : Int32} {i190 : Int32} {i191 : Int32} {i192 : Int32} {i193 : Int32} {i195 : Int32} {s194 : Hp} (hk228 : ∀ (i443 : Int32) (i444 : Int32) (i445 : Int32) (i446 : Int32) (i447 : Int32) (s448 : Hp), OK jI (k228 i443 i444 i445 i446 i447 s448) P → T l G RL cL_isWell 20 (sm_rm 6 0 0) (sm_E (some .boolean) yL_isWell.name) (sm_Qs G P 0 0) 0 0 228 [(0, .ref a176), (1, .int i177), (2, .int i178), (3, .int i179), (4, .int i180), (5, .int i181), (6, .int i182), (7, .int i183), (8, .int i443), (9, .int i185), (10, .int i186), (11, .int i187), (12, .int i188), (13, .int i189), (14, .int i444), (15, .int i445), (16, .int i446), (17, .int i447)] [] s448) (h : OK jI (D_L_isWell_b250 k228 a176 i177 i178 i179 i180 i181 i182 i183 i184 i185 i186 i187 i188 i189 i190 i191 i192 i193 i195 s194) P) : T l G RL cL_isWell 20 (sm_rm 6 0 0) (sm_E (some .boolean) yL_isWell.name) (sm_Qs G P 0 0) 0 0 250 [(0, .ref a176), (1, .int i177), (2, .int i178), (3, .int i179), (4, .int i180), (5, .int i181), (6, .int i182), (7, .int i183), (8, .int i184), (9, .int i185), (10, .int i186), (11, .int i187), (12, .int i188), (13, .int i189), (14, .int i190), (15, .int i191), (16, .int i192), (17, .int i193)] [.int i195] s194 := by
  unfold D_L_isWell_b250 at h
  refine T_istore (lv' := [(18, .int i195), (0, .ref a176), (1, .int i177), (2, .int i178), (3, .int i179), (4, .int i180), (5, .int i181), (6, .int i182), (7, .int i183), (8, .int i184), (9, .int i185), (10, .int i186), (11, .int i187), (12, .int i188), (13, .int i189), (14, .int i190), (15, .int i191), (16, .int i192), (17, .int i193)]) dL_isWell_250 (by decide) rfl ?_
  refine T_aload_n dL_isWell_252 rfl 1 rfl ?_
  refine T_iload dL_isWell_253 18 rfl ?_
  refine T_iload dL_isWell_255 10 rfl ?_
  refine T_iconst (1 : Int32) dL_isWell_257 (by decide) ?_
  refine T_callVI (As := [.int i193, .int i185, .int (1 : Int32)]) (rest := []) (b := a176) (ci := 8) dL_isWell_258 mc_X9_at mi_X9_at ml_RL_69 rfl (fun _ hr => chk_of hr) rfl rfl (Nat.le_of_ble_eq_true rfl) ⟨⟨Nat.le_of_ble_eq_true rfl, Nat.le_of_ble_eq_true rfl⟩, ⟨Nat.le_of_ble_eq_true rfl, Nat.le_of_ble_eq_true rfl⟩⟩ K_X9_at h (fun i196 s197 h => ?_)
  refine T_istore (lv' := [(19, .int i196), (18, .int i195), (0, .ref a176), (1, .int i177), (2, .int i178), (3, .int i179), (4, .int i180), (5, .int i181), (6, .int i182), (7, .int i183), (8, .int i184), (9, .int i185), (10, .int i186), (11, .int i187), (12, .int i188), (13, .int i189), (14, .int i190), (15, .int i191), (16, .int i192), (17, .int i193)]) dL_isWell_261 (by decide) rfl ?_
  refine T_iload dL_isWell_263 10 rfl ?_
  refine T_if_eq 333 dL_isWell_265 (by decide) h (fun _ h => ?_) (fun _ h => ?_)
  · refine T_lv (lv' := [(0, .ref a176), (1, .int i177), (2, .int i178), (3, .int i179), (4, .int i180), (5, .int i181), (6, .int i182), (7, .int i183), (9, .int i185), (10, .int i186), (11, .int i187), (12, .int i188), (13, .int i189), (14, .int i190), (15, .int i191), (16, .int i192), (17, .int i193), (18, .int i195), (19, .int i196)]) [2, 3, 4, 5, 6, 7, 8, 9, 11, 12, 13, 14, 15, 16, 17, 18, 19, 1, 0] rfl ?_
    exact K_L_isWell_b333 hk228 h
  · refine T_iload dL_isWell_268 1 rfl ?_
    refine T_aload_n dL_isWell_270 rfl 2 rfl ?_
    refine T_iload dL_isWell_271 19 rfl ?_
    refine T_iconst (2 : Int32) dL_isWell_273 (by decide) ?_
    refine T_callVI (As := [.int i193, .int (2 : Int32)]) (rest := [.int i195]) (b := a176) (ci := 8) dL_isWell_274 mc_X9_of mi_X9_of ml_RL_28 rfl (fun _ hr => chk_of hr) rfl rfl (Nat.le_of_ble_eq_true rfl) ⟨⟨Nat.le_of_ble_eq_true rfl, Nat.le_of_ble_eq_true rfl⟩, ⟨Nat.le_of_ble_eq_true rfl, Nat.le_of_ble_eq_true rfl⟩⟩ K_X9_of h (fun i359 s360 h => ?_)
    refine T_iload dL_isWell_277 13 rfl ?_
    refine T_icmp_ne 286 dL_isWell_279 (by decide) h (fun _ h => ?_) (fun _ h => ?_)
    · refine T_iconst (0 : Int32) dL_isWell_286 (by decide) ?_
      refine T_lv (lv' := [(0, .ref a176), (1, .int i177), (2, .int i178), (3, .int i179), (4, .int i180), (5, .int i181), (6, .int i182), (7, .int i183), (9, .int i185), (10, .int i186), (11, .int i187), (12, .int i188), (13, .int i189), (14, .int i190), (15, .int i191), (16, .int i192), (17, .int i193), (18, .int i195), (19, .int i196)]) [2, 3, 4, 5, 6, 7, 8, 9, 11, 12, 13, 14, 15, 16, 17, 18, 19, 1, 0] rfl ?_
      exact K_L_isWell_b287 hk228 h
    · refine T_iconst (1 : Int32) dL_isWell_282 (by decide) ?_
      refine T_goto 287 dL_isWell_283 (by decide) ?_
      refine T_lv (lv' := [(0, .ref a176), (1, .int i177), (2, .int i178), (3, .int i179), (4, .int i180), (5, .int i181), (6, .int i182), (7, .int i183), (9, .int i185), (10, .int i186), (11, .int i187), (12, .int i188), (13, .int i189), (14, .int i190), (15, .int i191), (16, .int i192), (17, .int i193), (18, .int i195), (19, .int i196)]) [2, 3, 4, 5, 6, 7, 8, 9, 11, 12, 13, 14, 15, 16, 17, 18, 19, 1, 0] rfl ?_
      exact K_L_isWell_b287 hk228 h
set_option maxRecDepth 100000 in
set_option maxHeartbeats 4000000 in
theorem K_L_isWell_w228 {l : Launch} {G : smG} {P : Option Value → Hp → Prop} {a156 : Nat} {i157 : Int32} {i158 : Int32} {i159 : Int32} {i160 : Int32} {i161 : Int32} {i162 : Int32} {i163 : Int32} {i164 : Int32} {i165 : Int32} {i166 : Int32} {i167 : Int32} {i168 : Int32} {k411 : Int32 → Int32 → Int32 → Int32 → Hp → Option (Int32 × Hp)} (hk411 : ∀ (i449 : Int32) (i450 : Int32) (i451 : Int32) (i452 : Int32) (s453 : Hp), OK jI (k411 i449 i450 i451 i452 s453) P → T l G RL cL_isWell 20 (sm_rm 6 0 0) (sm_E (some .boolean) yL_isWell.name) (sm_Qs G P 0 0) 0 0 411 [(0, .ref a156), (1, .int i157), (2, .int i158), (3, .int i159), (4, .int i160), (5, .int i161), (6, .int i162), (7, .int i163), (8, .int i449), (9, .int i164), (10, .int i165), (11, .int i166), (12, .int i167), (13, .int i168), (14, .int i450), (15, .int i451), (16, .int i452)] [] s453) : ∀ (n : Nat) (i169 : Int32) (i170 : Int32) (i171 : Int32) (i172 : Int32) (i173 : Int32) (s174 : Hp), OK jI (D_L_isWell_w228 a156 i157 i158 i159 i160 i161 i162 i163 i164 i165 i166 i167 i168 k411 n i169 i170 i171 i172 i173 s174) P → T l G RL cL_isWell 20 (sm_rm 6 0 0) (sm_E (some .boolean) yL_isWell.name) (sm_Qs G P 0 0) 0 0 228 [(0, .ref a156), (1, .int i157), (2, .int i158), (3, .int i159), (4, .int i160), (5, .int i161), (6, .int i162), (7, .int i163), (8, .int i169), (9, .int i164), (10, .int i165), (11, .int i166), (12, .int i167), (13, .int i168), (14, .int i170), (15, .int i171), (16, .int i172), (17, .int i173)] [] s174 := by
  intro n
  induction n with
  | zero => intro i169 i170 i171 i172 i173 s174 h; obtain ⟨_, h0, _⟩ := h; exact absurd h0 (by simp [D_L_isWell_w228])
  | succ n175 ih =>
    intro i169 i170 i171 i172 i173 s174 h
    unfold D_L_isWell_w228 at h
    refine T_iload dL_isWell_228 17 rfl ?_
    refine T_iload_n dL_isWell_230 rfl 1 rfl ?_
    refine T_icmp_ge 411 dL_isWell_231 (by decide) h (fun _ h => ?_) (fun _ h => ?_)
    · refine T_lv (lv' := [(0, .ref a156), (1, .int i157), (2, .int i158), (3, .int i159), (4, .int i160), (5, .int i161), (6, .int i162), (7, .int i163), (8, .int i169), (9, .int i164), (10, .int i165), (11, .int i166), (12, .int i167), (13, .int i168), (14, .int i170), (15, .int i171), (16, .int i172)]) [0, 1, 2, 3, 4, 5, 6, 7, 8, 9, 10, 11, 12, 13, 14, 15, 16] rfl ?_
      exact hk411 i169 i170 i171 i172 s174 h
    · refine T_iload dL_isWell_234 12 rfl ?_
      refine T_iload dL_isWell_236 17 rfl ?_
      refine T_ishr dL_isWell_238 ?_
      refine T_iconst (1 : Int32) dL_isWell_239 (by decide) ?_
      refine T_iand dL_isWell_240 ?_
      refine T_iconst (1 : Int32) dL_isWell_241 (by decide) ?_
      refine T_icmp_ne 249 dL_isWell_242 (by decide) h (fun _ h => ?_) (fun _ h => ?_)
      · refine T_iconst (0 : Int32) dL_isWell_249 (by decide) ?_
        exact K_L_isWell_b250 ih h
      · refine T_iconst (1 : Int32) dL_isWell_245 (by decide) ?_
        refine T_goto 250 dL_isWell_246 (by decide) ?_
        exact K_L_isWell_b250 ih h
set_option maxRecDepth 100000 in
set_option maxHeartbeats 4000000 in
theorem K_L_isWell_b491 {l : Launch} {G : smG} {P : Option Value → Hp → Prop} {k181 : Int32 → Int32 → Int32 → Int32 → Hp → Option (Int32 × Hp)} {a489 : Nat} {i490 : Int32} {i491 : Int32} {i492 : Int32} {i493 : Int32} {i494 : Int32} {i495 : Int32} {i496 : Int32} {i497 : Int32} {i498 : Int32} {i499 : Int32} {i501 : Int32} {s500 : Hp} (hk181 : ∀ (i502 : Int32) (i503 : Int32) (i504 : Int32) (i505 : Int32) (s506 : Hp), OK jI (k181 i502 i503 i504 i505 s506) P → T l G RL cL_isWell 20 (sm_rm 6 0 0) (sm_E (some .boolean) yL_isWell.name) (sm_Qs G P 0 0) 0 0 181 [(0, .ref a489), (1, .int i490), (2, .int i491), (3, .int i492), (4, .int i493), (5, .int i494), (6, .int i502), (7, .int i495), (8, .int i503), (9, .int i497), (10, .int i504), (11, .int i505)] [] s506) (h : OK jI (D_L_isWell_b491 k181 a489 i490 i491 i492 i493 i494 i495 i496 i497 i498 i499 i501 s500) P) : T l G RL cL_isWell 20 (sm_rm 6 0 0) (sm_E (some .boolean) yL_isWell.name) (sm_Qs G P 0 0) 0 0 491 [(0, .ref a489), (1, .int i490), (2, .int i491), (3, .int i492), (4, .int i493), (5, .int i494), (7, .int i495), (8, .int i496), (9, .int i497), (10, .int i498), (11, .int i499)] [.int i501] s500 := by
  unfold D_L_isWell_b491 at h
  refine T_istore (lv' := [(6, .int i501), (0, .ref a489), (1, .int i490), (2, .int i491), (3, .int i492), (4, .int i493), (5, .int i494), (7, .int i495), (8, .int i496), (9, .int i497), (10, .int i498), (11, .int i499)]) dL_isWell_491 (by decide) rfl ?_
  refine T_iinc (i499 + 1) (lv' := [(11, .int (i499 + 1)), (6, .int i501), (0, .ref a489), (1, .int i490), (2, .int i491), (3, .int i492), (4, .int i493), (5, .int i494), (7, .int i495), (8, .int i496), (9, .int i497), (10, .int i498)]) dL_isWell_493 (j := 11) rfl rfl (by decide) rfl ?_
  refine T_goto 181 dL_isWell_496 (by decide) ?_
  refine T_lv (lv' := [(0, .ref a489), (1, .int i490), (2, .int i491), (3, .int i492), (4, .int i493), (5, .int i494), (6, .int i501), (7, .int i495), (8, .int i496), (9, .int i497), (10, .int i498), (11, .int (i499 + 1))]) [2, 3, 4, 5, 6, 7, 1, 8, 9, 10, 11, 0] rfl ?_
  exact hk181 i501 i496 i498 (i499 + 1) s500 h
set_option maxRecDepth 100000 in
set_option maxHeartbeats 4000000 in
theorem K_L_isWell_b468 {l : Launch} {G : smG} {P : Option Value → Hp → Prop} {k181 : Int32 → Int32 → Int32 → Int32 → Hp → Option (Int32 × Hp)} {a473 : Nat} {i474 : Int32} {i475 : Int32} {i476 : Int32} {i477 : Int32} {i478 : Int32} {i479 : Int32} {i480 : Int32} {i481 : Int32} {i482 : Int32} {i483 : Int32} {i484 : Int32} {i485 : Int32} {i487 : Int32} {s486 : Hp} (hk181 : ∀ (i507 : Int32) (i508 : Int32) (i509 : Int32) (i510 : Int32) (s511 : Hp), OK jI (k181 i507 i508 i509 i510 s511) P → T l G RL cL_isWell 20 (sm_rm 6 0 0) (sm_E (some .boolean) yL_isWell.name) (sm_Qs G P 0 0) 0 0 181 [(0, .ref a473), (1, .int i474), (2, .int i475), (3, .int i476), (4, .int i477), (5, .int i478), (6, .int i507), (7, .int i480), (8, .int i508), (9, .int i481), (10, .int i509), (11, .int i510)] [] s511) (h : OK jI (D_L_isWell_b468 k181 a473 i474 i475 i476 i477 i478 i479 i480 i481 i482 i483 i484 i485 i487 s486) P) : T l G RL cL_isWell 20 (sm_rm 6 0 0) (sm_E (some .boolean) yL_isWell.name) (sm_Qs G P 0 0) 0 0 468 [(0, .ref a473), (1, .int i474), (2, .int i475), (3, .int i476), (4, .int i477), (5, .int i478), (6, .int i479), (7, .int i480), (9, .int i481), (10, .int i482), (11, .int i483), (14, .int i484), (15, .int i485)] [.int i487] s486 := by
  unfold D_L_isWell_b468 at h
  refine T_istore (lv' := [(8, .int i487), (0, .ref a473), (1, .int i474), (2, .int i475), (3, .int i476), (4, .int i477), (5, .int i478), (6, .int i479), (7, .int i480), (9, .int i481), (10, .int i482), (11, .int i483), (14, .int i484), (15, .int i485)]) dL_isWell_468 (by decide) rfl ?_
  refine T_iload dL_isWell_470 10 rfl ?_
  refine T_iload dL_isWell_472 12 rfl ?_
  refine T_iadd dL_isWell_474 ?_
  refine T_nm h (fun i488 h => ?_)
  refine T_istore (lv' := [(10, .int i488), (8, .int i487), (0, .ref a473), (1, .int i474), (2, .int i475), (3, .int i476), (4, .int i477), (5, .int i478), (6, .int i479), (7, .int i480), (9, .int i481), (11, .int i483), (14, .int i484), (15, .int i485)]) dL_isWell_475 (by decide) rfl ?_
  refine T_iload dL_isWell_477 13 rfl ?_
  refine T_iload dL_isWell_479 8 rfl ?_
  refine T_icmp_le 489 dL_isWell_481 (by decide) h (fun _ h => ?_) (fun _ h => ?_)
  · refine T_iload dL_isWell_489 8 rfl ?_
    refine T_lv (lv' := [(0, .ref a473), (1, .int i474), (2, .int i475), (3, .int i476), (4, .int i477), (5, .int i478), (7, .int i480), (8, .int i487), (9, .int i481), (10, .int i488), (11, .int i483)]) [2, 3, 4, 5, 6, 7, 9, 1, 10, 0, 11] rfl ?_
    exact K_L_isWell_b491 hk181 h
  · refine T_iload dL_isWell_484 13 rfl ?_
    refine T_goto 491 dL_isWell_486 (by decide) ?_
    refine T_lv (lv' := [(0, .ref a473), (1, .int i474), (2, .int i475), (3, .int i476), (4, .int i477), (5, .int i478), (7, .int i480), (8, .int i487), (9, .int i481), (10, .int i488), (11, .int i483)]) [2, 3, 4, 5, 6, 7, 9, 1, 10, 0, 11] rfl ?_
    exact K_L_isWell_b491 hk181 h
set_option maxRecDepth 100000 in
set_option maxHeartbeats 4000000 in
theorem K_L_isWell_b467 {l : Launch} {G : smG} {P : Option Value → Hp → Prop} {k181 : Int32 → Int32 → Int32 → Int32 → Hp → Option (Int32 × Hp)} {a459 : Nat} {i460 : Int32} {i461 : Int32} {i462 : Int32} {i463 : Int32} {i464 : Int32} {i465 : Int32} {i466 : Int32} {i467 : Int32} {i468 : Int32} {i469 : Int32} {i470 : Int32} {i471 : Int32} {s472 : Hp} (hk181 : ∀ (i512 : Int32) (i513 : Int32) (i514 : Int32) (i515 : Int32) (s516 : Hp), OK jI (k181 i512 i513 i514 i515 s516) P → T l G RL cL_isWell 20 (sm_rm 6 0 0) (sm_E (some .boolean) yL_isWell.name) (sm_Qs G P 0 0) 0 0 181 [(0, .ref a459), (1, .int i460), (2, .int i461), (3, .int i462), (4, .int i463), (5, .int i464), (6, .int i512), (7, .int i466), (8, .int i513), (9, .int i467), (10, .int i514), (11, .int i515)] [] s516) (h : OK jI (D_L_isWell_b467 k181 a459 i460 i461 i462 i463 i464 i465 i466 i467 i468 i469 i470 i471 s472) P) : T l G RL cL_isWell 20 (sm_rm 6 0 0) (sm_E (some .boolean) yL_isWell.name) (sm_Qs G P 0 0) 0 0 467 [(0, .ref a459), (1, .int i460), (2, .int i461), (3, .int i462), (4, .int i463), (5, .int i464), (6, .int i465), (7, .int i466), (9, .int i467), (10, .int i468), (11, .int i469), (14, .int i470), (15, .int i471)] [] s472 := by
  unfold D_L_isWell_b467 at h
  refine T_iconst (0 : Int32) dL_isWell_467 (by decide) ?_
  exact K_L_isWell_b468 hk181 h
set_option maxRecDepth 100000 in
set_option maxHeartbeats 4000000 in
theorem K_L_isWell_b463 {l : Launch} {G : smG} {P : Option Value → Hp → Prop} {k181 : Int32 → Int32 → Int32 → Int32 → Hp → Option (Int32 × Hp)} {a519 : Nat} {i520 : Int32} {i521 : Int32} {i522 : Int32} {i523 : Int32} {i524 : Int32} {i525 : Int32} {i526 : Int32} {i527 : Int32} {i528 : Int32} {i529 : Int32} {i530 : Int32} {i531 : Int32} {s532 : Hp} (hk181 : ∀ (i533 : Int32) (i534 : Int32) (i535 : Int32) (i536 : Int32) (s537 : Hp), OK jI (k181 i533 i534 i535 i536 s537) P → T l G RL cL_isWell 20 (sm_rm 6 0 0) (sm_E (some .boolean) yL_isWell.name) (sm_Qs G P 0 0) 0 0 181 [(0, .ref a519), (1, .int i520), (2, .int i521), (3, .int i522), (4, .int i523), (5, .int i524), (6, .int i533), (7, .int i526), (8, .int i534), (9, .int i527), (10, .int i535), (11, .int i536)] [] s537) (h : OK jI (D_L_isWell_b463 k181 a519 i520 i521 i522 i523 i524 i525 i526 i527 i528 i529 i530 i531 s532) P) : T l G RL cL_isWell 20 (sm_rm 6 0 0) (sm_E (some .boolean) yL_isWell.name) (sm_Qs G P 0 0) 0 0 463 [(0, .ref a519), (1, .int i520), (2, .int i521), (3, .int i522), (4, .int i523), (5, .int i524), (6, .int i525), (7, .int i526), (9, .int i527), (10, .int i528), (11, .int i529), (14, .int i530), (15, .int i531)] [] s532 := by
  unfold D_L_isWell_b463 at h
  refine T_iconst (1 : Int32) dL_isWell_463 (by decide) ?_
  refine T_goto 468 dL_isWell_464 (by decide) ?_
  exact K_L_isWell_b468 hk181 h
set_option maxRecDepth 100000 in
set_option maxHeartbeats 4000000 in
theorem K_L_isWell_w181 {l : Launch} {G : smG} {P : Option Value → Hp → Prop} {a138 : Nat} {i139 : Int32} {i140 : Int32} {i141 : Int32} {i142 : Int32} {i143 : Int32} {i144 : Int32} {i145 : Int32} {k499 : Int32 → Int32 → Int32 → Hp → Option (Int32 × Hp)} (hk499 : ∀ (i538 : Int32) (i539 : Int32) (i540 : Int32) (s541 : Hp), OK jI (k499 i538 i539 i540 s541) P → T l G RL cL_isWell 20 (sm_rm 6 0 0) (sm_E (some .boolean) yL_isWell.name) (sm_Qs G P 0 0) 0 0 499 [(0, .ref a138), (1, .int i139), (2, .int i140), (3, .int i141), (4, .int i142), (5, .int i143), (6, .int i538), (7, .int i144), (8, .int i539), (9, .int i145), (10, .int i540)] [] s541) : ∀ (n : Nat) (i146 : Int32) (i147 : Int32) (i148 : Int32) (i149 : Int32) (s150 : Hp), OK jI (D_L_isWell_w181 a138 i139 i140 i141 i142 i143 i144 i145 k499 n i146 i147 i148 i149 s150) P → T l G RL cL_isWell 20 (sm_rm 6 0 0) (sm_E (some .boolean) yL_isWell.name) (sm_Qs G P 0 0) 0 0 181 [(0, .ref a138), (1, .int i139), (2, .int i140), (3, .int i141), (4, .int i142), (5, .int i143), (6, .int i146), (7, .int i144), (8, .int i147), (9, .int i145), (10, .int i148), (11, .int i149)] [] s150 := by
  intro n
  induction n with
  | zero => intro i146 i147 i148 i149 s150 h; obtain ⟨_, h0, _⟩ := h; exact absurd h0 (by simp [D_L_isWell_w181])
  | succ n151 ih =>
    intro i146 i147 i148 i149 s150 h
    unfold D_L_isWell_w181 at h
    refine T_iload dL_isWell_181 11 rfl ?_
    refine T_iconst (4 : Int32) dL_isWell_183 (by decide) ?_
    refine T_icmp_ge 499 dL_isWell_184 (by decide) h (fun _ h => ?_) (fun _ h => ?_)
    · refine T_lv (lv' := [(0, .ref a138), (1, .int i139), (2, .int i140), (3, .int i141), (4, .int i142), (5, .int i143), (6, .int i146), (7, .int i144), (8, .int i147), (9, .int i145), (10, .int i148)]) [0, 1, 2, 3, 4, 5, 6, 7, 8, 9, 10] rfl ?_
      exact hk499 i146 i147 i148 s150 h
    · refine T_iload dL_isWell_187 8 rfl ?_
      refine T_if_eq 499 dL_isWell_189 (by decide) h (fun _ h => ?_) (fun _ h => ?_)
      · refine T_lv (lv' := [(0, .ref a138), (1, .int i139), (2, .int i140), (3, .int i141), (4, .int i142), (5, .int i143), (6, .int i146), (7, .int i144), (8, .int i147), (9, .int i145), (10, .int i148)]) [0, 1, 2, 3, 4, 5, 6, 7, 8, 9, 10] rfl ?_
        exact hk499 i146 i147 i148 s150 h
      · refine T_aload_n dL_isWell_192 rfl 0 rfl ?_
        refine T_iload dL_isWell_193 11 rfl ?_
        refine T_iload dL_isWell_195 9 rfl ?_
        refine T_iconst (1 : Int32) dL_isWell_197 (by decide) ?_
        refine T_callVI (As := [.int i149, .int i145, .int (1 : Int32)]) (rest := []) (b := a138) (ci := 8) dL_isWell_198 mc_X9_point mi_X9_point ml_RL_72 rfl (fun _ hr => chk_of hr) rfl rfl (Nat.le_of_ble_eq_true rfl) ⟨⟨Nat.le_of_ble_eq_true rfl, Nat.le_of_ble_eq_true rfl⟩, ⟨Nat.le_of_ble_eq_true rfl, Nat.le_of_ble_eq_true rfl⟩⟩ K_X9_point h (fun i152 s153 h => ?_)
        refine T_istore (lv' := [(12, .int i152), (0, .ref a138), (1, .int i139), (2, .int i140), (3, .int i141), (4, .int i142), (5, .int i143), (6, .int i146), (7, .int i144), (8, .int i147), (9, .int i145), (10, .int i148), (11, .int i149)]) dL_isWell_201 (by decide) rfl ?_
        refine T_aload_n dL_isWell_203 rfl 1 rfl ?_
        refine T_iload dL_isWell_204 12 rfl ?_
        refine T_iload dL_isWell_206 10 rfl ?_
        refine T_iconst (2 : Int32) dL_isWell_208 (by decide) ?_
        refine T_callVI (As := [.int i149, .int i145, .int (2 : Int32)]) (rest := []) (b := a138) (ci := 8) dL_isWell_209 mc_X9_point mi_X9_point ml_RL_72 rfl (fun _ hr => chk_of hr) rfl rfl (Nat.le_of_ble_eq_true rfl) ⟨⟨Nat.le_of_ble_eq_true rfl, Nat.le_of_ble_eq_true rfl⟩, ⟨Nat.le_of_ble_eq_true rfl, Nat.le_of_ble_eq_true rfl⟩⟩ K_X9_point h (fun i154 s155 h => ?_)
        refine T_istore (lv' := [(13, .int i154), (12, .int i152), (0, .ref a138), (1, .int i139), (2, .int i140), (3, .int i141), (4, .int i142), (5, .int i143), (6, .int i146), (7, .int i144), (8, .int i147), (9, .int i145), (10, .int i148), (11, .int i149)]) dL_isWell_212 (by decide) rfl ?_
        refine T_iconst (0 : Int32) dL_isWell_214 (by decide) ?_
        refine T_istore (lv' := [(14, .int (0 : Int32)), (13, .int i154), (12, .int i152), (0, .ref a138), (1, .int i139), (2, .int i140), (3, .int i141), (4, .int i142), (5, .int i143), (6, .int i146), (7, .int i144), (8, .int i147), (9, .int i145), (10, .int i148), (11, .int i149)]) dL_isWell_215 (by decide) rfl ?_
        refine T_iconst (0 : Int32) dL_isWell_217 (by decide) ?_
        refine T_istore (lv' := [(15, .int (0 : Int32)), (14, .int (0 : Int32)), (13, .int i154), (12, .int i152), (0, .ref a138), (1, .int i139), (2, .int i140), (3, .int i141), (4, .int i142), (5, .int i143), (6, .int i146), (7, .int i144), (8, .int i147), (9, .int i145), (10, .int i148), (11, .int i149)]) dL_isWell_218 (by decide) rfl ?_
        refine T_sipush (1000 : Int32) dL_isWell_220 (by decide) ?_
        refine T_istore (lv' := [(16, .int (1000 : Int32)), (15, .int (0 : Int32)), (14, .int (0 : Int32)), (13, .int i154), (12, .int i152), (0, .ref a138), (1, .int i139), (2, .int i140), (3, .int i141), (4, .int i142), (5, .int i143), (6, .int i146), (7, .int i144), (8, .int i147), (9, .int i145), (10, .int i148), (11, .int i149)]) dL_isWell_223 (by decide) rfl ?_
        refine T_iconst (0 : Int32) dL_isWell_225 (by decide) ?_
        refine T_istore (lv' := [(17, .int (0 : Int32)), (16, .int (1000 : Int32)), (15, .int (0 : Int32)), (14, .int (0 : Int32)), (13, .int i154), (12, .int i152), (0, .ref a138), (1, .int i139), (2, .int i140), (3, .int i141), (4, .int i142), (5, .int i143), (6, .int i146), (7, .int i144), (8, .int i147), (9, .int i145), (10, .int i148), (11, .int i149)]) dL_isWell_226 (by decide) rfl ?_
        refine T_lv (lv' := [(0, .ref a138), (1, .int i139), (2, .int i140), (3, .int i141), (4, .int i142), (5, .int i143), (6, .int i146), (7, .int i144), (8, .int i147), (9, .int i145), (10, .int i148), (11, .int i149), (12, .int i152), (13, .int i154), (14, .int (0 : Int32)), (15, .int (0 : Int32)), (16, .int (1000 : Int32)), (17, .int (0 : Int32))]) [6, 7, 8, 9, 10, 11, 12, 13, 14, 15, 16, 17, 5, 4, 3, 2, 1, 0] rfl ?_
        refine K_L_isWell_w228 ?_ FU i147 (0 : Int32) (0 : Int32) (1000 : Int32) (0 : Int32) s155 h
        intro i455 i456 i457 i458 s454 h
        refine T_iload dL_isWell_411 8 rfl ?_
        refine T_if_eq 467 dL_isWell_413 (by decide) h (fun _ h => ?_) (fun _ h => ?_)
        · refine T_lv (lv' := [(0, .ref a138), (1, .int i139), (2, .int i140), (3, .int i141), (4, .int i142), (5, .int i143), (6, .int i146), (7, .int i144), (9, .int i145), (10, .int i148), (11, .int i149), (14, .int i456), (15, .int i457)]) [0, 1, 2, 3, 4, 5, 6, 7, 9, 10, 11, 14, 15] rfl ?_
          exact K_L_isWell_b467 ih h
        · refine T_iload dL_isWell_416 14 rfl ?_
          refine T_aload_n dL_isWell_418 rfl 0 rfl ?_
          refine T_iload dL_isWell_419 11 rfl ?_
          refine T_iload dL_isWell_421 9 rfl ?_
          refine T_iconst (0 : Int32) dL_isWell_423 (by decide) ?_
          refine T_callVI (As := [.int i149, .int i145, .int (0 : Int32)]) (rest := [.int i456]) (b := a138) (ci := 8) dL_isWell_424 mc_X9_point mi_X9_point ml_RL_72 rfl (fun _ hr => chk_of hr) rfl rfl (Nat.le_of_ble_eq_true rfl) ⟨⟨Nat.le_of_ble_eq_true rfl, Nat.le_of_ble_eq_true rfl⟩, ⟨Nat.le_of_ble_eq_true rfl, Nat.le_of_ble_eq_true rfl⟩⟩ K_X9_point h (fun i517 s518 h => ?_)
          refine T_icmp_ne 467 dL_isWell_427 (by decide) h (fun _ h => ?_) (fun _ h => ?_)
          · refine T_lv (lv' := [(0, .ref a138), (1, .int i139), (2, .int i140), (3, .int i141), (4, .int i142), (5, .int i143), (6, .int i146), (7, .int i144), (9, .int i145), (10, .int i148), (11, .int i149), (14, .int i456), (15, .int i457)]) [0, 1, 2, 3, 4, 5, 6, 7, 9, 10, 11, 14, 15] rfl ?_
            exact K_L_isWell_b467 ih h
          · refine T_iload dL_isWell_430 14 rfl ?_
            refine T_iload_n dL_isWell_432 rfl 2 rfl ?_
            refine T_icmp_gt 467 dL_isWell_433 (by decide) h (fun _ h => ?_) (fun _ h => ?_)
            · refine T_lv (lv' := [(0, .ref a138), (1, .int i139), (2, .int i140), (3, .int i141), (4, .int i142), (5, .int i143), (6, .int i146), (7, .int i144), (9, .int i145), (10, .int i148), (11, .int i149), (14, .int i456), (15, .int i457)]) [0, 1, 2, 3, 4, 5, 6, 7, 9, 10, 11, 14, 15] rfl ?_
              exact K_L_isWell_b467 ih h
            · refine T_iload dL_isWell_436 16 rfl ?_
              refine T_sipush (1000 : Int32) dL_isWell_438 (by decide) ?_
              refine T_icmp_ne 454 dL_isWell_441 (by decide) h (fun _ h => ?_) (fun _ h => ?_)
              · refine T_iload dL_isWell_454 14 rfl ?_
                refine T_iload dL_isWell_456 16 rfl ?_
                refine T_iadd dL_isWell_458 ?_
                refine T_iload_n dL_isWell_459 rfl 2 rfl ?_
                refine T_icmp_le 467 dL_isWell_460 (by decide) h (fun _ h => ?_) (fun _ h => ?_)
                · refine T_lv (lv' := [(0, .ref a138), (1, .int i139), (2, .int i140), (3, .int i141), (4, .int i142), (5, .int i143), (6, .int i146), (7, .int i144), (9, .int i145), (10, .int i148), (11, .int i149), (14, .int i456), (15, .int i457)]) [0, 1, 2, 3, 4, 5, 6, 7, 9, 10, 11, 14, 15] rfl ?_
                  exact K_L_isWell_b467 ih h
                · refine T_lv (lv' := [(0, .ref a138), (1, .int i139), (2, .int i140), (3, .int i141), (4, .int i142), (5, .int i143), (6, .int i146), (7, .int i144), (9, .int i145), (10, .int i148), (11, .int i149), (14, .int i456), (15, .int i457)]) [0, 1, 2, 3, 4, 5, 6, 7, 9, 10, 11, 14, 15] rfl ?_
                  exact K_L_isWell_b463 ih h
              · refine T_iload dL_isWell_444 13 rfl ?_
                refine T_iload dL_isWell_446 12 rfl ?_
                refine T_icmp_ne 467 dL_isWell_448 (by decide) h (fun _ h => ?_) (fun _ h => ?_)
                · refine T_lv (lv' := [(0, .ref a138), (1, .int i139), (2, .int i140), (3, .int i141), (4, .int i142), (5, .int i143), (6, .int i146), (7, .int i144), (9, .int i145), (10, .int i148), (11, .int i149), (14, .int i456), (15, .int i457)]) [0, 1, 2, 3, 4, 5, 6, 7, 9, 10, 11, 14, 15] rfl ?_
                  exact K_L_isWell_b467 ih h
                · refine T_goto 463 dL_isWell_451 (by decide) ?_
                  refine T_lv (lv' := [(0, .ref a138), (1, .int i139), (2, .int i140), (3, .int i141), (4, .int i142), (5, .int i143), (6, .int i146), (7, .int i144), (9, .int i145), (10, .int i148), (11, .int i149), (14, .int i456), (15, .int i457)]) [0, 1, 2, 3, 4, 5, 6, 7, 9, 10, 11, 14, 15] rfl ?_
                  exact K_L_isWell_b463 ih h
set_option maxRecDepth 100000 in
set_option maxHeartbeats 4000000 in
theorem K_L_isWell_b665 {l : Launch} {G : smG} {P : Option Value → Hp → Prop} {k507 : Int32 → Int32 → Hp → Option (Int32 × Hp)} {a616 : Nat} {i617 : Int32} {i618 : Int32} {i619 : Int32} {i620 : Int32} {i621 : Int32} {i622 : Int32} {i623 : Int32} {i624 : Int32} {i625 : Int32} {i627 : Int32} {s626 : Hp} (hk507 : ∀ (i628 : Int32) (i629 : Int32) (s630 : Hp), OK jI (k507 i628 i629 s630) P → T l G RL cL_isWell 20 (sm_rm 6 0 0) (sm_E (some .boolean) yL_isWell.name) (sm_Qs G P 0 0) 0 0 507 [(0, .ref a616), (1, .int i617), (2, .int i618), (3, .int i619), (4, .int i620), (5, .int i621), (6, .int i622), (7, .int i623), (8, .int i628), (9, .int i624), (11, .int i629)] [] s630) (h : OK jI (D_L_isWell_b665 k507 a616 i617 i618 i619 i620 i621 i622 i623 i624 i625 i627 s626) P) : T l G RL cL_isWell 20 (sm_rm 6 0 0) (sm_E (some .boolean) yL_isWell.name) (sm_Qs G P 0 0) 0 0 665 [(0, .ref a616), (1, .int i617), (2, .int i618), (3, .int i619), (4, .int i620), (5, .int i621), (6, .int i622), (7, .int i623), (9, .int i624), (11, .int i625)] [.int i627] s626 := by
  unfold D_L_isWell_b665 at h
  refine T_istore (lv' := [(8, .int i627), (0, .ref a616), (1, .int i617), (2, .int i618), (3, .int i619), (4, .int i620), (5, .int i621), (6, .int i622), (7, .int i623), (9, .int i624), (11, .int i625)]) dL_isWell_665 (by decide) rfl ?_
  refine T_iinc (i625 + 1) (lv' := [(11, .int (i625 + 1)), (8, .int i627), (0, .ref a616), (1, .int i617), (2, .int i618), (3, .int i619), (4, .int i620), (5, .int i621), (6, .int i622), (7, .int i623), (9, .int i624)]) dL_isWell_667 (j := 10) rfl rfl (by decide) rfl ?_
  refine T_goto 507 dL_isWell_670 (by decide) ?_
  refine T_lv (lv' := [(0, .ref a616), (1, .int i617), (2, .int i618), (3, .int i619), (4, .int i620), (5, .int i621), (6, .int i622), (7, .int i623), (8, .int i627), (9, .int i624), (11, .int (i625 + 1))]) [2, 3, 4, 5, 6, 7, 8, 9, 1, 10, 0] rfl ?_
  exact hk507 i627 (i625 + 1) s626 h
set_option maxRecDepth 100000 in
set_option maxHeartbeats 4000000 in
theorem K_L_isWell_b664 {l : Launch} {G : smG} {P : Option Value → Hp → Prop} {k507 : Int32 → Int32 → Hp → Option (Int32 × Hp)} {a605 : Nat} {i606 : Int32} {i607 : Int32} {i608 : Int32} {i609 : Int32} {i610 : Int32} {i611 : Int32} {i612 : Int32} {i613 : Int32} {i614 : Int32} {s615 : Hp} (hk507 : ∀ (i631 : Int32) (i632 : Int32) (s633 : Hp), OK jI (k507 i631 i632 s633) P → T l G RL cL_isWell 20 (sm_rm 6 0 0) (sm_E (some .boolean) yL_isWell.name) (sm_Qs G P 0 0) 0 0 507 [(0, .ref a605), (1, .int i606), (2, .int i607), (3, .int i608), (4, .int i609), (5, .int i610), (6, .int i611), (7, .int i612), (8, .int i631), (9, .int i613), (11, .int i632)] [] s633) (h : OK jI (D_L_isWell_b664 k507 a605 i606 i607 i608 i609 i610 i611 i612 i613 i614 s615) P) : T l G RL cL_isWell 20 (sm_rm 6 0 0) (sm_E (some .boolean) yL_isWell.name) (sm_Qs G P 0 0) 0 0 664 [(0, .ref a605), (1, .int i606), (2, .int i607), (3, .int i608), (4, .int i609), (5, .int i610), (6, .int i611), (7, .int i612), (9, .int i613), (11, .int i614)] [] s615 := by
  unfold D_L_isWell_b664 at h
  refine T_iconst (0 : Int32) dL_isWell_664 (by decide) ?_
  exact K_L_isWell_b665 hk507 h
set_option maxRecDepth 100000 in
set_option maxHeartbeats 4000000 in
theorem K_L_isWell_b660 {l : Launch} {G : smG} {P : Option Value → Hp → Prop} {k507 : Int32 → Int32 → Hp → Option (Int32 × Hp)} {a694 : Nat} {i695 : Int32} {i696 : Int32} {i697 : Int32} {i698 : Int32} {i699 : Int32} {i700 : Int32} {i701 : Int32} {i702 : Int32} {i703 : Int32} {s704 : Hp} (hk507 : ∀ (i705 : Int32) (i706 : Int32) (s707 : Hp), OK jI (k507 i705 i706 s707) P → T l G RL cL_isWell 20 (sm_rm 6 0 0) (sm_E (some .boolean) yL_isWell.name) (sm_Qs G P 0 0) 0 0 507 [(0, .ref a694), (1, .int i695), (2, .int i696), (3, .int i697), (4, .int i698), (5, .int i699), (6, .int i700), (7, .int i701), (8, .int i705), (9, .int i702), (11, .int i706)] [] s707) (h : OK jI (D_L_isWell_b660 k507 a694 i695 i696 i697 i698 i699 i700 i701 i702 i703 s704) P) : T l G RL cL_isWell 20 (sm_rm 6 0 0) (sm_E (some .boolean) yL_isWell.name) (sm_Qs G P 0 0) 0 0 660 [(0, .ref a694), (1, .int i695), (2, .int i696), (3, .int i697), (4, .int i698), (5, .int i699), (6, .int i700), (7, .int i701), (9, .int i702), (11, .int i703)] [] s704 := by
  unfold D_L_isWell_b660 at h
  refine T_iconst (1 : Int32) dL_isWell_660 (by decide) ?_
  refine T_goto 665 dL_isWell_661 (by decide) ?_
  exact K_L_isWell_b665 hk507 h
set_option maxRecDepth 100000 in
set_option maxHeartbeats 4000000 in
theorem K_L_isWell_b631 {l : Launch} {G : smG} {P : Option Value → Hp → Prop} {k507 : Int32 → Int32 → Hp → Option (Int32 × Hp)} {a681 : Nat} {i682 : Int32} {i683 : Int32} {i684 : Int32} {i685 : Int32} {i686 : Int32} {i687 : Int32} {i688 : Int32} {i689 : Int32} {i690 : Int32} {i691 : Int32} {i692 : Int32} {s693 : Hp} (hk507 : ∀ (i710 : Int32) (i711 : Int32) (s712 : Hp), OK jI (k507 i710 i711 s712) P → T l G RL cL_isWell 20 (sm_rm 6 0 0) (sm_E (some .boolean) yL_isWell.name) (sm_Qs G P 0 0) 0 0 507 [(0, .ref a681), (1, .int i682), (2, .int i683), (3, .int i684), (4, .int i685), (5, .int i686), (6, .int i687), (7, .int i688), (8, .int i710), (9, .int i689), (11, .int i711)] [] s712) (h : OK jI (D_L_isWell_b631 k507 a681 i682 i683 i684 i685 i686 i687 i688 i689 i690 i691 i692 s693) P) : T l G RL cL_isWell 20 (sm_rm 6 0 0) (sm_E (some .boolean) yL_isWell.name) (sm_Qs G P 0 0) 0 0 631 [(0, .ref a681), (1, .int i682), (2, .int i683), (3, .int i684), (4, .int i685), (5, .int i686), (6, .int i687), (7, .int i688), (9, .int i689), (11, .int i690), (13, .int i691), (14, .int i692)] [] s693 := by
  unfold D_L_isWell_b631 at h
  refine T_iload dL_isWell_631 10 rfl ?_
  refine T_bipush (60 : Int32) dL_isWell_633 (by decide) ?_
  refine T_icmp_gt 664 dL_isWell_635 (by decide) h (fun _ h => ?_) (fun _ h => ?_)
  · refine T_lv (lv' := [(0, .ref a681), (1, .int i682), (2, .int i683), (3, .int i684), (4, .int i685), (5, .int i686), (6, .int i687), (7, .int i688), (9, .int i689), (11, .int i690)]) [0, 1, 2, 3, 4, 5, 6, 7, 8, 9] rfl ?_
    exact K_L_isWell_b664 hk507 h
  · refine T_iload dL_isWell_638 11 rfl ?_
    refine T_if_ne 660 dL_isWell_640 (by decide) h (fun _ h => ?_) (fun _ h => ?_)
    · refine T_lv (lv' := [(0, .ref a681), (1, .int i682), (2, .int i683), (3, .int i684), (4, .int i685), (5, .int i686), (6, .int i687), (7, .int i688), (9, .int i689), (11, .int i690)]) [0, 1, 2, 3, 4, 5, 6, 7, 8, 9] rfl ?_
      exact K_L_isWell_b660 hk507 h
    · refine T_aload_n dL_isWell_643 rfl 0 rfl ?_
      refine T_iload dL_isWell_644 9 rfl ?_
      refine T_iconst (3 : Int32) dL_isWell_646 (by decide) ?_
      refine T_callVI (As := [.int i690, .int (3 : Int32)]) (rest := []) (b := a681) (ci := 8) dL_isWell_647 mc_X9_of mi_X9_of ml_RL_28 rfl (fun _ hr => chk_of hr) rfl rfl (Nat.le_of_ble_eq_true rfl) ⟨⟨Nat.le_of_ble_eq_true rfl, Nat.le_of_ble_eq_true rfl⟩, ⟨Nat.le_of_ble_eq_true rfl, Nat.le_of_ble_eq_true rfl⟩⟩ K_X9_of h (fun i708 s709 h => ?_)
      refine T_bipush (50 : Int32) dL_isWell_650 (by decide) ?_
      refine T_icmp_gt 660 dL_isWell_652 (by decide) h (fun _ h => ?_) (fun _ h => ?_)
      · refine T_lv (lv' := [(0, .ref a681), (1, .int i682), (2, .int i683), (3, .int i684), (4, .int i685), (5, .int i686), (6, .int i687), (7, .int i688), (9, .int i689), (11, .int i690)]) [0, 1, 2, 3, 4, 5, 6, 7, 8, 9] rfl ?_
        exact K_L_isWell_b660 hk507 h
      · refine T_iload dL_isWell_655 10 rfl ?_
        refine T_if_le 664 dL_isWell_657 (by decide) h (fun _ h => ?_) (fun _ h => ?_)
        · refine T_lv (lv' := [(0, .ref a681), (1, .int i682), (2, .int i683), (3, .int i684), (4, .int i685), (5, .int i686), (6, .int i687), (7, .int i688), (9, .int i689), (11, .int i690)]) [0, 1, 2, 3, 4, 5, 6, 7, 8, 9] rfl ?_
          exact K_L_isWell_b664 hk507 h
        · refine T_lv (lv' := [(0, .ref a681), (1, .int i682), (2, .int i683), (3, .int i684), (4, .int i685), (5, .int i686), (6, .int i687), (7, .int i688), (9, .int i689), (11, .int i690)]) [0, 1, 2, 3, 4, 5, 6, 7, 8, 9] rfl ?_
          exact K_L_isWell_b660 hk507 h
set_option maxRecDepth 100000 in
set_option maxHeartbeats 4000000 in
theorem K_L_isWell_b609 {l : Launch} {G : smG} {P : Option Value → Hp → Prop} {k507 : Int32 → Int32 → Hp → Option (Int32 × Hp)} {a667 : Nat} {i668 : Int32} {i669 : Int32} {i670 : Int32} {i671 : Int32} {i672 : Int32} {i673 : Int32} {i674 : Int32} {i675 : Int32} {i676 : Int32} {i677 : Int32} {i678 : Int32} {i679 : Int32} {s680 : Hp} (hk507 : ∀ (i717 : Int32) (i718 : Int32) (s719 : Hp), OK jI (k507 i717 i718 s719) P → T l G RL cL_isWell 20 (sm_rm 6 0 0) (sm_E (some .boolean) yL_isWell.name) (sm_Qs G P 0 0) 0 0 507 [(0, .ref a667), (1, .int i668), (2, .int i669), (3, .int i670), (4, .int i671), (5, .int i672), (6, .int i673), (7, .int i674), (8, .int i717), (9, .int i675), (11, .int i718)] [] s719) (h : OK jI (D_L_isWell_b609 k507 a667 i668 i669 i670 i671 i672 i673 i674 i675 i676 i677 i678 i679 s680) P) : T l G RL cL_isWell 20 (sm_rm 6 0 0) (sm_E (some .boolean) yL_isWell.name) (sm_Qs G P 0 0) 0 0 609 [(0, .ref a667), (1, .int i668), (2, .int i669), (3, .int i670), (4, .int i671), (5, .int i672), (6, .int i673), (7, .int i674), (9, .int i675), (11, .int i676), (12, .int i677), (13, .int i678), (14, .int i679)] [] s680 := by
  unfold D_L_isWell_b609 at h
  refine T_iload dL_isWell_609 10 rfl ?_
  refine T_if_lt 631 dL_isWell_611 (by decide) h (fun _ h => ?_) (fun _ h => ?_)
  · refine T_lv (lv' := [(0, .ref a667), (1, .int i668), (2, .int i669), (3, .int i670), (4, .int i671), (5, .int i672), (6, .int i673), (7, .int i674), (9, .int i675), (11, .int i676), (13, .int i678), (14, .int i679)]) [0, 1, 2, 3, 4, 5, 6, 7, 8, 9, 11, 12] rfl ?_
    exact K_L_isWell_b631 hk507 h
  · refine T_aload_n dL_isWell_614 rfl 0 rfl ?_
    refine T_iload dL_isWell_615 10 rfl ?_
    refine T_iconst (0 : Int32) dL_isWell_617 (by decide) ?_
    refine T_callVI (As := [.int i677, .int (0 : Int32)]) (rest := []) (b := a667) (ci := 8) dL_isWell_618 mc_X9_of mi_X9_of ml_RL_28 rfl (fun _ hr => chk_of hr) rfl rfl (Nat.le_of_ble_eq_true rfl) ⟨⟨Nat.le_of_ble_eq_true rfl, Nat.le_of_ble_eq_true rfl⟩, ⟨Nat.le_of_ble_eq_true rfl, Nat.le_of_ble_eq_true rfl⟩⟩ K_X9_of h (fun i713 s714 h => ?_)
    refine T_aload_n dL_isWell_621 rfl 0 rfl ?_
    refine T_iload dL_isWell_622 9 rfl ?_
    refine T_iconst (0 : Int32) dL_isWell_624 (by decide) ?_
    refine T_callVI (As := [.int i676, .int (0 : Int32)]) (rest := [.int i713]) (b := a667) (ci := 8) dL_isWell_625 mc_X9_of mi_X9_of ml_RL_28 rfl (fun _ hr => chk_of hr) rfl rfl (Nat.le_of_ble_eq_true rfl) ⟨⟨Nat.le_of_ble_eq_true rfl, Nat.le_of_ble_eq_true rfl⟩, ⟨Nat.le_of_ble_eq_true rfl, Nat.le_of_ble_eq_true rfl⟩⟩ K_X9_of h (fun i715 s716 h => ?_)
    refine T_icmp_ge 664 dL_isWell_628 (by decide) h (fun _ h => ?_) (fun _ h => ?_)
    · refine T_lv (lv' := [(0, .ref a667), (1, .int i668), (2, .int i669), (3, .int i670), (4, .int i671), (5, .int i672), (6, .int i673), (7, .int i674), (9, .int i675), (11, .int i676)]) [0, 1, 2, 3, 4, 5, 6, 7, 8, 9] rfl ?_
      exact K_L_isWell_b664 hk507 h
    · refine T_lv (lv' := [(0, .ref a667), (1, .int i668), (2, .int i669), (3, .int i670), (4, .int i671), (5, .int i672), (6, .int i673), (7, .int i674), (9, .int i675), (11, .int i676), (13, .int i678), (14, .int i679)]) [0, 1, 2, 3, 4, 5, 6, 7, 8, 9, 11, 12] rfl ?_
      exact K_L_isWell_b631 hk507 h
set_option maxRecDepth 100000 in
set_option maxHeartbeats 4000000 in
theorem K_L_isWell_b596 {l : Launch} {G : smG} {P : Option Value → Hp → Prop} {k507 : Int32 → Int32 → Hp → Option (Int32 × Hp)} {a651 : Nat} {i652 : Int32} {i653 : Int32} {i654 : Int32} {i655 : Int32} {i656 : Int32} {i657 : Int32} {i658 : Int32} {i659 : Int32} {i660 : Int32} {i661 : Int32} {i662 : Int32} {i663 : Int32} {i665 : Int32} {i666 : Int32} {s664 : Hp} (hk507 : ∀ (i720 : Int32) (i721 : Int32) (s722 : Hp), OK jI (k507 i720 i721 s722) P → T l G RL cL_isWell 20 (sm_rm 6 0 0) (sm_E (some .boolean) yL_isWell.name) (sm_Qs G P 0 0) 0 0 507 [(0, .ref a651), (1, .int i652), (2, .int i653), (3, .int i654), (4, .int i655), (5, .int i656), (6, .int i657), (7, .int i658), (8, .int i720), (9, .int i659), (11, .int i721)] [] s722) (h : OK jI (D_L_isWell_b596 k507 a651 i652 i653 i654 i655 i656 i657 i658 i659 i660 i661 i662 i663 i665 i666 s664) P) : T l G RL cL_isWell 20 (sm_rm 6 0 0) (sm_E (some .boolean) yL_isWell.name) (sm_Qs G P 0 0) 0 0 596 [(0, .ref a651), (1, .int i652), (2, .int i653), (3, .int i654), (4, .int i655), (5, .int i656), (6, .int i657), (7, .int i658), (9, .int i659), (11, .int i660), (12, .int i661), (13, .int i662), (14, .int i663)] [.int i665, .int i666] s664 := by
  unfold D_L_isWell_b596 at h
  refine T_icmp_ne 664 dL_isWell_596 (by decide) h (fun _ h => ?_) (fun _ h => ?_)
  · refine T_lv (lv' := [(0, .ref a651), (1, .int i652), (2, .int i653), (3, .int i654), (4, .int i655), (5, .int i656), (6, .int i657), (7, .int i658), (9, .int i659), (11, .int i660)]) [0, 1, 2, 3, 4, 5, 6, 7, 8, 9] rfl ?_
    exact K_L_isWell_b664 hk507 h
  · refine T_iload dL_isWell_599 12 rfl ?_
    refine T_if_eq 609 dL_isWell_601 (by decide) h (fun _ h => ?_) (fun _ h => ?_)
    · exact K_L_isWell_b609 hk507 h
    · refine T_iload dL_isWell_604 11 rfl ?_
      refine T_if_ne 664 dL_isWell_606 (by decide) h (fun _ h => ?_) (fun _ h => ?_)
      · refine T_lv (lv' := [(0, .ref a651), (1, .int i652), (2, .int i653), (3, .int i654), (4, .int i655), (5, .int i656), (6, .int i657), (7, .int i658), (9, .int i659), (11, .int i660)]) [0, 1, 2, 3, 4, 5, 6, 7, 8, 9] rfl ?_
        exact K_L_isWell_b664 hk507 h
      · exact K_L_isWell_b609 hk507 h
set_option maxRecDepth 100000 in
set_option maxHeartbeats 4000000 in
theorem K_L_isWell_b578 {l : Launch} {G : smG} {P : Option Value → Hp → Prop} {k507 : Int32 → Int32 → Hp → Option (Int32 × Hp)} {a634 : Nat} {i635 : Int32} {i636 : Int32} {i637 : Int32} {i638 : Int32} {i639 : Int32} {i640 : Int32} {i641 : Int32} {i642 : Int32} {i643 : Int32} {i644 : Int32} {i645 : Int32} {i646 : Int32} {i648 : Int32} {s647 : Hp} (hk507 : ∀ (i723 : Int32) (i724 : Int32) (s725 : Hp), OK jI (k507 i723 i724 s725) P → T l G RL cL_isWell 20 (sm_rm 6 0 0) (sm_E (some .boolean) yL_isWell.name) (sm_Qs G P 0 0) 0 0 507 [(0, .ref a634), (1, .int i635), (2, .int i636), (3, .int i637), (4, .int i638), (5, .int i639), (6, .int i640), (7, .int i641), (8, .int i723), (9, .int i642), (11, .int i724)] [] s725) (h : OK jI (D_L_isWell_b578 k507 a634 i635 i636 i637 i638 i639 i640 i641 i642 i643 i644 i645 i646 i648 s647) P) : T l G RL cL_isWell 20 (sm_rm 6 0 0) (sm_E (some .boolean) yL_isWell.name) (sm_Qs G P 0 0) 0 0 578 [(0, .ref a634), (1, .int i635), (2, .int i636), (3, .int i637), (4, .int i638), (5, .int i639), (6, .int i640), (7, .int i641), (9, .int i642), (11, .int i643), (12, .int i644), (13, .int i645), (14, .int i646)] [.int i648] s647 := by
  unfold D_L_isWell_b578 at h
  refine T_aload_n dL_isWell_578 rfl 0 rfl ?_
  refine T_iload dL_isWell_579 9 rfl ?_
  refine T_iload dL_isWell_581 8 rfl ?_
  refine T_iconst (0 : Int32) dL_isWell_583 (by decide) ?_
  refine T_callVI (As := [.int i643, .int i642, .int (0 : Int32)]) (rest := [.int i648]) (b := a634) (ci := 8) dL_isWell_584 mc_X9_at mi_X9_at ml_RL_69 rfl (fun _ hr => chk_of hr) rfl rfl (Nat.le_of_ble_eq_true rfl) ⟨⟨Nat.le_of_ble_eq_true rfl, Nat.le_of_ble_eq_true rfl⟩, ⟨Nat.le_of_ble_eq_true rfl, Nat.le_of_ble_eq_true rfl⟩⟩ K_X9_at h (fun i649 s650 h => ?_)
  refine T_iconst (1 : Int32) dL_isWell_587 (by decide) ?_
  refine T_icmp_ne 595 dL_isWell_588 (by decide) h (fun _ h => ?_) (fun _ h => ?_)
  · refine T_iconst (0 : Int32) dL_isWell_595 (by decide) ?_
    exact K_L_isWell_b596 hk507 h
  · refine T_iconst (1 : Int32) dL_isWell_591 (by decide) ?_
    refine T_goto 596 dL_isWell_592 (by decide) ?_
    exact K_L_isWell_b596 hk507 h
set_option maxRecDepth 100000 in
set_option maxHeartbeats 4000000 in
theorem K_L_isWell_b561 {l : Launch} {G : smG} {P : Option Value → Hp → Prop} {k507 : Int32 → Int32 → Hp → Option (Int32 × Hp)} {a590 : Nat} {i591 : Int32} {i592 : Int32} {i593 : Int32} {i594 : Int32} {i595 : Int32} {i596 : Int32} {i597 : Int32} {i598 : Int32} {i599 : Int32} {i600 : Int32} {i601 : Int32} {i602 : Int32} {i604 : Int32} {s603 : Hp} (hk507 : ∀ (i726 : Int32) (i727 : Int32) (s728 : Hp), OK jI (k507 i726 i727 s728) P → T l G RL cL_isWell 20 (sm_rm 6 0 0) (sm_E (some .boolean) yL_isWell.name) (sm_Qs G P 0 0) 0 0 507 [(0, .ref a590), (1, .int i591), (2, .int i592), (3, .int i593), (4, .int i594), (5, .int i595), (6, .int i596), (7, .int i597), (8, .int i726), (9, .int i599), (11, .int i727)] [] s728) (h : OK jI (D_L_isWell_b561 k507 a590 i591 i592 i593 i594 i595 i596 i597 i598 i599 i600 i601 i602 i604 s603) P) : T l G RL cL_isWell 20 (sm_rm 6 0 0) (sm_E (some .boolean) yL_isWell.name) (sm_Qs G P 0 0) 0 0 561 [(0, .ref a590), (1, .int i591), (2, .int i592), (3, .int i593), (4, .int i594), (5, .int i595), (6, .int i596), (7, .int i597), (8, .int i598), (9, .int i599), (11, .int i600), (12, .int i601), (13, .int i602)] [.int i604] s603 := by
  unfold D_L_isWell_b561 at h
  refine T_istore (lv' := [(14, .int i604), (0, .ref a590), (1, .int i591), (2, .int i592), (3, .int i593), (4, .int i594), (5, .int i595), (6, .int i596), (7, .int i597), (8, .int i598), (9, .int i599), (11, .int i600), (12, .int i601), (13, .int i602)]) dL_isWell_561 (by decide) rfl ?_
  refine T_iload dL_isWell_563 9 rfl ?_
  refine T_if_eq 664 dL_isWell_565 (by decide) h (fun _ h => ?_) (fun _ h => ?_)
  · refine T_lv (lv' := [(0, .ref a590), (1, .int i591), (2, .int i592), (3, .int i593), (4, .int i594), (5, .int i595), (6, .int i596), (7, .int i597), (9, .int i599), (11, .int i600)]) [1, 2, 3, 4, 5, 6, 7, 8, 10, 11] rfl ?_
    exact K_L_isWell_b664 hk507 h
  · refine T_iload dL_isWell_568 12 rfl ?_
    refine T_if_lt 577 dL_isWell_570 (by decide) h (fun _ h => ?_) (fun _ h => ?_)
    · refine T_iconst (0 : Int32) dL_isWell_577 (by decide) ?_
      refine T_lv (lv' := [(0, .ref a590), (1, .int i591), (2, .int i592), (3, .int i593), (4, .int i594), (5, .int i595), (6, .int i596), (7, .int i597), (9, .int i599), (11, .int i600), (12, .int i601), (13, .int i602), (14, .int i604)]) [1, 2, 3, 4, 5, 6, 7, 8, 10, 11, 12, 13, 0] rfl ?_
      exact K_L_isWell_b578 hk507 h
    · refine T_iconst (1 : Int32) dL_isWell_573 (by decide) ?_
      refine T_goto 578 dL_isWell_574 (by decide) ?_
      refine T_lv (lv' := [(0, .ref a590), (1, .int i591), (2, .int i592), (3, .int i593), (4, .int i594), (5, .int i595), (6, .int i596), (7, .int i597), (9, .int i599), (11, .int i600), (12, .int i601), (13, .int i602), (14, .int i604)]) [1, 2, 3, 4, 5, 6, 7, 8, 10, 11, 12, 13, 0] rfl ?_
      exact K_L_isWell_b578 hk507 h
set_option maxRecDepth 100000 in
set_option maxHeartbeats 4000000 in
theorem K_L_isWell_b556 {l : Launch} {G : smG} {P : Option Value → Hp → Prop} {k507 : Int32 → Int32 → Hp → Option (Int32 × Hp)} {a576 : Nat} {i577 : Int32} {i578 : Int32} {i579 : Int32} {i580 : Int32} {i581 : Int32} {i582 : Int32} {i583 : Int32} {i584 : Int32} {i585 : Int32} {i586 : Int32} {i587 : Int32} {i588 : Int32} {s589 : Hp} (hk507 : ∀ (i729 : Int32) (i730 : Int32) (s731 : Hp), OK jI (k507 i729 i730 s731) P → T l G RL cL_isWell 20 (sm_rm 6 0 0) (sm_E (some .boolean) yL_isWell.name) (sm_Qs G P 0 0) 0 0 507 [(0, .ref a576), (1, .int i577), (2, .int i578), (3, .int i579), (4, .int i580), (5, .int i581), (6, .int i582), (7, .int i583), (8, .int i729), (9, .int i585), (11, .int i730)] [] s731) (h : OK jI (D_L_isWell_b556 k507 a576 i577 i578 i579 i580 i581 i582 i583 i584 i585 i586 i587 i588 s589) P) : T l G RL cL_isWell 20 (sm_rm 6 0 0) (sm_E (some .boolean) yL_isWell.name) (sm_Qs G P 0 0) 0 0 556 [(0, .ref a576), (1, .int i577), (2, .int i578), (3, .int i579), (4, .int i580), (5, .int i581), (6, .int i582), (7, .int i583), (8, .int i584), (9, .int i585), (11, .int i586), (12, .int i587), (13, .int i588)] [] s589 := by
  unfold D_L_isWell_b556 at h
  refine T_iconst (1 : Int32) dL_isWell_556 (by decide) ?_
  refine T_goto 561 dL_isWell_557 (by decide) ?_
  exact K_L_isWell_b561 hk507 h
set_option maxRecDepth 100000 in
set_option maxHeartbeats 4000000 in
theorem K_L_isWell_w507 {l : Launch} {G : smG} {P : Option Value → Hp → Prop} {a559 : Nat} {i560 : Int32} {i561 : Int32} {i562 : Int32} {i563 : Int32} {i564 : Int32} {i565 : Int32} {i566 : Int32} {i567 : Int32} {k673 : Int32 → Hp → Option (Int32 × Hp)} (hk673 : ∀ (i734 : Int32) (s735 : Hp), OK jI (k673 i734 s735) P → T l G RL cL_isWell 20 (sm_rm 6 0 0) (sm_E (some .boolean) yL_isWell.name) (sm_Qs G P 0 0) 0 0 673 [(0, .ref a559), (1, .int i560), (2, .int i561), (3, .int i562), (4, .int i563), (5, .int i564), (6, .int i565), (7, .int i566), (8, .int i734), (9, .int i567)] [] s735) : ∀ (n : Nat) (i568 : Int32) (i569 : Int32) (s570 : Hp), OK jI (D_L_isWell_w507 a559 i560 i561 i562 i563 i564 i565 i566 i567 k673 n i568 i569 s570) P → T l G RL cL_isWell 20 (sm_rm 6 0 0) (sm_E (some .boolean) yL_isWell.name) (sm_Qs G P 0 0) 0 0 507 [(0, .ref a559), (1, .int i560), (2, .int i561), (3, .int i562), (4, .int i563), (5, .int i564), (6, .int i565), (7, .int i566), (8, .int i568), (9, .int i567), (11, .int i569)] [] s570 := by
  intro n
  induction n with
  | zero => intro i568 i569 s570 h; obtain ⟨_, h0, _⟩ := h; exact absurd h0 (by simp [D_L_isWell_w507])
  | succ n571 ih =>
    intro i568 i569 s570 h
    unfold D_L_isWell_w507 at h
    refine T_iload dL_isWell_507 10 rfl ?_
    refine T_iload_n dL_isWell_509 rfl 1 rfl ?_
    refine T_icmp_ge 673 dL_isWell_510 (by decide) h (fun _ h => ?_) (fun _ h => ?_)
    · refine T_lv (lv' := [(0, .ref a559), (1, .int i560), (2, .int i561), (3, .int i562), (4, .int i563), (5, .int i564), (6, .int i565), (7, .int i566), (8, .int i568), (9, .int i567)]) [0, 1, 2, 3, 4, 5, 6, 7, 8, 9] rfl ?_
      exact hk673 i568 s570 h
    · refine T_aload_n dL_isWell_513 rfl 0 rfl ?_
      refine T_iload dL_isWell_514 10 rfl ?_
      refine T_iload dL_isWell_516 9 rfl ?_
      refine T_iconst (3 : Int32) dL_isWell_518 (by decide) ?_
      refine T_callVI (As := [.int i569, .int i567, .int (3 : Int32)]) (rest := []) (b := a559) (ci := 8) dL_isWell_519 mc_X9_at mi_X9_at ml_RL_69 rfl (fun _ hr => chk_of hr) rfl rfl (Nat.le_of_ble_eq_true rfl) ⟨⟨Nat.le_of_ble_eq_true rfl, Nat.le_of_ble_eq_true rfl⟩, ⟨Nat.le_of_ble_eq_true rfl, Nat.le_of_ble_eq_true rfl⟩⟩ K_X9_at h (fun i572 s573 h => ?_)
      refine T_istore (lv' := [(12, .int i572), (0, .ref a559), (1, .int i560), (2, .int i561), (3, .int i562), (4, .int i563), (5, .int i564), (6, .int i565), (7, .int i566), (8, .int i568), (9, .int i567), (11, .int i569)]) dL_isWell_522 (by decide) rfl ?_
      refine T_aload_n dL_isWell_524 rfl 1 rfl ?_
      refine T_iload dL_isWell_525 11 rfl ?_
      refine T_iload dL_isWell_527 10 rfl ?_
      refine T_iconst (1 : Int32) dL_isWell_529 (by decide) ?_
      refine T_callVI (As := [.int i569, .int i567, .int (1 : Int32)]) (rest := []) (b := a559) (ci := 8) dL_isWell_530 mc_X9_at mi_X9_at ml_RL_69 rfl (fun _ hr => chk_of hr) rfl rfl (Nat.le_of_ble_eq_true rfl) ⟨⟨Nat.le_of_ble_eq_true rfl, Nat.le_of_ble_eq_true rfl⟩, ⟨Nat.le_of_ble_eq_true rfl, Nat.le_of_ble_eq_true rfl⟩⟩ K_X9_at h (fun i574 s575 h => ?_)
      refine T_istore (lv' := [(13, .int i574), (12, .int i572), (0, .ref a559), (1, .int i560), (2, .int i561), (3, .int i562), (4, .int i563), (5, .int i564), (6, .int i565), (7, .int i566), (8, .int i568), (9, .int i567), (11, .int i569)]) dL_isWell_533 (by decide) rfl ?_
      refine T_iload dL_isWell_535 9 rfl ?_
      refine T_if_ne 556 dL_isWell_537 (by decide) h (fun _ h => ?_) (fun _ h => ?_)
      · refine T_lv (lv' := [(0, .ref a559), (1, .int i560), (2, .int i561), (3, .int i562), (4, .int i563), (5, .int i564), (6, .int i565), (7, .int i566), (8, .int i568), (9, .int i567), (11, .int i569), (12, .int i572), (13, .int i574)]) [2, 3, 4, 5, 6, 7, 8, 9, 10, 11, 12, 1, 0] rfl ?_
        exact K_L_isWell_b556 ih h
      · refine T_iload dL_isWell_540 1 rfl ?_
        refine T_if_ge 556 dL_isWell_542 (by decide) h (fun _ h => ?_) (fun _ h => ?_)
        · refine T_lv (lv' := [(0, .ref a559), (1, .int i560), (2, .int i561), (3, .int i562), (4, .int i563), (5, .int i564), (6, .int i565), (7, .int i566), (8, .int i568), (9, .int i567), (11, .int i569), (12, .int i572), (13, .int i574)]) [2, 3, 4, 5, 6, 7, 8, 9, 10, 11, 12, 1, 0] rfl ?_
          exact K_L_isWell_b556 ih h
        · refine T_aload_n dL_isWell_545 rfl 2 rfl ?_
          refine T_iload dL_isWell_546 12 rfl ?_
          refine T_iconst (4 : Int32) dL_isWell_548 (by decide) ?_
          refine T_callVI (As := [.int i569, .int (4 : Int32)]) (rest := []) (b := a559) (ci := 8) dL_isWell_549 mc_X9_of mi_X9_of ml_RL_28 rfl (fun _ hr => chk_of hr) rfl rfl (Nat.le_of_ble_eq_true rfl) ⟨⟨Nat.le_of_ble_eq_true rfl, Nat.le_of_ble_eq_true rfl⟩, ⟨Nat.le_of_ble_eq_true rfl, Nat.le_of_ble_eq_true rfl⟩⟩ K_X9_of h (fun i732 s733 h => ?_)
          refine T_iconst (1 : Int32) dL_isWell_552 (by decide) ?_
          refine T_icmp_ne 560 dL_isWell_553 (by decide) h (fun _ h => ?_) (fun _ h => ?_)
          · refine T_iconst (0 : Int32) dL_isWell_560 (by decide) ?_
            refine T_lv (lv' := [(0, .ref a559), (1, .int i560), (2, .int i561), (3, .int i562), (4, .int i563), (5, .int i564), (6, .int i565), (7, .int i566), (8, .int i568), (9, .int i567), (11, .int i569), (12, .int i572), (13, .int i574)]) [2, 3, 4, 5, 6, 7, 8, 9, 10, 11, 12, 1, 0] rfl ?_
            exact K_L_isWell_b561 ih h
          · refine T_lv (lv' := [(0, .ref a559), (1, .int i560), (2, .int i561), (3, .int i562), (4, .int i563), (5, .int i564), (6, .int i565), (7, .int i566), (8, .int i568), (9, .int i567), (11, .int i569), (12, .int i572), (13, .int i574)]) [2, 3, 4, 5, 6, 7, 8, 9, 10, 11, 12, 1, 0] rfl ?_
            exact K_L_isWell_b556 ih h
set_option maxRecDepth 100000 in
set_option maxHeartbeats 4000000 in
theorem K_L_isWell_b499 {l : Launch} {G : smG} {P : Option Value → Hp → Prop} {k163 : Int32 → Int32 → Int32 → Int32 → Hp → Option (Int32 × Hp)} {a546 : Nat} {i547 : Int32} {i548 : Int32} {i549 : Int32} {i550 : Int32} {i551 : Int32} {i552 : Int32} {i553 : Int32} {i554 : Int32} {i555 : Int32} {i556 : Int32} {s557 : Hp} (hk163 : ∀ (i738 : Int32) (i739 : Int32) (i740 : Int32) (i741 : Int32) (s742 : Hp), OK jI (k163 i738 i739 i740 i741 s742) P → T l G RL cL_isWell 20 (sm_rm 6 0 0) (sm_E (some .boolean) yL_isWell.name) (sm_Qs G P 0 0) 0 0 163 [(0, .ref a546), (1, .int i547), (2, .int i548), (3, .int i738), (4, .int i550), (5, .int i551), (6, .int i739), (7, .int i553), (8, .int i740), (9, .int i741)] [] s742) (h : OK jI (D_L_isWell_b499 k163 a546 i547 i548 i549 i550 i551 i552 i553 i554 i555 i556 s557) P) : T l G RL cL_isWell 20 (sm_rm 6 0 0) (sm_E (some .boolean) yL_isWell.name) (sm_Qs G P 0 0) 0 0 499 [(0, .ref a546), (1, .int i547), (2, .int i548), (3, .int i549), (4, .int i550), (5, .int i551), (6, .int i552), (7, .int i553), (8, .int i554), (9, .int i555), (10, .int i556)] [] s557 := by
  unfold D_L_isWell_b499 at h
  refine T_iload_n dL_isWell_499 rfl 3 rfl ?_
  refine T_iload dL_isWell_500 10 rfl ?_
  refine T_iadd dL_isWell_502 ?_
  refine T_nm h (fun i558 h => ?_)
  refine T_istore_n (lv' := [(3, .int i558), (0, .ref a546), (1, .int i547), (2, .int i548), (4, .int i550), (5, .int i551), (6, .int i552), (7, .int i553), (8, .int i554), (9, .int i555), (10, .int i556)]) dL_isWell_503 rfl (by decide) rfl ?_
  refine T_iconst (0 : Int32) dL_isWell_504 (by decide) ?_
  refine T_istore (lv' := [(11, .int (0 : Int32)), (3, .int i558), (0, .ref a546), (1, .int i547), (2, .int i548), (4, .int i550), (5, .int i551), (6, .int i552), (7, .int i553), (8, .int i554), (9, .int i555), (10, .int i556)]) dL_isWell_505 (by decide) rfl ?_
  refine T_lv (lv' := [(0, .ref a546), (1, .int i547), (2, .int i548), (3, .int i558), (4, .int i550), (5, .int i551), (6, .int i552), (7, .int i553), (8, .int i554), (9, .int i555), (11, .int (0 : Int32))]) [2, 3, 4, 1, 5, 6, 7, 8, 9, 10, 0] rfl ?_
  refine K_L_isWell_w507 ?_ FU i554 (0 : Int32) s557 h
  intro i737 s736 h
  refine T_iinc (i555 + 1) (lv' := [(9, .int (i555 + 1)), (0, .ref a546), (1, .int i547), (2, .int i548), (3, .int i558), (4, .int i550), (5, .int i551), (6, .int i552), (7, .int i553), (8, .int i737)]) dL_isWell_673 (j := 9) rfl rfl (by decide) rfl ?_
  refine T_goto 163 dL_isWell_676 (by decide) ?_
  refine T_lv (lv' := [(0, .ref a546), (1, .int i547), (2, .int i548), (3, .int i558), (4, .int i550), (5, .int i551), (6, .int i552), (7, .int i553), (8, .int i737), (9, .int (i555 + 1))]) [1, 2, 3, 4, 5, 6, 7, 8, 9, 0] rfl ?_
  exact hk163 i558 i552 i737 (i555 + 1) s736 h
set_option maxRecDepth 100000 in
set_option maxHeartbeats 4000000 in
theorem K_L_isWell_w163 {l : Launch} {G : smG} {P : Option Value → Hp → Prop} {a126 : Nat} {i127 : Int32} {i128 : Int32} {i129 : Int32} {i130 : Int32} {i131 : Int32} {k679 : Int32 → Int32 → Int32 → Hp → Option (Int32 × Hp)} (hk679 : ∀ (i743 : Int32) (i744 : Int32) (i745 : Int32) (s746 : Hp), OK jI (k679 i743 i744 i745 s746) P → T l G RL cL_isWell 20 (sm_rm 6 0 0) (sm_E (some .boolean) yL_isWell.name) (sm_Qs G P 0 0) 0 0 679 [(0, .ref a126), (3, .int i743), (4, .int i129), (5, .int i130), (6, .int i744), (8, .int i745)] [] s746) : ∀ (n : Nat) (i132 : Int32) (i133 : Int32) (i134 : Int32) (i135 : Int32) (s136 : Hp), OK jI (D_L_isWell_w163 a126 i127 i128 i129 i130 i131 k679 n i132 i133 i134 i135 s136) P → T l G RL cL_isWell 20 (sm_rm 6 0 0) (sm_E (some .boolean) yL_isWell.name) (sm_Qs G P 0 0) 0 0 163 [(0, .ref a126), (1, .int i127), (2, .int i128), (3, .int i132), (4, .int i129), (5, .int i130), (6, .int i133), (7, .int i131), (8, .int i134), (9, .int i135)] [] s136 := by
  intro n
  induction n with
  | zero => intro i132 i133 i134 i135 s136 h; obtain ⟨_, h0, _⟩ := h; exact absurd h0 (by simp [D_L_isWell_w163])
  | succ n137 ih =>
    intro i132 i133 i134 i135 s136 h
    unfold D_L_isWell_w163 at h
    refine T_iload dL_isWell_163 9 rfl ?_
    refine T_bipush (11 : Int32) dL_isWell_165 (by decide) ?_
    refine T_icmp_ge 679 dL_isWell_167 (by decide) h (fun _ h => ?_) (fun _ h => ?_)
    · refine T_lv (lv' := [(0, .ref a126), (3, .int i132), (4, .int i129), (5, .int i130), (6, .int i133), (8, .int i134)]) [0, 3, 4, 5, 6, 8] rfl ?_
      exact hk679 i132 i133 i134 s136 h
    · refine T_iload dL_isWell_170 8 rfl ?_
      refine T_if_eq 679 dL_isWell_172 (by decide) h (fun _ h => ?_) (fun _ h => ?_)
      · refine T_lv (lv' := [(0, .ref a126), (3, .int i132), (4, .int i129), (5, .int i130), (6, .int i133), (8, .int i134)]) [0, 3, 4, 5, 6, 8] rfl ?_
        exact hk679 i132 i133 i134 s136 h
      · refine T_iconst (0 : Int32) dL_isWell_175 (by decide) ?_
        refine T_istore (lv' := [(10, .int (0 : Int32)), (0, .ref a126), (1, .int i127), (2, .int i128), (3, .int i132), (4, .int i129), (5, .int i130), (6, .int i133), (7, .int i131), (8, .int i134), (9, .int i135)]) dL_isWell_176 (by decide) rfl ?_
        refine T_iconst (0 : Int32) dL_isWell_178 (by decide) ?_
        refine T_istore (lv' := [(11, .int (0 : Int32)), (10, .int (0 : Int32)), (0, .ref a126), (1, .int i127), (2, .int i128), (3, .int i132), (4, .int i129), (5, .int i130), (6, .int i133), (7, .int i131), (8, .int i134), (9, .int i135)]) dL_isWell_179 (by decide) rfl ?_
        refine T_lv (lv' := [(0, .ref a126), (1, .int i127), (2, .int i128), (3, .int i132), (4, .int i129), (5, .int i130), (6, .int i133), (7, .int i131), (8, .int i134), (9, .int i135), (10, .int (0 : Int32)), (11, .int (0 : Int32))]) [2, 3, 4, 5, 6, 7, 8, 9, 10, 11, 1, 0] rfl ?_
        refine K_L_isWell_w181 ?_ FU i133 i134 (0 : Int32) (0 : Int32) s136 h
        intro i543 i544 i545 s542 h
        exact K_L_isWell_b499 ih h
set_option maxRecDepth 100000 in
set_option maxHeartbeats 4000000 in
theorem K_L_isWell_b679 {l : Launch} {G : smG} {P : Option Value → Hp → Prop}  {a751 : Nat} {i752 : Int32} {i753 : Int32} {i754 : Int32} {i755 : Int32} {i756 : Int32} {s757 : Hp}  (h : OK jI (D_L_isWell_b679 a751 i752 i753 i754 i755 i756 s757) P) : T l G RL cL_isWell 20 (sm_rm 6 0 0) (sm_E (some .boolean) yL_isWell.name) (sm_Qs G P 0 0) 0 0 679 [(0, .ref a751), (3, .int i752), (4, .int i753), (5, .int i754), (6, .int i755), (8, .int i756)] [] s757 := by
  unfold D_L_isWell_b679 at h
  refine T_iload dL_isWell_679 5 rfl ?_
  refine T_if_eq 728 dL_isWell_681 (by decide) h (fun _ h => ?_) (fun _ h => ?_)
  · refine T_iconst (0 : Int32) dL_isWell_728 (by decide) ?_
    exact T_zreturn dL_isWell_729 (Nat.le_of_ble_eq_true rfl) (Nat.le_of_ble_eq_true rfl) h
  · refine T_iload_n dL_isWell_684 rfl 1 rfl ?_
    refine T_aload_n dL_isWell_685 rfl 0 rfl ?_
    refine T_iconst (5 : Int32) dL_isWell_686 (by decide) ?_
    refine T_callVI (As := [.int (5 : Int32)]) (rest := [.int i752]) (b := a751) (ci := 8) dL_isWell_687 mc_X9_count mi_X9_count ml_RL_9 rfl (fun _ hr => chk_of hr) rfl rfl (Nat.le_of_ble_eq_true rfl) ⟨⟨Nat.le_of_ble_eq_true rfl, Nat.le_of_ble_eq_true rfl⟩, ⟨Nat.le_of_ble_eq_true rfl, Nat.le_of_ble_eq_true rfl⟩⟩ K_X9_count h (fun i758 s759 h => ?_)
    refine T_icmp_ne 728 dL_isWell_690 (by decide) h (fun _ h => ?_) (fun _ h => ?_)
    · refine T_iconst (0 : Int32) dL_isWell_728 (by decide) ?_
      exact T_zreturn dL_isWell_729 (Nat.le_of_ble_eq_true rfl) (Nat.le_of_ble_eq_true rfl) h
    · refine T_iload dL_isWell_693 2 rfl ?_
      refine T_aload_n dL_isWell_695 rfl 0 rfl ?_
      refine T_bipush (7 : Int32) dL_isWell_696 (by decide) ?_
      refine T_callVI (As := [.int (7 : Int32)]) (rest := [.int i753]) (b := a751) (ci := 8) dL_isWell_698 mc_X9_count mi_X9_count ml_RL_9 rfl (fun _ hr => chk_of hr) rfl rfl (Nat.le_of_ble_eq_true rfl) ⟨⟨Nat.le_of_ble_eq_true rfl, Nat.le_of_ble_eq_true rfl⟩, ⟨Nat.le_of_ble_eq_true rfl, Nat.le_of_ble_eq_true rfl⟩⟩ K_X9_count h (fun i760 s761 h => ?_)
      refine T_icmp_ne 728 dL_isWell_701 (by decide) h (fun _ h => ?_) (fun _ h => ?_)
      · refine T_iconst (0 : Int32) dL_isWell_728 (by decide) ?_
        exact T_zreturn dL_isWell_729 (Nat.le_of_ble_eq_true rfl) (Nat.le_of_ble_eq_true rfl) h
      · refine T_iload dL_isWell_704 3 rfl ?_
        refine T_aload_n dL_isWell_706 rfl 0 rfl ?_
        refine T_bipush (6 : Int32) dL_isWell_707 (by decide) ?_
        refine T_callVI (As := [.int (6 : Int32)]) (rest := [.int i754]) (b := a751) (ci := 8) dL_isWell_709 mc_X9_count mi_X9_count ml_RL_9 rfl (fun _ hr => chk_of hr) rfl rfl (Nat.le_of_ble_eq_true rfl) ⟨⟨Nat.le_of_ble_eq_true rfl, Nat.le_of_ble_eq_true rfl⟩, ⟨Nat.le_of_ble_eq_true rfl, Nat.le_of_ble_eq_true rfl⟩⟩ K_X9_count h (fun i762 s763 h => ?_)
        refine T_icmp_ne 728 dL_isWell_712 (by decide) h (fun _ h => ?_) (fun _ h => ?_)
        · refine T_iconst (0 : Int32) dL_isWell_728 (by decide) ?_
          exact T_zreturn dL_isWell_729 (Nat.le_of_ble_eq_true rfl) (Nat.le_of_ble_eq_true rfl) h
        · refine T_iload dL_isWell_715 4 rfl ?_
          refine T_aload_n dL_isWell_717 rfl 0 rfl ?_
          refine T_callVI (As := []) (rest := [.int i755]) (b := a751) (ci := 8) dL_isWell_718 mc_X9_leastLimit mi_X9_leastLimit ml_RL_66 rfl (fun _ hr => chk_of hr) rfl rfl (Nat.le_of_ble_eq_true rfl) ⟨⟨Nat.le_of_ble_eq_true rfl, Nat.le_of_ble_eq_true rfl⟩, ⟨Nat.le_of_ble_eq_true rfl, Nat.le_of_ble_eq_true rfl⟩⟩ K_X9_leastLimit h (fun i764 s765 h => ?_)
          refine T_icmp_ne 728 dL_isWell_721 (by decide) h (fun _ h => ?_) (fun _ h => ?_)
          · refine T_iconst (0 : Int32) dL_isWell_728 (by decide) ?_
            exact T_zreturn dL_isWell_729 (Nat.le_of_ble_eq_true rfl) (Nat.le_of_ble_eq_true rfl) h
          · refine T_iconst (1 : Int32) dL_isWell_724 (by decide) ?_
            refine T_goto 729 dL_isWell_725 (by decide) ?_
            exact T_zreturn dL_isWell_729 (Nat.le_of_ble_eq_true rfl) (Nat.le_of_ble_eq_true rfl) h
set_option maxRecDepth 100000 in
set_option maxHeartbeats 4000000 in
theorem K_L_isWell_b160 {l : Launch} {G : smG} {P : Option Value → Hp → Prop}  {a116 : Nat} {i117 : Int32} {i118 : Int32} {i119 : Int32} {i120 : Int32} {i121 : Int32} {i122 : Int32} {i123 : Int32} {i124 : Int32} {s125 : Hp}  (h : OK jI (D_L_isWell_b160 a116 i117 i118 i119 i120 i121 i122 i123 i124 s125) P) : T l G RL cL_isWell 20 (sm_rm 6 0 0) (sm_E (some .boolean) yL_isWell.name) (sm_Qs G P 0 0) 0 0 160 [(0, .ref a116), (1, .int i117), (2, .int i118), (3, .int i119), (4, .int i120), (5, .int i121), (6, .int i122), (7, .int i123), (8, .int i124)] [] s125 := by
  unfold D_L_isWell_b160 at h
  refine T_iconst (0 : Int32) dL_isWell_160 (by decide) ?_
  refine T_istore (lv' := [(9, .int (0 : Int32)), (0, .ref a116), (1, .int i117), (2, .int i118), (3, .int i119), (4, .int i120), (5, .int i121), (6, .int i122), (7, .int i123), (8, .int i124)]) dL_isWell_161 (by decide) rfl ?_
  refine T_lv (lv' := [(0, .ref a116), (1, .int i117), (2, .int i118), (3, .int i119), (4, .int i120), (5, .int i121), (6, .int i122), (7, .int i123), (8, .int i124), (9, .int (0 : Int32))]) [1, 2, 3, 4, 5, 6, 7, 8, 9, 0] rfl ?_
  refine K_L_isWell_w163 ?_ FU i119 i122 i124 (0 : Int32) s125 h
  intro i748 i749 i750 s747 h
  exact K_L_isWell_b679 h
set_option maxRecDepth 100000 in
set_option maxHeartbeats 4000000 in
theorem K_L_isWell_b69 {l : Launch} {G : smG} {P : Option Value → Hp → Prop}  {a41 : Nat} {i42 : Int32} {i43 : Int32} {i44 : Int32} {i45 : Int32} {i46 : Int32} {i47 : Int32} {i48 : Int32} {i50 : Int32} {s49 : Hp}  (h : OK jI (D_L_isWell_b69 a41 i42 i43 i44 i45 i46 i47 i48 i50 s49) P) : T l G RL cL_isWell 20 (sm_rm 6 0 0) (sm_E (some .boolean) yL_isWell.name) (sm_Qs G P 0 0) 0 0 69 [(0, .ref a41), (1, .int i42), (2, .int i43), (3, .int i44), (4, .int i45), (5, .int i46), (6, .int i47), (7, .int i48)] [.int i50] s49 := by
  unfold D_L_isWell_b69 at h
  refine T_istore (lv' := [(8, .int i50), (0, .ref a41), (1, .int i42), (2, .int i43), (3, .int i44), (4, .int i45), (5, .int i46), (6, .int i47), (7, .int i48)]) dL_isWell_69 (by decide) rfl ?_
  refine T_iconst (0 : Int32) dL_isWell_71 (by decide) ?_
  refine T_istore (lv' := [(9, .int (0 : Int32)), (8, .int i50), (0, .ref a41), (1, .int i42), (2, .int i43), (3, .int i44), (4, .int i45), (5, .int i46), (6, .int i47), (7, .int i48)]) dL_isWell_72 (by decide) rfl ?_
  refine T_lv (lv' := [(0, .ref a41), (1, .int i42), (2, .int i43), (3, .int i44), (4, .int i45), (5, .int i46), (6, .int i47), (7, .int i48), (8, .int i50), (9, .int (0 : Int32))]) [2, 3, 4, 5, 6, 7, 8, 9, 1, 0] rfl ?_
  refine K_L_isWell_w74 ?_ FU i45 i46 i50 (0 : Int32) s49 h
  intro i113 i114 i115 s112 h
  exact K_L_isWell_b160 h
set_option maxRecDepth 100000 in
set_option maxHeartbeats 4000000 in
theorem K_L_isWell_b61 {l : Launch} {G : smG} {P : Option Value → Hp → Prop}  {a30 : Nat} {i31 : Int32} {i32 : Int32} {i33 : Int32} {i34 : Int32} {i35 : Int32} {i36 : Int32} {i37 : Int32} {i39 : Int32} {i40 : Int32} {s38 : Hp}  (h : OK jI (D_L_isWell_b61 a30 i31 i32 i33 i34 i35 i36 i37 i39 i40 s38) P) : T l G RL cL_isWell 20 (sm_rm 6 0 0) (sm_E (some .boolean) yL_isWell.name) (sm_Qs G P 0 0) 0 0 61 [(0, .ref a30), (1, .int i31), (2, .int i32), (3, .int i33), (4, .int i34), (5, .int i35), (6, .int i36), (7, .int i37)] [.int i39, .int i40] s38 := by
  unfold D_L_isWell_b61 at h
  refine T_icmp_ne 68 dL_isWell_61 (by decide) h (fun _ h => ?_) (fun _ h => ?_)
  · refine T_iconst (0 : Int32) dL_isWell_68 (by decide) ?_
    exact K_L_isWell_b69 h
  · refine T_iconst (1 : Int32) dL_isWell_64 (by decide) ?_
    refine T_goto 69 dL_isWell_65 (by decide) ?_
    exact K_L_isWell_b69 h
set_option maxRecDepth 100000 in
set_option maxHeartbeats 4000000 in
theorem K_L_isWell_b38 {l : Launch} {G : smG} {P : Option Value → Hp → Prop}  {a17 : Nat} {i18 : Int32} {i19 : Int32} {i20 : Int32} {i21 : Int32} {i22 : Int32} {i23 : Int32} {i25 : Int32} {s24 : Hp}  (h : OK jI (D_L_isWell_b38 a17 i18 i19 i20 i21 i22 i23 i25 s24) P) : T l G RL cL_isWell 20 (sm_rm 6 0 0) (sm_E (some .boolean) yL_isWell.name) (sm_Qs G P 0 0) 0 0 38 [(0, .ref a17), (1, .int i18), (2, .int i19), (3, .int i20), (4, .int i21), (5, .int i22), (6, .int i23)] [.int i25] s24 := by
  unfold D_L_isWell_b38 at h
  refine T_istore (lv' := [(7, .int i25), (0, .ref a17), (1, .int i18), (2, .int i19), (3, .int i20), (4, .int i21), (5, .int i22), (6, .int i23)]) dL_isWell_38 (by decide) rfl ?_
  refine T_iload dL_isWell_40 0 rfl ?_
  refine T_aload_n dL_isWell_42 rfl 1 rfl ?_
  refine T_iconst (2 : Int32) dL_isWell_43 (by decide) ?_
  refine T_callVI (As := [.int (2 : Int32)]) (rest := [.int i25]) (b := a17) (ci := 8) dL_isWell_44 mc_X9_count mi_X9_count ml_RL_9 rfl (fun _ hr => chk_of hr) rfl rfl (Nat.le_of_ble_eq_true rfl) ⟨⟨Nat.le_of_ble_eq_true rfl, Nat.le_of_ble_eq_true rfl⟩, ⟨Nat.le_of_ble_eq_true rfl, Nat.le_of_ble_eq_true rfl⟩⟩ K_X9_count h (fun i26 s27 h => ?_)
  refine T_aload_n dL_isWell_47 rfl 1 rfl ?_
  refine T_bipush (9 : Int32) dL_isWell_48 (by decide) ?_
  refine T_callVI (As := [.int (9 : Int32)]) (rest := [.int i26, .int i25]) (b := a17) (ci := 8) dL_isWell_50 mc_X9_count mi_X9_count ml_RL_9 rfl (fun _ hr => chk_of hr) rfl rfl (Nat.le_of_ble_eq_true rfl) ⟨⟨Nat.le_of_ble_eq_true rfl, Nat.le_of_ble_eq_true rfl⟩, ⟨Nat.le_of_ble_eq_true rfl, Nat.le_of_ble_eq_true rfl⟩⟩ K_X9_count h (fun i28 s29 h => ?_)
  refine T_icmp_le 60 dL_isWell_53 (by decide) h (fun _ h => ?_) (fun _ h => ?_)
  · refine T_iconst (0 : Int32) dL_isWell_60 (by decide) ?_
    refine T_lv (lv' := [(0, .ref a17), (1, .int i18), (2, .int i19), (3, .int i20), (4, .int i21), (5, .int i22), (6, .int i23), (7, .int i25)]) [1, 2, 3, 4, 5, 6, 7, 0] rfl ?_
    exact K_L_isWell_b61 h
  · refine T_iconst (1 : Int32) dL_isWell_56 (by decide) ?_
    refine T_goto 61 dL_isWell_57 (by decide) ?_
    refine T_lv (lv' := [(0, .ref a17), (1, .int i18), (2, .int i19), (3, .int i20), (4, .int i21), (5, .int i22), (6, .int i23), (7, .int i25)]) [1, 2, 3, 4, 5, 6, 7, 0] rfl ?_
    exact K_L_isWell_b61 h
set_option maxRecDepth 100000 in
set_option maxHeartbeats 4000000 in
theorem K_L_isWell {l : Launch} {a0 : Nat} {s0 : Hp} : ∀ P, OK jI (D_L_isWell a0 s0) P → sm_Ct l yL_isWell cL_isWell 20 (some .boolean) 6 0 0 [.ref a0] s0 P := by
  intro P h
  unfold D_L_isWell at h
  refine sm_enter (own := RL) (lv := [(0, .ref a0)]) (by decide) rfl (Nat.le_of_ble_eq_true rfl) rfl (fun G => ?_)
  refine T_aload_n dL_isWell_0 rfl 0 rfl ?_
  refine T_iconst (1 : Int32) dL_isWell_1 (by decide) ?_
  refine T_callVI (As := [.int (1 : Int32)]) (rest := []) (b := a0) (ci := 8) dL_isWell_2 mc_X9_count mi_X9_count ml_RL_9 rfl (fun _ hr => chk_of hr) rfl rfl (Nat.le_of_ble_eq_true rfl) ⟨⟨Nat.le_of_ble_eq_true rfl, Nat.le_of_ble_eq_true rfl⟩, ⟨Nat.le_of_ble_eq_true rfl, Nat.le_of_ble_eq_true rfl⟩⟩ K_X9_count h (fun i11 s12 h => ?_)
  refine T_istore_n (lv' := [(1, .int i11), (0, .ref a0)]) dL_isWell_5 rfl (by decide) rfl ?_
  refine T_aload_n dL_isWell_6 rfl 1 rfl ?_
  refine T_bipush (8 : Int32) dL_isWell_7 (by decide) ?_
  refine T_callVI (As := [.int (8 : Int32)]) (rest := []) (b := a0) (ci := 8) dL_isWell_9 mc_X9_count mi_X9_count ml_RL_9 rfl (fun _ hr => chk_of hr) rfl rfl (Nat.le_of_ble_eq_true rfl) ⟨⟨Nat.le_of_ble_eq_true rfl, Nat.le_of_ble_eq_true rfl⟩, ⟨Nat.le_of_ble_eq_true rfl, Nat.le_of_ble_eq_true rfl⟩⟩ K_X9_count h (fun i13 s14 h => ?_)
  refine T_istore_n (lv' := [(2, .int i13), (1, .int i11), (0, .ref a0)]) dL_isWell_12 rfl (by decide) rfl ?_
  refine T_iconst (0 : Int32) dL_isWell_13 (by decide) ?_
  refine T_istore_n (lv' := [(3, .int (0 : Int32)), (2, .int i13), (1, .int i11), (0, .ref a0)]) dL_isWell_14 rfl (by decide) rfl ?_
  refine T_iconst (0 : Int32) dL_isWell_15 (by decide) ?_
  refine T_istore (lv' := [(4, .int (0 : Int32)), (3, .int (0 : Int32)), (2, .int i13), (1, .int i11), (0, .ref a0)]) dL_isWell_16 (by decide) rfl ?_
  refine T_iconst (0 : Int32) dL_isWell_18 (by decide) ?_
  refine T_istore (lv' := [(5, .int (0 : Int32)), (4, .int (0 : Int32)), (3, .int (0 : Int32)), (2, .int i13), (1, .int i11), (0, .ref a0)]) dL_isWell_19 (by decide) rfl ?_
  refine T_iconst (1 : Int32) dL_isWell_21 (by decide) ?_
  refine T_istore (lv' := [(6, .int (1 : Int32)), (5, .int (0 : Int32)), (4, .int (0 : Int32)), (3, .int (0 : Int32)), (2, .int i13), (1, .int i11), (0, .ref a0)]) dL_isWell_22 (by decide) rfl ?_
  refine T_aload_n dL_isWell_24 rfl 6 rfl ?_
  refine T_iconst (3 : Int32) dL_isWell_25 (by decide) ?_
  refine T_callVI (As := [.int (3 : Int32)]) (rest := []) (b := a0) (ci := 8) dL_isWell_26 mc_X9_count mi_X9_count ml_RL_9 rfl (fun _ hr => chk_of hr) rfl rfl (Nat.le_of_ble_eq_true rfl) ⟨⟨Nat.le_of_ble_eq_true rfl, Nat.le_of_ble_eq_true rfl⟩, ⟨Nat.le_of_ble_eq_true rfl, Nat.le_of_ble_eq_true rfl⟩⟩ K_X9_count h (fun i15 s16 h => ?_)
  refine T_iconst (1 : Int32) dL_isWell_29 (by decide) ?_
  refine T_icmp_ne 37 dL_isWell_30 (by decide) h (fun _ h => ?_) (fun _ h => ?_)
  · refine T_iconst (0 : Int32) dL_isWell_37 (by decide) ?_
    refine T_lv (lv' := [(0, .ref a0), (1, .int i11), (2, .int i13), (3, .int (0 : Int32)), (4, .int (0 : Int32)), (5, .int (0 : Int32)), (6, .int (1 : Int32))]) [6, 5, 4, 3, 2, 1, 0] rfl ?_
    exact K_L_isWell_b38 h
  · refine T_iconst (1 : Int32) dL_isWell_33 (by decide) ?_
    refine T_goto 38 dL_isWell_34 (by decide) ?_
    refine T_lv (lv' := [(0, .ref a0), (1, .int i11), (2, .int i13), (3, .int (0 : Int32)), (4, .int (0 : Int32)), (5, .int (0 : Int32)), (6, .int (1 : Int32))]) [6, 5, 4, 3, 2, 1, 0] rfl ?_
    exact K_L_isWell_b38 h
