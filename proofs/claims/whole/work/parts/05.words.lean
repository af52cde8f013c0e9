/-- the tables' good words -/
def fj_tb : List Cond := lw_tbl.filter goodWord
theorem fj_tb_good : GoodIn fj_tb fj_tb := fun w h => ⟨h, good_of_word (List.mem_filter.mp h).2⟩
theorem fj_tb_of {w : Cond} (h : w ∈ lw_tbl) (hg : goodWord w = true) : w ∈ fj_tb := List.mem_filter.mpr ⟨h, hg⟩
theorem fj_tb_lw {w : Cond} (h : w ∈ fj_tb) : w ∈ lw_tbl := (List.mem_filter.mp h).1
def fj_Rn (o : Nat) : String := match o with
  | 0 => RX0
  | 2 => RX2
  | 4 => RX4
  | 5 => RX5
  | 6 => RX6
  | 9 => RJ9
  | _ => RL
theorem fj_in {w : Cond} (i : Nat) (h : lw_tbl[i]? = some w) (hg : goodWord w = true) : w ∈ fj_tb := fj_tb_of (List.mem_of_getElem? h) hg
/-- a call's words -/
def fj_mW (q : Nat × Nat) : Prop := Cond.methodLink (fj_Rn (q.1 / 1000)) (q.1 % 1000) (fj_y q.2) ∈ fj_tb ∧ Cond.initialized (fj_y q.2).cls ∈ fj_tb ∧ (match fj_sta q.2 with
  | true => Cond.static (fj_y q.2) ∈ fj_tb
  | false => Cond.instanceMethod (fj_y q.2) ∈ fj_tb ∧ Cond.selects (fj_y q.2).cls (fj_y q.2) (fj_y q.2) ∈ fj_tb)
def fj_mlC (q : Nat × Nat) : Bool :=
  decide ((fj_y q.2).cls ≠ "java/lang/invoke/MethodHandle") && decide ((fj_y q.2).cls ≠ "java/lang/invoke/VarHandle")
  && decide ((parseMethodDescriptor (fj_y q.2).desc).map (fun d => d.parameters.length) = some (bif fj_sta q.2 then fj_na q.2 else fj_na q.2 - 1))
  && plainName (fj_y q.2).cls && decide (fj_na q.2 ≤ fj_nL q.2) && decide ((fj_y q.2).cls = fj_Rn (fj_ow q.2)) && decide (q.2 < 123)
theorem fj_mlC_ok : fj_ml.all fj_mlC = true := by decide +kernel
set_option maxRecDepth 40000 in
theorem fj_mw_10013 : fj_mW (10013, 16) := ⟨fj_in 184 rfl rfl, fj_in 52 rfl rfl, ⟨fj_in 185 rfl rfl, fj_in 186 rfl rfl⟩⟩
set_option maxRecDepth 40000 in
theorem fj_mw_5043 : fj_mW (5043, 35) := ⟨fj_in 188 rfl rfl, fj_in 52 rfl rfl, fj_in 189 rfl rfl⟩
set_option maxRecDepth 40000 in
theorem fj_mw_10018 : fj_mW (10018, 17) := ⟨fj_in 191 rfl rfl, fj_in 52 rfl rfl, ⟨fj_in 192 rfl rfl, fj_in 193 rfl rfl⟩⟩
set_option maxRecDepth 40000 in
theorem fj_mw_10023 : fj_mW (10023, 18) := ⟨fj_in 195 rfl rfl, fj_in 52 rfl rfl, ⟨fj_in 196 rfl rfl, fj_in 197 rfl rfl⟩⟩
set_option maxRecDepth 40000 in
theorem fj_mw_10027 : fj_mW (10027, 19) := ⟨fj_in 199 rfl rfl, fj_in 52 rfl rfl, ⟨fj_in 200 rfl rfl, fj_in 201 rfl rfl⟩⟩
set_option maxRecDepth 40000 in
theorem fj_mw_5047 : fj_mW (5047, 44) := ⟨fj_in 203 rfl rfl, fj_in 52 rfl rfl, ⟨fj_in 205 rfl rfl, fj_in 0 rfl rfl⟩⟩
set_option maxRecDepth 40000 in
theorem fj_mw_5148 : fj_mW (5148, 45) := ⟨fj_in 207 rfl rfl, fj_in 52 rfl rfl, ⟨fj_in 209 rfl rfl, fj_in 1 rfl rfl⟩⟩
set_option maxRecDepth 40000 in
theorem fj_mw_5144 : fj_mW (5144, 6) := ⟨fj_in 211 rfl rfl, fj_in 53 rfl rfl, ⟨fj_in 212 rfl rfl, fj_in 213 rfl rfl⟩⟩
set_option maxRecDepth 40000 in
theorem fj_mw_5080 : fj_mW (5080, 37) := ⟨fj_in 215 rfl rfl, fj_in 52 rfl rfl, fj_in 216 rfl rfl⟩
set_option maxRecDepth 40000 in
theorem fj_mw_5151 : fj_mW (5151, 7) := ⟨fj_in 218 rfl rfl, fj_in 53 rfl rfl, ⟨fj_in 219 rfl rfl, fj_in 220 rfl rfl⟩⟩
set_option maxRecDepth 40000 in
theorem fj_mw_4027 : fj_mW (4027, 8) := ⟨fj_in 222 rfl rfl, fj_in 53 rfl rfl, ⟨fj_in 223 rfl rfl, fj_in 224 rfl rfl⟩⟩
set_option maxRecDepth 40000 in
theorem fj_mw_10031 : fj_mW (10031, 20) := ⟨fj_in 226 rfl rfl, fj_in 52 rfl rfl, ⟨fj_in 227 rfl rfl, fj_in 228 rfl rfl⟩⟩
set_option maxRecDepth 40000 in
theorem fj_mw_10035 : fj_mW (10035, 21) := ⟨fj_in 230 rfl rfl, fj_in 52 rfl rfl, ⟨fj_in 231 rfl rfl, fj_in 232 rfl rfl⟩⟩
set_option maxRecDepth 40000 in
theorem fj_mw_5051 : fj_mW (5051, 38) := ⟨fj_in 234 rfl rfl, fj_in 52 rfl rfl, fj_in 235 rfl rfl⟩
set_option maxRecDepth 40000 in
theorem fj_mw_5060 : fj_mW (5060, 47) := ⟨fj_in 237 rfl rfl, fj_in 52 rfl rfl, ⟨fj_in 239 rfl rfl, fj_in 2 rfl rfl⟩⟩
set_option maxRecDepth 40000 in
theorem fj_mw_5155 : fj_mW (5155, 48) := ⟨fj_in 241 rfl rfl, fj_in 52 rfl rfl, ⟨fj_in 243 rfl rfl, fj_in 3 rfl rfl⟩⟩
set_option maxRecDepth 40000 in
theorem fj_mw_5063 : fj_mW (5063, 40) := ⟨fj_in 245 rfl rfl, fj_in 52 rfl rfl, ⟨fj_in 247 rfl rfl, fj_in 4 rfl rfl⟩⟩
set_option maxRecDepth 40000 in
theorem fj_mw_5070 : fj_mW (5070, 41) := ⟨fj_in 249 rfl rfl, fj_in 52 rfl rfl, ⟨fj_in 251 rfl rfl, fj_in 5 rfl rfl⟩⟩
set_option maxRecDepth 40000 in
theorem fj_mw_5165 : fj_mW (5165, 39) := ⟨fj_in 253 rfl rfl, fj_in 52 rfl rfl, ⟨fj_in 255 rfl rfl, fj_in 6 rfl rfl⟩⟩
set_option maxRecDepth 40000 in
theorem fj_mw_10039 : fj_mW (10039, 22) := ⟨fj_in 257 rfl rfl, fj_in 52 rfl rfl, ⟨fj_in 258 rfl rfl, fj_in 259 rfl rfl⟩⟩
set_option maxRecDepth 40000 in
theorem fj_mw_5066 : fj_mW (5066, 0) := ⟨fj_in 261 rfl rfl, fj_in 54 rfl rfl, ⟨fj_in 262 rfl rfl, fj_in 263 rfl rfl⟩⟩
set_option maxRecDepth 40000 in
theorem fj_mw_10043 : fj_mW (10043, 23) := ⟨fj_in 265 rfl rfl, fj_in 52 rfl rfl, ⟨fj_in 266 rfl rfl, fj_in 267 rfl rfl⟩⟩
set_option maxRecDepth 40000 in
theorem fj_mw_5073 : fj_mW (5073, 1) := ⟨fj_in 269 rfl rfl, fj_in 54 rfl rfl, ⟨fj_in 270 rfl rfl, fj_in 271 rfl rfl⟩⟩
set_option maxRecDepth 40000 in
theorem fj_mw_10047 : fj_mW (10047, 24) := ⟨fj_in 273 rfl rfl, fj_in 52 rfl rfl, ⟨fj_in 274 rfl rfl, fj_in 275 rfl rfl⟩⟩
set_option maxRecDepth 40000 in
theorem fj_mw_5077 : fj_mW (5077, 49) := ⟨fj_in 277 rfl rfl, fj_in 52 rfl rfl, ⟨fj_in 279 rfl rfl, fj_in 7 rfl rfl⟩⟩
set_option maxRecDepth 40000 in
theorem fj_mw_5167 : fj_mW (5167, 46) := ⟨fj_in 281 rfl rfl, fj_in 52 rfl rfl, ⟨fj_in 283 rfl rfl, fj_in 8 rfl rfl⟩⟩
set_option maxRecDepth 40000 in
theorem fj_mw_5170 : fj_mW (5170, 50) := ⟨fj_in 285 rfl rfl, fj_in 52 rfl rfl, ⟨fj_in 287 rfl rfl, fj_in 9 rfl rfl⟩⟩
set_option maxRecDepth 40000 in
theorem fj_mw_5173 : fj_mW (5173, 51) := ⟨fj_in 289 rfl rfl, fj_in 52 rfl rfl, ⟨fj_in 291 rfl rfl, fj_in 10 rfl rfl⟩⟩
set_option maxRecDepth 40000 in
theorem fj_mw_5131 : fj_mW (5131, 42) := ⟨fj_in 293 rfl rfl, fj_in 52 rfl rfl, ⟨fj_in 295 rfl rfl, fj_in 11 rfl rfl⟩⟩
set_option maxRecDepth 40000 in
theorem fj_mw_5134 : fj_mW (5134, 43) := ⟨fj_in 297 rfl rfl, fj_in 52 rfl rfl, ⟨fj_in 299 rfl rfl, fj_in 12 rfl rfl⟩⟩
set_option maxRecDepth 40000 in
theorem fj_mw_5176 : fj_mW (5176, 52) := ⟨fj_in 301 rfl rfl, fj_in 52 rfl rfl, ⟨fj_in 303 rfl rfl, fj_in 13 rfl rfl⟩⟩
set_option maxRecDepth 40000 in
theorem fj_mw_5181 : fj_mW (5181, 62) := ⟨fj_in 305 rfl rfl, fj_in 52 rfl rfl, ⟨fj_in 307 rfl rfl, fj_in 14 rfl rfl⟩⟩
set_option maxRecDepth 40000 in
theorem fj_mw_5238 : fj_mW (5238, 63) := ⟨fj_in 309 rfl rfl, fj_in 52 rfl rfl, ⟨fj_in 311 rfl rfl, fj_in 15 rfl rfl⟩⟩
set_option maxRecDepth 40000 in
theorem fj_mw_5241 : fj_mW (5241, 8) := ⟨fj_in 313 rfl rfl, fj_in 53 rfl rfl, ⟨fj_in 223 rfl rfl, fj_in 224 rfl rfl⟩⟩
set_option maxRecDepth 40000 in
theorem fj_mw_5244 : fj_mW (5244, 9) := ⟨fj_in 314 rfl rfl, fj_in 53 rfl rfl, ⟨fj_in 315 rfl rfl, fj_in 316 rfl rfl⟩⟩
set_option maxRecDepth 40000 in
theorem fj_mw_5184 : fj_mW (5184, 54) := ⟨fj_in 318 rfl rfl, fj_in 52 rfl rfl, ⟨fj_in 320 rfl rfl, fj_in 16 rfl rfl⟩⟩
set_option maxRecDepth 40000 in
theorem fj_mw_5203 : fj_mW (5203, 2) := ⟨fj_in 322 rfl rfl, fj_in 56 rfl rfl, fj_in 323 rfl rfl⟩
set_option maxRecDepth 40000 in
theorem fj_mw_5208 : fj_mW (5208, 55) := ⟨fj_in 325 rfl rfl, fj_in 52 rfl rfl, fj_in 326 rfl rfl⟩
set_option maxRecDepth 40000 in
theorem fj_mw_5229 : fj_mW (5229, 4) := ⟨fj_in 328 rfl rfl, fj_in 56 rfl rfl, fj_in 329 rfl rfl⟩
set_option maxRecDepth 40000 in
theorem fj_mw_5200 : fj_mW (5200, 13) := ⟨fj_in 333 rfl rfl, fj_in 53 rfl rfl, ⟨fj_in 334 rfl rfl, fj_in 335 rfl rfl⟩⟩
set_option maxRecDepth 40000 in
theorem fj_mw_5212 : fj_mW (5212, 56) := ⟨fj_in 337 rfl rfl, fj_in 52 rfl rfl, fj_in 338 rfl rfl⟩
set_option maxRecDepth 40000 in
theorem fj_mw_5116 : fj_mW (5116, 36) := ⟨fj_in 340 rfl rfl, fj_in 52 rfl rfl, fj_in 341 rfl rfl⟩
set_option maxRecDepth 40000 in
theorem fj_mw_5216 : fj_mW (5216, 57) := ⟨fj_in 343 rfl rfl, fj_in 52 rfl rfl, fj_in 344 rfl rfl⟩
set_option maxRecDepth 40000 in
theorem fj_mw_5220 : fj_mW (5220, 58) := ⟨fj_in 346 rfl rfl, fj_in 52 rfl rfl, ⟨fj_in 348 rfl rfl, fj_in 17 rfl rfl⟩⟩
set_option maxRecDepth 40000 in
theorem fj_mw_5223 : fj_mW (5223, 60) := ⟨fj_in 350 rfl rfl, fj_in 52 rfl rfl, ⟨fj_in 352 rfl rfl, fj_in 18 rfl rfl⟩⟩
set_option maxRecDepth 40000 in
theorem fj_mw_5232 : fj_mW (5232, 61) := ⟨fj_in 354 rfl rfl, fj_in 52 rfl rfl, ⟨fj_in 356 rfl rfl, fj_in 19 rfl rfl⟩⟩
set_option maxRecDepth 40000 in
theorem fj_mw_5235 : fj_mW (5235, 5) := ⟨fj_in 358 rfl rfl, fj_in 56 rfl rfl, fj_in 359 rfl rfl⟩
set_option maxRecDepth 40000 in
theorem fj_mw_5226 : fj_mW (5226, 59) := ⟨fj_in 363 rfl rfl, fj_in 52 rfl rfl, ⟨fj_in 365 rfl rfl, fj_in 20 rfl rfl⟩⟩
set_option maxRecDepth 40000 in
theorem fj_mw_5188 : fj_mW (5188, 53) := ⟨fj_in 367 rfl rfl, fj_in 52 rfl rfl, ⟨fj_in 369 rfl rfl, fj_in 21 rfl rfl⟩⟩
set_option maxRecDepth 40000 in
theorem fj_mw_5196 : fj_mW (5196, 10) := ⟨fj_in 371 rfl rfl, fj_in 53 rfl rfl, ⟨fj_in 372 rfl rfl, fj_in 373 rfl rfl⟩⟩
set_option maxRecDepth 40000 in
theorem fj_mw_5192 : fj_mW (5192, 64) := ⟨fj_in 375 rfl rfl, fj_in 52 rfl rfl, ⟨fj_in 377 rfl rfl, fj_in 22 rfl rfl⟩⟩
set_option maxRecDepth 40000 in
theorem fj_mw_5247 : fj_mW (5247, 65) := ⟨fj_in 379 rfl rfl, fj_in 52 rfl rfl, fj_in 380 rfl rfl⟩
set_option maxRecDepth 40000 in
theorem fj_mw_5265 : fj_mW (5265, 11) := ⟨fj_in 382 rfl rfl, fj_in 53 rfl rfl, ⟨fj_in 383 rfl rfl, fj_in 384 rfl rfl⟩⟩
set_option maxRecDepth 40000 in
theorem fj_mw_5262 : fj_mW (5262, 12) := ⟨fj_in 386 rfl rfl, fj_in 53 rfl rfl, ⟨fj_in 387 rfl rfl, fj_in 388 rfl rfl⟩⟩
set_option maxRecDepth 40000 in
theorem fj_mw_5271 : fj_mW (5271, 66) := ⟨fj_in 390 rfl rfl, fj_in 52 rfl rfl, fj_in 391 rfl rfl⟩
set_option maxRecDepth 40000 in
theorem fj_mw_5275 : fj_mW (5275, 67) := ⟨fj_in 393 rfl rfl, fj_in 52 rfl rfl, fj_in 394 rfl rfl⟩
set_option maxRecDepth 40000 in
theorem fj_mw_5250 : fj_mW (5250, 68) := ⟨fj_in 396 rfl rfl, fj_in 52 rfl rfl, fj_in 397 rfl rfl⟩
set_option maxRecDepth 40000 in
theorem fj_mw_5279 : fj_mW (5279, 14) := ⟨fj_in 399 rfl rfl, fj_in 53 rfl rfl, ⟨fj_in 400 rfl rfl, fj_in 401 rfl rfl⟩⟩
set_option maxRecDepth 40000 in
theorem fj_mw_5282 : fj_mW (5282, 15) := ⟨fj_in 403 rfl rfl, fj_in 53 rfl rfl, ⟨fj_in 404 rfl rfl, fj_in 405 rfl rfl⟩⟩
set_option maxRecDepth 40000 in
theorem fj_mw_5253 : fj_mW (5253, 69) := ⟨fj_in 407 rfl rfl, fj_in 52 rfl rfl, ⟨fj_in 409 rfl rfl, fj_in 23 rfl rfl⟩⟩
set_option maxRecDepth 40000 in
theorem fj_mw_5256 : fj_mW (5256, 3) := ⟨fj_in 411 rfl rfl, fj_in 56 rfl rfl, fj_in 412 rfl rfl⟩
set_option maxRecDepth 40000 in
theorem fj_mw_5259 : fj_mW (5259, 70) := ⟨fj_in 414 rfl rfl, fj_in 52 rfl rfl, ⟨fj_in 416 rfl rfl, fj_in 24 rfl rfl⟩⟩
set_option maxRecDepth 40000 in
theorem fj_mw_5285 : fj_mW (5285, 73) := ⟨fj_in 418 rfl rfl, fj_in 52 rfl rfl, ⟨fj_in 420 rfl rfl, fj_in 25 rfl rfl⟩⟩
set_option maxRecDepth 40000 in
theorem fj_mw_5288 : fj_mW (5288, 71) := ⟨fj_in 422 rfl rfl, fj_in 52 rfl rfl, ⟨fj_in 424 rfl rfl, fj_in 26 rfl rfl⟩⟩
set_option maxRecDepth 40000 in
theorem fj_mw_5292 : fj_mW (5292, 72) := ⟨fj_in 426 rfl rfl, fj_in 52 rfl rfl, ⟨fj_in 428 rfl rfl, fj_in 27 rfl rfl⟩⟩
set_option maxRecDepth 40000 in
theorem fj_mw_5268 : fj_mW (5268, 74) := ⟨fj_in 430 rfl rfl, fj_in 52 rfl rfl, ⟨fj_in 432 rfl rfl, fj_in 28 rfl rfl⟩⟩
set_option maxRecDepth 40000 in
theorem fj_mw_5295 : fj_mW (5295, 76) := ⟨fj_in 434 rfl rfl, fj_in 52 rfl rfl, ⟨fj_in 436 rfl rfl, fj_in 29 rfl rfl⟩⟩
set_option maxRecDepth 40000 in
theorem fj_mw_5298 : fj_mW (5298, 77) := ⟨fj_in 442 rfl rfl, fj_in 52 rfl rfl, ⟨fj_in 444 rfl rfl, fj_in 30 rfl rfl⟩⟩
set_option maxRecDepth 40000 in
theorem fj_mw_5301 : fj_mW (5301, 75) := ⟨fj_in 446 rfl rfl, fj_in 52 rfl rfl, ⟨fj_in 448 rfl rfl, fj_in 31 rfl rfl⟩⟩
set_option maxRecDepth 40000 in
theorem fj_mw_10052 : fj_mW (10052, 25) := ⟨fj_in 450 rfl rfl, fj_in 52 rfl rfl, ⟨fj_in 451 rfl rfl, fj_in 452 rfl rfl⟩⟩
set_option maxRecDepth 40000 in
theorem fj_mw_10056 : fj_mW (10056, 26) := ⟨fj_in 454 rfl rfl, fj_in 52 rfl rfl, ⟨fj_in 455 rfl rfl, fj_in 456 rfl rfl⟩⟩
set_option maxRecDepth 40000 in
theorem fj_mw_10060 : fj_mW (10060, 27) := ⟨fj_in 458 rfl rfl, fj_in 52 rfl rfl, ⟨fj_in 459 rfl rfl, fj_in 460 rfl rfl⟩⟩
set_option maxRecDepth 40000 in
theorem fj_mw_10064 : fj_mW (10064, 28) := ⟨fj_in 462 rfl rfl, fj_in 52 rfl rfl, ⟨fj_in 463 rfl rfl, fj_in 464 rfl rfl⟩⟩
set_option maxRecDepth 40000 in
theorem fj_mw_10068 : fj_mW (10068, 29) := ⟨fj_in 467 rfl rfl, fj_in 52 rfl rfl, ⟨fj_in 468 rfl rfl, fj_in 469 rfl rfl⟩⟩
set_option maxRecDepth 40000 in
theorem fj_mw_10072 : fj_mW (10072, 30) := ⟨fj_in 471 rfl rfl, fj_in 52 rfl rfl, ⟨fj_in 472 rfl rfl, fj_in 473 rfl rfl⟩⟩
set_option maxRecDepth 40000 in
theorem fj_mw_10076 : fj_mW (10076, 31) := ⟨fj_in 475 rfl rfl, fj_in 52 rfl rfl, ⟨fj_in 476 rfl rfl, fj_in 477 rfl rfl⟩⟩
set_option maxRecDepth 40000 in
theorem fj_mw_10080 : fj_mW (10080, 32) := ⟨fj_in 479 rfl rfl, fj_in 52 rfl rfl, ⟨fj_in 480 rfl rfl, fj_in 481 rfl rfl⟩⟩
set_option maxRecDepth 40000 in
theorem fj_mw_10084 : fj_mW (10084, 33) := ⟨fj_in 483 rfl rfl, fj_in 52 rfl rfl, ⟨fj_in 484 rfl rfl, fj_in 485 rfl rfl⟩⟩
set_option maxRecDepth 40000 in
theorem fj_mw_10088 : fj_mW (10088, 34) := ⟨fj_in 487 rfl rfl, fj_in 52 rfl rfl, ⟨fj_in 488 rfl rfl, fj_in 489 rfl rfl⟩⟩
set_option maxRecDepth 40000 in
theorem fj_mw_10017 : fj_mW (10017, 79) := ⟨fj_in 582 rfl rfl, fj_in 55 rfl rfl, ⟨fj_in 583 rfl rfl, fj_in 584 rfl rfl⟩⟩
set_option maxRecDepth 40000 in
theorem fj_mw_6074 : fj_mW (6074, 78) := ⟨fj_in 586 rfl rfl, fj_in 55 rfl rfl, fj_in 587 rfl rfl⟩
set_option maxRecDepth 40000 in
theorem fj_mw_10022 : fj_mW (10022, 80) := ⟨fj_in 589 rfl rfl, fj_in 55 rfl rfl, ⟨fj_in 590 rfl rfl, fj_in 591 rfl rfl⟩⟩
set_option maxRecDepth 40000 in
theorem fj_mw_10026 : fj_mW (10026, 81) := ⟨fj_in 593 rfl rfl, fj_in 55 rfl rfl, ⟨fj_in 594 rfl rfl, fj_in 595 rfl rfl⟩⟩
set_option maxRecDepth 40000 in
theorem fj_mw_10030 : fj_mW (10030, 85) := ⟨fj_in 597 rfl rfl, fj_in 55 rfl rfl, ⟨fj_in 598 rfl rfl, fj_in 599 rfl rfl⟩⟩
set_option maxRecDepth 40000 in
theorem fj_mw_6085 : fj_mW (6085, 83) := ⟨fj_in 601 rfl rfl, fj_in 55 rfl rfl, ⟨fj_in 603 rfl rfl, fj_in 32 rfl rfl⟩⟩
set_option maxRecDepth 40000 in
theorem fj_mw_6078 : fj_mW (6078, 82) := ⟨fj_in 605 rfl rfl, fj_in 55 rfl rfl, ⟨fj_in 607 rfl rfl, fj_in 33 rfl rfl⟩⟩
set_option maxRecDepth 40000 in
theorem fj_mw_6089 : fj_mW (6089, 84) := ⟨fj_in 609 rfl rfl, fj_in 55 rfl rfl, ⟨fj_in 611 rfl rfl, fj_in 34 rfl rfl⟩⟩
set_option maxRecDepth 40000 in
theorem fj_mw_6093 : fj_mW (6093, 93) := ⟨fj_in 613 rfl rfl, fj_in 55 rfl rfl, ⟨fj_in 615 rfl rfl, fj_in 35 rfl rfl⟩⟩
set_option maxRecDepth 40000 in
theorem fj_mw_10034 : fj_mW (10034, 86) := ⟨fj_in 617 rfl rfl, fj_in 55 rfl rfl, ⟨fj_in 618 rfl rfl, fj_in 619 rfl rfl⟩⟩
set_option maxRecDepth 40000 in
theorem fj_mw_10038 : fj_mW (10038, 88) := ⟨fj_in 621 rfl rfl, fj_in 55 rfl rfl, ⟨fj_in 622 rfl rfl, fj_in 623 rfl rfl⟩⟩
set_option maxRecDepth 40000 in
theorem fj_mw_6096 : fj_mW (6096, 87) := ⟨fj_in 625 rfl rfl, fj_in 55 rfl rfl, fj_in 626 rfl rfl⟩
set_option maxRecDepth 40000 in
theorem fj_mw_10042 : fj_mW (10042, 91) := ⟨fj_in 628 rfl rfl, fj_in 55 rfl rfl, ⟨fj_in 629 rfl rfl, fj_in 630 rfl rfl⟩⟩
set_option maxRecDepth 40000 in
theorem fj_mw_6099 : fj_mW (6099, 89) := ⟨fj_in 632 rfl rfl, fj_in 55 rfl rfl, ⟨fj_in 634 rfl rfl, fj_in 36 rfl rfl⟩⟩
set_option maxRecDepth 40000 in
theorem fj_mw_10046 : fj_mW (10046, 92) := ⟨fj_in 636 rfl rfl, fj_in 55 rfl rfl, ⟨fj_in 637 rfl rfl, fj_in 638 rfl rfl⟩⟩
set_option maxRecDepth 40000 in
theorem fj_mw_6103 : fj_mW (6103, 90) := ⟨fj_in 640 rfl rfl, fj_in 55 rfl rfl, ⟨fj_in 642 rfl rfl, fj_in 37 rfl rfl⟩⟩
set_option maxRecDepth 40000 in
theorem fj_mw_10051 : fj_mW (10051, 97) := ⟨fj_in 644 rfl rfl, fj_in 55 rfl rfl, ⟨fj_in 645 rfl rfl, fj_in 646 rfl rfl⟩⟩
set_option maxRecDepth 40000 in
theorem fj_mw_6126 : fj_mW (6126, 96) := ⟨fj_in 648 rfl rfl, fj_in 55 rfl rfl, ⟨fj_in 650 rfl rfl, fj_in 38 rfl rfl⟩⟩
set_option maxRecDepth 40000 in
theorem fj_mw_6129 : fj_mW (6129, 102) := ⟨fj_in 652 rfl rfl, fj_in 55 rfl rfl, ⟨fj_in 654 rfl rfl, fj_in 39 rfl rfl⟩⟩
set_option maxRecDepth 40000 in
theorem fj_mw_6138 : fj_mW (6138, 99) := ⟨fj_in 656 rfl rfl, fj_in 55 rfl rfl, fj_in 657 rfl rfl⟩
set_option maxRecDepth 40000 in
theorem fj_mw_6141 : fj_mW (6141, 100) := ⟨fj_in 659 rfl rfl, fj_in 55 rfl rfl, ⟨fj_in 661 rfl rfl, fj_in 40 rfl rfl⟩⟩
set_option maxRecDepth 40000 in
theorem fj_mw_6145 : fj_mW (6145, 107) := ⟨fj_in 663 rfl rfl, fj_in 55 rfl rfl, ⟨fj_in 665 rfl rfl, fj_in 41 rfl rfl⟩⟩
set_option maxRecDepth 40000 in
theorem fj_mw_6166 : fj_mW (6166, 106) := ⟨fj_in 667 rfl rfl, fj_in 55 rfl rfl, ⟨fj_in 669 rfl rfl, fj_in 42 rfl rfl⟩⟩
set_option maxRecDepth 40000 in
theorem fj_mw_6159 : fj_mW (6159, 101) := ⟨fj_in 671 rfl rfl, fj_in 55 rfl rfl, ⟨fj_in 673 rfl rfl, fj_in 43 rfl rfl⟩⟩
set_option maxRecDepth 40000 in
theorem fj_mw_6169 : fj_mW (6169, 108) := ⟨fj_in 675 rfl rfl, fj_in 55 rfl rfl, fj_in 676 rfl rfl⟩
set_option maxRecDepth 40000 in
theorem fj_mw_6149 : fj_mW (6149, 109) := ⟨fj_in 678 rfl rfl, fj_in 55 rfl rfl, ⟨fj_in 680 rfl rfl, fj_in 44 rfl rfl⟩⟩
set_option maxRecDepth 40000 in
theorem fj_mw_6172 : fj_mW (6172, 110) := ⟨fj_in 682 rfl rfl, fj_in 55 rfl rfl, ⟨fj_in 684 rfl rfl, fj_in 45 rfl rfl⟩⟩
set_option maxRecDepth 40000 in
theorem fj_mw_6176 : fj_mW (6176, 111) := ⟨fj_in 686 rfl rfl, fj_in 55 rfl rfl, ⟨fj_in 688 rfl rfl, fj_in 46 rfl rfl⟩⟩
set_option maxRecDepth 40000 in
theorem fj_mw_6180 : fj_mW (6180, 112) := ⟨fj_in 690 rfl rfl, fj_in 55 rfl rfl, ⟨fj_in 692 rfl rfl, fj_in 47 rfl rfl⟩⟩
set_option maxRecDepth 40000 in
theorem fj_mw_6113 : fj_mW (6113, 94) := ⟨fj_in 695 rfl rfl, fj_in 55 rfl rfl, ⟨fj_in 697 rfl rfl, fj_in 48 rfl rfl⟩⟩
set_option maxRecDepth 40000 in
theorem fj_mw_6153 : fj_mW (6153, 104) := ⟨fj_in 699 rfl rfl, fj_in 55 rfl rfl, ⟨fj_in 701 rfl rfl, fj_in 49 rfl rfl⟩⟩
set_option maxRecDepth 40000 in
theorem fj_mw_6156 : fj_mW (6156, 103) := ⟨fj_in 703 rfl rfl, fj_in 55 rfl rfl, fj_in 704 rfl rfl⟩
set_option maxRecDepth 40000 in
theorem fj_mw_6162 : fj_mW (6162, 105) := ⟨fj_in 706 rfl rfl, fj_in 55 rfl rfl, fj_in 707 rfl rfl⟩
set_option maxRecDepth 40000 in
theorem fj_mw_6132 : fj_mW (6132, 95) := ⟨fj_in 709 rfl rfl, fj_in 55 rfl rfl, ⟨fj_in 711 rfl rfl, fj_in 50 rfl rfl⟩⟩
set_option maxRecDepth 40000 in
theorem fj_mw_10055 : fj_mW (10055, 98) := ⟨fj_in 713 rfl rfl, fj_in 55 rfl rfl, ⟨fj_in 714 rfl rfl, fj_in 715 rfl rfl⟩⟩
set_option maxRecDepth 40000 in
theorem fj_mw_6135 : fj_mW (6135, 97) := ⟨fj_in 717 rfl rfl, fj_in 55 rfl rfl, ⟨fj_in 645 rfl rfl, fj_in 646 rfl rfl⟩⟩
set_option maxRecDepth 40000 in
theorem fj_mw_10059 : fj_mW (10059, 113) := ⟨fj_in 718 rfl rfl, fj_in 55 rfl rfl, ⟨fj_in 719 rfl rfl, fj_in 720 rfl rfl⟩⟩
set_option maxRecDepth 40000 in
theorem fj_mw_10063 : fj_mW (10063, 115) := ⟨fj_in 722 rfl rfl, fj_in 55 rfl rfl, ⟨fj_in 723 rfl rfl, fj_in 724 rfl rfl⟩⟩
set_option maxRecDepth 40000 in
theorem fj_mw_6187 : fj_mW (6187, 114) := ⟨fj_in 726 rfl rfl, fj_in 55 rfl rfl, fj_in 727 rfl rfl⟩
set_option maxRecDepth 40000 in
theorem fj_mw_10067 : fj_mW (10067, 116) := ⟨fj_in 729 rfl rfl, fj_in 55 rfl rfl, ⟨fj_in 730 rfl rfl, fj_in 731 rfl rfl⟩⟩
set_option maxRecDepth 40000 in
theorem fj_mw_10071 : fj_mW (10071, 117) := ⟨fj_in 734 rfl rfl, fj_in 55 rfl rfl, ⟨fj_in 735 rfl rfl, fj_in 736 rfl rfl⟩⟩
set_option maxRecDepth 40000 in
theorem fj_mw_10075 : fj_mW (10075, 118) := ⟨fj_in 738 rfl rfl, fj_in 55 rfl rfl, ⟨fj_in 739 rfl rfl, fj_in 740 rfl rfl⟩⟩
set_option maxRecDepth 40000 in
theorem fj_mw_10079 : fj_mW (10079, 119) := ⟨fj_in 742 rfl rfl, fj_in 55 rfl rfl, ⟨fj_in 743 rfl rfl, fj_in 744 rfl rfl⟩⟩
set_option maxRecDepth 40000 in
theorem fj_mw_10083 : fj_mW (10083, 120) := ⟨fj_in 746 rfl rfl, fj_in 55 rfl rfl, ⟨fj_in 747 rfl rfl, fj_in 748 rfl rfl⟩⟩
set_option maxRecDepth 40000 in
theorem fj_mw_10087 : fj_mW (10087, 121) := ⟨fj_in 750 rfl rfl, fj_in 55 rfl rfl, ⟨fj_in 751 rfl rfl, fj_in 752 rfl rfl⟩⟩
set_option maxRecDepth 40000 in
theorem fj_mw_10091 : fj_mW (10091, 122) := ⟨fj_in 754 rfl rfl, fj_in 55 rfl rfl, ⟨fj_in 755 rfl rfl, fj_in 756 rfl rfl⟩⟩
def fj_mws_l0 : List (Nat × Nat) := [(10013, 16), (5043, 35), (10018, 17), (10023, 18), (10027, 19), (5047, 44), (5148, 45), (5144, 6), (5080, 37), (5151, 7), (4027, 8), (10031, 20), (10035, 21), (5051, 38), (5060, 47), (5155, 48), (5063, 40), (5070, 41), (5165, 39), (10039, 22), (5066, 0), (10043, 23), (5073, 1), (10047, 24), (5077, 49)]
theorem fj_mws_0 : ∀ q ∈ fj_mws_l0, fj_mW q := List.forall_mem_cons.mpr ⟨fj_mw_10013, List.forall_mem_cons.mpr ⟨fj_mw_5043, List.forall_mem_cons.mpr ⟨fj_mw_10018, List.forall_mem_cons.mpr ⟨fj_mw_10023, List.forall_mem_cons.mpr ⟨fj_mw_10027, List.forall_mem_cons.mpr ⟨fj_mw_5047, List.forall_mem_cons.mpr ⟨fj_mw_5148, List.forall_mem_cons.mpr ⟨fj_mw_5144, List.forall_mem_cons.mpr ⟨fj_mw_5080, List.forall_mem_cons.mpr ⟨fj_mw_5151, List.forall_mem_cons.mpr ⟨fj_mw_4027, List.forall_mem_cons.mpr ⟨fj_mw_10031, List.forall_mem_cons.mpr ⟨fj_mw_10035, List.forall_mem_cons.mpr ⟨fj_mw_5051, List.forall_mem_cons.mpr ⟨fj_mw_5060, List.forall_mem_cons.mpr ⟨fj_mw_5155, List.forall_mem_cons.mpr ⟨fj_mw_5063, List.forall_mem_cons.mpr ⟨fj_mw_5070, List.forall_mem_cons.mpr ⟨fj_mw_5165, List.forall_mem_cons.mpr ⟨fj_mw_10039, List.forall_mem_cons.mpr ⟨fj_mw_5066, List.forall_mem_cons.mpr ⟨fj_mw_10043, List.forall_mem_cons.mpr ⟨fj_mw_5073, List.forall_mem_cons.mpr ⟨fj_mw_10047, List.forall_mem_cons.mpr ⟨fj_mw_5077, fun _ h => absurd h List.not_mem_nil⟩⟩⟩⟩⟩⟩⟩⟩⟩⟩⟩⟩⟩⟩⟩⟩⟩⟩⟩⟩⟩⟩⟩⟩⟩
def fj_mws_l1 : List (Nat × Nat) := [(5167, 46), (5170, 50), (5173, 51), (5131, 42), (5134, 43), (5176, 52), (5181, 62), (5238, 63), (5241, 8), (5244, 9), (5184, 54), (5203, 2), (5208, 55), (5229, 4), (5200, 13), (5212, 56), (5116, 36), (5216, 57), (5220, 58), (5223, 60), (5232, 61), (5235, 5), (5226, 59), (5188, 53), (5196, 10)]
theorem fj_mws_1 : ∀ q ∈ fj_mws_l1, fj_mW q := List.forall_mem_cons.mpr ⟨fj_mw_5167, List.forall_mem_cons.mpr ⟨fj_mw_5170, List.forall_mem_cons.mpr ⟨fj_mw_5173, List.forall_mem_cons.mpr ⟨fj_mw_5131, List.forall_mem_cons.mpr ⟨fj_mw_5134, List.forall_mem_cons.mpr ⟨fj_mw_5176, List.forall_mem_cons.mpr ⟨fj_mw_5181, List.forall_mem_cons.mpr ⟨fj_mw_5238, List.forall_mem_cons.mpr ⟨fj_mw_5241, List.forall_mem_cons.mpr ⟨fj_mw_5244, List.forall_mem_cons.mpr ⟨fj_mw_5184, List.forall_mem_cons.mpr ⟨fj_mw_5203, List.forall_mem_cons.mpr ⟨fj_mw_5208, List.forall_mem_cons.mpr ⟨fj_mw_5229, List.forall_mem_cons.mpr ⟨fj_mw_5200, List.forall_mem_cons.mpr ⟨fj_mw_5212, List.forall_mem_cons.mpr ⟨fj_mw_5116, List.forall_mem_cons.mpr ⟨fj_mw_5216, List.forall_mem_cons.mpr ⟨fj_mw_5220, List.forall_mem_cons.mpr ⟨fj_mw_5223, List.forall_mem_cons.mpr ⟨fj_mw_5232, List.forall_mem_cons.mpr ⟨fj_mw_5235, List.forall_mem_cons.mpr ⟨fj_mw_5226, List.forall_mem_cons.mpr ⟨fj_mw_5188, List.forall_mem_cons.mpr ⟨fj_mw_5196, fun _ h => absurd h List.not_mem_nil⟩⟩⟩⟩⟩⟩⟩⟩⟩⟩⟩⟩⟩⟩⟩⟩⟩⟩⟩⟩⟩⟩⟩⟩⟩
def fj_mws_l2 : List (Nat × Nat) := [(5192, 64), (5247, 65), (5265, 11), (5262, 12), (5271, 66), (5275, 67), (5250, 68), (5279, 14), (5282, 15), (5253, 69), (5256, 3), (5259, 70), (5285, 73), (5288, 71), (5292, 72), (5268, 74), (5295, 76), (5298, 77), (5301, 75), (10052, 25), (10056, 26), (10060, 27), (10064, 28), (10068, 29), (10072, 30)]
theorem fj_mws_2 : ∀ q ∈ fj_mws_l2, fj_mW q := List.forall_mem_cons.mpr ⟨fj_mw_5192, List.forall_mem_cons.mpr ⟨fj_mw_5247, List.forall_mem_cons.mpr ⟨fj_mw_5265, List.forall_mem_cons.mpr ⟨fj_mw_5262, List.forall_mem_cons.mpr ⟨fj_mw_5271, List.forall_mem_cons.mpr ⟨fj_mw_5275, List.forall_mem_cons.mpr ⟨fj_mw_5250, List.forall_mem_cons.mpr ⟨fj_mw_5279, List.forall_mem_cons.mpr ⟨fj_mw_5282, List.forall_mem_cons.mpr ⟨fj_mw_5253, List.forall_mem_cons.mpr ⟨fj_mw_5256, List.forall_mem_cons.mpr ⟨fj_mw_5259, List.forall_mem_cons.mpr ⟨fj_mw_5285, List.forall_mem_cons.mpr ⟨fj_mw_5288, List.forall_mem_cons.mpr ⟨fj_mw_5292, List.forall_mem_cons.mpr ⟨fj_mw_5268, List.forall_mem_cons.mpr ⟨fj_mw_5295, List.forall_mem_cons.mpr ⟨fj_mw_5298, List.forall_mem_cons.mpr ⟨fj_mw_5301, List.forall_mem_cons.mpr ⟨fj_mw_10052, List.forall_mem_cons.mpr ⟨fj_mw_10056, List.forall_mem_cons.mpr ⟨fj_mw_10060, List.forall_mem_cons.mpr ⟨fj_mw_10064, List.forall_mem_cons.mpr ⟨fj_mw_10068, List.forall_mem_cons.mpr ⟨fj_mw_10072, fun _ h => absurd h List.not_mem_nil⟩⟩⟩⟩⟩⟩⟩⟩⟩⟩⟩⟩⟩⟩⟩⟩⟩⟩⟩⟩⟩⟩⟩⟩⟩
def fj_mws_l3 : List (Nat × Nat) := [(10076, 31), (10080, 32), (10084, 33), (10088, 34), (10017, 79), (6074, 78), (10022, 80), (10026, 81), (10030, 85), (6085, 83), (6078, 82), (6089, 84), (6093, 93), (10034, 86), (10038, 88), (6096, 87), (10042, 91), (6099, 89), (10046, 92), (6103, 90), (10051, 97), (6126, 96), (6129, 102), (6138, 99), (6141, 100)]
theorem fj_mws_3 : ∀ q ∈ fj_mws_l3, fj_mW q := List.forall_mem_cons.mpr ⟨fj_mw_10076, List.forall_mem_cons.mpr ⟨fj_mw_10080, List.forall_mem_cons.mpr ⟨fj_mw_10084, List.forall_mem_cons.mpr ⟨fj_mw_10088, List.forall_mem_cons.mpr ⟨fj_mw_10017, List.forall_mem_cons.mpr ⟨fj_mw_6074, List.forall_mem_cons.mpr ⟨fj_mw_10022, List.forall_mem_cons.mpr ⟨fj_mw_10026, List.forall_mem_cons.mpr ⟨fj_mw_10030, List.forall_mem_cons.mpr ⟨fj_mw_6085, List.forall_mem_cons.mpr ⟨fj_mw_6078, List.forall_mem_cons.mpr ⟨fj_mw_6089, List.forall_mem_cons.mpr ⟨fj_mw_6093, List.forall_mem_cons.mpr ⟨fj_mw_10034, List.forall_mem_cons.mpr ⟨fj_mw_10038, List.forall_mem_cons.mpr ⟨fj_mw_6096, List.forall_mem_cons.mpr ⟨fj_mw_10042, List.forall_mem_cons.mpr ⟨fj_mw_6099, List.forall_mem_cons.mpr ⟨fj_mw_10046, List.forall_mem_cons.mpr ⟨fj_mw_6103, List.forall_mem_cons.mpr ⟨fj_mw_10051, List.forall_mem_cons.mpr ⟨fj_mw_6126, List.forall_mem_cons.mpr ⟨fj_mw_6129, List.forall_mem_cons.mpr ⟨fj_mw_6138, List.forall_mem_cons.mpr ⟨fj_mw_6141, fun _ h => absurd h List.not_mem_nil⟩⟩⟩⟩⟩⟩⟩⟩⟩⟩⟩⟩⟩⟩⟩⟩⟩⟩⟩⟩⟩⟩⟩⟩⟩
def fj_mws_l4 : List (Nat × Nat) := [(6145, 107), (6166, 106), (6159, 101), (6169, 108), (6149, 109), (6172, 110), (6176, 111), (6180, 112), (6113, 94), (6153, 104), (6156, 103), (6162, 105), (6132, 95), (10055, 98), (6135, 97), (10059, 113), (10063, 115), (6187, 114), (10067, 116), (10071, 117), (10075, 118), (10079, 119), (10083, 120), (10087, 121), (10091, 122)]
theorem fj_mws_4 : ∀ q ∈ fj_mws_l4, fj_mW q := List.forall_mem_cons.mpr ⟨fj_mw_6145, List.forall_mem_cons.mpr ⟨fj_mw_6166, List.forall_mem_cons.mpr ⟨fj_mw_6159, List.forall_mem_cons.mpr ⟨fj_mw_6169, List.forall_mem_cons.mpr ⟨fj_mw_6149, List.forall_mem_cons.mpr ⟨fj_mw_6172, List.forall_mem_cons.mpr ⟨fj_mw_6176, List.forall_mem_cons.mpr ⟨fj_mw_6180, List.forall_mem_cons.mpr ⟨fj_mw_6113, List.forall_mem_cons.mpr ⟨fj_mw_6153, List.forall_mem_cons.mpr ⟨fj_mw_6156, List.forall_mem_cons.mpr ⟨fj_mw_6162, List.forall_mem_cons.mpr ⟨fj_mw_6132, List.forall_mem_cons.mpr ⟨fj_mw_10055, List.forall_mem_cons.mpr ⟨fj_mw_6135, List.forall_mem_cons.mpr ⟨fj_mw_10059, List.forall_mem_cons.mpr ⟨fj_mw_10063, List.forall_mem_cons.mpr ⟨fj_mw_6187, List.forall_mem_cons.mpr ⟨fj_mw_10067, List.forall_mem_cons.mpr ⟨fj_mw_10071, List.forall_mem_cons.mpr ⟨fj_mw_10075, List.forall_mem_cons.mpr ⟨fj_mw_10079, List.forall_mem_cons.mpr ⟨fj_mw_10083, List.forall_mem_cons.mpr ⟨fj_mw_10087, List.forall_mem_cons.mpr ⟨fj_mw_10091, fun _ h => absurd h List.not_mem_nil⟩⟩⟩⟩⟩⟩⟩⟩⟩⟩⟩⟩⟩⟩⟩⟩⟩⟩⟩⟩⟩⟩⟩⟩⟩
theorem fj_mws_eq : fj_ml = fj_mws_l0 ++ (fj_mws_l1 ++ (fj_mws_l2 ++ (fj_mws_l3 ++ (fj_mws_l4)))) := rfl
theorem fj_mws : ∀ q ∈ fj_ml, fj_mW q := by
  rw [fj_mws_eq]
  exact List.forall_mem_append.mpr ⟨fj_mws_0, List.forall_mem_append.mpr ⟨fj_mws_1, List.forall_mem_append.mpr ⟨fj_mws_2, List.forall_mem_append.mpr ⟨fj_mws_3, fj_mws_4⟩⟩⟩⟩
set_option maxRecDepth 40000 in
theorem fj_cw_0 : Cond.code (fj_y 0) (fj_b 0) (fj_nL 0) (fj_ret 0) ∈ fj_tb := fj_in 264 rfl rfl
set_option maxRecDepth 40000 in
theorem fj_cw_1 : Cond.code (fj_y 1) (fj_b 1) (fj_nL 1) (fj_ret 1) ∈ fj_tb := fj_in 272 rfl rfl
set_option maxRecDepth 40000 in
theorem fj_cw_2 : Cond.code (fj_y 2) (fj_b 2) (fj_nL 2) (fj_ret 2) ∈ fj_tb := fj_in 324 rfl rfl
set_option maxRecDepth 40000 in
theorem fj_cw_3 : Cond.code (fj_y 3) (fj_b 3) (fj_nL 3) (fj_ret 3) ∈ fj_tb := fj_in 413 rfl rfl
set_option maxRecDepth 40000 in
theorem fj_cw_4 : Cond.code (fj_y 4) (fj_b 4) (fj_nL 4) (fj_ret 4) ∈ fj_tb := fj_in 330 rfl rfl
set_option maxRecDepth 40000 in
theorem fj_cw_5 : Cond.code (fj_y 5) (fj_b 5) (fj_nL 5) (fj_ret 5) ∈ fj_tb := fj_in 360 rfl rfl
set_option maxRecDepth 40000 in
theorem fj_cw_6 : Cond.code (fj_y 6) (fj_b 6) (fj_nL 6) (fj_ret 6) ∈ fj_tb := fj_in 214 rfl rfl
set_option maxRecDepth 40000 in
theorem fj_cw_7 : Cond.code (fj_y 7) (fj_b 7) (fj_nL 7) (fj_ret 7) ∈ fj_tb := fj_in 221 rfl rfl
set_option maxRecDepth 40000 in
theorem fj_cw_8 : Cond.code (fj_y 8) (fj_b 8) (fj_nL 8) (fj_ret 8) ∈ fj_tb := fj_in 225 rfl rfl
set_option maxRecDepth 40000 in
theorem fj_cw_9 : Cond.code (fj_y 9) (fj_b 9) (fj_nL 9) (fj_ret 9) ∈ fj_tb := fj_in 317 rfl rfl
set_option maxRecDepth 40000 in
theorem fj_cw_10 : Cond.code (fj_y 10) (fj_b 10) (fj_nL 10) (fj_ret 10) ∈ fj_tb := fj_in 374 rfl rfl
set_option maxRecDepth 40000 in
theorem fj_cw_11 : Cond.code (fj_y 11) (fj_b 11) (fj_nL 11) (fj_ret 11) ∈ fj_tb := fj_in 385 rfl rfl
set_option maxRecDepth 40000 in
theorem fj_cw_12 : Cond.code (fj_y 12) (fj_b 12) (fj_nL 12) (fj_ret 12) ∈ fj_tb := fj_in 389 rfl rfl
set_option maxRecDepth 40000 in
theorem fj_cw_13 : Cond.code (fj_y 13) (fj_b 13) (fj_nL 13) (fj_ret 13) ∈ fj_tb := fj_in 336 rfl rfl
set_option maxRecDepth 40000 in
theorem fj_cw_14 : Cond.code (fj_y 14) (fj_b 14) (fj_nL 14) (fj_ret 14) ∈ fj_tb := fj_in 402 rfl rfl
set_option maxRecDepth 40000 in
theorem fj_cw_15 : Cond.code (fj_y 15) (fj_b 15) (fj_nL 15) (fj_ret 15) ∈ fj_tb := fj_in 406 rfl rfl
set_option maxRecDepth 40000 in
theorem fj_cw_16 : Cond.code (fj_y 16) (fj_b 16) (fj_nL 16) (fj_ret 16) ∈ fj_tb := fj_in 187 rfl rfl
set_option maxRecDepth 40000 in
theorem fj_cw_17 : Cond.code (fj_y 17) (fj_b 17) (fj_nL 17) (fj_ret 17) ∈ fj_tb := fj_in 194 rfl rfl
set_option maxRecDepth 40000 in
theorem fj_cw_18 : Cond.code (fj_y 18) (fj_b 18) (fj_nL 18) (fj_ret 18) ∈ fj_tb := fj_in 198 rfl rfl
set_option maxRecDepth 40000 in
theorem fj_cw_19 : Cond.code (fj_y 19) (fj_b 19) (fj_nL 19) (fj_ret 19) ∈ fj_tb := fj_in 202 rfl rfl
set_option maxRecDepth 40000 in
theorem fj_cw_20 : Cond.code (fj_y 20) (fj_b 20) (fj_nL 20) (fj_ret 20) ∈ fj_tb := fj_in 229 rfl rfl
set_option maxRecDepth 40000 in
theorem fj_cw_21 : Cond.code (fj_y 21) (fj_b 21) (fj_nL 21) (fj_ret 21) ∈ fj_tb := fj_in 233 rfl rfl
set_option maxRecDepth 40000 in
theorem fj_cw_22 : Cond.code (fj_y 22) (fj_b 22) (fj_nL 22) (fj_ret 22) ∈ fj_tb := fj_in 260 rfl rfl
set_option maxRecDepth 40000 in
theorem fj_cw_23 : Cond.code (fj_y 23) (fj_b 23) (fj_nL 23) (fj_ret 23) ∈ fj_tb := fj_in 268 rfl rfl
set_option maxRecDepth 40000 in
theorem fj_cw_24 : Cond.code (fj_y 24) (fj_b 24) (fj_nL 24) (fj_ret 24) ∈ fj_tb := fj_in 276 rfl rfl
set_option maxRecDepth 40000 in
theorem fj_cw_25 : Cond.code (fj_y 25) (fj_b 25) (fj_nL 25) (fj_ret 25) ∈ fj_tb := fj_in 453 rfl rfl
set_option maxRecDepth 40000 in
theorem fj_cw_26 : Cond.code (fj_y 26) (fj_b 26) (fj_nL 26) (fj_ret 26) ∈ fj_tb := fj_in 457 rfl rfl
set_option maxRecDepth 40000 in
theorem fj_cw_27 : Cond.code (fj_y 27) (fj_b 27) (fj_nL 27) (fj_ret 27) ∈ fj_tb := fj_in 461 rfl rfl
set_option maxRecDepth 40000 in
theorem fj_cw_28 : Cond.code (fj_y 28) (fj_b 28) (fj_nL 28) (fj_ret 28) ∈ fj_tb := fj_in 465 rfl rfl
set_option maxRecDepth 40000 in
theorem fj_cw_29 : Cond.code (fj_y 29) (fj_b 29) (fj_nL 29) (fj_ret 29) ∈ fj_tb := fj_in 470 rfl rfl
set_option maxRecDepth 40000 in
theorem fj_cw_30 : Cond.code (fj_y 30) (fj_b 30) (fj_nL 30) (fj_ret 30) ∈ fj_tb := fj_in 474 rfl rfl
set_option maxRecDepth 40000 in
theorem fj_cw_31 : Cond.code (fj_y 31) (fj_b 31) (fj_nL 31) (fj_ret 31) ∈ fj_tb := fj_in 478 rfl rfl
set_option maxRecDepth 40000 in
theorem fj_cw_32 : Cond.code (fj_y 32) (fj_b 32) (fj_nL 32) (fj_ret 32) ∈ fj_tb := fj_in 482 rfl rfl
set_option maxRecDepth 40000 in
theorem fj_cw_33 : Cond.code (fj_y 33) (fj_b 33) (fj_nL 33) (fj_ret 33) ∈ fj_tb := fj_in 486 rfl rfl
set_option maxRecDepth 40000 in
theorem fj_cw_34 : Cond.code (fj_y 34) (fj_b 34) (fj_nL 34) (fj_ret 34) ∈ fj_tb := fj_in 490 rfl rfl
set_option maxRecDepth 40000 in
theorem fj_cw_35 : Cond.code (fj_y 35) (fj_b 35) (fj_nL 35) (fj_ret 35) ∈ fj_tb := fj_in 190 rfl rfl
set_option maxRecDepth 40000 in
theorem fj_cw_36 : Cond.code (fj_y 36) (fj_b 36) (fj_nL 36) (fj_ret 36) ∈ fj_tb := fj_in 342 rfl rfl
set_option maxRecDepth 40000 in
theorem fj_cw_37 : Cond.code (fj_y 37) (fj_b 37) (fj_nL 37) (fj_ret 37) ∈ fj_tb := fj_in 217 rfl rfl
set_option maxRecDepth 40000 in
theorem fj_cw_38 : Cond.code (fj_y 38) (fj_b 38) (fj_nL 38) (fj_ret 38) ∈ fj_tb := fj_in 236 rfl rfl
set_option maxRecDepth 40000 in
theorem fj_cw_39 : Cond.code (fj_y 39) (fj_b 39) (fj_nL 39) (fj_ret 39) ∈ fj_tb := fj_in 256 rfl rfl
set_option maxRecDepth 40000 in
theorem fj_cw_40 : Cond.code (fj_y 40) (fj_b 40) (fj_nL 40) (fj_ret 40) ∈ fj_tb := fj_in 248 rfl rfl
set_option maxRecDepth 40000 in
theorem fj_cw_41 : Cond.code (fj_y 41) (fj_b 41) (fj_nL 41) (fj_ret 41) ∈ fj_tb := fj_in 252 rfl rfl
set_option maxRecDepth 40000 in
theorem fj_cw_42 : Cond.code (fj_y 42) (fj_b 42) (fj_nL 42) (fj_ret 42) ∈ fj_tb := fj_in 296 rfl rfl
set_option maxRecDepth 40000 in
theorem fj_cw_43 : Cond.code (fj_y 43) (fj_b 43) (fj_nL 43) (fj_ret 43) ∈ fj_tb := fj_in 300 rfl rfl
set_option maxRecDepth 40000 in
theorem fj_cw_44 : Cond.code (fj_y 44) (fj_b 44) (fj_nL 44) (fj_ret 44) ∈ fj_tb := fj_in 206 rfl rfl
set_option maxRecDepth 40000 in
theorem fj_cw_45 : Cond.code (fj_y 45) (fj_b 45) (fj_nL 45) (fj_ret 45) ∈ fj_tb := fj_in 210 rfl rfl
set_option maxRecDepth 40000 in
theorem fj_cw_46 : Cond.code (fj_y 46) (fj_b 46) (fj_nL 46) (fj_ret 46) ∈ fj_tb := fj_in 284 rfl rfl
set_option maxRecDepth 40000 in
theorem fj_cw_47 : Cond.code (fj_y 47) (fj_b 47) (fj_nL 47) (fj_ret 47) ∈ fj_tb := fj_in 240 rfl rfl
set_option maxRecDepth 40000 in
theorem fj_cw_48 : Cond.code (fj_y 48) (fj_b 48) (fj_nL 48) (fj_ret 48) ∈ fj_tb := fj_in 244 rfl rfl
set_option maxRecDepth 40000 in
theorem fj_cw_49 : Cond.code (fj_y 49) (fj_b 49) (fj_nL 49) (fj_ret 49) ∈ fj_tb := fj_in 280 rfl rfl
set_option maxRecDepth 40000 in
theorem fj_cw_50 : Cond.code (fj_y 50) (fj_b 50) (fj_nL 50) (fj_ret 50) ∈ fj_tb := fj_in 288 rfl rfl
set_option maxRecDepth 40000 in
theorem fj_cw_51 : Cond.code (fj_y 51) (fj_b 51) (fj_nL 51) (fj_ret 51) ∈ fj_tb := fj_in 292 rfl rfl
set_option maxRecDepth 40000 in
theorem fj_cw_52 : Cond.code (fj_y 52) (fj_b 52) (fj_nL 52) (fj_ret 52) ∈ fj_tb := fj_in 304 rfl rfl
set_option maxRecDepth 40000 in
theorem fj_cw_53 : Cond.code (fj_y 53) (fj_b 53) (fj_nL 53) (fj_ret 53) ∈ fj_tb := fj_in 370 rfl rfl
set_option maxRecDepth 40000 in
theorem fj_cw_54 : Cond.code (fj_y 54) (fj_b 54) (fj_nL 54) (fj_ret 54) ∈ fj_tb := fj_in 321 rfl rfl
set_option maxRecDepth 40000 in
theorem fj_cw_55 : Cond.code (fj_y 55) (fj_b 55) (fj_nL 55) (fj_ret 55) ∈ fj_tb := fj_in 327 rfl rfl
set_option maxRecDepth 40000 in
theorem fj_cw_56 : Cond.code (fj_y 56) (fj_b 56) (fj_nL 56) (fj_ret 56) ∈ fj_tb := fj_in 339 rfl rfl
set_option maxRecDepth 40000 in
theorem fj_cw_57 : Cond.code (fj_y 57) (fj_b 57) (fj_nL 57) (fj_ret 57) ∈ fj_tb := fj_in 345 rfl rfl
set_option maxRecDepth 40000 in
theorem fj_cw_58 : Cond.code (fj_y 58) (fj_b 58) (fj_nL 58) (fj_ret 58) ∈ fj_tb := fj_in 349 rfl rfl
set_option maxRecDepth 40000 in
theorem fj_cw_59 : Cond.code (fj_y 59) (fj_b 59) (fj_nL 59) (fj_ret 59) ∈ fj_tb := fj_in 366 rfl rfl
set_option maxRecDepth 40000 in
theorem fj_cw_60 : Cond.code (fj_y 60) (fj_b 60) (fj_nL 60) (fj_ret 60) ∈ fj_tb := fj_in 353 rfl rfl
set_option maxRecDepth 40000 in
theorem fj_cw_61 : Cond.code (fj_y 61) (fj_b 61) (fj_nL 61) (fj_ret 61) ∈ fj_tb := fj_in 357 rfl rfl
set_option maxRecDepth 40000 in
theorem fj_cw_62 : Cond.code (fj_y 62) (fj_b 62) (fj_nL 62) (fj_ret 62) ∈ fj_tb := fj_in 308 rfl rfl
set_option maxRecDepth 40000 in
theorem fj_cw_63 : Cond.code (fj_y 63) (fj_b 63) (fj_nL 63) (fj_ret 63) ∈ fj_tb := fj_in 312 rfl rfl
set_option maxRecDepth 40000 in
theorem fj_cw_64 : Cond.code (fj_y 64) (fj_b 64) (fj_nL 64) (fj_ret 64) ∈ fj_tb := fj_in 378 rfl rfl
set_option maxRecDepth 40000 in
theorem fj_cw_65 : Cond.code (fj_y 65) (fj_b 65) (fj_nL 65) (fj_ret 65) ∈ fj_tb := fj_in 381 rfl rfl
set_option maxRecDepth 40000 in
theorem fj_cw_66 : Cond.code (fj_y 66) (fj_b 66) (fj_nL 66) (fj_ret 66) ∈ fj_tb := fj_in 392 rfl rfl
set_option maxRecDepth 40000 in
theorem fj_cw_67 : Cond.code (fj_y 67) (fj_b 67) (fj_nL 67) (fj_ret 67) ∈ fj_tb := fj_in 395 rfl rfl
set_option maxRecDepth 40000 in
theorem fj_cw_68 : Cond.code (fj_y 68) (fj_b 68) (fj_nL 68) (fj_ret 68) ∈ fj_tb := fj_in 398 rfl rfl
set_option maxRecDepth 40000 in
theorem fj_cw_69 : Cond.code (fj_y 69) (fj_b 69) (fj_nL 69) (fj_ret 69) ∈ fj_tb := fj_in 410 rfl rfl
set_option maxRecDepth 40000 in
theorem fj_cw_70 : Cond.code (fj_y 70) (fj_b 70) (fj_nL 70) (fj_ret 70) ∈ fj_tb := fj_in 417 rfl rfl
set_option maxRecDepth 40000 in
theorem fj_cw_71 : Cond.code (fj_y 71) (fj_b 71) (fj_nL 71) (fj_ret 71) ∈ fj_tb := fj_in 425 rfl rfl
set_option maxRecDepth 40000 in
theorem fj_cw_72 : Cond.code (fj_y 72) (fj_b 72) (fj_nL 72) (fj_ret 72) ∈ fj_tb := fj_in 429 rfl rfl
set_option maxRecDepth 40000 in
theorem fj_cw_73 : Cond.code (fj_y 73) (fj_b 73) (fj_nL 73) (fj_ret 73) ∈ fj_tb := fj_in 421 rfl rfl
set_option maxRecDepth 40000 in
theorem fj_cw_74 : Cond.code (fj_y 74) (fj_b 74) (fj_nL 74) (fj_ret 74) ∈ fj_tb := fj_in 433 rfl rfl
set_option maxRecDepth 40000 in
theorem fj_cw_75 : Cond.code (fj_y 75) (fj_b 75) (fj_nL 75) (fj_ret 75) ∈ fj_tb := fj_in 449 rfl rfl
set_option maxRecDepth 40000 in
theorem fj_cw_76 : Cond.code (fj_y 76) (fj_b 76) (fj_nL 76) (fj_ret 76) ∈ fj_tb := fj_in 437 rfl rfl
set_option maxRecDepth 40000 in
theorem fj_cw_77 : Cond.code (fj_y 77) (fj_b 77) (fj_nL 77) (fj_ret 77) ∈ fj_tb := fj_in 445 rfl rfl
set_option maxRecDepth 40000 in
theorem fj_cw_78 : Cond.code (fj_y 78) (fj_b 78) (fj_nL 78) (fj_ret 78) ∈ fj_tb := fj_in 588 rfl rfl
set_option maxRecDepth 40000 in
theorem fj_cw_79 : Cond.code (fj_y 79) (fj_b 79) (fj_nL 79) (fj_ret 79) ∈ fj_tb := fj_in 585 rfl rfl
set_option maxRecDepth 40000 in
theorem fj_cw_80 : Cond.code (fj_y 80) (fj_b 80) (fj_nL 80) (fj_ret 80) ∈ fj_tb := fj_in 592 rfl rfl
set_option maxRecDepth 40000 in
theorem fj_cw_81 : Cond.code (fj_y 81) (fj_b 81) (fj_nL 81) (fj_ret 81) ∈ fj_tb := fj_in 596 rfl rfl
set_option maxRecDepth 40000 in
theorem fj_cw_82 : Cond.code (fj_y 82) (fj_b 82) (fj_nL 82) (fj_ret 82) ∈ fj_tb := fj_in 608 rfl rfl
set_option maxRecDepth 40000 in
theorem fj_cw_83 : Cond.code (fj_y 83) (fj_b 83) (fj_nL 83) (fj_ret 83) ∈ fj_tb := fj_in 604 rfl rfl
set_option maxRecDepth 40000 in
theorem fj_cw_84 : Cond.code (fj_y 84) (fj_b 84) (fj_nL 84) (fj_ret 84) ∈ fj_tb := fj_in 612 rfl rfl
set_option maxRecDepth 40000 in
theorem fj_cw_85 : Cond.code (fj_y 85) (fj_b 85) (fj_nL 85) (fj_ret 85) ∈ fj_tb := fj_in 600 rfl rfl
set_option maxRecDepth 40000 in
theorem fj_cw_86 : Cond.code (fj_y 86) (fj_b 86) (fj_nL 86) (fj_ret 86) ∈ fj_tb := fj_in 620 rfl rfl
set_option maxRecDepth 40000 in
theorem fj_cw_87 : Cond.code (fj_y 87) (fj_b 87) (fj_nL 87) (fj_ret 87) ∈ fj_tb := fj_in 627 rfl rfl
set_option maxRecDepth 40000 in
theorem fj_cw_88 : Cond.code (fj_y 88) (fj_b 88) (fj_nL 88) (fj_ret 88) ∈ fj_tb := fj_in 624 rfl rfl
set_option maxRecDepth 40000 in
theorem fj_cw_89 : Cond.code (fj_y 89) (fj_b 89) (fj_nL 89) (fj_ret 89) ∈ fj_tb := fj_in 635 rfl rfl
set_option maxRecDepth 40000 in
theorem fj_cw_90 : Cond.code (fj_y 90) (fj_b 90) (fj_nL 90) (fj_ret 90) ∈ fj_tb := fj_in 643 rfl rfl
set_option maxRecDepth 40000 in
theorem fj_cw_91 : Cond.code (fj_y 91) (fj_b 91) (fj_nL 91) (fj_ret 91) ∈ fj_tb := fj_in 631 rfl rfl
set_option maxRecDepth 40000 in
theorem fj_cw_92 : Cond.code (fj_y 92) (fj_b 92) (fj_nL 92) (fj_ret 92) ∈ fj_tb := fj_in 639 rfl rfl
set_option maxRecDepth 40000 in
theorem fj_cw_93 : Cond.code (fj_y 93) (fj_b 93) (fj_nL 93) (fj_ret 93) ∈ fj_tb := fj_in 616 rfl rfl
set_option maxRecDepth 40000 in
theorem fj_cw_94 : Cond.code (fj_y 94) (fj_b 94) (fj_nL 94) (fj_ret 94) ∈ fj_tb := fj_in 698 rfl rfl
set_option maxRecDepth 40000 in
theorem fj_cw_95 : Cond.code (fj_y 95) (fj_b 95) (fj_nL 95) (fj_ret 95) ∈ fj_tb := fj_in 712 rfl rfl
set_option maxRecDepth 40000 in
theorem fj_cw_96 : Cond.code (fj_y 96) (fj_b 96) (fj_nL 96) (fj_ret 96) ∈ fj_tb := fj_in 651 rfl rfl
set_option maxRecDepth 40000 in
theorem fj_cw_97 : Cond.code (fj_y 97) (fj_b 97) (fj_nL 97) (fj_ret 97) ∈ fj_tb := fj_in 647 rfl rfl
set_option maxRecDepth 40000 in
theorem fj_cw_98 : Cond.code (fj_y 98) (fj_b 98) (fj_nL 98) (fj_ret 98) ∈ fj_tb := fj_in 716 rfl rfl
set_option maxRecDepth 40000 in
theorem fj_cw_99 : Cond.code (fj_y 99) (fj_b 99) (fj_nL 99) (fj_ret 99) ∈ fj_tb := fj_in 658 rfl rfl
set_option maxRecDepth 40000 in
theorem fj_cw_100 : Cond.code (fj_y 100) (fj_b 100) (fj_nL 100) (fj_ret 100) ∈ fj_tb := fj_in 662 rfl rfl
set_option maxRecDepth 40000 in
theorem fj_cw_101 : Cond.code (fj_y 101) (fj_b 101) (fj_nL 101) (fj_ret 101) ∈ fj_tb := fj_in 674 rfl rfl
set_option maxRecDepth 40000 in
theorem fj_cw_102 : Cond.code (fj_y 102) (fj_b 102) (fj_nL 102) (fj_ret 102) ∈ fj_tb := fj_in 655 rfl rfl
set_option maxRecDepth 40000 in
theorem fj_cw_103 : Cond.code (fj_y 103) (fj_b 103) (fj_nL 103) (fj_ret 103) ∈ fj_tb := fj_in 705 rfl rfl
set_option maxRecDepth 40000 in
theorem fj_cw_104 : Cond.code (fj_y 104) (fj_b 104) (fj_nL 104) (fj_ret 104) ∈ fj_tb := fj_in 702 rfl rfl
set_option maxRecDepth 40000 in
theorem fj_cw_105 : Cond.code (fj_y 105) (fj_b 105) (fj_nL 105) (fj_ret 105) ∈ fj_tb := fj_in 708 rfl rfl
set_option maxRecDepth 40000 in
theorem fj_cw_106 : Cond.code (fj_y 106) (fj_b 106) (fj_nL 106) (fj_ret 106) ∈ fj_tb := fj_in 670 rfl rfl
set_option maxRecDepth 40000 in
theorem fj_cw_107 : Cond.code (fj_y 107) (fj_b 107) (fj_nL 107) (fj_ret 107) ∈ fj_tb := fj_in 666 rfl rfl
set_option maxRecDepth 40000 in
theorem fj_cw_108 : Cond.code (fj_y 108) (fj_b 108) (fj_nL 108) (fj_ret 108) ∈ fj_tb := fj_in 677 rfl rfl
set_option maxRecDepth 40000 in
theorem fj_cw_109 : Cond.code (fj_y 109) (fj_b 109) (fj_nL 109) (fj_ret 109) ∈ fj_tb := fj_in 681 rfl rfl
set_option maxRecDepth 40000 in
theorem fj_cw_110 : Cond.code (fj_y 110) (fj_b 110) (fj_nL 110) (fj_ret 110) ∈ fj_tb := fj_in 685 rfl rfl
set_option maxRecDepth 40000 in
theorem fj_cw_111 : Cond.code (fj_y 111) (fj_b 111) (fj_nL 111) (fj_ret 111) ∈ fj_tb := fj_in 689 rfl rfl
set_option maxRecDepth 40000 in
theorem fj_cw_112 : Cond.code (fj_y 112) (fj_b 112) (fj_nL 112) (fj_ret 112) ∈ fj_tb := fj_in 693 rfl rfl
set_option maxRecDepth 40000 in
theorem fj_cw_113 : Cond.code (fj_y 113) (fj_b 113) (fj_nL 113) (fj_ret 113) ∈ fj_tb := fj_in 721 rfl rfl
set_option maxRecDepth 40000 in
theorem fj_cw_114 : Cond.code (fj_y 114) (fj_b 114) (fj_nL 114) (fj_ret 114) ∈ fj_tb := fj_in 728 rfl rfl
set_option maxRecDepth 40000 in
theorem fj_cw_115 : Cond.code (fj_y 115) (fj_b 115) (fj_nL 115) (fj_ret 115) ∈ fj_tb := fj_in 725 rfl rfl
set_option maxRecDepth 40000 in
theorem fj_cw_116 : Cond.code (fj_y 116) (fj_b 116) (fj_nL 116) (fj_ret 116) ∈ fj_tb := fj_in 732 rfl rfl
set_option maxRecDepth 40000 in
theorem fj_cw_117 : Cond.code (fj_y 117) (fj_b 117) (fj_nL 117) (fj_ret 117) ∈ fj_tb := fj_in 737 rfl rfl
set_option maxRecDepth 40000 in
theorem fj_cw_118 : Cond.code (fj_y 118) (fj_b 118) (fj_nL 118) (fj_ret 118) ∈ fj_tb := fj_in 741 rfl rfl
set_option maxRecDepth 40000 in
theorem fj_cw_119 : Cond.code (fj_y 119) (fj_b 119) (fj_nL 119) (fj_ret 119) ∈ fj_tb := fj_in 745 rfl rfl
set_option maxRecDepth 40000 in
theorem fj_cw_120 : Cond.code (fj_y 120) (fj_b 120) (fj_nL 120) (fj_ret 120) ∈ fj_tb := fj_in 749 rfl rfl
set_option maxRecDepth 40000 in
theorem fj_cw_121 : Cond.code (fj_y 121) (fj_b 121) (fj_nL 121) (fj_ret 121) ∈ fj_tb := fj_in 753 rfl rfl
set_option maxRecDepth 40000 in
theorem fj_cw_122 : Cond.code (fj_y 122) (fj_b 122) (fj_nL 122) (fj_ret 122) ∈ fj_tb := fj_in 757 rfl rfl
theorem fj_cw : ∀ k, k < 123 → Cond.code (fj_y k) (fj_b k) (fj_nL k) (fj_ret k) ∈ fj_tb
  | 0, _ => fj_cw_0
  | 1, _ => fj_cw_1
  | 2, _ => fj_cw_2
  | 3, _ => fj_cw_3
  | 4, _ => fj_cw_4
  | 5, _ => fj_cw_5
  | 6, _ => fj_cw_6
  | 7, _ => fj_cw_7
  | 8, _ => fj_cw_8
  | 9, _ => fj_cw_9
  | 10, _ => fj_cw_10
  | 11, _ => fj_cw_11
  | 12, _ => fj_cw_12
  | 13, _ => fj_cw_13
  | 14, _ => fj_cw_14
  | 15, _ => fj_cw_15
  | 16, _ => fj_cw_16
  | 17, _ => fj_cw_17
  | 18, _ => fj_cw_18
  | 19, _ => fj_cw_19
  | 20, _ => fj_cw_20
  | 21, _ => fj_cw_21
  | 22, _ => fj_cw_22
  | 23, _ => fj_cw_23
  | 24, _ => fj_cw_24
  | 25, _ => fj_cw_25
  | 26, _ => fj_cw_26
  | 27, _ => fj_cw_27
  | 28, _ => fj_cw_28
  | 29, _ => fj_cw_29
  | 30, _ => fj_cw_30
  | 31, _ => fj_cw_31
  | 32, _ => fj_cw_32
  | 33, _ => fj_cw_33
  | 34, _ => fj_cw_34
  | 35, _ => fj_cw_35
  | 36, _ => fj_cw_36
  | 37, _ => fj_cw_37
  | 38, _ => fj_cw_38
  | 39, _ => fj_cw_39
  | 40, _ => fj_cw_40
  | 41, _ => fj_cw_41
  | 42, _ => fj_cw_42
  | 43, _ => fj_cw_43
  | 44, _ => fj_cw_44
  | 45, _ => fj_cw_45
  | 46, _ => fj_cw_46
  | 47, _ => fj_cw_47
  | 48, _ => fj_cw_48
  | 49, _ => fj_cw_49
  | 50, _ => fj_cw_50
  | 51, _ => fj_cw_51
  | 52, _ => fj_cw_52
  | 53, _ => fj_cw_53
  | 54, _ => fj_cw_54
  | 55, _ => fj_cw_55
  | 56, _ => fj_cw_56
  | 57, _ => fj_cw_57
  | 58, _ => fj_cw_58
  | 59, _ => fj_cw_59
  | 60, _ => fj_cw_60
  | 61, _ => fj_cw_61
  | 62, _ => fj_cw_62
  | 63, _ => fj_cw_63
  | 64, _ => fj_cw_64
  | 65, _ => fj_cw_65
  | 66, _ => fj_cw_66
  | 67, _ => fj_cw_67
  | 68, _ => fj_cw_68
  | 69, _ => fj_cw_69
  | 70, _ => fj_cw_70
  | 71, _ => fj_cw_71
  | 72, _ => fj_cw_72
  | 73, _ => fj_cw_73
  | 74, _ => fj_cw_74
  | 75, _ => fj_cw_75
  | 76, _ => fj_cw_76
  | 77, _ => fj_cw_77
  | 78, _ => fj_cw_78
  | 79, _ => fj_cw_79
  | 80, _ => fj_cw_80
  | 81, _ => fj_cw_81
  | 82, _ => fj_cw_82
  | 83, _ => fj_cw_83
  | 84, _ => fj_cw_84
  | 85, _ => fj_cw_85
  | 86, _ => fj_cw_86
  | 87, _ => fj_cw_87
  | 88, _ => fj_cw_88
  | 89, _ => fj_cw_89
  | 90, _ => fj_cw_90
  | 91, _ => fj_cw_91
  | 92, _ => fj_cw_92
  | 93, _ => fj_cw_93
  | 94, _ => fj_cw_94
  | 95, _ => fj_cw_95
  | 96, _ => fj_cw_96
  | 97, _ => fj_cw_97
  | 98, _ => fj_cw_98
  | 99, _ => fj_cw_99
  | 100, _ => fj_cw_100
  | 101, _ => fj_cw_101
  | 102, _ => fj_cw_102
  | 103, _ => fj_cw_103
  | 104, _ => fj_cw_104
  | 105, _ => fj_cw_105
  | 106, _ => fj_cw_106
  | 107, _ => fj_cw_107
  | 108, _ => fj_cw_108
  | 109, _ => fj_cw_109
  | 110, _ => fj_cw_110
  | 111, _ => fj_cw_111
  | 112, _ => fj_cw_112
  | 113, _ => fj_cw_113
  | 114, _ => fj_cw_114
  | 115, _ => fj_cw_115
  | 116, _ => fj_cw_116
  | 117, _ => fj_cw_117
  | 118, _ => fj_cw_118
  | 119, _ => fj_cw_119
  | 120, _ => fj_cw_120
  | 121, _ => fj_cw_121
  | 122, _ => fj_cw_122
  | k + 123, h => absurd h (by omega)
set_option maxRecDepth 40000 in
theorem fj_con_ok : ∀ q ∈ fj_con, Cond.constant (fj_Rn (q.1 / 1000)) (q.1 % 1000) q.2 ∈ fj_tb := List.forall_mem_cons.mpr ⟨fj_in 438 rfl rfl, List.forall_mem_cons.mpr ⟨fj_in 466 rfl rfl, List.forall_mem_cons.mpr ⟨fj_in 694 rfl rfl, List.forall_mem_cons.mpr ⟨fj_in 733 rfl rfl, fun _ h => absurd h List.not_mem_nil⟩⟩⟩⟩
set_option maxRecDepth 40000 in
theorem fj_sl_ok : ∀ q ∈ fj_sl, (q.2 = 40 ∧ Cond.fieldLink (fj_Rn (q.1 / 1000)) (q.1 % 1000) RX2 "TAKES" "[I" ∈ fj_tb) ∨ (q.2 = 41 ∧ Cond.fieldLink (fj_Rn (q.1 / 1000)) (q.1 % 1000) RX2 "GIVES" "[I" ∈ fj_tb) := List.forall_mem_cons.mpr ⟨Or.inl ⟨rfl, fj_in 331 rfl rfl⟩, List.forall_mem_cons.mpr ⟨Or.inr ⟨rfl, fj_in 361 rfl rfl⟩, fun _ h => absurd h List.not_mem_nil⟩⟩
set_option maxRecDepth 40000 in
theorem fj_lay0k : ∀ k, k < 3 → u_lay RX0 TX0 k ∈ fj_tb
  | 0, _ => fj_in 134 rfl rfl
  | 1, _ => fj_in 136 rfl rfl
  | 2, _ => fj_in 138 rfl rfl
  | k + 3, h => absurd h (by omega)
theorem fj_lay0 : ∀ w ∈ u_ws RX0 TX0 3, w ∈ fj_tb := fun w h => by
  obtain ⟨k, h1, h2⟩ := List.mem_map.mp h
  rw [← h2]
  exact fj_lay0k k (List.mem_range.mp h1)
set_option maxRecDepth 40000 in
theorem fj_lay4k : ∀ k, k < 12 → u_lay RX4 TX4 k ∈ fj_tb
  | 0, _ => fj_in 97 rfl rfl
  | 1, _ => fj_in 99 rfl rfl
  | 2, _ => fj_in 101 rfl rfl
  | 3, _ => fj_in 103 rfl rfl
  | 4, _ => fj_in 105 rfl rfl
  | 5, _ => fj_in 107 rfl rfl
  | 6, _ => fj_in 109 rfl rfl
  | 7, _ => fj_in 111 rfl rfl
  | 8, _ => fj_in 113 rfl rfl
  | 9, _ => fj_in 115 rfl rfl
  | 10, _ => fj_in 117 rfl rfl
  | 11, _ => fj_in 119 rfl rfl
  | k + 12, h => absurd h (by omega)
theorem fj_lay4 : ∀ w ∈ u_ws RX4 TX4 12, w ∈ fj_tb := fun w h => by
  obtain ⟨k, h1, h2⟩ := List.mem_map.mp h
  rw [← h2]
  exact fj_lay4k k (List.mem_range.mp h1)
set_option maxRecDepth 40000 in
theorem fj_lay5k : ∀ k, k < 14 → u_lay RX5 TX5 k ∈ fj_tb
  | 0, _ => fj_in 155 rfl rfl
  | 1, _ => fj_in 157 rfl rfl
  | 2, _ => fj_in 159 rfl rfl
  | 3, _ => fj_in 161 rfl rfl
  | 4, _ => fj_in 163 rfl rfl
  | 5, _ => fj_in 165 rfl rfl
  | 6, _ => fj_in 167 rfl rfl
  | 7, _ => fj_in 169 rfl rfl
  | 8, _ => fj_in 171 rfl rfl
  | 9, _ => fj_in 173 rfl rfl
  | 10, _ => fj_in 175 rfl rfl
  | 11, _ => fj_in 177 rfl rfl
  | 12, _ => fj_in 179 rfl rfl
  | 13, _ => fj_in 181 rfl rfl
  | k + 14, h => absurd h (by omega)
theorem fj_lay5 : ∀ w ∈ u_ws RX5 TX5 14, w ∈ fj_tb := fun w h => by
  obtain ⟨k, h1, h2⟩ := List.mem_map.mp h
  rw [← h2]
  exact fj_lay5k k (List.mem_range.mp h1)
set_option maxRecDepth 40000 in
theorem fj_lay6k : ∀ k, k < 28 → u_lay RX6 TX6 k ∈ fj_tb
  | 0, _ => fj_in 525 rfl rfl
  | 1, _ => fj_in 527 rfl rfl
  | 2, _ => fj_in 529 rfl rfl
  | 3, _ => fj_in 531 rfl rfl
  | 4, _ => fj_in 533 rfl rfl
  | 5, _ => fj_in 535 rfl rfl
  | 6, _ => fj_in 537 rfl rfl
  | 7, _ => fj_in 539 rfl rfl
  | 8, _ => fj_in 541 rfl rfl
  | 9, _ => fj_in 543 rfl rfl
  | 10, _ => fj_in 545 rfl rfl
  | 11, _ => fj_in 547 rfl rfl
  | 12, _ => fj_in 549 rfl rfl
  | 13, _ => fj_in 551 rfl rfl
  | 14, _ => fj_in 553 rfl rfl
  | 15, _ => fj_in 555 rfl rfl
  | 16, _ => fj_in 557 rfl rfl
  | 17, _ => fj_in 559 rfl rfl
  | 18, _ => fj_in 561 rfl rfl
  | 19, _ => fj_in 563 rfl rfl
  | 20, _ => fj_in 565 rfl rfl
  | 21, _ => fj_in 567 rfl rfl
  | 22, _ => fj_in 569 rfl rfl
  | 23, _ => fj_in 571 rfl rfl
  | 24, _ => fj_in 573 rfl rfl
  | 25, _ => fj_in 575 rfl rfl
  | 26, _ => fj_in 577 rfl rfl
  | 27, _ => fj_in 579 rfl rfl
  | k + 28, h => absurd h (by omega)
theorem fj_lay6 : ∀ w ∈ u_ws RX6 TX6 28, w ∈ fj_tb := fun w h => by
  obtain ⟨k, h1, h2⟩ := List.mem_map.mp h
  rw [← h2]
  exact fj_lay6k k (List.mem_range.mp h1)
def fj_Tk (κ : Nat) : u_T := match κ with
  | 0 => TX5
  | 7 => TX4
  | 10 => TX0
  | _ => TX6
def fj_flw_l0 : List (Nat × Nat × Nat) := [(4009, 7, 0), (5110, 7, 0), (4015, 7, 1), (4020, 7, 2), (5083, 7, 2), (4037, 7, 3), (5087, 7, 3), (4040, 7, 4), (5090, 7, 4), (4043, 7, 5), (5093, 7, 5), (4024, 7, 6), (5096, 7, 6), (4031, 7, 7), (5099, 7, 7), (5104, 7, 8), (4034, 7, 9), (5107, 7, 9), (4046, 7, 10), (5159, 7, 10), (4049, 7, 11), (5162, 7, 11), (9, 10, 0), (5113, 10, 0), (19, 10, 1)]
set_option maxRecDepth 40000 in
theorem fj_flw_0 : ∀ q ∈ fj_flw_l0, Cond.fieldLink (fj_Rn (q.1 / 1000)) (q.1 % 1000) (fj_Tk q.2.1 q.2.2).1 (fj_Tk q.2.1 q.2.2).2.1 (fj_Tk q.2.1 q.2.2).2.2.1 ∈ fj_tb := List.forall_mem_cons.mpr ⟨fj_in 75 rfl rfl, List.forall_mem_cons.mpr ⟨fj_in 76 rfl rfl, List.forall_mem_cons.mpr ⟨fj_in 77 rfl rfl, List.forall_mem_cons.mpr ⟨fj_in 78 rfl rfl, List.forall_mem_cons.mpr ⟨fj_in 79 rfl rfl, List.forall_mem_cons.mpr ⟨fj_in 80 rfl rfl, List.forall_mem_cons.mpr ⟨fj_in 81 rfl rfl, List.forall_mem_cons.mpr ⟨fj_in 82 rfl rfl, List.forall_mem_cons.mpr ⟨fj_in 83 rfl rfl, List.forall_mem_cons.mpr ⟨fj_in 84 rfl rfl, List.forall_mem_cons.mpr ⟨fj_in 85 rfl rfl, List.forall_mem_cons.mpr ⟨fj_in 86 rfl rfl, List.forall_mem_cons.mpr ⟨fj_in 87 rfl rfl, List.forall_mem_cons.mpr ⟨fj_in 88 rfl rfl, List.forall_mem_cons.mpr ⟨fj_in 89 rfl rfl, List.forall_mem_cons.mpr ⟨fj_in 90 rfl rfl, List.forall_mem_cons.mpr ⟨fj_in 91 rfl rfl, List.forall_mem_cons.mpr ⟨fj_in 92 rfl rfl, List.forall_mem_cons.mpr ⟨fj_in 93 rfl rfl, List.forall_mem_cons.mpr ⟨fj_in 94 rfl rfl, List.forall_mem_cons.mpr ⟨fj_in 95 rfl rfl, List.forall_mem_cons.mpr ⟨fj_in 96 rfl rfl, List.forall_mem_cons.mpr ⟨fj_in 128 rfl rfl, List.forall_mem_cons.mpr ⟨fj_in 129 rfl rfl, List.forall_mem_cons.mpr ⟨fj_in 130 rfl rfl, fun _ h => absurd h List.not_mem_nil⟩⟩⟩⟩⟩⟩⟩⟩⟩⟩⟩⟩⟩⟩⟩⟩⟩⟩⟩⟩⟩⟩⟩⟩⟩
def fj_flw_l1 : List (Nat × Nat × Nat) := [(5054, 10, 1), (15, 10, 2), (5057, 10, 2), (5009, 0, 0), (5013, 0, 1), (5016, 0, 2), (5021, 0, 3), (5027, 0, 4), (5031, 0, 5), (5034, 0, 6), (5038, 0, 7), (5125, 0, 8), (5128, 0, 9), (5122, 0, 10), (5119, 0, 11), (5138, 0, 12), (5141, 0, 13), (6007, 20, 0), (6013, 20, 1), (6016, 20, 2), (6019, 20, 3), (6022, 20, 4), (6025, 20, 5), (6028, 20, 6), (6031, 20, 7)]
set_option maxRecDepth 40000 in
theorem fj_flw_1 : ∀ q ∈ fj_flw_l1, Cond.fieldLink (fj_Rn (q.1 / 1000)) (q.1 % 1000) (fj_Tk q.2.1 q.2.2).1 (fj_Tk q.2.1 q.2.2).2.1 (fj_Tk q.2.1 q.2.2).2.2.1 ∈ fj_tb := List.forall_mem_cons.mpr ⟨fj_in 131 rfl rfl, List.forall_mem_cons.mpr ⟨fj_in 132 rfl rfl, List.forall_mem_cons.mpr ⟨fj_in 133 rfl rfl, List.forall_mem_cons.mpr ⟨fj_in 141 rfl rfl, List.forall_mem_cons.mpr ⟨fj_in 142 rfl rfl, List.forall_mem_cons.mpr ⟨fj_in 143 rfl rfl, List.forall_mem_cons.mpr ⟨fj_in 144 rfl rfl, List.forall_mem_cons.mpr ⟨fj_in 145 rfl rfl, List.forall_mem_cons.mpr ⟨fj_in 146 rfl rfl, List.forall_mem_cons.mpr ⟨fj_in 147 rfl rfl, List.forall_mem_cons.mpr ⟨fj_in 148 rfl rfl, List.forall_mem_cons.mpr ⟨fj_in 149 rfl rfl, List.forall_mem_cons.mpr ⟨fj_in 150 rfl rfl, List.forall_mem_cons.mpr ⟨fj_in 151 rfl rfl, List.forall_mem_cons.mpr ⟨fj_in 152 rfl rfl, List.forall_mem_cons.mpr ⟨fj_in 153 rfl rfl, List.forall_mem_cons.mpr ⟨fj_in 154 rfl rfl, List.forall_mem_cons.mpr ⟨fj_in 497 rfl rfl, List.forall_mem_cons.mpr ⟨fj_in 498 rfl rfl, List.forall_mem_cons.mpr ⟨fj_in 499 rfl rfl, List.forall_mem_cons.mpr ⟨fj_in 500 rfl rfl, List.forall_mem_cons.mpr ⟨fj_in 501 rfl rfl, List.forall_mem_cons.mpr ⟨fj_in 502 rfl rfl, List.forall_mem_cons.mpr ⟨fj_in 503 rfl rfl, List.forall_mem_cons.mpr ⟨fj_in 504 rfl rfl, fun _ h => absurd h List.not_mem_nil⟩⟩⟩⟩⟩⟩⟩⟩⟩⟩⟩⟩⟩⟩⟩⟩⟩⟩⟩⟩⟩⟩⟩⟩⟩
def fj_flw_l2 : List (Nat × Nat × Nat) := [(6034, 20, 8), (6037, 20, 9), (6040, 20, 10), (6043, 20, 11), (6046, 20, 12), (6049, 20, 13), (6052, 20, 14), (6055, 20, 15), (6058, 20, 16), (6061, 20, 17), (6184, 20, 18), (6120, 20, 19), (6117, 20, 20), (6123, 20, 21), (6067, 20, 22), (6071, 20, 23), (6082, 20, 24), (6107, 20, 25), (6064, 20, 26), (6110, 20, 27)]
set_option maxRecDepth 40000 in
theorem fj_flw_2 : ∀ q ∈ fj_flw_l2, Cond.fieldLink (fj_Rn (q.1 / 1000)) (q.1 % 1000) (fj_Tk q.2.1 q.2.2).1 (fj_Tk q.2.1 q.2.2).2.1 (fj_Tk q.2.1 q.2.2).2.2.1 ∈ fj_tb := List.forall_mem_cons.mpr ⟨fj_in 505 rfl rfl, List.forall_mem_cons.mpr ⟨fj_in 506 rfl rfl, List.forall_mem_cons.mpr ⟨fj_in 507 rfl rfl, List.forall_mem_cons.mpr ⟨fj_in 508 rfl rfl, List.forall_mem_cons.mpr ⟨fj_in 509 rfl rfl, List.forall_mem_cons.mpr ⟨fj_in 510 rfl rfl, List.forall_mem_cons.mpr ⟨fj_in 511 rfl rfl, List.forall_mem_cons.mpr ⟨fj_in 512 rfl rfl, List.forall_mem_cons.mpr ⟨fj_in 513 rfl rfl, List.forall_mem_cons.mpr ⟨fj_in 514 rfl rfl, List.forall_mem_cons.mpr ⟨fj_in 515 rfl rfl, List.forall_mem_cons.mpr ⟨fj_in 516 rfl rfl, List.forall_mem_cons.mpr ⟨fj_in 517 rfl rfl, List.forall_mem_cons.mpr ⟨fj_in 518 rfl rfl, List.forall_mem_cons.mpr ⟨fj_in 519 rfl rfl, List.forall_mem_cons.mpr ⟨fj_in 520 rfl rfl, List.forall_mem_cons.mpr ⟨fj_in 521 rfl rfl, List.forall_mem_cons.mpr ⟨fj_in 522 rfl rfl, List.forall_mem_cons.mpr ⟨fj_in 523 rfl rfl, List.forall_mem_cons.mpr ⟨fj_in 524 rfl rfl, fun _ h => absurd h List.not_mem_nil⟩⟩⟩⟩⟩⟩⟩⟩⟩⟩⟩⟩⟩⟩⟩⟩⟩⟩⟩⟩
theorem fj_flw_eq : fj_fl = fj_flw_l0 ++ (fj_flw_l1 ++ (fj_flw_l2)) := rfl
theorem fj_flw : ∀ q ∈ fj_fl, Cond.fieldLink (fj_Rn (q.1 / 1000)) (q.1 % 1000) (fj_Tk q.2.1 q.2.2).1 (fj_Tk q.2.1 q.2.2).2.1 (fj_Tk q.2.1 q.2.2).2.2.1 ∈ fj_tb := by
  rw [fj_flw_eq]
  exact List.forall_mem_append.mpr ⟨fj_flw_0, List.forall_mem_append.mpr ⟨fj_flw_1, fj_flw_2⟩⟩
set_option maxRecDepth 40000 in
theorem fj_min_w : Cond.methodLink (fj_Rn (fj_min / 1000)) (fj_min % 1000) Lib.Math.min.name ∈ fj_tb ∧ Cond.static Lib.Math.min.name ∈ fj_tb ∧ Cond.initialized "java/lang/Math" ∈ fj_tb ∧ Cond.code Lib.Math.min.name Lib.Math.min.code 2 (some .int) ∈ fj_tb := ⟨fj_in 439 rfl rfl, fj_in 440 rfl rfl, fj_in 57 rfl rfl, fj_in 441 rfl rfl⟩
def fj_flB (κ : Nat) (T : u_T) (N : Nat) (q : Nat × Nat × Nat) : Bool := !Nat.beq q.2.1 κ || (decide (q.2.2 < N) && ((fj_lk (κ * 100 + q.2.2) fj_F).isSome || (decide ((T q.2.2).2.2.2 = false) && decide (parseFieldDescriptor (T q.2.2).2.2.1 = some .int))))
theorem fj_fl0 : fj_fl.all (fj_flB 0 TX5 14) = true := by decide +kernel
theorem fj_fl7 : fj_fl.all (fj_flB 7 TX4 12) = true := by decide +kernel
theorem fj_fl10 : fj_fl.all (fj_flB 10 TX0 3) = true := by decide +kernel
theorem fj_fl20 : fj_fl.all (fj_flB 20 TX6 28) = true := by decide +kernel
theorem fj_fl_kinds : ∀ q ∈ fj_fl, q.2.1 = 0 ∨ q.2.1 = 7 ∨ q.2.1 = 10 ∨ q.2.1 = 20 := by decide +kernel
