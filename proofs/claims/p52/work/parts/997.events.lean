theorem dL_law_195 : decode cL_law 195 = .ok (.iconst (-1), 1) := by decide +kernel
theorem dL_law_196 : decode cL_law 196 = .ok (.istore 8, 2) := by decide +kernel
theorem dL_law_198 : decode cL_law 198 = .ok (.iconst 0, 1) := by decide +kernel
theorem dL_law_199 : decode cL_law 199 = .ok (.istore 9, 2) := by decide +kernel
theorem dL_law_201 : decode cL_law 201 = .ok (.iload 9, 2) := by decide +kernel
theorem dL_law_203 : decode cL_law 203 = .ok (.aload_n 1, 1) := by decide +kernel
theorem dL_law_204 : decode cL_law 204 = .ok (.invokevirtual 107, 3) := by decide +kernel
set_option maxRecDepth 20000 in
theorem ggL_law_X8_events : GoodIn wsL_law wsX8_events := goodIn_r _ [621, 41, 161, 757, 758, 759, 760, 761, 762, 763, 764, 765, 766, 767, 768, 769, 770, 771, 819, 820] rfl (by decide +kernel)
set_option maxRecDepth 20000 in
theorem gL_law_X8_events : GoodIn wsL_law (wsV RL 107 RX8 yX8_events wsX8_events) := goodIn_app (goodIn_of _ (by decide +kernel)) ggL_law_X8_events
theorem dL_law_207 : decode cL_law 207 = .ok (.if_icmp .ge 228, 3) := by decide +kernel
theorem dL_law_210 : decode cL_law 210 = .ok (.sipush 400, 3) := by decide +kernel
theorem dL_law_213 : decode cL_law 213 = .ok (.aload_n 1, 1) := by decide +kernel
theorem dL_law_214 : decode cL_law 214 = .ok (.iload 9, 2) := by decide +kernel
theorem dL_law_216 : decode cL_law 216 = .ok (.invokevirtual 110, 3) := by decide +kernel
set_option maxRecDepth 20000 in
theorem ggL_law_X8_timeOf : GoodIn wsL_law wsX8_timeOf := goodIn_ca (goodIn_r _ [625, 41, 626, 627, 628, 2, 629, 267, 268, 161, 630, 631, 632, 40, 633, 115, 757, 758, 759, 760, 761, 762, 763, 764, 765, 766, 767, 768, 769, 770, 771, 819, 820] rfl (by decide +kernel)) (goodIn_sub (fun _ h => List.mem_append_right _ h) (by decide +kernel))
set_option maxRecDepth 20000 in
theorem gL_law_X8_timeOf : GoodIn wsL_law (wsV RL 110 RX8 yX8_timeOf wsX8_timeOf) := goodIn_app (goodIn_of _ (by decide +kernel)) ggL_law_X8_timeOf
theorem dL_law_219 : decode cL_law 219 = .ok (.imul, 1) := by decide +kernel
theorem dL_law_220 : decode cL_law 220 = .ok (.bipush 100, 2) := by decide +kernel
theorem dL_law_222 : decode cL_law 222 = .ok (.aload_n 1, 1) := by decide +kernel
theorem dL_law_223 : decode cL_law 223 = .ok (.iload 9, 2) := by decide +kernel
theorem dL_law_225 : decode cL_law 225 = .ok (.invokevirtual 113, 3) := by decide +kernel
set_option maxRecDepth 20000 in
theorem ggL_law_X8_kindOf : GoodIn wsL_law wsX8_kindOf := goodIn_ca (goodIn_r _ [637, 41, 626, 627, 628, 2, 629, 267, 268, 161, 638, 563, 564, 40, 565, 115, 757, 758, 759, 760, 761, 762, 763, 764, 765, 766, 767, 768, 769, 770, 771, 819, 820] rfl (by decide +kernel)) (goodIn_sub (fun _ h => List.mem_append_right _ h) (by decide +kernel))
set_option maxRecDepth 20000 in
theorem gL_law_X8_kindOf : GoodIn wsL_law (wsV RL 113 RX8 yX8_kindOf wsX8_kindOf) := goodIn_app (goodIn_of _ (by decide +kernel)) ggL_law_X8_kindOf
theorem dL_law_228 : decode cL_law 228 = .ok (.imul, 1) := by decide +kernel
theorem dL_law_229 : decode cL_law 229 = .ok (.iadd, 1) := by decide +kernel
theorem dL_law_230 : decode cL_law 230 = .ok (.aload_n 1, 1) := by decide +kernel
theorem dL_law_231 : decode cL_law 231 = .ok (.iload 9, 2) := by decide +kernel
theorem dL_law_233 : decode cL_law 233 = .ok (.invokevirtual 116, 3) := by decide +kernel
set_option maxRecDepth 20000 in
theorem ggL_law_X8_containerOf : GoodIn wsL_law wsX8_containerOf := goodIn_ca (goodIn_r _ [642, 41, 626, 627, 628, 2, 629, 267, 268, 161, 643, 559, 560, 40, 561, 115, 757, 758, 759, 760, 761, 762, 763, 764, 765, 766, 767, 768, 769, 770, 771, 819, 820] rfl (by decide +kernel)) (goodIn_sub (fun _ h => List.mem_append_right _ h) (by decide +kernel))
set_option maxRecDepth 20000 in
theorem gL_law_X8_containerOf : GoodIn wsL_law (wsV RL 116 RX8 yX8_containerOf wsX8_containerOf) := goodIn_app (goodIn_of _ (by decide +kernel)) ggL_law_X8_containerOf
theorem dL_law_236 : decode cL_law 236 = .ok (.iadd, 1) := by decide +kernel
theorem dL_law_237 : decode cL_law 237 = .ok (.istore 10, 2) := by decide +kernel
theorem dL_law_239 : decode cL_law 239 = .ok (.iload 10, 2) := by decide +kernel
theorem dL_law_241 : decode cL_law 241 = .ok (.iload 8, 2) := by decide +kernel
theorem dL_law_243 : decode cL_law 243 = .ok (.if_icmp .le 15, 3) := by decide +kernel
theorem dL_law_258 : decode cL_law 258 = .ok (.iconst 0, 1) := by decide +kernel
theorem dL_law_259 : decode cL_law 259 = .ok (.ireturn, 1) := by decide +kernel
theorem dL_law_246 : decode cL_law 246 = .ok (.aload_n 1, 1) := by decide +kernel
theorem dL_law_247 : decode cL_law 247 = .ok (.iconst 1, 1) := by decide +kernel
theorem dL_law_248 : decode cL_law 248 = .ok (.invokevirtual 119, 3) := by decide +kernel
set_option maxRecDepth 20000 in
theorem ggL_law_X8_work : GoodIn wsL_law wsX8_work := goodIn_ca (goodIn_ca (goodIn_r _ [647, 45, 41, 648, 649, 650, 2, 651, 149, 150, 530, 531, 532, 533, 176, 177, 160, 553, 554, 555, 44, 556, 167, 557, 558, 559, 560, 40, 561, 115, 562, 563, 564, 565, 566, 567, 568, 569, 126, 570, 571, 572, 573, 551, 121, 125, 574, 575, 576, 577, 120, 124, 578, 579, 580, 581, 123, 582, 583, 584, 585, 586, 203, 200, 204, 587, 588, 589, 590, 591, 592, 593, 127, 594, 595, 596, 597, 166, 598, 599, 600, 601, 602, 603, 604, 605, 128, 606, 607, 608, 609, 610, 611, 612, 613, 757, 758, 759, 760, 761, 762, 763, 764, 765, 766, 767, 768, 769, 770, 771, 821, 822, 823, 824, 825, 826, 827, 828, 829, 830, 831, 819, 820] rfl (by decide +kernel)) (goodIn_sub (fun _ h => List.mem_append_left _ (List.mem_append_left _ (List.mem_append_right _ h))) (by decide +kernel))) (goodIn_sub (fun _ h => List.mem_append_left _ (List.mem_append_right _ h)) (by decide +kernel))
set_option maxRecDepth 20000 in
theorem gL_law_X8_work : GoodIn wsL_law (wsV RL 119 RX8 yX8_work wsX8_work) := goodIn_app (goodIn_of _ (by decide +kernel)) ggL_law_X8_work
theorem dL_law_251 : decode cL_law 251 = .ok (.iload 9, 2) := by decide +kernel
theorem dL_law_253 : decode cL_law 253 = .ok (.iconst 1, 1) := by decide +kernel
theorem dL_law_254 : decode cL_law 254 = .ok (.iadd, 1) := by decide +kernel
theorem dL_law_255 : decode cL_law 255 = .ok (.if_icmp .eq 5, 3) := by decide +kernel
theorem dL_law_260 : decode cL_law 260 = .ok (.iload 10, 2) := by decide +kernel
theorem dL_law_262 : decode cL_law 262 = .ok (.istore 8, 2) := by decide +kernel
theorem dL_law_264 : decode cL_law 264 = .ok (.iconst 0, 1) := by decide +kernel
theorem dL_law_265 : decode cL_law 265 = .ok (.istore 11, 2) := by decide +kernel
theorem dL_law_267 : decode cL_law 267 = .ok (.iconst 0, 1) := by decide +kernel
theorem dL_law_268 : decode cL_law 268 = .ok (.istore 12, 2) := by decide +kernel
theorem dL_law_270 : decode cL_law 270 = .ok (.iload 12, 2) := by decide +kernel
theorem dL_law_272 : decode cL_law 272 = .ok (.aload_n 1, 1) := by decide +kernel
theorem dL_law_273 : decode cL_law 273 = .ok (.invokevirtual 122, 3) := by decide +kernel
set_option maxRecDepth 20000 in
theorem ggL_law_X8_stacks : GoodIn wsL_law wsX8_stacks := goodIn_r _ [655, 45, 277, 757, 758, 759, 760, 761, 762, 763, 764, 765, 766, 767, 768, 769, 770, 771, 821, 822, 823, 824, 825, 826, 827, 828, 829, 830, 831] rfl (by decide +kernel)
set_option maxRecDepth 20000 in
theorem gL_law_X8_stacks : GoodIn wsL_law (wsV RL 122 RX8 yX8_stacks wsX8_stacks) := goodIn_app (goodIn_of _ (by decide +kernel)) ggL_law_X8_stacks
theorem dL_law_276 : decode cL_law 276 = .ok (.if_icmp .ge 20, 3) := by decide +kernel
theorem dL_law_296 : decode cL_law 296 = .ok (.aload_n 1, 1) := by decide +kernel
theorem dL_law_297 : decode cL_law 297 = .ok (.iload 9, 2) := by decide +kernel
theorem dL_law_299 : decode cL_law 299 = .ok (.invokevirtual 116, 3) := by decide +kernel
theorem dL_law_302 : decode cL_law 302 = .ok (.istore 12, 2) := by decide +kernel
theorem dL_law_304 : decode cL_law 304 = .ok (.aload_n 1, 1) := by decide +kernel
theorem dL_law_305 : decode cL_law 305 = .ok (.iload 12, 2) := by decide +kernel
theorem dL_law_307 : decode cL_law 307 = .ok (.invokevirtual 77, 3) := by decide +kernel
set_option maxRecDepth 20000 in
theorem ggL_law_X8_stateOf : GoodIn wsL_law wsX8_stateOf := goodIn_ca (goodIn_r _ [668, 45, 669, 534, 535, 536, 2, 537, 267, 268, 19, 256, 757, 758, 759, 760, 761, 762, 763, 764, 765, 766, 767, 768, 769, 770, 771, 821, 822, 823, 824, 825, 826, 827, 828, 829, 830, 831, 783, 784, 785, 786, 787, 788] rfl (by decide +kernel)) (goodIn_sub (fun _ h => List.mem_append_right _ h) (by decide +kernel))
set_option maxRecDepth 20000 in
theorem gL_law_X8_stateOf : GoodIn wsL_law (wsV RL 77 RX8 yX8_stateOf wsX8_stateOf) := goodIn_app (goodIn_of _ (by decide +kernel)) ggL_law_X8_stateOf
theorem dL_law_310 : decode cL_law 310 = .ok (.istore 13, 2) := by decide +kernel
theorem dL_law_312 : decode cL_law 312 = .ok (.iload 11, 2) := by decide +kernel
theorem dL_law_314 : decode cL_law 314 = .ok (.aload_n 1, 1) := by decide +kernel
theorem dL_law_315 : decode cL_law 315 = .ok (.iconst 1, 1) := by decide +kernel
theorem dL_law_316 : decode cL_law 316 = .ok (.invokestatic 128, 3) := by decide +kernel
theorem dL_law_319 : decode cL_law 319 = .ok (.aload_n 1, 1) := by decide +kernel
theorem dL_law_320 : decode cL_law 320 = .ok (.iconst 4, 1) := by decide +kernel
theorem dL_law_321 : decode cL_law 321 = .ok (.invokestatic 128, 3) := by decide +kernel
theorem dL_law_324 : decode cL_law 324 = .ok (.iadd, 1) := by decide +kernel
theorem dL_law_325 : decode cL_law 325 = .ok (.if_icmp .ne 50, 3) := by decide +kernel
theorem dL_law_375 : decode cL_law 375 = .ok (.iconst 0, 1) := by decide +kernel
theorem dL_law_376 : decode cL_law 376 = .ok (.ireturn, 1) := by decide +kernel
theorem dL_law_328 : decode cL_law 328 = .ok (.aload_n 1, 1) := by decide +kernel
theorem dL_law_329 : decode cL_law 329 = .ok (.invokevirtual 132, 3) := by decide +kernel
theorem dL_law_332 : decode cL_law 332 = .ok (.iload 11, 2) := by decide +kernel
theorem dL_law_334 : decode cL_law 334 = .ok (.if_icmp .gt 41, 3) := by decide +kernel
theorem dL_law_337 : decode cL_law 337 = .ok (.aload_n 1, 1) := by decide +kernel
theorem dL_law_338 : decode cL_law 338 = .ok (.iload 9, 2) := by decide +kernel
theorem dL_law_340 : decode cL_law 340 = .ok (.invokevirtual 113, 3) := by decide +kernel
theorem dL_law_343 : decode cL_law 343 = .ok (.iconst 2, 1) := by decide +kernel
theorem dL_law_344 : decode cL_law 344 = .ok (.if_icmp .ge 15, 3) := by decide +kernel
theorem dL_law_359 : decode cL_law 359 = .ok (.aload_n 1, 1) := by decide +kernel
theorem dL_law_360 : decode cL_law 360 = .ok (.iload 9, 2) := by decide +kernel
theorem dL_law_362 : decode cL_law 362 = .ok (.invokevirtual 113, 3) := by decide +kernel
theorem dL_law_365 : decode cL_law 365 = .ok (.iconst 1, 1) := by decide +kernel
theorem dL_law_366 : decode cL_law 366 = .ok (.if_icmp .le 11, 3) := by decide +kernel
theorem dL_law_377 : decode cL_law 377 = .ok (.iload 13, 2) := by decide +kernel
theorem dL_law_379 : decode cL_law 379 = .ok (.iconst 1, 1) := by decide +kernel
theorem dL_law_380 : decode cL_law 380 = .ok (.if_icmp .ne 32, 3) := by decide +kernel
theorem dL_law_412 : decode cL_law 412 = .ok (.iload 13, 2) := by decide +kernel
theorem dL_law_414 : decode cL_law 414 = .ok (.iconst 1, 1) := by decide +kernel
theorem dL_law_415 : decode cL_law 415 = .ok (.if_icmp .ne 14, 3) := by decide +kernel
theorem dL_law_429 : decode cL_law 429 = .ok (.iinc 9 1, 3) := by decide +kernel
theorem dL_law_432 : decode cL_law 432 = .ok (.goto (-231), 3) := by decide +kernel
theorem dL_law_383 : decode cL_law 383 = .ok (.aload_n 1, 1) := by decide +kernel
theorem dL_law_384 : decode cL_law 384 = .ok (.aload_n 1, 1) := by decide +kernel
theorem dL_law_385 : decode cL_law 385 = .ok (.iload 12, 2) := by decide +kernel
theorem dL_law_387 : decode cL_law 387 = .ok (.invokevirtual 135, 3) := by decide +kernel
set_option maxRecDepth 20000 in
theorem ggL_law_X8_stackOf : GoodIn wsL_law wsX8_stackOf := goodIn_ca (goodIn_r _ [692, 45, 693, 534, 535, 536, 2, 537, 267, 268, 19, 256, 757, 758, 759, 760, 761, 762, 763, 764, 765, 766, 767, 768, 769, 770, 771, 821, 822, 823, 824, 825, 826, 827, 828, 829, 830, 831, 783, 784, 785, 786, 787, 788] rfl (by decide +kernel)) (goodIn_sub (fun _ h => List.mem_append_right _ h) (by decide +kernel))
set_option maxRecDepth 20000 in
theorem gL_law_X8_stackOf : GoodIn wsL_law (wsV RL 135 RX8 yX8_stackOf wsX8_stackOf) := goodIn_app (goodIn_of _ (by decide +kernel)) ggL_law_X8_stackOf
theorem dL_law_390 : decode cL_law 390 = .ok (.aload_n 1, 1) := by decide +kernel
theorem dL_law_391 : decode cL_law 391 = .ok (.aload_n 1, 1) := by decide +kernel
theorem dL_law_392 : decode cL_law 392 = .ok (.iload 12, 2) := by decide +kernel
theorem dL_law_394 : decode cL_law 394 = .ok (.invokevirtual 135, 3) := by decide +kernel
theorem dL_law_397 : decode cL_law 397 = .ok (.invokevirtual 125, 3) := by decide +kernel
set_option maxRecDepth 20000 in
theorem ggL_law_X8_heightOf : GoodIn wsL_law wsX8_heightOf := goodIn_ca (goodIn_r _ [659, 45, 660, 661, 662, 663, 2, 664, 267, 268, 277, 757, 758, 759, 760, 761, 762, 763, 764, 765, 766, 767, 768, 769, 770, 771, 821, 822, 823, 824, 825, 826, 827, 828, 829, 830, 831] rfl (by decide +kernel)) (goodIn_sub (fun _ h => List.mem_append_right _ h) (by decide +kernel))
set_option maxRecDepth 20000 in
theorem gL_law_X8_heightOf : GoodIn wsL_law (wsV RL 125 RX8 yX8_heightOf wsX8_heightOf) := goodIn_app (goodIn_of _ (by decide +kernel)) ggL_law_X8_heightOf
theorem dL_law_400 : decode cL_law 400 = .ok (.iconst 1, 1) := by decide +kernel
theorem dL_law_401 : decode cL_law 401 = .ok (.isub, 1) := by decide +kernel
theorem dL_law_402 : decode cL_law 402 = .ok (.invokevirtual 138, 3) := by decide +kernel
set_option maxRecDepth 20000 in
theorem ggL_law_X8_containerAt : GoodIn wsL_law wsX8_containerAt := goodIn_ca (goodIn_r _ [697, 267, 268, 45, 660, 698, 661, 662, 663, 2, 664, 277, 757, 758, 759, 760, 761, 762, 763, 764, 765, 766, 767, 768, 769, 770, 771, 821, 822, 823, 824, 825, 826, 827, 828, 829, 830, 831] rfl (by decide +kernel)) (goodIn_sub (fun _ h => List.mem_append_right _ h) (by decide +kernel))
set_option maxRecDepth 20000 in
theorem gL_law_X8_containerAt : GoodIn wsL_law (wsV RL 138 RX8 yX8_containerAt wsX8_containerAt) := goodIn_app (goodIn_of _ (by decide +kernel)) ggL_law_X8_containerAt
theorem dL_law_405 : decode cL_law 405 = .ok (.iload 12, 2) := by decide +kernel
theorem dL_law_407 : decode cL_law 407 = .ok (.if_icmp .eq 5, 3) := by decide +kernel
theorem dL_law_418 : decode cL_law 418 = .ok (.aload_n 1, 1) := by decide +kernel
theorem dL_law_419 : decode cL_law 419 = .ok (.iload 12, 2) := by decide +kernel
theorem dL_law_421 : decode cL_law 421 = .ok (.invokevirtual 141, 3) := by decide +kernel
set_option maxRecDepth 20000 in
theorem ggL_law_X8_wouldTake : GoodIn wsL_law wsX8_wouldTake := goodIn_ca (goodIn_r _ [702, 45, 534, 535, 536, 2, 537, 267, 268, 19, 256, 703, 704, 705, 44, 706, 127, 598, 599, 600, 601, 126, 602, 603, 604, 605, 128, 578, 579, 580, 581, 121, 123, 570, 571, 572, 573, 551, 125, 574, 575, 576, 577, 120, 124, 582, 583, 584, 585, 586, 203, 200, 204, 587, 588, 589, 606, 607, 608, 609, 610, 611, 612, 613, 590, 591, 592, 593, 757, 758, 759, 760, 761, 762, 763, 764, 765, 766, 767, 768, 769, 770, 771, 783, 784, 785, 786, 787, 788, 821, 822, 823, 824, 825, 826, 827, 828, 829, 830, 831] rfl (by decide +kernel)) (goodIn_sub (fun _ h => List.mem_append_right _ h) (by decide +kernel))
set_option maxRecDepth 20000 in
theorem gL_law_X8_wouldTake : GoodIn wsL_law (wsV RL 141 RX8 yX8_wouldTake wsX8_wouldTake) := goodIn_app (goodIn_of _ (by decide +kernel)) ggL_law_X8_wouldTake
theorem dL_law_424 : decode cL_law 424 = .ok (.ifCond .eq 5, 3) := by decide +kernel
theorem dL_law_427 : decode cL_law 427 = .ok (.iconst 0, 1) := by decide +kernel
theorem dL_law_428 : decode cL_law 428 = .ok (.ireturn, 1) := by decide +kernel
theorem dL_law_410 : decode cL_law 410 = .ok (.iconst 0, 1) := by decide +kernel
theorem dL_law_411 : decode cL_law 411 = .ok (.ireturn, 1) := by decide +kernel
theorem dL_law_369 : decode cL_law 369 = .ok (.iload 13, 2) := by decide +kernel
theorem dL_law_371 : decode cL_law 371 = .ok (.iconst 2, 1) := by decide +kernel
theorem dL_law_372 : decode cL_law 372 = .ok (.if_icmp .ge 5, 3) := by decide +kernel
theorem dL_law_347 : decode cL_law 347 = .ok (.iload 13, 2) := by decide +kernel
theorem dL_law_349 : decode cL_law 349 = .ok (.iconst 1, 1) := by decide +kernel
theorem dL_law_350 : decode cL_law 350 = .ok (.if_icmp .eq 9, 3) := by decide +kernel
theorem dL_law_353 : decode cL_law 353 = .ok (.iload 13, 2) := by decide +kernel
theorem dL_law_355 : decode cL_law 355 = .ok (.iconst 3, 1) := by decide +kernel
theorem dL_law_356 : decode cL_law 356 = .ok (.if_icmp .ne 19, 3) := by decide +kernel
theorem dL_law_279 : decode cL_law 279 = .ok (.iload 11, 2) := by decide +kernel
theorem dL_law_281 : decode cL_law 281 = .ok (.aload_n 1, 1) := by decide +kernel
theorem dL_law_282 : decode cL_law 282 = .ok (.iload 12, 2) := by decide +kernel
theorem dL_law_284 : decode cL_law 284 = .ok (.invokevirtual 125, 3) := by decide +kernel
theorem dL_law_287 : decode cL_law 287 = .ok (.iadd, 1) := by decide +kernel
theorem dL_law_288 : decode cL_law 288 = .ok (.istore 11, 2) := by decide +kernel
theorem dL_law_290 : decode cL_law 290 = .ok (.iinc 12 1, 3) := by decide +kernel
theorem dL_law_293 : decode cL_law 293 = .ok (.goto (-23), 3) := by decide +kernel
set_option maxHeartbeats 16000000 in
set_option maxRecDepth 100000 in
theorem law_events {p : Program} {l : Launch} {e : Env} {s : State} {m : MethodId} {below : List Frame} {meth : Method} {c : Code} {g : xG} {sb Ls : Nat} {xs : Nat → Int32} {Q : State → Prop} (hx : p.tables.exec = Jvm.exec) (hb : c.code = cL_law) (hml : c.maxLocals = 14) (hown : s.vm.findClass RL = some m.cls) (hts : ∀ w ∈ wsL_law, w.before #[Value.ref sb] s = true) (hX0 : va_X sb Ls xs s s.heap) (hL : Ls ≤ 260) (hbl : sb < s.heap.size) (hK : va_K (xD g) vwCl (xT g) s) (A : Nat → Prop) (hA : ∀ q : Nat, s.heap.size ≤ q → A q) (hbA : ¬ A sb) (Kend : ∀ (H : Heap) (locs : List Loc) (ls : Array Slot), va_S A s.heap H locs → W p l e room_1 s m #[Value.ref sb] below meth c H locs 200 3000 Q (F0 m 563 ls [.int 1])) (ad : Nat → Nat) (ga : Nat → Nat → Nat) (aQ : xQ_) (aV : xV_) (aC : xC_) (aP : xP_) (aG : xG_) (aY : xY_) (aN : (Nat → Nat)) (aW : xW_) (aK : xK_) (aS : xS_) (aT : xT_) (za : Nat) (ez : Nat → Nat) (hInv : xInv aV aC aP aG aY aN aW aK aS aT) (hn24 : 2 ≤ o_n aC ∧ o_n aC ≤ 24) (hsc : 1 ≤ o_sc aY ∧ o_sc aY ≤ 4) (hvc : o_vc aQ ≤ 6) (hct : o_cnt aG ≤ 48) (hG : yAg (o_n aC) (o_kf aG) (o_cnt aG)) (hsr : ∀ i j, i < j → j < o_cnt aG → o_kf aG i < o_kf aG j) (hwo0 : o_wo aY = 0) (hrs0 : o_rs aY = 0) (hI0 : yInv (o_n aC) (o_sc aY) (o_lim aY) (o_kf aG) (yWof aY) 0) (gz0 : ez 0 = (yRun (o_sc aY) (o_lim aY) (o_wt aY) (o_lv aY) (o_kf aG) (o_wo aY) (yWof aY) (o_cnt aG)).2) (gz1 : ez 1 = yCnt (yRun (o_sc aY) (o_lim aY) (o_wt aY) (o_lv aY) (o_kf aG) (o_wo aY) (yWof aY) (o_cnt aG)).1.2 3 24) (gz2 : ez 2 = yCnt (yRun (o_sc aY) (o_lim aY) (o_wt aY) (o_lv aY) (o_kf aG) (o_wo aY) (yWof aY) (o_cnt aG)).1.2 4 24) (gz3 : ez 3 = yCnt (yRun (o_sc aY) (o_lim aY) (o_wt aY) (o_lv aY) (o_kf aG) (o_wo aY) (yWof aY) (o_cnt aG)).1.2 1 24 + yCnt (yRun (o_sc aY) (o_lim aY) (o_wt aY) (o_lv aY) (o_kf aG) (o_wo aY) (yWof aY) (o_cnt aG)).1.2 4 24) {H : Heap} {locs : List Loc} {ls : Array Slot} (hP : va_P (xD g) vwCl (SW g ad ga (.int 1) (.int 1) aQ aV aC aP aG aY aN aW aK aS aT ++ [(za, .inl (xI g, 4, .inl (fun j => nI (ez j))))]) H) (hD : va_D A (SW g ad ga (.int 1) (.int 1) aQ aV aC aP aG aY aN aW aK aS aT ++ [(za, .inl (xI g, 4, .inl (fun j => nI (ez j))))])) (hS : va_S A s.heap H locs) (hl : lv_has ls 14 [(0, .ref sb), (1, .ref (ad 0)), (7, .ref za)]) : W p l e room_1 s m #[Value.ref sb] below meth c H locs 190 2900 Q (F0 m 195 ls []) := by
  have hX : xS sb Ls xs A s := ⟨hX0, hbl, hbA⟩
  refine lv_iconst (v := (-1)) hx hb dL_law_195 (by decide) ?_
  refine lv_istore (lv' := [(8, .int (-1)), (0, .ref sb), (1, .ref (ad 0)), (7, .ref za)]) hx hb dL_law_196 hl (by decide) rfl (fun ls hl => ?_)
  refine lv_iconst (v := 0) hx hb dL_law_198 (by decide) ?_
  refine lv_istore (lv' := [(9, .int 0), (8, .int (-1)), (0, .ref sb), (1, .ref (ad 0)), (7, .ref za)]) hx hb dL_law_199 hl (by decide) rfl (fun ls hl => ?_)
  have hloop201 : ∀ (n9 : Nat) (k : Nat) (z9 : Int) (aYe : xY_) (aNe : Nat → Nat) (H : Heap) (locs : List Loc) (ls : Array Slot), o_cnt aG - k < n9 → (k ≤ o_cnt aG) → ((k = 0 ∧ z9 = -1) ∨ (0 < k ∧ z9 = ((lVal (o_kf aG) (k - 1) : Nat) : Int))) → (xInv aV aC aP aG aYe aNe aW aK aS aT) → (o_wo aYe = k) → (o_sc aYe = o_sc aY ∧ o_lim aYe = o_lim aY ∧ o_wt aYe = o_wt aY ∧ o_lv aYe = o_lv aY) → (yWof aYe = yRun (o_sc aY) (o_lim aY) (o_wt aY) (o_lv aY) (o_kf aG) (o_wo aY) (yWof aY) k) → (yInv (o_n aC) (o_sc aY) (o_lim aY) (o_kf aG) (yWof aYe) k) → (o_rs aYe ≤ 5 * k) → va_P (xD g) vwCl (SW g ad ga (.int 1) (.int 1) aQ aV aC aP aG aYe aNe aW aK aS aT ++ [(za, .inl (xI g, 4, .inl (fun j => nI (ez j))))]) H → va_D A (SW g ad ga (.int 1) (.int 1) aQ aV aC aP aG aYe aNe aW aK aS aT ++ [(za, .inl (xI g, 4, .inl (fun j => nI (ez j))))]) → va_S A s.heap H locs → lv_has ls 14 [(9, .int (nI k)), (0, .ref sb), (1, .ref (ad 0)), (7, .ref za), (8, .int (iI z9))] → W p l e room_1 s m #[Value.ref sb] below meth c H locs 190 2900 Q (F0 m 201 ls []) := by
    intro n9
    induction n9 with
    | zero =>
      intro k z9 aYe aNe H locs ls hm hk hlast hInv hwo hsm hrun hI hrs hP hD hS hl
      exact absurd hm (Nat.not_lt_zero _)
    | succ n9 ih201 =>
      intro k z9 aYe aNe H locs ls hm hk hlast hInv hwo hsm hrun hI hrs hP hD hS hl
      have hkb := hInv.2.2.2.1.2 k
      have hkc : eK (o_kf aG) k < 4 ∧ eC (o_kf aG) k < 32 := ⟨Nat.mod_lt _ (by decide), Nat.mod_lt _ (by decide)⟩
      have hnow : k < o_cnt aG → z9 < ((400 * (o_kf aG k / 128) + 100 * eK (o_kf aG) k + eC (o_kf aG) k : Nat) : Int) := fun q => by rcases hlast with ⟨h1, h2⟩ | ⟨h1, h2⟩; (omega); (have y := lVal_lt (hsr (k - 1) k (by omega) q); have e : lVal (o_kf aG) k = 400 * (o_kf aG k / 128) + 100 * eK (o_kf aG) k + eC (o_kf aG) k := rfl; omega)
      refine lv_iload hx hb dL_law_201 (lv_at hl 0 rfl) ?_
      refine lv_aload_n hx hb dL_law_203 rfl (lv_at hl 2 rfl) ?_
      have hPc := xPl hP
      have hDc := xDl hD
      have hFc := xFree hS hA
      refine va_calli (va_runV (As := []) (rest := [.int (nI k)]) ⟨hx, hb, hml, hown, hts⟩ (L_events l g H.size ad ga (.int 1) (.int 1) aQ aV aC aP aG aYe aNe aW aK aS aT (show xInv aV aC aP aG aYe aNe aW aK aS aT from by first | assumption | omega)) (cwV 0 hts gL_law_X8_events rfl rfl rfl (by decide +kernel) ⟨Nat.le_of_ble_eq_true rfl, Nat.le_of_ble_eq_true rfl⟩) ⟨xB.blind, va_recv hK hPc (ci := 8) (q0 := 0) rfl rfl, fun U9 hU9 hW9 => ⟨rfl, xB.mk hPc hK hDc hU9 hW9⟩⟩ rfl rfl hl.1 rfl (lv_room (Nat.le_of_ble_eq_true rfl)) dL_law_204 ⟨Nat.le_of_ble_eq_true rfl, Nat.le_of_ble_eq_true rfl⟩) hS (fun q _ h => hFc q h) hFc (fun r_1 _ t H1 locs ht hvm hw_2 hB hz1 hk1 hS => ?_)
      have hP := xSame hP hk1
      generalize H1 = H at hP hS ⊢
      have hP : va_P (xD g) vwCl (SW g ad ga (.int 1) (.int 1) aQ aV aC aP aG aYe aNe aW aK aS aT ++ [(za, .inl (xI g, 4, .inl (fun j => nI (ez j))))]) H := hP
      have hD : va_D A (SW g ad ga (.int 1) (.int 1) aQ aV aC aP aG aYe aNe aW aK aS aT ++ [(za, .inl (xI g, 4, .inl (fun j => nI (ez j))))]) := hD
      try dsimp only at hw_2
      obtain rfl : r_1 = nI (o_cnt aG) := hw_2
      refine lv_icmp_ge (tgt := 435) hx hb dL_law_207 (by decide) (fun c_3 => ?_) (fun c_3 => ?_)
      · have nc_3 := (nI_leI (a := o_cnt aG) (b := k) (by omega) (by omega)).mp c_3
        have hke : k = o_cnt aG := by omega
        have hsa := hsm.1
        exact law_end hx hb hml hown hts hX0 hL hbl hK A hA hbA Kend ad ga aQ aV aC aP aG aYe aNe aW aK aS aT za ez hInv hn24 (show o_sc aYe ≤ 12 from by omega) hvc hct hG (by rw [hsm.1, hsm.2.1, ← hke]; exact hI) (by rw [gz0, ← hke, ← hrun]) (by rw [gz1, ← hke, ← hrun]) (by rw [gz2, ← hke, ← hrun]) (by rw [gz3, ← hke, ← hrun]) (by omega) hP hD hS (lv_sub hl [1, 2, 3] rfl)
      · have nc_3 := mt (nI_leI (a := o_cnt aG) (b := k) (by omega) (by omega)).mpr c_3
        refine lv_sipush (v := 400) hx hb dL_law_210 (by decide) ?_
        refine lv_aload_n hx hb dL_law_213 rfl (lv_at hl 2 rfl) ?_
        refine lv_iload hx hb dL_law_214 (lv_at hl 0 rfl) ?_
        have hPc := xPl hP
        have hDc := xDl hD
        have hFc := xFree hS hA
        refine va_calli (va_runV (As := [.int (nI k)]) (rest := [.int 400]) ⟨hx, hb, hml, hown, hts⟩ (L_timeOf l g H.size ad ga (.int 1) (.int 1) aQ aV aC aP aG aYe aNe aW aK aS aT k (show xInv aV aC aP aG aYe aNe aW aK aS aT from by first | assumption | omega) (show k < (o_cnt aG) from by first | assumption | omega) (show (o_cnt aG) ≤ 48 from by first | assumption | omega)) (cwV 1 hts gL_law_X8_timeOf rfl rfl rfl (by decide +kernel) ⟨Nat.le_of_ble_eq_true rfl, Nat.le_of_ble_eq_true rfl⟩) ⟨xB.blind, va_recv hK hPc (ci := 8) (q0 := 0) rfl rfl, fun U9 hU9 hW9 => ⟨rfl, xB.mk hPc hK hDc hU9 hW9⟩⟩ rfl rfl hl.1 rfl (lv_room (Nat.le_of_ble_eq_true rfl)) dL_law_216 ⟨Nat.le_of_ble_eq_true rfl, Nat.le_of_ble_eq_true rfl⟩) hS (fun q _ h => hFc q h) hFc (fun r_4 _ t H1 locs ht hvm hw_5 hB hz1 hk1 hS => ?_)
        have hP := xSame hP hk1
        generalize H1 = H at hP hS ⊢
        have hP : va_P (xD g) vwCl (SW g ad ga (.int 1) (.int 1) aQ aV aC aP aG aYe aNe aW aK aS aT ++ [(za, .inl (xI g, 4, .inl (fun j => nI (ez j))))]) H := hP
        have hD : va_D A (SW g ad ga (.int 1) (.int 1) aQ aV aC aP aG aYe aNe aW aK aS aT ++ [(za, .inl (xI g, 4, .inl (fun j => nI (ez j))))]) := hD
        try dsimp only at hw_5
        obtain rfl : r_4 = nI ((o_kf aG) k / 128) := hw_5
        refine lv_imul hx hb dL_law_219 ?_
        refine lv_topi (fun v_6 ev => ?_)
        obtain rfl : v_6 = nI (400 * ((o_kf aG) k / 128)) := ev.trans (pk_mul 400 ((o_kf aG) k / 128))
        refine lv_bipush (v := 100) hx hb dL_law_220 (by decide) ?_
        refine lv_aload_n hx hb dL_law_222 rfl (lv_at hl 2 rfl) ?_
        refine lv_iload hx hb dL_law_223 (lv_at hl 0 rfl) ?_
        have hPc := xPl hP
        have hDc := xDl hD
        have hFc := xFree hS hA
        refine va_calli (va_runV (As := [.int (nI k)]) (rest := [.int 100, .int (nI (400 * ((o_kf aG) k / 128)))]) ⟨hx, hb, hml, hown, hts⟩ (L_kindOf l g H.size ad ga (.int 1) (.int 1) aQ aV aC aP aG aYe aNe aW aK aS aT k (show xInv aV aC aP aG aYe aNe aW aK aS aT from by first | assumption | omega) (show k < (o_cnt aG) from by first | assumption | omega) (show (o_cnt aG) ≤ 48 from by first | assumption | omega)) (cwV 1 hts gL_law_X8_kindOf rfl rfl rfl (by decide +kernel) ⟨Nat.le_of_ble_eq_true rfl, Nat.le_of_ble_eq_true rfl⟩) ⟨xB.blind, va_recv hK hPc (ci := 8) (q0 := 0) rfl rfl, fun U9 hU9 hW9 => ⟨rfl, xB.mk hPc hK hDc hU9 hW9⟩⟩ rfl rfl hl.1 rfl (lv_room (Nat.le_of_ble_eq_true rfl)) dL_law_225 ⟨Nat.le_of_ble_eq_true rfl, Nat.le_of_ble_eq_true rfl⟩) hS (fun q _ h => hFc q h) hFc (fun r_7 _ t H1 locs ht hvm hw_8 hB hz1 hk1 hS => ?_)
        have hP := xSame hP hk1
        generalize H1 = H at hP hS ⊢
        have hP : va_P (xD g) vwCl (SW g ad ga (.int 1) (.int 1) aQ aV aC aP aG aYe aNe aW aK aS aT ++ [(za, .inl (xI g, 4, .inl (fun j => nI (ez j))))]) H := hP
        have hD : va_D A (SW g ad ga (.int 1) (.int 1) aQ aV aC aP aG aYe aNe aW aK aS aT ++ [(za, .inl (xI g, 4, .inl (fun j => nI (ez j))))]) := hD
        try dsimp only at hw_8
        obtain rfl : r_7 = nI (eK (o_kf aG) k) := hw_8
        refine lv_imul hx hb dL_law_228 ?_
        refine lv_topi (fun v_9 ev => ?_)
        obtain rfl : v_9 = nI (100 * (eK (o_kf aG) k)) := ev.trans (pk_mul 100 (eK (o_kf aG) k))
        refine lv_iadd hx hb dL_law_229 ?_
        refine lv_topi (fun v_10 ev => ?_)
        obtain rfl : v_10 = nI ((400 * ((o_kf aG) k / 128)) + (100 * (eK (o_kf aG) k))) := ev.trans (nI_add (400 * ((o_kf aG) k / 128)) (100 * (eK (o_kf aG) k)))
        refine lv_aload_n hx hb dL_law_230 rfl (lv_at hl 2 rfl) ?_
        refine lv_iload hx hb dL_law_231 (lv_at hl 0 rfl) ?_
        have hPc := xPl hP
        have hDc := xDl hD
        have hFc := xFree hS hA
        refine va_calli (va_runV (As := [.int (nI k)]) (rest := [.int (nI ((400 * ((o_kf aG) k / 128)) + (100 * (eK (o_kf aG) k))))]) ⟨hx, hb, hml, hown, hts⟩ (L_containerOf l g H.size ad ga (.int 1) (.int 1) aQ aV aC aP aG aYe aNe aW aK aS aT k (show xInv aV aC aP aG aYe aNe aW aK aS aT from by first | assumption | omega) (show k < (o_cnt aG) from by first | assumption | omega) (show (o_cnt aG) ≤ 48 from by first | assumption | omega)) (cwV 1 hts gL_law_X8_containerOf rfl rfl rfl (by decide +kernel) ⟨Nat.le_of_ble_eq_true rfl, Nat.le_of_ble_eq_true rfl⟩) ⟨xB.blind, va_recv hK hPc (ci := 8) (q0 := 0) rfl rfl, fun U9 hU9 hW9 => ⟨rfl, xB.mk hPc hK hDc hU9 hW9⟩⟩ rfl rfl hl.1 rfl (lv_room (Nat.le_of_ble_eq_true rfl)) dL_law_233 ⟨Nat.le_of_ble_eq_true rfl, Nat.le_of_ble_eq_true rfl⟩) hS (fun q _ h => hFc q h) hFc (fun r_11 _ t H1 locs ht hvm hw_12 hB hz1 hk1 hS => ?_)
        have hP := xSame hP hk1
        generalize H1 = H at hP hS ⊢
        have hP : va_P (xD g) vwCl (SW g ad ga (.int 1) (.int 1) aQ aV aC aP aG aYe aNe aW aK aS aT ++ [(za, .inl (xI g, 4, .inl (fun j => nI (ez j))))]) H := hP
        have hD : va_D A (SW g ad ga (.int 1) (.int 1) aQ aV aC aP aG aYe aNe aW aK aS aT ++ [(za, .inl (xI g, 4, .inl (fun j => nI (ez j))))]) := hD
        try dsimp only at hw_12
        obtain rfl : r_11 = nI (eC (o_kf aG) k) := hw_12
        refine lv_iadd hx hb dL_law_236 ?_
        refine lv_topi (fun v_13 ev => ?_)
        obtain rfl : v_13 = nI (((400 * ((o_kf aG) k / 128)) + (100 * (eK (o_kf aG) k))) + (eC (o_kf aG) k)) := ev.trans (nI_add ((400 * ((o_kf aG) k / 128)) + (100 * (eK (o_kf aG) k))) (eC (o_kf aG) k))
        refine lv_istore (lv' := [(10, .int (nI (((400 * ((o_kf aG) k / 128)) + (100 * (eK (o_kf aG) k))) + (eC (o_kf aG) k)))), (9, .int (nI k)), (0, .ref sb), (1, .ref (ad 0)), (7, .ref za), (8, .int (iI z9))]) hx hb dL_law_237 hl (by decide) rfl (fun ls hl => ?_)
        refine lv_iload hx hb dL_law_239 (lv_at hl 0 rfl) ?_
        refine lv_iload hx hb dL_law_241 (lv_at hl 5 rfl) ?_
        refine lv_icmp_le (tgt := 258) hx hb dL_law_243 (by decide) (fun c_14 => ?_) (fun c_14 => ?_)
        · have nc_14 := (iLe (a := ((((400 * ((o_kf aG) k / 128)) + (100 * (eK (o_kf aG) k))) + (eC (o_kf aG) k) : Nat) : Int)) (b := z9) (iI_nI _) rfl (by omega)).mp c_14
          refine lv_iconst (v := 0) hx hb dL_law_258 (by decide) ?_
          exfalso; omega
        · have nc_14 := mt (iLe (a := ((((400 * ((o_kf aG) k / 128)) + (100 * (eK (o_kf aG) k))) + (eC (o_kf aG) k) : Nat) : Int)) (b := z9) (iI_nI _) rfl (by omega)).mpr c_14
          have hInv0 := hInv
          have hIw : yInv (o_n aC) (o_sc aYe) (o_lim aYe) (o_kf aG) (yWof aYe) (o_wo aYe) := by rw [hsm.1, hsm.2.1, hwo]; exact hI
          refine lv_aload_n hx hb dL_law_246 rfl (lv_at hl 3 rfl) ?_
          refine lv_iconst (v := 1) hx hb dL_law_247 (by decide) ?_
          have hPc := xPl hP
          have hDc := xDl hD
          have hFc := xFl hD hS hA
          refine va_calli (va_runV (As := [.int 1]) (rest := []) ⟨hx, hb, hml, hown, hts⟩ (L_work l g H.size ad ga (.int 1) aQ aV aC aP aG aYe aNe aW aK aS aT 1 (o_n aC) (show xInv aV aC aP aG aYe aNe aW aK aS aT from by first | assumption | omega) (show (o_sc aYe) ≤ 12 from by first | assumption | omega) (show (o_n aC) ≤ 24 from by first | assumption | omega) (show (o_cnt aG) ≤ 48 from by first | assumption | omega) (show (o_wo aYe) ≤ (o_cnt aG) from by first | assumption | omega) (show 1 ≤ 1000000 from by first | assumption | omega) hG hIw) (cwV 1 hts gL_law_X8_work rfl rfl rfl (by decide +kernel) ⟨Nat.le_of_ble_eq_true rfl, Nat.le_of_ble_eq_true rfl⟩) ⟨xB.blind, va_recv hK hPc (ci := 8) (q0 := 0) rfl rfl, fun U9 hU9 hW9 => ⟨rfl, xB.mk hPc hK hDc hU9 hW9⟩⟩ rfl rfl hl.1 rfl (lv_room (Nat.le_of_ble_eq_true rfl)) dL_law_248 ⟨Nat.le_of_ble_eq_true rfl, Nat.le_of_ble_eq_true rfl⟩) hS (fun q _ h => hFc q h) hFc (fun r_15 u_17 t H1 locs ht hvm hw_16 hB hz1 hk1 hS => ?_)
          obtain ⟨aY2_18, aN2_19, hc_20, hP1, hK1, hD1⟩ := hB
          rw [ht] at hP1
          have hInv : xInv aV aC aP aG aY2_18 aN2_19 aW aK aS aT := hc_20.1
          have hrel : yWof aY2_18 = yRun (o_sc aYe) (o_lim aYe) (o_wt aYe) (o_lv aYe) (o_kf aG) (o_wo aYe) (yWof aYe) u_17 ∧ o_wo aY2_18 = o_wo aYe + u_17 ∧ (o_sc aY2_18 = o_sc aYe ∧ o_lim aY2_18 = o_lim aYe ∧ o_wt aY2_18 = o_wt aYe ∧ o_lv aY2_18 = o_lv aYe) ∧ u_17 ≤ 1 ∧ o_wo aYe + u_17 ≤ o_cnt aG ∧ (u_17 = 1 ∨ o_wo aYe + u_17 = o_cnt aG) ∧ yInv (o_n aC) (o_sc aYe) (o_lim aYe) (o_kf aG) (yRun (o_sc aYe) (o_lim aYe) (o_wt aYe) (o_lv aYe) (o_kf aG) (o_wo aYe) (yWof aYe) u_17) (o_wo aYe + u_17) := hc_20.2
          obtain ⟨hP, hD⟩ := xJl hP hD hk1 hFc hP1 hD1
          generalize H1 = H at hP hS ⊢
          have hP : va_P (xD g) vwCl (SW g ad ga (.int 1) (.int 1) aQ aV aC aP aG aY2_18 aN2_19 aW aK aS aT ++ [(za, .inl (xI g, 4, .inl (fun j => nI (ez j))))]) H := hP
          have hD : va_D A (SW g ad ga (.int 1) (.int 1) aQ aV aC aP aG aY2_18 aN2_19 aW aK aS aT ++ [(za, .inl (xI g, 4, .inl (fun j => nI (ez j))))]) := hD
          try dsimp only at hw_16
          obtain ⟨w1, w2, w3, w4, w5, w6, w7⟩ := hrel
          obtain rfl : u_17 = 1 := by omega
          obtain rfl : r_15 = nI (o_wo aYe + 1) := hw_16
          have hlm5 : ∀ x, o_lim aY x ≤ 5 := by rw [← hsm.2.1]; exact hInv0.2.2.2.2.1.1
          have hst := yStep_inv (wt := o_wt aY) (lv := o_lv aY) hG hlm5 (show k < o_cnt aG by omega) hI hInv0.2.2.2.2.1.2.2.2.2.2.1
          have e1 : yWof aY2_18 = yStep (o_sc aY) (o_lim aY) (o_wt aY) (o_lv aY) (o_kf aG) (yWof aYe) k := by rw [w1, hsm.1, hsm.2.1, hsm.2.2.1, hsm.2.2.2, hwo]; rfl
          have hI2 : yInv (o_n aC) (o_sc aY) (o_lim aY) (o_kf aG) (yWof aY2_18) (k + 1) := by rw [e1]; exact hst.1
          have hDid : yDid (o_sc aY) (o_kf aG) (yWof aY2_18) k := by rw [e1]; exact hst.2.1
          have hrs2 : o_rs aY2_18 ≤ 5 * (k + 1) := by have z1 := hst.2.2.2; rw [← e1] at z1; have z2 : (yWof aY2_18).2 = o_rs aY2_18 := rfl; have z3 : (yWof aYe).2 = o_rs aYe := rfl; omega
          have hrun2 : yWof aY2_18 = yRun (o_sc aY) (o_lim aY) (o_wt aY) (o_lv aY) (o_kf aG) (o_wo aY) (yWof aY) (k + 1) := by rw [e1, hrun]; simp only [yRun]; rw [hwo0, Nat.zero_add]
          have hs2 : o_sc aY2_18 = o_sc aY ∧ o_lim aY2_18 = o_lim aY ∧ o_wt aY2_18 = o_wt aY ∧ o_lv aY2_18 = o_lv aY := ⟨w3.1.trans hsm.1, w3.2.1.trans hsm.2.1, w3.2.2.1.trans hsm.2.2.1, w3.2.2.2.trans hsm.2.2.2⟩
          have hsc2 := hs2.1
          clear w1 w3 w7
          have hcn : eC (o_kf aG) k < o_n aC := hG.1 k (by omega)
          have hd1 : ¬ eK (o_kf aG) k < 2 ∨ o_stt aY2_18 (eC (o_kf aG) k) = 1 ∨ o_stt aY2_18 (eC (o_kf aG) k) = 3 := by rcases Nat.lt_or_ge (eK (o_kf aG) k) 2 with q | q; (exact Or.inr (hDid.1 q)); (exact Or.inl (by omega))
          have hd2 : eK (o_kf aG) k < 2 ∨ 2 ≤ o_stt aY2_18 (eC (o_kf aG) k) := by rcases Nat.lt_or_ge (eK (o_kf aG) k) 2 with q | q; (exact Or.inl q); (exact Or.inr (hDid.2.1 q))
          have hsb := hInv.2.2.2.2.1.2.2.2.2.2.1 (eC (o_kf aG) k)
          refine lv_iload hx hb dL_law_251 (lv_at hl 1 rfl) ?_
          refine lv_iconst (v := 1) hx hb dL_law_253 (by decide) ?_
          refine lv_iadd hx hb dL_law_254 ?_
          refine lv_topi (fun v_21 ev => ?_)
          obtain rfl : v_21 = nI (k + 1) := ev.trans (nI_add k 1)
          refine lv_icmp_eq (tgt := 260) hx hb dL_law_255 (by decide) (fun c_22 => ?_) (fun c_22 => ?_)
          · have nc_22 := (nI_eq (a := o_wo aYe + 1) (b := k + 1) (by omega) (by omega)).mp c_22
            refine lv_iload hx hb dL_law_260 (lv_at hl 0 rfl) ?_
            refine lv_istore (lv' := [(8, .int (nI (((400 * ((o_kf aG) k / 128)) + (100 * (eK (o_kf aG) k))) + (eC (o_kf aG) k)))), (10, .int (nI (((400 * ((o_kf aG) k / 128)) + (100 * (eK (o_kf aG) k))) + (eC (o_kf aG) k)))), (9, .int (nI k)), (0, .ref sb), (1, .ref (ad 0)), (7, .ref za)]) hx hb dL_law_262 hl (by decide) rfl (fun ls hl => ?_)
            refine lv_iconst (v := 0) hx hb dL_law_264 (by decide) ?_
            refine lv_istore (lv' := [(11, .int 0), (8, .int (nI (((400 * ((o_kf aG) k / 128)) + (100 * (eK (o_kf aG) k))) + (eC (o_kf aG) k)))), (10, .int (nI (((400 * ((o_kf aG) k / 128)) + (100 * (eK (o_kf aG) k))) + (eC (o_kf aG) k)))), (9, .int (nI k)), (0, .ref sb), (1, .ref (ad 0)), (7, .ref za)]) hx hb dL_law_265 hl (by decide) rfl (fun ls hl => ?_)
            refine lv_iconst (v := 0) hx hb dL_law_267 (by decide) ?_
            refine lv_istore (lv' := [(12, .int 0), (11, .int 0), (8, .int (nI (((400 * ((o_kf aG) k / 128)) + (100 * (eK (o_kf aG) k))) + (eC (o_kf aG) k)))), (10, .int (nI (((400 * ((o_kf aG) k / 128)) + (100 * (eK (o_kf aG) k))) + (eC (o_kf aG) k)))), (9, .int (nI k)), (0, .ref sb), (1, .ref (ad 0)), (7, .ref za)]) hx hb dL_law_268 hl (by decide) rfl (fun ls hl => ?_)
            have hloop270 : ∀ (n9 : Nat) (tt9 : Nat) (z2 : Int) (H : Heap) (locs : List Loc) (ls : Array Slot), o_sc aY - tt9 < n9 → (tt9 ≤ o_sc aY) → (z2 = ySum (yWof aY2_18).1.1 tt9) → (0 ≤ z2 ∧ z2 ≤ 5 * ((tt9 : Nat) : Int)) → va_P (xD g) vwCl (SW g ad ga (.int 1) (.int 1) aQ aV aC aP aG aY2_18 aN2_19 aW aK aS aT ++ [(za, .inl (xI g, 4, .inl (fun j => nI (ez j))))]) H → va_D A (SW g ad ga (.int 1) (.int 1) aQ aV aC aP aG aY2_18 aN2_19 aW aK aS aT ++ [(za, .inl (xI g, 4, .inl (fun j => nI (ez j))))]) → va_S A s.heap H locs → lv_has ls 14 [(12, .int (nI tt9)), (0, .ref sb), (1, .ref (ad 0)), (7, .ref za), (8, .int (nI (((400 * ((o_kf aG) k / 128)) + (100 * (eK (o_kf aG) k))) + (eC (o_kf aG) k)))), (9, .int (nI k)), (11, .int (iI z2))] → W p l e room_1 s m #[Value.ref sb] below meth c H locs 190 2900 Q (F0 m 270 ls []) := by
              intro n9
              induction n9 with
              | zero =>
                intro tt9 z2 H locs ls hm ht9 hzz hzb hP hD hS hl
                exact absurd hm (Nat.not_lt_zero _)
              | succ n9 ih270 =>
                intro tt9 z2 H locs ls hm ht9 hzz hzb hP hD hS hl
                have hhb := hInv.2.2.2.2.1.2.1 tt9
                refine lv_iload hx hb dL_law_270 (lv_at hl 0 rfl) ?_
                refine lv_aload_n hx hb dL_law_272 rfl (lv_at hl 2 rfl) ?_
                have hPc := xPl hP
                have hDc := xDl hD
                have hFc := xFree hS hA
                refine va_calli (va_runV (As := []) (rest := [.int (nI tt9)]) ⟨hx, hb, hml, hown, hts⟩ (L_stacks l g H.size ad ga (.int 1) (.int 1) aQ aV aC aP aG aY2_18 aN2_19 aW aK aS aT (show xInv aV aC aP aG aY2_18 aN2_19 aW aK aS aT from by first | assumption | omega)) (cwV 0 hts gL_law_X8_stacks rfl rfl rfl (by decide +kernel) ⟨Nat.le_of_ble_eq_true rfl, Nat.le_of_ble_eq_true rfl⟩) ⟨xB.blind, va_recv hK hPc (ci := 8) (q0 := 0) rfl rfl, fun U9 hU9 hW9 => ⟨rfl, xB.mk hPc hK hDc hU9 hW9⟩⟩ rfl rfl hl.1 rfl (lv_room (Nat.le_of_ble_eq_true rfl)) dL_law_273 ⟨Nat.le_of_ble_eq_true rfl, Nat.le_of_ble_eq_true rfl⟩) hS (fun q _ h => hFc q h) hFc (fun r_23 _ t H1 locs ht hvm hw_24 hB hz1 hk1 hS => ?_)
                have hP := xSame hP hk1
                generalize H1 = H at hP hS ⊢
                have hP : va_P (xD g) vwCl (SW g ad ga (.int 1) (.int 1) aQ aV aC aP aG aY2_18 aN2_19 aW aK aS aT ++ [(za, .inl (xI g, 4, .inl (fun j => nI (ez j))))]) H := hP
                have hD : va_D A (SW g ad ga (.int 1) (.int 1) aQ aV aC aP aG aY2_18 aN2_19 aW aK aS aT ++ [(za, .inl (xI g, 4, .inl (fun j => nI (ez j))))]) := hD
                try dsimp only at hw_24
                obtain rfl : r_23 = nI (o_sc aY2_18) := hw_24
                refine lv_icmp_ge (tgt := 296) hx hb dL_law_276 (by decide) (fun c_25 => ?_) (fun c_25 => ?_)
                · have nc_25 := (nI_leI (a := o_sc aY2_18) (b := tt9) (by omega) (by omega)).mp c_25
                  have hte : tt9 = o_sc aY := by omega
                  have hz2e : z2 = ((yCnt (o_stt aY2_18) 1 (o_n aC) : Nat) : Int) + ((yCnt (o_stt aY2_18) 4 (o_n aC) : Nat) : Int) := by rw [hzz, hte]; exact hI2.2.1
                  have hyb : ((yBl (o_lv aY2_18) (o_hgt aY2_18) (o_sd aY2_18) (o_sc aY2_18) : Nat) : Int) ≤ z2 := by rw [hzz, hte, ← hsc2]; exact yBl_le _
                  have hy1 := yCnt_le (stt := o_stt aY2_18) (w := 1) (o_n aC)
                  have hy4 := yCnt_le (stt := o_stt aY2_18) (w := 4) (o_n aC)
                  refine lv_aload_n hx hb dL_law_296 rfl (lv_at hl 2 rfl) ?_
                  refine lv_iload hx hb dL_law_297 (lv_at hl 5 rfl) ?_
                  have hPc := xPl hP
                  have hDc := xDl hD
                  have hFc := xFree hS hA
                  refine va_calli (va_runV (As := [.int (nI k)]) (rest := []) ⟨hx, hb, hml, hown, hts⟩ (L_containerOf l g H.size ad ga (.int 1) (.int 1) aQ aV aC aP aG aY2_18 aN2_19 aW aK aS aT k (show xInv aV aC aP aG aY2_18 aN2_19 aW aK aS aT from by first | assumption | omega) (show k < (o_cnt aG) from by first | assumption | omega) (show (o_cnt aG) ≤ 48 from by first | assumption | omega)) (cwV 1 hts gL_law_X8_containerOf rfl rfl rfl (by decide +kernel) ⟨Nat.le_of_ble_eq_true rfl, Nat.le_of_ble_eq_true rfl⟩) ⟨xB.blind, va_recv hK hPc (ci := 8) (q0 := 0) rfl rfl, fun U9 hU9 hW9 => ⟨rfl, xB.mk hPc hK hDc hU9 hW9⟩⟩ rfl rfl hl.1 rfl (lv_room (Nat.le_of_ble_eq_true rfl)) dL_law_299 ⟨Nat.le_of_ble_eq_true rfl, Nat.le_of_ble_eq_true rfl⟩) hS (fun q _ h => hFc q h) hFc (fun r_26 _ t H1 locs ht hvm hw_27 hB hz1 hk1 hS => ?_)
                  have hP := xSame hP hk1
                  generalize H1 = H at hP hS ⊢
                  have hP : va_P (xD g) vwCl (SW g ad ga (.int 1) (.int 1) aQ aV aC aP aG aY2_18 aN2_19 aW aK aS aT ++ [(za, .inl (xI g, 4, .inl (fun j => nI (ez j))))]) H := hP
                  have hD : va_D A (SW g ad ga (.int 1) (.int 1) aQ aV aC aP aG aY2_18 aN2_19 aW aK aS aT ++ [(za, .inl (xI g, 4, .inl (fun j => nI (ez j))))]) := hD
                  try dsimp only at hw_27
                  obtain rfl : r_26 = nI (eC (o_kf aG) k) := hw_27
                  refine lv_istore (lv' := [(12, .int (nI (eC (o_kf aG) k))), (0, .ref sb), (1, .ref (ad 0)), (7, .ref za), (8, .int (nI (((400 * ((o_kf aG) k / 128)) + (100 * (eK (o_kf aG) k))) + (eC (o_kf aG) k)))), (9, .int (nI k)), (11, .int (iI z2))]) hx hb dL_law_302 hl (by decide) rfl (fun ls hl => ?_)
                  refine lv_aload_n hx hb dL_law_304 rfl (lv_at hl 2 rfl) ?_
                  refine lv_iload hx hb dL_law_305 (lv_at hl 0 rfl) ?_
                  have hPc := xPl hP
                  have hDc := xDl hD
                  have hFc := xFree hS hA
                  refine va_calli (va_runV (As := [.int (nI (eC (o_kf aG) k))]) (rest := []) ⟨hx, hb, hml, hown, hts⟩ (L_stateOf l g H.size ad ga (.int 1) (.int 1) aQ aV aC aP aG aY2_18 aN2_19 aW aK aS aT (eC (o_kf aG) k) (show xInv aV aC aP aG aY2_18 aN2_19 aW aK aS aT from by first | assumption | omega) (show (eC (o_kf aG) k) < (o_n aC) from by first | assumption | omega) (show (o_n aC) ≤ 24 from by first | assumption | omega)) (cwV 1 hts gL_law_X8_stateOf rfl rfl rfl (by decide +kernel) ⟨Nat.le_of_ble_eq_true rfl, Nat.le_of_ble_eq_true rfl⟩) ⟨xB.blind, va_recv hK hPc (ci := 8) (q0 := 0) rfl rfl, fun U9 hU9 hW9 => ⟨rfl, xB.mk hPc hK hDc hU9 hW9⟩⟩ rfl rfl hl.1 rfl (lv_room (Nat.le_of_ble_eq_true rfl)) dL_law_307 ⟨Nat.le_of_ble_eq_true rfl, Nat.le_of_ble_eq_true rfl⟩) hS (fun q _ h => hFc q h) hFc (fun r_28 _ t H1 locs ht hvm hw_29 hB hz1 hk1 hS => ?_)
                  have hP := xSame hP hk1
                  generalize H1 = H at hP hS ⊢
                  have hP : va_P (xD g) vwCl (SW g ad ga (.int 1) (.int 1) aQ aV aC aP aG aY2_18 aN2_19 aW aK aS aT ++ [(za, .inl (xI g, 4, .inl (fun j => nI (ez j))))]) H := hP
                  have hD : va_D A (SW g ad ga (.int 1) (.int 1) aQ aV aC aP aG aY2_18 aN2_19 aW aK aS aT ++ [(za, .inl (xI g, 4, .inl (fun j => nI (ez j))))]) := hD
                  try dsimp only at hw_29
                  obtain rfl : r_28 = iI ((o_stt aY2_18) (eC (o_kf aG) k)) := hw_29
                  refine lv_istore (lv' := [(13, .int (iI ((o_stt aY2_18) (eC (o_kf aG) k)))), (12, .int (nI (eC (o_kf aG) k))), (0, .ref sb), (1, .ref (ad 0)), (7, .ref za), (8, .int (nI (((400 * ((o_kf aG) k / 128)) + (100 * (eK (o_kf aG) k))) + (eC (o_kf aG) k)))), (9, .int (nI k)), (11, .int (iI z2))]) hx hb dL_law_310 hl (by decide) rfl (fun ls hl => ?_)
                  refine lv_iload hx hb dL_law_312 (lv_at hl 7 rfl) ?_
                  refine lv_aload_n hx hb dL_law_314 rfl (lv_at hl 3 rfl) ?_
                  refine lv_iconst (v := 1) hx hb dL_law_315 (by decide) ?_
                  have hPc := xPl hP
                  have hDc := xDl hD
                  have hFc := xFree hS hA
                  refine va_calli (va_runS (As := [.ref (ad 0), .int 1]) (rest := [.int (iI z2)]) ⟨hx, hb, hml, hown, hts⟩ (l_inYard l g H.size ad ga (.int 1) (.int 1) aQ aV aC aP aG aY2_18 aN2_19 aW aK aS aT 1 (show xInv aV aC aP aG aY2_18 aN2_19 aW aK aS aT from by first | assumption | omega) (show o_n aC ≤ 24 from by first | assumption | omega) (show 0 ≤ 1 ∧ 1 ≤ 4 from by first | assumption | omega)) (va_cwS 2 hts gL_law_L_inYard rfl rfl rfl (by decide +kernel) ⟨Nat.le_of_ble_eq_true rfl, Nat.le_of_ble_eq_true rfl⟩) ⟨xB.blind, fun U9 hU9 hW9 => ⟨rfl, xB.mk hPc hK hDc hU9 hW9⟩⟩ rfl rfl hl.1 rfl (lv_room (Nat.le_of_ble_eq_true rfl)) dL_law_316 ⟨Nat.le_of_ble_eq_true rfl, Nat.le_of_ble_eq_true rfl⟩) hS (fun q _ h => hFc q h) hFc (fun r_30 _ t H1 locs ht hvm hw_31 hB hz1 hk1 hS => ?_)
                  have hP := xSame hP hk1
                  generalize H1 = H at hP hS ⊢
                  have hP : va_P (xD g) vwCl (SW g ad ga (.int 1) (.int 1) aQ aV aC aP aG aY2_18 aN2_19 aW aK aS aT ++ [(za, .inl (xI g, 4, .inl (fun j => nI (ez j))))]) H := hP
                  have hD : va_D A (SW g ad ga (.int 1) (.int 1) aQ aV aC aP aG aY2_18 aN2_19 aW aK aS aT ++ [(za, .inl (xI g, 4, .inl (fun j => nI (ez j))))]) := hD
                  try dsimp only at hw_31
                  obtain rfl : r_30 = nI (yCnt (o_stt aY2_18) 1 (o_n aC)) := hw_31
                  refine lv_aload_n hx hb dL_law_319 rfl (lv_at hl 3 rfl) ?_
                  refine lv_iconst (v := 4) hx hb dL_law_320 (by decide) ?_
                  have hPc := xPl hP
                  have hDc := xDl hD
                  have hFc := xFree hS hA
                  refine va_calli (va_runS (As := [.ref (ad 0), .int 4]) (rest := [.int (nI (yCnt (o_stt aY2_18) 1 (o_n aC))), .int (iI z2)]) ⟨hx, hb, hml, hown, hts⟩ (l_inYard l g H.size ad ga (.int 1) (.int 1) aQ aV aC aP aG aY2_18 aN2_19 aW aK aS aT 4 (show xInv aV aC aP aG aY2_18 aN2_19 aW aK aS aT from by first | assumption | omega) (show o_n aC ≤ 24 from by first | assumption | omega) (show 0 ≤ 4 ∧ 4 ≤ 4 from by first | assumption | omega)) (va_cwS 2 hts gL_law_L_inYard rfl rfl rfl (by decide +kernel) ⟨Nat.le_of_ble_eq_true rfl, Nat.le_of_ble_eq_true rfl⟩) ⟨xB.blind, fun U9 hU9 hW9 => ⟨rfl, xB.mk hPc hK hDc hU9 hW9⟩⟩ rfl rfl hl.1 rfl (lv_room (Nat.le_of_ble_eq_true rfl)) dL_law_321 ⟨Nat.le_of_ble_eq_true rfl, Nat.le_of_ble_eq_true rfl⟩) hS (fun q _ h => hFc q h) hFc (fun r_32 _ t H1 locs ht hvm hw_33 hB hz1 hk1 hS => ?_)
                  have hP := xSame hP hk1
                  generalize H1 = H at hP hS ⊢
                  have hP : va_P (xD g) vwCl (SW g ad ga (.int 1) (.int 1) aQ aV aC aP aG aY2_18 aN2_19 aW aK aS aT ++ [(za, .inl (xI g, 4, .inl (fun j => nI (ez j))))]) H := hP
                  have hD : va_D A (SW g ad ga (.int 1) (.int 1) aQ aV aC aP aG aY2_18 aN2_19 aW aK aS aT ++ [(za, .inl (xI g, 4, .inl (fun j => nI (ez j))))]) := hD
                  try dsimp only at hw_33
                  obtain rfl : r_32 = nI (yCnt (o_stt aY2_18) 4 (o_n aC)) := hw_33
                  refine lv_iadd hx hb dL_law_324 ?_
                  refine lv_topi (fun v_34 ev => ?_)
                  obtain rfl : v_34 = nI ((yCnt (o_stt aY2_18) 1 (o_n aC)) + (yCnt (o_stt aY2_18) 4 (o_n aC))) := ev.trans (nI_add (yCnt (o_stt aY2_18) 1 (o_n aC)) (yCnt (o_stt aY2_18) 4 (o_n aC)))
                  refine lv_icmp_ne (tgt := 375) hx hb dL_law_325 (by decide) (fun c_35 => ?_) (fun c_35 => ?_)
                  · have nc_35 := mt (iEq (a := z2) (b := (((yCnt (o_stt aY2_18) 1 (o_n aC)) + (yCnt (o_stt aY2_18) 4 (o_n aC)) : Nat) : Int)) rfl (iI_nI _) (by omega)).mpr c_35
                    refine lv_iconst (v := 0) hx hb dL_law_375 (by decide) ?_
                    exfalso; omega
                  · have nc_35 := (iEq (a := z2) (b := (((yCnt (o_stt aY2_18) 1 (o_n aC)) + (yCnt (o_stt aY2_18) 4 (o_n aC)) : Nat) : Int)) rfl (iI_nI _) (by omega)).mp c_35
                    refine lv_aload_n hx hb dL_law_328 rfl (lv_at hl 3 rfl) ?_
                    have hPc := xPl hP
                    have hDc := xDl hD
                    have hFc := xFree hS hA
                    refine va_calli (va_runV (As := []) (rest := []) ⟨hx, hb, hml, hown, hts⟩ (L_blocking l g H.size ad ga (.int 1) (.int 1) aQ aV aC aP aG aY2_18 aN2_19 aW aK aS aT (show xInv aV aC aP aG aY2_18 aN2_19 aW aK aS aT from by first | assumption | omega) (show (o_sc aY2_18) ≤ 12 from by first | assumption | omega)) (cwV 0 hts gL_law_X8_blocking rfl rfl rfl (by decide +kernel) ⟨Nat.le_of_ble_eq_true rfl, Nat.le_of_ble_eq_true rfl⟩) ⟨xB.blind, va_recv hK hPc (ci := 8) (q0 := 0) rfl rfl, fun U9 hU9 hW9 => ⟨rfl, xB.mk hPc hK hDc hU9 hW9⟩⟩ rfl rfl hl.1 rfl (lv_room (Nat.le_of_ble_eq_true rfl)) dL_law_329 ⟨Nat.le_of_ble_eq_true rfl, Nat.le_of_ble_eq_true rfl⟩) hS (fun q _ h => hFc q h) hFc (fun r_36 _ t H1 locs ht hvm hw_37 hB hz1 hk1 hS => ?_)
                    have hP := xSame hP hk1
                    generalize H1 = H at hP hS ⊢
                    have hP : va_P (xD g) vwCl (SW g ad ga (.int 1) (.int 1) aQ aV aC aP aG aY2_18 aN2_19 aW aK aS aT ++ [(za, .inl (xI g, 4, .inl (fun j => nI (ez j))))]) H := hP
                    have hD : va_D A (SW g ad ga (.int 1) (.int 1) aQ aV aC aP aG aY2_18 aN2_19 aW aK aS aT ++ [(za, .inl (xI g, 4, .inl (fun j => nI (ez j))))]) := hD
                    try dsimp only at hw_37
                    obtain rfl : r_36 = nI (yBl (o_lv aY2_18) (o_hgt aY2_18) (o_sd aY2_18) (o_sc aY2_18)) := hw_37
                    refine lv_iload hx hb dL_law_332 (lv_at hl 7 rfl) ?_
                    refine lv_icmp_gt (tgt := 375) hx hb dL_law_334 (by decide) (fun c_38 => ?_) (fun c_38 => ?_)
                    · have nc_38 := (iLt (a := z2) (b := ((yBl (o_lv aY2_18) (o_hgt aY2_18) (o_sd aY2_18) (o_sc aY2_18) : Nat) : Int)) rfl (iI_nI _) (by omega)).mp c_38
                      refine lv_iconst (v := 0) hx hb dL_law_375 (by decide) ?_
                      exfalso; omega
                    · have nc_38 := mt (iLt (a := z2) (b := ((yBl (o_lv aY2_18) (o_hgt aY2_18) (o_sd aY2_18) (o_sc aY2_18) : Nat) : Int)) rfl (iI_nI _) (by omega)).mpr c_38
                      refine lv_aload_n hx hb dL_law_337 rfl (lv_at hl 3 rfl) ?_
                      refine lv_iload hx hb dL_law_338 (lv_at hl 6 rfl) ?_
                      have hPc := xPl hP
                      have hDc := xDl hD
                      have hFc := xFree hS hA
                      refine va_calli (va_runV (As := [.int (nI k)]) (rest := []) ⟨hx, hb, hml, hown, hts⟩ (L_kindOf l g H.size ad ga (.int 1) (.int 1) aQ aV aC aP aG aY2_18 aN2_19 aW aK aS aT k (show xInv aV aC aP aG aY2_18 aN2_19 aW aK aS aT from by first | assumption | omega) (show k < (o_cnt aG) from by first | assumption | omega) (show (o_cnt aG) ≤ 48 from by first | assumption | omega)) (cwV 1 hts gL_law_X8_kindOf rfl rfl rfl (by decide +kernel) ⟨Nat.le_of_ble_eq_true rfl, Nat.le_of_ble_eq_true rfl⟩) ⟨xB.blind, va_recv hK hPc (ci := 8) (q0 := 0) rfl rfl, fun U9 hU9 hW9 => ⟨rfl, xB.mk hPc hK hDc hU9 hW9⟩⟩ rfl rfl hl.1 rfl (lv_room (Nat.le_of_ble_eq_true rfl)) dL_law_340 ⟨Nat.le_of_ble_eq_true rfl, Nat.le_of_ble_eq_true rfl⟩) hS (fun q _ h => hFc q h) hFc (fun r_39 _ t H1 locs ht hvm hw_40 hB hz1 hk1 hS => ?_)
                      have hP := xSame hP hk1
                      generalize H1 = H at hP hS ⊢
                      have hP : va_P (xD g) vwCl (SW g ad ga (.int 1) (.int 1) aQ aV aC aP aG aY2_18 aN2_19 aW aK aS aT ++ [(za, .inl (xI g, 4, .inl (fun j => nI (ez j))))]) H := hP
                      have hD : va_D A (SW g ad ga (.int 1) (.int 1) aQ aV aC aP aG aY2_18 aN2_19 aW aK aS aT ++ [(za, .inl (xI g, 4, .inl (fun j => nI (ez j))))]) := hD
                      try dsimp only at hw_40
                      obtain rfl : r_39 = nI (eK (o_kf aG) k) := hw_40
                      refine lv_iconst (v := 2) hx hb dL_law_343 (by decide) ?_
                      refine lv_icmp_ge (tgt := 359) hx hb dL_law_344 (by decide) (fun c_41 => ?_) (fun c_41 => ?_)
                      · have nc_41 := (nI_leI (a := 2) (b := eK (o_kf aG) k) (by omega) (by omega)).mp c_41
                        refine lv_aload_n hx hb dL_law_359 rfl (lv_at hl 3 rfl) ?_
                        refine lv_iload hx hb dL_law_360 (lv_at hl 6 rfl) ?_
                        have hPc := xPl hP
                        have hDc := xDl hD
                        have hFc := xFree hS hA
                        refine va_calli (va_runV (As := [.int (nI k)]) (rest := []) ⟨hx, hb, hml, hown, hts⟩ (L_kindOf l g H.size ad ga (.int 1) (.int 1) aQ aV aC aP aG aY2_18 aN2_19 aW aK aS aT k (show xInv aV aC aP aG aY2_18 aN2_19 aW aK aS aT from by first | assumption | omega) (show k < (o_cnt aG) from by first | assumption | omega) (show (o_cnt aG) ≤ 48 from by first | assumption | omega)) (cwV 1 hts gL_law_X8_kindOf rfl rfl rfl (by decide +kernel) ⟨Nat.le_of_ble_eq_true rfl, Nat.le_of_ble_eq_true rfl⟩) ⟨xB.blind, va_recv hK hPc (ci := 8) (q0 := 0) rfl rfl, fun U9 hU9 hW9 => ⟨rfl, xB.mk hPc hK hDc hU9 hW9⟩⟩ rfl rfl hl.1 rfl (lv_room (Nat.le_of_ble_eq_true rfl)) dL_law_362 ⟨Nat.le_of_ble_eq_true rfl, Nat.le_of_ble_eq_true rfl⟩) hS (fun q _ h => hFc q h) hFc (fun r_42 _ t H1 locs ht hvm hw_43 hB hz1 hk1 hS => ?_)
                        have hP := xSame hP hk1
                        generalize H1 = H at hP hS ⊢
                        have hP : va_P (xD g) vwCl (SW g ad ga (.int 1) (.int 1) aQ aV aC aP aG aY2_18 aN2_19 aW aK aS aT ++ [(za, .inl (xI g, 4, .inl (fun j => nI (ez j))))]) H := hP
                        have hD : va_D A (SW g ad ga (.int 1) (.int 1) aQ aV aC aP aG aY2_18 aN2_19 aW aK aS aT ++ [(za, .inl (xI g, 4, .inl (fun j => nI (ez j))))]) := hD
                        try dsimp only at hw_43
                        obtain rfl : r_42 = nI (eK (o_kf aG) k) := hw_43
                        refine lv_iconst (v := 1) hx hb dL_law_365 (by decide) ?_
                        refine lv_icmp_le (tgt := 377) hx hb dL_law_366 (by decide) (fun c_44 => ?_) (fun c_44 => ?_)
                        · have nc_44 := (nI_leI (a := eK (o_kf aG) k) (b := 1) (by omega) (by omega)).mp c_44
                          refine lv_iload hx hb dL_law_377 (lv_at hl 0 rfl) ?_
                          refine lv_iconst (v := 1) hx hb dL_law_379 (by decide) ?_
                          refine lv_icmp_ne (tgt := 412) hx hb dL_law_380 (by decide) (fun c_45 => ?_) (fun c_45 => ?_)
                          · have nc_45 := mt (iEq (a := (o_stt aY2_18) (eC (o_kf aG) k)) (b := 1) rfl (by decide) (by omega)).mpr c_45
                            refine lv_iload hx hb dL_law_412 (lv_at hl 0 rfl) ?_
                            refine lv_iconst (v := 1) hx hb dL_law_414 (by decide) ?_
                            refine lv_icmp_ne (tgt := 429) hx hb dL_law_415 (by decide) (fun c_46 => ?_) (fun c_46 => ?_)
                            · have nc_46 := mt (iEq (a := (o_stt aY2_18) (eC (o_kf aG) k)) (b := 1) rfl (by decide) (by omega)).mpr c_46
                              refine lv_iinc (v := nI (k + 1)) (lv' := [(9, .int (nI (k + 1))), (13, .int (iI ((o_stt aY2_18) (eC (o_kf aG) k)))), (12, .int (nI (eC (o_kf aG) k))), (0, .ref sb), (1, .ref (ad 0)), (7, .ref za), (8, .int (nI (((400 * ((o_kf aG) k / 128)) + (100 * (eK (o_kf aG) k))) + (eC (o_kf aG) k)))), (11, .int (iI z2))]) hx hb dL_law_429 hl (k := 6) rfl (nI_add k 1) (by decide) rfl (fun ls hl => ?_)
                              refine lv_goto (tgt := 201) hx hb dL_law_432 (by decide) ?_
                              exact ih201 (k + 1) ((400 * (o_kf aG k / 128) + 100 * eK (o_kf aG) k + eC (o_kf aG) k : Nat) : Int) aY2_18 aN2_19 _ _ _ (by omega) (by omega) (Or.inr ⟨by omega, rfl⟩) hInv (by omega) hs2 hrun2 hI2 (by omega) hP hD hS (by rw [(show iI ((400 * (o_kf aG k / 128) + 100 * eK (o_kf aG) k + eC (o_kf aG) k : Nat) : Int) = nI (((400 * ((o_kf aG) k / 128)) + (100 * (eK (o_kf aG) k))) + (eC (o_kf aG) k)) from (iI_nI _).symm)]; exact lv_sub hl [0, 3, 4, 5, 6] rfl)
                            · have nc_46 := (iEq (a := (o_stt aY2_18) (eC (o_kf aG) k)) (b := 1) rfl (by decide) (by omega)).mp c_46
                              exfalso; omega
                          · have nc_45 := (iEq (a := (o_stt aY2_18) (eC (o_kf aG) k)) (b := 1) rfl (by decide) (by omega)).mp c_45
                            obtain ⟨t1, t2, t3, t4, t5⟩ := hDid.2.2 (show o_stt aY2_18 (eC (o_kf aG) k) = 1 from by omega)
                            have t3b : o_oo aY2_18 (eC (o_kf aG) k) = ((t1 : Nat) : Int) := t3
                            have t4b : 0 < o_hgt aY2_18 t1 := t4
                            have t5b : o_sd aY2_18 t1 (o_hgt aY2_18 t1 - 1) = eC (o_kf aG) k := t5
                            have hhb1 := hInv.2.2.2.2.1.2.1 t1
                            have hokb : yOk (o_n aC) (o_sc aY2_18) (o_lim aY2_18) (o_hgt aY2_18, o_sd aY2_18, o_oo aY2_18) (o_stt aY2_18) := by rw [hs2.1, hs2.2.1]; exact hI2.1
                            refine lv_aload_n hx hb dL_law_383 rfl (lv_at hl 3 rfl) ?_
                            refine lv_aload_n hx hb dL_law_384 rfl (lv_at hl 3 rfl) ?_
                            refine lv_iload hx hb dL_law_385 (lv_at hl 1 rfl) ?_
                            have hPc := xPl hP
                            have hDc := xDl hD
                            have hFc := xFree hS hA
                            refine va_calli (va_runV (As := [.int (nI (eC (o_kf aG) k))]) (rest := [.ref (ad 0)]) ⟨hx, hb, hml, hown, hts⟩ (L_stackOf l g H.size ad ga (.int 1) (.int 1) aQ aV aC aP aG aY2_18 aN2_19 aW aK aS aT (eC (o_kf aG) k) (show xInv aV aC aP aG aY2_18 aN2_19 aW aK aS aT from by first | assumption | omega) (show (eC (o_kf aG) k) < (o_n aC) from by first | assumption | omega) (show (o_n aC) ≤ 24 from by first | assumption | omega)) (cwV 1 hts gL_law_X8_stackOf rfl rfl rfl (by decide +kernel) ⟨Nat.le_of_ble_eq_true rfl, Nat.le_of_ble_eq_true rfl⟩) ⟨xB.blind, va_recv hK hPc (ci := 8) (q0 := 0) rfl rfl, fun U9 hU9 hW9 => ⟨rfl, xB.mk hPc hK hDc hU9 hW9⟩⟩ rfl rfl hl.1 rfl (lv_room (Nat.le_of_ble_eq_true rfl)) dL_law_387 ⟨Nat.le_of_ble_eq_true rfl, Nat.le_of_ble_eq_true rfl⟩) hS (fun q _ h => hFc q h) hFc (fun r_47 _ t H1 locs ht hvm hw_48 hB hz1 hk1 hS => ?_)
                            have hP := xSame hP hk1
                            generalize H1 = H at hP hS ⊢
                            have hP : va_P (xD g) vwCl (SW g ad ga (.int 1) (.int 1) aQ aV aC aP aG aY2_18 aN2_19 aW aK aS aT ++ [(za, .inl (xI g, 4, .inl (fun j => nI (ez j))))]) H := hP
                            have hD : va_D A (SW g ad ga (.int 1) (.int 1) aQ aV aC aP aG aY2_18 aN2_19 aW aK aS aT ++ [(za, .inl (xI g, 4, .inl (fun j => nI (ez j))))]) := hD
                            try dsimp only at hw_48
                            obtain rfl : r_47 = iI ((o_oo aY2_18) (eC (o_kf aG) k)) := hw_48
                            rw [show iI (o_oo aY2_18 (eC (o_kf aG) k)) = nI t1 from by rw [t3b]; exact (iI_nI t1).symm]
                            refine lv_aload_n hx hb dL_law_390 rfl (lv_at hl 3 rfl) ?_
                            refine lv_aload_n hx hb dL_law_391 rfl (lv_at hl 3 rfl) ?_
                            refine lv_iload hx hb dL_law_392 (lv_at hl 1 rfl) ?_
                            have hPc := xPl hP
                            have hDc := xDl hD
                            have hFc := xFree hS hA
                            refine va_calli (va_runV (As := [.int (nI (eC (o_kf aG) k))]) (rest := [.ref (ad 0), .int (nI t1), .ref (ad 0)]) ⟨hx, hb, hml, hown, hts⟩ (L_stackOf l g H.size ad ga (.int 1) (.int 1) aQ aV aC aP aG aY2_18 aN2_19 aW aK aS aT (eC (o_kf aG) k) (show xInv aV aC aP aG aY2_18 aN2_19 aW aK aS aT from by first | assumption | omega) (show (eC (o_kf aG) k) < (o_n aC) from by first | assumption | omega) (show (o_n aC) ≤ 24 from by first | assumption | omega)) (cwV 1 hts gL_law_X8_stackOf rfl rfl rfl (by decide +kernel) ⟨Nat.le_of_ble_eq_true rfl, Nat.le_of_ble_eq_true rfl⟩) ⟨xB.blind, va_recv hK hPc (ci := 8) (q0 := 0) rfl rfl, fun U9 hU9 hW9 => ⟨rfl, xB.mk hPc hK hDc hU9 hW9⟩⟩ rfl rfl hl.1 rfl (lv_room (Nat.le_of_ble_eq_true rfl)) dL_law_394 ⟨Nat.le_of_ble_eq_true rfl, Nat.le_of_ble_eq_true rfl⟩) hS (fun q _ h => hFc q h) hFc (fun r_49 _ t H1 locs ht hvm hw_50 hB hz1 hk1 hS => ?_)
                            have hP := xSame hP hk1
                            generalize H1 = H at hP hS ⊢
                            have hP : va_P (xD g) vwCl (SW g ad ga (.int 1) (.int 1) aQ aV aC aP aG aY2_18 aN2_19 aW aK aS aT ++ [(za, .inl (xI g, 4, .inl (fun j => nI (ez j))))]) H := hP
                            have hD : va_D A (SW g ad ga (.int 1) (.int 1) aQ aV aC aP aG aY2_18 aN2_19 aW aK aS aT ++ [(za, .inl (xI g, 4, .inl (fun j => nI (ez j))))]) := hD
                            try dsimp only at hw_50
                            obtain rfl : r_49 = iI ((o_oo aY2_18) (eC (o_kf aG) k)) := hw_50
                            rw [show iI (o_oo aY2_18 (eC (o_kf aG) k)) = nI t1 from by rw [t3b]; exact (iI_nI t1).symm]
                            have hPc := xPl hP
                            have hDc := xDl hD
                            have hFc := xFree hS hA
                            refine va_calli (va_runV (As := [.int (nI t1)]) (rest := [.int (nI t1), .ref (ad 0)]) ⟨hx, hb, hml, hown, hts⟩ (L_heightOf l g H.size ad ga (.int 1) (.int 1) aQ aV aC aP aG aY2_18 aN2_19 aW aK aS aT t1 (show xInv aV aC aP aG aY2_18 aN2_19 aW aK aS aT from by first | assumption | omega) (show t1 < o_sc _ from by rw [hsc2]; exact t2) (show (o_sc aY2_18) ≤ 12 from by first | assumption | omega)) (cwV 1 hts gL_law_X8_heightOf rfl rfl rfl (by decide +kernel) ⟨Nat.le_of_ble_eq_true rfl, Nat.le_of_ble_eq_true rfl⟩) ⟨xB.blind, va_recv hK hPc (ci := 8) (q0 := 0) rfl rfl, fun U9 hU9 hW9 => ⟨rfl, xB.mk hPc hK hDc hU9 hW9⟩⟩ rfl rfl hl.1 rfl (lv_room (Nat.le_of_ble_eq_true rfl)) dL_law_397 ⟨Nat.le_of_ble_eq_true rfl, Nat.le_of_ble_eq_true rfl⟩) hS (fun q _ h => hFc q h) hFc (fun r_51 _ t H1 locs ht hvm hw_52 hB hz1 hk1 hS => ?_)
                            have hP := xSame hP hk1
                            generalize H1 = H at hP hS ⊢
                            have hP : va_P (xD g) vwCl (SW g ad ga (.int 1) (.int 1) aQ aV aC aP aG aY2_18 aN2_19 aW aK aS aT ++ [(za, .inl (xI g, 4, .inl (fun j => nI (ez j))))]) H := hP
                            have hD : va_D A (SW g ad ga (.int 1) (.int 1) aQ aV aC aP aG aY2_18 aN2_19 aW aK aS aT ++ [(za, .inl (xI g, 4, .inl (fun j => nI (ez j))))]) := hD
                            try dsimp only at hw_52
                            obtain rfl : r_51 = nI ((o_hgt aY2_18) t1) := hw_52
                            refine lv_iconst (v := 1) hx hb dL_law_400 (by decide) ?_
                            refine lv_isub hx hb dL_law_401 ?_
                            refine lv_topi (fun v_53 ev => ?_)
                            obtain rfl : v_53 = nI (((o_hgt aY2_18) t1) - 1) := ev.trans (pk_sub (a := (o_hgt aY2_18) t1) (b := 1) (by omega))
                            have hPc := xPl hP
                            have hDc := xDl hD
                            have hFc := xFree hS hA
                            refine va_calli (va_runV (As := [.int (nI t1), .int (nI (((o_hgt aY2_18) t1) - 1))]) (rest := []) ⟨hx, hb, hml, hown, hts⟩ (L_containerAt l g H.size ad ga (.int 1) (.int 1) aQ aV aC aP aG aY2_18 aN2_19 aW aK aS aT t1 (((o_hgt aY2_18) t1) - 1) (show xInv aV aC aP aG aY2_18 aN2_19 aW aK aS aT from by first | assumption | omega) (show t1 < o_sc _ from by rw [hsc2]; exact t2) (show (o_sc aY2_18) ≤ 12 from by first | assumption | omega) (show (((o_hgt aY2_18) t1) - 1) < (o_hgt aY2_18) t1 from by first | assumption | omega)) (cwV 2 hts gL_law_X8_containerAt rfl rfl rfl (by decide +kernel) ⟨Nat.le_of_ble_eq_true rfl, Nat.le_of_ble_eq_true rfl⟩) ⟨xB.blind, va_recv hK hPc (ci := 8) (q0 := 0) rfl rfl, fun U9 hU9 hW9 => ⟨rfl, xB.mk hPc hK hDc hU9 hW9⟩⟩ rfl rfl hl.1 rfl (lv_room (Nat.le_of_ble_eq_true rfl)) dL_law_402 ⟨Nat.le_of_ble_eq_true rfl, Nat.le_of_ble_eq_true rfl⟩) hS (fun q _ h => hFc q h) hFc (fun r_54 _ t H1 locs ht hvm hw_55 hB hz1 hk1 hS => ?_)
                            have hP := xSame hP hk1
                            generalize H1 = H at hP hS ⊢
                            have hP : va_P (xD g) vwCl (SW g ad ga (.int 1) (.int 1) aQ aV aC aP aG aY2_18 aN2_19 aW aK aS aT ++ [(za, .inl (xI g, 4, .inl (fun j => nI (ez j))))]) H := hP
                            have hD : va_D A (SW g ad ga (.int 1) (.int 1) aQ aV aC aP aG aY2_18 aN2_19 aW aK aS aT ++ [(za, .inl (xI g, 4, .inl (fun j => nI (ez j))))]) := hD
                            try dsimp only at hw_55
                            obtain rfl : r_54 = nI ((o_sd aY2_18) t1 (((o_hgt aY2_18) t1) - 1)) := hw_55
                            refine lv_iload hx hb dL_law_405 (lv_at hl 1 rfl) ?_
                            refine lv_icmp_eq (tgt := 412) hx hb dL_law_407 (by decide) (fun c_56 => ?_) (fun c_56 => ?_)
                            · have nc_56 := (nI_eq (a := (o_sd aY2_18) t1 (((o_hgt aY2_18) t1) - 1)) (b := eC (o_kf aG) k) (by omega) (by omega)).mp c_56
                              refine lv_iload hx hb dL_law_412 (lv_at hl 0 rfl) ?_
                              refine lv_iconst (v := 1) hx hb dL_law_414 (by decide) ?_
                              refine lv_icmp_ne (tgt := 429) hx hb dL_law_415 (by decide) (fun c_57 => ?_) (fun c_57 => ?_)
                              · have nc_57 := mt (iEq (a := (o_stt aY2_18) (eC (o_kf aG) k)) (b := 1) rfl (by decide) (by omega)).mpr c_57
                                refine lv_iinc (v := nI (k + 1)) (lv' := [(9, .int (nI (k + 1))), (13, .int (iI ((o_stt aY2_18) (eC (o_kf aG) k)))), (12, .int (nI (eC (o_kf aG) k))), (0, .ref sb), (1, .ref (ad 0)), (7, .ref za), (8, .int (nI (((400 * ((o_kf aG) k / 128)) + (100 * (eK (o_kf aG) k))) + (eC (o_kf aG) k)))), (11, .int (iI z2))]) hx hb dL_law_429 hl (k := 6) rfl (nI_add k 1) (by decide) rfl (fun ls hl => ?_)
                                refine lv_goto (tgt := 201) hx hb dL_law_432 (by decide) ?_
                                exact ih201 (k + 1) ((400 * (o_kf aG k / 128) + 100 * eK (o_kf aG) k + eC (o_kf aG) k : Nat) : Int) aY2_18 aN2_19 _ _ _ (by omega) (by omega) (Or.inr ⟨by omega, rfl⟩) hInv (by omega) hs2 hrun2 hI2 (by omega) hP hD hS (by rw [(show iI ((400 * (o_kf aG k / 128) + 100 * eK (o_kf aG) k + eC (o_kf aG) k : Nat) : Int) = nI (((400 * ((o_kf aG) k / 128)) + (100 * (eK (o_kf aG) k))) + (eC (o_kf aG) k)) from (iI_nI _).symm)]; exact lv_sub hl [0, 3, 4, 5, 6] rfl)
                              · have nc_57 := (iEq (a := (o_stt aY2_18) (eC (o_kf aG) k)) (b := 1) rfl (by decide) (by omega)).mp c_57
                                refine lv_aload_n hx hb dL_law_418 rfl (lv_at hl 3 rfl) ?_
                                refine lv_iload hx hb dL_law_419 (lv_at hl 1 rfl) ?_
                                have hPc := xPl hP
                                have hDc := xDl hD
                                have hFc := xFl hD hS hA
                                refine va_calli (va_runV (As := [.int (nI (eC (o_kf aG) k))]) (rest := []) ⟨hx, hb, hml, hown, hts⟩ (L_wouldTake l g H.size ad ga (.int 1) (.int 1) aQ aV aC aP aG aY2_18 aN2_19 aW aK aS aT (eC (o_kf aG) k) t1 (show xInv aV aC aP aG aY2_18 aN2_19 aW aK aS aT from by first | assumption | omega) (show (eC (o_kf aG) k) < (o_n aC) from by first | assumption | omega) (show (o_n aC) ≤ 24 from by first | assumption | omega) (show (o_sc aY2_18) ≤ 12 from by first | assumption | omega) (show t1 < o_sc _ from by rw [hsc2]; exact t2) (Or.inl (by omega)) t3b t4b t5 hokb) (cwV 1 hts gL_law_X8_wouldTake rfl rfl rfl (by decide +kernel) ⟨Nat.le_of_ble_eq_true rfl, Nat.le_of_ble_eq_true rfl⟩) ⟨xB.blind, va_recv hK hPc (ci := 8) (q0 := 0) rfl rfl, fun U9 hU9 hW9 => ⟨rfl, xB.mk hPc hK hDc hU9 hW9⟩⟩ rfl rfl hl.1 rfl (lv_room (Nat.le_of_ble_eq_true rfl)) dL_law_421 ⟨Nat.le_of_ble_eq_true rfl, Nat.le_of_ble_eq_true rfl⟩) hS (fun q _ h => hFc q h) hFc (fun r_58 _ t H1 locs ht hvm hw_59 hB hz1 hk1 hS => ?_)
                                obtain ⟨aN2_60, hc_61, hP1, hK1, hD1⟩ := hB
                                rw [ht] at hP1
                                have hInv : xInv aV aC aP aG aY2_18 aN2_60 aW aK aS aT := hc_61
                                obtain ⟨hP, hD⟩ := xJl hP hD hk1 hFc hP1 hD1
                                generalize H1 = H at hP hS ⊢
                                have hP : va_P (xD g) vwCl (SW g ad ga (.int 1) (.int 1) aQ aV aC aP aG aY2_18 aN2_60 aW aK aS aT ++ [(za, .inl (xI g, 4, .inl (fun j => nI (ez j))))]) H := hP
                                have hD : va_D A (SW g ad ga (.int 1) (.int 1) aQ aV aC aP aG aY2_18 aN2_60 aW aK aS aT ++ [(za, .inl (xI g, 4, .inl (fun j => nI (ez j))))]) := hD
                                try dsimp only at hw_59
                                obtain rfl : r_58 = nI 0 := hw_59
                                refine lv_if_eq (tgt := 429) hx hb dL_law_424 (by decide) (fun c_62 => ?_) (fun c_62 => ?_)
                                · have nc_62 := (nI_eq (a := 0) (b := 0) (by omega) (by omega)).mp c_62
                                  refine lv_iinc (v := nI (k + 1)) (lv' := [(9, .int (nI (k + 1))), (13, .int (iI ((o_stt aY2_18) (eC (o_kf aG) k)))), (12, .int (nI (eC (o_kf aG) k))), (0, .ref sb), (1, .ref (ad 0)), (7, .ref za), (8, .int (nI (((400 * ((o_kf aG) k / 128)) + (100 * (eK (o_kf aG) k))) + (eC (o_kf aG) k)))), (11, .int (iI z2))]) hx hb dL_law_429 hl (k := 6) rfl (nI_add k 1) (by decide) rfl (fun ls hl => ?_)
                                  refine lv_goto (tgt := 201) hx hb dL_law_432 (by decide) ?_
                                  exact ih201 (k + 1) ((400 * (o_kf aG k / 128) + 100 * eK (o_kf aG) k + eC (o_kf aG) k : Nat) : Int) aY2_18 aN2_60 _ _ _ (by omega) (by omega) (Or.inr ⟨by omega, rfl⟩) hInv (by omega) hs2 hrun2 hI2 (by omega) hP hD hS (by rw [(show iI ((400 * (o_kf aG k / 128) + 100 * eK (o_kf aG) k + eC (o_kf aG) k : Nat) : Int) = nI (((400 * ((o_kf aG) k / 128)) + (100 * (eK (o_kf aG) k))) + (eC (o_kf aG) k)) from (iI_nI _).symm)]; exact lv_sub hl [0, 3, 4, 5, 6] rfl)
                                · have nc_62 := mt (nI_eq (a := 0) (b := 0) (by omega) (by omega)).mpr c_62
                                  refine lv_iconst (v := 0) hx hb dL_law_427 (by decide) ?_
                                  exfalso; omega
                            · have nc_56 := mt (nI_eq (a := (o_sd aY2_18) t1 (((o_hgt aY2_18) t1) - 1)) (b := eC (o_kf aG) k) (by omega) (by omega)).mpr c_56
                              refine lv_iconst (v := 0) hx hb dL_law_410 (by decide) ?_
                              exfalso; omega
                        · have nc_44 := mt (nI_leI (a := eK (o_kf aG) k) (b := 1) (by omega) (by omega)).mpr c_44
                          refine lv_iload hx hb dL_law_369 (lv_at hl 0 rfl) ?_
                          refine lv_iconst (v := 2) hx hb dL_law_371 (by decide) ?_
                          refine lv_icmp_ge (tgt := 377) hx hb dL_law_372 (by decide) (fun c_63 => ?_) (fun c_63 => ?_)
                          · have nc_63 := (iLe (a := 2) (b := (o_stt aY2_18) (eC (o_kf aG) k)) (by decide) rfl (by omega)).mp c_63
                            refine lv_iload hx hb dL_law_377 (lv_at hl 0 rfl) ?_
                            refine lv_iconst (v := 1) hx hb dL_law_379 (by decide) ?_
                            refine lv_icmp_ne (tgt := 412) hx hb dL_law_380 (by decide) (fun c_64 => ?_) (fun c_64 => ?_)
                            · have nc_64 := mt (iEq (a := (o_stt aY2_18) (eC (o_kf aG) k)) (b := 1) rfl (by decide) (by omega)).mpr c_64
                              refine lv_iload hx hb dL_law_412 (lv_at hl 0 rfl) ?_
                              refine lv_iconst (v := 1) hx hb dL_law_414 (by decide) ?_
                              refine lv_icmp_ne (tgt := 429) hx hb dL_law_415 (by decide) (fun c_65 => ?_) (fun c_65 => ?_)
                              · have nc_65 := mt (iEq (a := (o_stt aY2_18) (eC (o_kf aG) k)) (b := 1) rfl (by decide) (by omega)).mpr c_65
                                refine lv_iinc (v := nI (k + 1)) (lv' := [(9, .int (nI (k + 1))), (13, .int (iI ((o_stt aY2_18) (eC (o_kf aG) k)))), (12, .int (nI (eC (o_kf aG) k))), (0, .ref sb), (1, .ref (ad 0)), (7, .ref za), (8, .int (nI (((400 * ((o_kf aG) k / 128)) + (100 * (eK (o_kf aG) k))) + (eC (o_kf aG) k)))), (11, .int (iI z2))]) hx hb dL_law_429 hl (k := 6) rfl (nI_add k 1) (by decide) rfl (fun ls hl => ?_)
                                refine lv_goto (tgt := 201) hx hb dL_law_432 (by decide) ?_
                                exact ih201 (k + 1) ((400 * (o_kf aG k / 128) + 100 * eK (o_kf aG) k + eC (o_kf aG) k : Nat) : Int) aY2_18 aN2_19 _ _ _ (by omega) (by omega) (Or.inr ⟨by omega, rfl⟩) hInv (by omega) hs2 hrun2 hI2 (by omega) hP hD hS (by rw [(show iI ((400 * (o_kf aG k / 128) + 100 * eK (o_kf aG) k + eC (o_kf aG) k : Nat) : Int) = nI (((400 * ((o_kf aG) k / 128)) + (100 * (eK (o_kf aG) k))) + (eC (o_kf aG) k)) from (iI_nI _).symm)]; exact lv_sub hl [0, 3, 4, 5, 6] rfl)
                              · have nc_65 := (iEq (a := (o_stt aY2_18) (eC (o_kf aG) k)) (b := 1) rfl (by decide) (by omega)).mp c_65
                                exfalso; omega
                            · have nc_64 := (iEq (a := (o_stt aY2_18) (eC (o_kf aG) k)) (b := 1) rfl (by decide) (by omega)).mp c_64
                              obtain ⟨t1, t2, t3, t4, t5⟩ := hDid.2.2 (show o_stt aY2_18 (eC (o_kf aG) k) = 1 from by omega)
                              have t3b : o_oo aY2_18 (eC (o_kf aG) k) = ((t1 : Nat) : Int) := t3
                              have t4b : 0 < o_hgt aY2_18 t1 := t4
                              have t5b : o_sd aY2_18 t1 (o_hgt aY2_18 t1 - 1) = eC (o_kf aG) k := t5
                              have hhb1 := hInv.2.2.2.2.1.2.1 t1
                              have hokb : yOk (o_n aC) (o_sc aY2_18) (o_lim aY2_18) (o_hgt aY2_18, o_sd aY2_18, o_oo aY2_18) (o_stt aY2_18) := by rw [hs2.1, hs2.2.1]; exact hI2.1
                              refine lv_aload_n hx hb dL_law_383 rfl (lv_at hl 3 rfl) ?_
                              refine lv_aload_n hx hb dL_law_384 rfl (lv_at hl 3 rfl) ?_
                              refine lv_iload hx hb dL_law_385 (lv_at hl 1 rfl) ?_
                              have hPc := xPl hP
                              have hDc := xDl hD
                              have hFc := xFree hS hA
                              refine va_calli (va_runV (As := [.int (nI (eC (o_kf aG) k))]) (rest := [.ref (ad 0)]) ⟨hx, hb, hml, hown, hts⟩ (L_stackOf l g H.size ad ga (.int 1) (.int 1) aQ aV aC aP aG aY2_18 aN2_19 aW aK aS aT (eC (o_kf aG) k) (show xInv aV aC aP aG aY2_18 aN2_19 aW aK aS aT from by first | assumption | omega) (show (eC (o_kf aG) k) < (o_n aC) from by first | assumption | omega) (show (o_n aC) ≤ 24 from by first | assumption | omega)) (cwV 1 hts gL_law_X8_stackOf rfl rfl rfl (by decide +kernel) ⟨Nat.le_of_ble_eq_true rfl, Nat.le_of_ble_eq_true rfl⟩) ⟨xB.blind, va_recv hK hPc (ci := 8) (q0 := 0) rfl rfl, fun U9 hU9 hW9 => ⟨rfl, xB.mk hPc hK hDc hU9 hW9⟩⟩ rfl rfl hl.1 rfl (lv_room (Nat.le_of_ble_eq_true rfl)) dL_law_387 ⟨Nat.le_of_ble_eq_true rfl, Nat.le_of_ble_eq_true rfl⟩) hS (fun q _ h => hFc q h) hFc (fun r_66 _ t H1 locs ht hvm hw_67 hB hz1 hk1 hS => ?_)
                              have hP := xSame hP hk1
                              generalize H1 = H at hP hS ⊢
                              have hP : va_P (xD g) vwCl (SW g ad ga (.int 1) (.int 1) aQ aV aC aP aG aY2_18 aN2_19 aW aK aS aT ++ [(za, .inl (xI g, 4, .inl (fun j => nI (ez j))))]) H := hP
                              have hD : va_D A (SW g ad ga (.int 1) (.int 1) aQ aV aC aP aG aY2_18 aN2_19 aW aK aS aT ++ [(za, .inl (xI g, 4, .inl (fun j => nI (ez j))))]) := hD
                              try dsimp only at hw_67
                              obtain rfl : r_66 = iI ((o_oo aY2_18) (eC (o_kf aG) k)) := hw_67
                              rw [show iI (o_oo aY2_18 (eC (o_kf aG) k)) = nI t1 from by rw [t3b]; exact (iI_nI t1).symm]
                              refine lv_aload_n hx hb dL_law_390 rfl (lv_at hl 3 rfl) ?_
                              refine lv_aload_n hx hb dL_law_391 rfl (lv_at hl 3 rfl) ?_
                              refine lv_iload hx hb dL_law_392 (lv_at hl 1 rfl) ?_
                              have hPc := xPl hP
                              have hDc := xDl hD
                              have hFc := xFree hS hA
                              refine va_calli (va_runV (As := [.int (nI (eC (o_kf aG) k))]) (rest := [.ref (ad 0), .int (nI t1), .ref (ad 0)]) ⟨hx, hb, hml, hown, hts⟩ (L_stackOf l g H.size ad ga (.int 1) (.int 1) aQ aV aC aP aG aY2_18 aN2_19 aW aK aS aT (eC (o_kf aG) k) (show xInv aV aC aP aG aY2_18 aN2_19 aW aK aS aT from by first | assumption | omega) (show (eC (o_kf aG) k) < (o_n aC) from by first | assumption | omega) (show (o_n aC) ≤ 24 from by first | assumption | omega)) (cwV 1 hts gL_law_X8_stackOf rfl rfl rfl (by decide +kernel) ⟨Nat.le_of_ble_eq_true rfl, Nat.le_of_ble_eq_true rfl⟩) ⟨xB.blind, va_recv hK hPc (ci := 8) (q0 := 0) rfl rfl, fun U9 hU9 hW9 => ⟨rfl, xB.mk hPc hK hDc hU9 hW9⟩⟩ rfl rfl hl.1 rfl (lv_room (Nat.le_of_ble_eq_true rfl)) dL_law_394 ⟨Nat.le_of_ble_eq_true rfl, Nat.le_of_ble_eq_true rfl⟩) hS (fun q _ h => hFc q h) hFc (fun r_68 _ t H1 locs ht hvm hw_69 hB hz1 hk1 hS => ?_)
                              have hP := xSame hP hk1
                              generalize H1 = H at hP hS ⊢
                              have hP : va_P (xD g) vwCl (SW g ad ga (.int 1) (.int 1) aQ aV aC aP aG aY2_18 aN2_19 aW aK aS aT ++ [(za, .inl (xI g, 4, .inl (fun j => nI (ez j))))]) H := hP
                              have hD : va_D A (SW g ad ga (.int 1) (.int 1) aQ aV aC aP aG aY2_18 aN2_19 aW aK aS aT ++ [(za, .inl (xI g, 4, .inl (fun j => nI (ez j))))]) := hD
                              try dsimp only at hw_69
                              obtain rfl : r_68 = iI ((o_oo aY2_18) (eC (o_kf aG) k)) := hw_69
                              rw [show iI (o_oo aY2_18 (eC (o_kf aG) k)) = nI t1 from by rw [t3b]; exact (iI_nI t1).symm]
                              have hPc := xPl hP
                              have hDc := xDl hD
                              have hFc := xFree hS hA
                              refine va_calli (va_runV (As := [.int (nI t1)]) (rest := [.int (nI t1), .ref (ad 0)]) ⟨hx, hb, hml, hown, hts⟩ (L_heightOf l g H.size ad ga (.int 1) (.int 1) aQ aV aC aP aG aY2_18 aN2_19 aW aK aS aT t1 (show xInv aV aC aP aG aY2_18 aN2_19 aW aK aS aT from by first | assumption | omega) (show t1 < o_sc _ from by rw [hsc2]; exact t2) (show (o_sc aY2_18) ≤ 12 from by first | assumption | omega)) (cwV 1 hts gL_law_X8_heightOf rfl rfl rfl (by decide +kernel) ⟨Nat.le_of_ble_eq_true rfl, Nat.le_of_ble_eq_true rfl⟩) ⟨xB.blind, va_recv hK hPc (ci := 8) (q0 := 0) rfl rfl, fun U9 hU9 hW9 => ⟨rfl, xB.mk hPc hK hDc hU9 hW9⟩⟩ rfl rfl hl.1 rfl (lv_room (Nat.le_of_ble_eq_true rfl)) dL_law_397 ⟨Nat.le_of_ble_eq_true rfl, Nat.le_of_ble_eq_true rfl⟩) hS (fun q _ h => hFc q h) hFc (fun r_70 _ t H1 locs ht hvm hw_71 hB hz1 hk1 hS => ?_)
                              have hP := xSame hP hk1
                              generalize H1 = H at hP hS ⊢
                              have hP : va_P (xD g) vwCl (SW g ad ga (.int 1) (.int 1) aQ aV aC aP aG aY2_18 aN2_19 aW aK aS aT ++ [(za, .inl (xI g, 4, .inl (fun j => nI (ez j))))]) H := hP
                              have hD : va_D A (SW g ad ga (.int 1) (.int 1) aQ aV aC aP aG aY2_18 aN2_19 aW aK aS aT ++ [(za, .inl (xI g, 4, .inl (fun j => nI (ez j))))]) := hD
                              try dsimp only at hw_71
                              obtain rfl : r_70 = nI ((o_hgt aY2_18) t1) := hw_71
                              refine lv_iconst (v := 1) hx hb dL_law_400 (by decide) ?_
                              refine lv_isub hx hb dL_law_401 ?_
                              refine lv_topi (fun v_72 ev => ?_)
                              obtain rfl : v_72 = nI (((o_hgt aY2_18) t1) - 1) := ev.trans (pk_sub (a := (o_hgt aY2_18) t1) (b := 1) (by omega))
                              have hPc := xPl hP
                              have hDc := xDl hD
                              have hFc := xFree hS hA
                              refine va_calli (va_runV (As := [.int (nI t1), .int (nI (((o_hgt aY2_18) t1) - 1))]) (rest := []) ⟨hx, hb, hml, hown, hts⟩ (L_containerAt l g H.size ad ga (.int 1) (.int 1) aQ aV aC aP aG aY2_18 aN2_19 aW aK aS aT t1 (((o_hgt aY2_18) t1) - 1) (show xInv aV aC aP aG aY2_18 aN2_19 aW aK aS aT from by first | assumption | omega) (show t1 < o_sc _ from by rw [hsc2]; exact t2) (show (o_sc aY2_18) ≤ 12 from by first | assumption | omega) (show (((o_hgt aY2_18) t1) - 1) < (o_hgt aY2_18) t1 from by first | assumption | omega)) (cwV 2 hts gL_law_X8_containerAt rfl rfl rfl (by decide +kernel) ⟨Nat.le_of_ble_eq_true rfl, Nat.le_of_ble_eq_true rfl⟩) ⟨xB.blind, va_recv hK hPc (ci := 8) (q0 := 0) rfl rfl, fun U9 hU9 hW9 => ⟨rfl, xB.mk hPc hK hDc hU9 hW9⟩⟩ rfl rfl hl.1 rfl (lv_room (Nat.le_of_ble_eq_true rfl)) dL_law_402 ⟨Nat.le_of_ble_eq_true rfl, Nat.le_of_ble_eq_true rfl⟩) hS (fun q _ h => hFc q h) hFc (fun r_73 _ t H1 locs ht hvm hw_74 hB hz1 hk1 hS => ?_)
                              have hP := xSame hP hk1
                              generalize H1 = H at hP hS ⊢
                              have hP : va_P (xD g) vwCl (SW g ad ga (.int 1) (.int 1) aQ aV aC aP aG aY2_18 aN2_19 aW aK aS aT ++ [(za, .inl (xI g, 4, .inl (fun j => nI (ez j))))]) H := hP
                              have hD : va_D A (SW g ad ga (.int 1) (.int 1) aQ aV aC aP aG aY2_18 aN2_19 aW aK aS aT ++ [(za, .inl (xI g, 4, .inl (fun j => nI (ez j))))]) := hD
                              try dsimp only at hw_74
                              obtain rfl : r_73 = nI ((o_sd aY2_18) t1 (((o_hgt aY2_18) t1) - 1)) := hw_74
                              refine lv_iload hx hb dL_law_405 (lv_at hl 1 rfl) ?_
                              refine lv_icmp_eq (tgt := 412) hx hb dL_law_407 (by decide) (fun c_75 => ?_) (fun c_75 => ?_)
                              · have nc_75 := (nI_eq (a := (o_sd aY2_18) t1 (((o_hgt aY2_18) t1) - 1)) (b := eC (o_kf aG) k) (by omega) (by omega)).mp c_75
                                refine lv_iload hx hb dL_law_412 (lv_at hl 0 rfl) ?_
                                refine lv_iconst (v := 1) hx hb dL_law_414 (by decide) ?_
                                refine lv_icmp_ne (tgt := 429) hx hb dL_law_415 (by decide) (fun c_76 => ?_) (fun c_76 => ?_)
                                · have nc_76 := mt (iEq (a := (o_stt aY2_18) (eC (o_kf aG) k)) (b := 1) rfl (by decide) (by omega)).mpr c_76
                                  refine lv_iinc (v := nI (k + 1)) (lv' := [(9, .int (nI (k + 1))), (13, .int (iI ((o_stt aY2_18) (eC (o_kf aG) k)))), (12, .int (nI (eC (o_kf aG) k))), (0, .ref sb), (1, .ref (ad 0)), (7, .ref za), (8, .int (nI (((400 * ((o_kf aG) k / 128)) + (100 * (eK (o_kf aG) k))) + (eC (o_kf aG) k)))), (11, .int (iI z2))]) hx hb dL_law_429 hl (k := 6) rfl (nI_add k 1) (by decide) rfl (fun ls hl => ?_)
                                  refine lv_goto (tgt := 201) hx hb dL_law_432 (by decide) ?_
                                  exact ih201 (k + 1) ((400 * (o_kf aG k / 128) + 100 * eK (o_kf aG) k + eC (o_kf aG) k : Nat) : Int) aY2_18 aN2_19 _ _ _ (by omega) (by omega) (Or.inr ⟨by omega, rfl⟩) hInv (by omega) hs2 hrun2 hI2 (by omega) hP hD hS (by rw [(show iI ((400 * (o_kf aG k / 128) + 100 * eK (o_kf aG) k + eC (o_kf aG) k : Nat) : Int) = nI (((400 * ((o_kf aG) k / 128)) + (100 * (eK (o_kf aG) k))) + (eC (o_kf aG) k)) from (iI_nI _).symm)]; exact lv_sub hl [0, 3, 4, 5, 6] rfl)
                                · have nc_76 := (iEq (a := (o_stt aY2_18) (eC (o_kf aG) k)) (b := 1) rfl (by decide) (by omega)).mp c_76
                                  refine lv_aload_n hx hb dL_law_418 rfl (lv_at hl 3 rfl) ?_
                                  refine lv_iload hx hb dL_law_419 (lv_at hl 1 rfl) ?_
                                  have hPc := xPl hP
                                  have hDc := xDl hD
                                  have hFc := xFl hD hS hA
                                  refine va_calli (va_runV (As := [.int (nI (eC (o_kf aG) k))]) (rest := []) ⟨hx, hb, hml, hown, hts⟩ (L_wouldTake l g H.size ad ga (.int 1) (.int 1) aQ aV aC aP aG aY2_18 aN2_19 aW aK aS aT (eC (o_kf aG) k) t1 (show xInv aV aC aP aG aY2_18 aN2_19 aW aK aS aT from by first | assumption | omega) (show (eC (o_kf aG) k) < (o_n aC) from by first | assumption | omega) (show (o_n aC) ≤ 24 from by first | assumption | omega) (show (o_sc aY2_18) ≤ 12 from by first | assumption | omega) (show t1 < o_sc _ from by rw [hsc2]; exact t2) (Or.inl (by omega)) t3b t4b t5 hokb) (cwV 1 hts gL_law_X8_wouldTake rfl rfl rfl (by decide +kernel) ⟨Nat.le_of_ble_eq_true rfl, Nat.le_of_ble_eq_true rfl⟩) ⟨xB.blind, va_recv hK hPc (ci := 8) (q0 := 0) rfl rfl, fun U9 hU9 hW9 => ⟨rfl, xB.mk hPc hK hDc hU9 hW9⟩⟩ rfl rfl hl.1 rfl (lv_room (Nat.le_of_ble_eq_true rfl)) dL_law_421 ⟨Nat.le_of_ble_eq_true rfl, Nat.le_of_ble_eq_true rfl⟩) hS (fun q _ h => hFc q h) hFc (fun r_77 _ t H1 locs ht hvm hw_78 hB hz1 hk1 hS => ?_)
                                  obtain ⟨aN2_79, hc_80, hP1, hK1, hD1⟩ := hB
                                  rw [ht] at hP1
                                  have hInv : xInv aV aC aP aG aY2_18 aN2_79 aW aK aS aT := hc_80
                                  obtain ⟨hP, hD⟩ := xJl hP hD hk1 hFc hP1 hD1
                                  generalize H1 = H at hP hS ⊢
                                  have hP : va_P (xD g) vwCl (SW g ad ga (.int 1) (.int 1) aQ aV aC aP aG aY2_18 aN2_79 aW aK aS aT ++ [(za, .inl (xI g, 4, .inl (fun j => nI (ez j))))]) H := hP
                                  have hD : va_D A (SW g ad ga (.int 1) (.int 1) aQ aV aC aP aG aY2_18 aN2_79 aW aK aS aT ++ [(za, .inl (xI g, 4, .inl (fun j => nI (ez j))))]) := hD
                                  try dsimp only at hw_78
                                  obtain rfl : r_77 = nI 0 := hw_78
                                  refine lv_if_eq (tgt := 429) hx hb dL_law_424 (by decide) (fun c_81 => ?_) (fun c_81 => ?_)
                                  · have nc_81 := (nI_eq (a := 0) (b := 0) (by omega) (by omega)).mp c_81
                                    refine lv_iinc (v := nI (k + 1)) (lv' := [(9, .int (nI (k + 1))), (13, .int (iI ((o_stt aY2_18) (eC (o_kf aG) k)))), (12, .int (nI (eC (o_kf aG) k))), (0, .ref sb), (1, .ref (ad 0)), (7, .ref za), (8, .int (nI (((400 * ((o_kf aG) k / 128)) + (100 * (eK (o_kf aG) k))) + (eC (o_kf aG) k)))), (11, .int (iI z2))]) hx hb dL_law_429 hl (k := 6) rfl (nI_add k 1) (by decide) rfl (fun ls hl => ?_)
                                    refine lv_goto (tgt := 201) hx hb dL_law_432 (by decide) ?_
                                    exact ih201 (k + 1) ((400 * (o_kf aG k / 128) + 100 * eK (o_kf aG) k + eC (o_kf aG) k : Nat) : Int) aY2_18 aN2_79 _ _ _ (by omega) (by omega) (Or.inr ⟨by omega, rfl⟩) hInv (by omega) hs2 hrun2 hI2 (by omega) hP hD hS (by rw [(show iI ((400 * (o_kf aG k / 128) + 100 * eK (o_kf aG) k + eC (o_kf aG) k : Nat) : Int) = nI (((400 * ((o_kf aG) k / 128)) + (100 * (eK (o_kf aG) k))) + (eC (o_kf aG) k)) from (iI_nI _).symm)]; exact lv_sub hl [0, 3, 4, 5, 6] rfl)
                                  · have nc_81 := mt (nI_eq (a := 0) (b := 0) (by omega) (by omega)).mpr c_81
                                    refine lv_iconst (v := 0) hx hb dL_law_427 (by decide) ?_
                                    exfalso; omega
                              · have nc_75 := mt (nI_eq (a := (o_sd aY2_18) t1 (((o_hgt aY2_18) t1) - 1)) (b := eC (o_kf aG) k) (by omega) (by omega)).mpr c_75
                                refine lv_iconst (v := 0) hx hb dL_law_410 (by decide) ?_
                                exfalso; omega
                          · have nc_63 := mt (iLe (a := 2) (b := (o_stt aY2_18) (eC (o_kf aG) k)) (by decide) rfl (by omega)).mpr c_63
                            refine lv_iconst (v := 0) hx hb dL_law_375 (by decide) ?_
                            exfalso; omega
                      · have nc_41 := mt (nI_leI (a := 2) (b := eK (o_kf aG) k) (by omega) (by omega)).mpr c_41
                        refine lv_iload hx hb dL_law_347 (lv_at hl 0 rfl) ?_
                        refine lv_iconst (v := 1) hx hb dL_law_349 (by decide) ?_
                        refine lv_icmp_eq (tgt := 359) hx hb dL_law_350 (by decide) (fun c_82 => ?_) (fun c_82 => ?_)
                        · have nc_82 := (iEq (a := (o_stt aY2_18) (eC (o_kf aG) k)) (b := 1) rfl (by decide) (by omega)).mp c_82
                          refine lv_aload_n hx hb dL_law_359 rfl (lv_at hl 3 rfl) ?_
                          refine lv_iload hx hb dL_law_360 (lv_at hl 6 rfl) ?_
                          have hPc := xPl hP
                          have hDc := xDl hD
                          have hFc := xFree hS hA
                          refine va_calli (va_runV (As := [.int (nI k)]) (rest := []) ⟨hx, hb, hml, hown, hts⟩ (L_kindOf l g H.size ad ga (.int 1) (.int 1) aQ aV aC aP aG aY2_18 aN2_19 aW aK aS aT k (show xInv aV aC aP aG aY2_18 aN2_19 aW aK aS aT from by first | assumption | omega) (show k < (o_cnt aG) from by first | assumption | omega) (show (o_cnt aG) ≤ 48 from by first | assumption | omega)) (cwV 1 hts gL_law_X8_kindOf rfl rfl rfl (by decide +kernel) ⟨Nat.le_of_ble_eq_true rfl, Nat.le_of_ble_eq_true rfl⟩) ⟨xB.blind, va_recv hK hPc (ci := 8) (q0 := 0) rfl rfl, fun U9 hU9 hW9 => ⟨rfl, xB.mk hPc hK hDc hU9 hW9⟩⟩ rfl rfl hl.1 rfl (lv_room (Nat.le_of_ble_eq_true rfl)) dL_law_362 ⟨Nat.le_of_ble_eq_true rfl, Nat.le_of_ble_eq_true rfl⟩) hS (fun q _ h => hFc q h) hFc (fun r_83 _ t H1 locs ht hvm hw_84 hB hz1 hk1 hS => ?_)
                          have hP := xSame hP hk1
                          generalize H1 = H at hP hS ⊢
                          have hP : va_P (xD g) vwCl (SW g ad ga (.int 1) (.int 1) aQ aV aC aP aG aY2_18 aN2_19 aW aK aS aT ++ [(za, .inl (xI g, 4, .inl (fun j => nI (ez j))))]) H := hP
                          have hD : va_D A (SW g ad ga (.int 1) (.int 1) aQ aV aC aP aG aY2_18 aN2_19 aW aK aS aT ++ [(za, .inl (xI g, 4, .inl (fun j => nI (ez j))))]) := hD
                          try dsimp only at hw_84
                          obtain rfl : r_83 = nI (eK (o_kf aG) k) := hw_84
                          refine lv_iconst (v := 1) hx hb dL_law_365 (by decide) ?_
                          refine lv_icmp_le (tgt := 377) hx hb dL_law_366 (by decide) (fun c_85 => ?_) (fun c_85 => ?_)
                          · have nc_85 := (nI_leI (a := eK (o_kf aG) k) (b := 1) (by omega) (by omega)).mp c_85
                            refine lv_iload hx hb dL_law_377 (lv_at hl 0 rfl) ?_
                            refine lv_iconst (v := 1) hx hb dL_law_379 (by decide) ?_
                            refine lv_icmp_ne (tgt := 412) hx hb dL_law_380 (by decide) (fun c_86 => ?_) (fun c_86 => ?_)
                            · have nc_86 := mt (iEq (a := (o_stt aY2_18) (eC (o_kf aG) k)) (b := 1) rfl (by decide) (by omega)).mpr c_86
                              refine lv_iload hx hb dL_law_412 (lv_at hl 0 rfl) ?_
                              refine lv_iconst (v := 1) hx hb dL_law_414 (by decide) ?_
                              refine lv_icmp_ne (tgt := 429) hx hb dL_law_415 (by decide) (fun c_87 => ?_) (fun c_87 => ?_)
                              · have nc_87 := mt (iEq (a := (o_stt aY2_18) (eC (o_kf aG) k)) (b := 1) rfl (by decide) (by omega)).mpr c_87
                                refine lv_iinc (v := nI (k + 1)) (lv' := [(9, .int (nI (k + 1))), (13, .int (iI ((o_stt aY2_18) (eC (o_kf aG) k)))), (12, .int (nI (eC (o_kf aG) k))), (0, .ref sb), (1, .ref (ad 0)), (7, .ref za), (8, .int (nI (((400 * ((o_kf aG) k / 128)) + (100 * (eK (o_kf aG) k))) + (eC (o_kf aG) k)))), (11, .int (iI z2))]) hx hb dL_law_429 hl (k := 6) rfl (nI_add k 1) (by decide) rfl (fun ls hl => ?_)
                                refine lv_goto (tgt := 201) hx hb dL_law_432 (by decide) ?_
                                exact ih201 (k + 1) ((400 * (o_kf aG k / 128) + 100 * eK (o_kf aG) k + eC (o_kf aG) k : Nat) : Int) aY2_18 aN2_19 _ _ _ (by omega) (by omega) (Or.inr ⟨by omega, rfl⟩) hInv (by omega) hs2 hrun2 hI2 (by omega) hP hD hS (by rw [(show iI ((400 * (o_kf aG k / 128) + 100 * eK (o_kf aG) k + eC (o_kf aG) k : Nat) : Int) = nI (((400 * ((o_kf aG) k / 128)) + (100 * (eK (o_kf aG) k))) + (eC (o_kf aG) k)) from (iI_nI _).symm)]; exact lv_sub hl [0, 3, 4, 5, 6] rfl)
                              · have nc_87 := (iEq (a := (o_stt aY2_18) (eC (o_kf aG) k)) (b := 1) rfl (by decide) (by omega)).mp c_87
                                exfalso; omega
                            · have nc_86 := (iEq (a := (o_stt aY2_18) (eC (o_kf aG) k)) (b := 1) rfl (by decide) (by omega)).mp c_86
                              obtain ⟨t1, t2, t3, t4, t5⟩ := hDid.2.2 (show o_stt aY2_18 (eC (o_kf aG) k) = 1 from by omega)
                              have t3b : o_oo aY2_18 (eC (o_kf aG) k) = ((t1 : Nat) : Int) := t3
                              have t4b : 0 < o_hgt aY2_18 t1 := t4
                              have t5b : o_sd aY2_18 t1 (o_hgt aY2_18 t1 - 1) = eC (o_kf aG) k := t5
                              have hhb1 := hInv.2.2.2.2.1.2.1 t1
                              have hokb : yOk (o_n aC) (o_sc aY2_18) (o_lim aY2_18) (o_hgt aY2_18, o_sd aY2_18, o_oo aY2_18) (o_stt aY2_18) := by rw [hs2.1, hs2.2.1]; exact hI2.1
                              refine lv_aload_n hx hb dL_law_383 rfl (lv_at hl 3 rfl) ?_
                              refine lv_aload_n hx hb dL_law_384 rfl (lv_at hl 3 rfl) ?_
                              refine lv_iload hx hb dL_law_385 (lv_at hl 1 rfl) ?_
                              have hPc := xPl hP
                              have hDc := xDl hD
                              have hFc := xFree hS hA
                              refine va_calli (va_runV (As := [.int (nI (eC (o_kf aG) k))]) (rest := [.ref (ad 0)]) ⟨hx, hb, hml, hown, hts⟩ (L_stackOf l g H.size ad ga (.int 1) (.int 1) aQ aV aC aP aG aY2_18 aN2_19 aW aK aS aT (eC (o_kf aG) k) (show xInv aV aC aP aG aY2_18 aN2_19 aW aK aS aT from by first | assumption | omega) (show (eC (o_kf aG) k) < (o_n aC) from by first | assumption | omega) (show (o_n aC) ≤ 24 from by first | assumption | omega)) (cwV 1 hts gL_law_X8_stackOf rfl rfl rfl (by decide +kernel) ⟨Nat.le_of_ble_eq_true rfl, Nat.le_of_ble_eq_true rfl⟩) ⟨xB.blind, va_recv hK hPc (ci := 8) (q0 := 0) rfl rfl, fun U9 hU9 hW9 => ⟨rfl, xB.mk hPc hK hDc hU9 hW9⟩⟩ rfl rfl hl.1 rfl (lv_room (Nat.le_of_ble_eq_true rfl)) dL_law_387 ⟨Nat.le_of_ble_eq_true rfl, Nat.le_of_ble_eq_true rfl⟩) hS (fun q _ h => hFc q h) hFc (fun r_88 _ t H1 locs ht hvm hw_89 hB hz1 hk1 hS => ?_)
                              have hP := xSame hP hk1
                              generalize H1 = H at hP hS ⊢
                              have hP : va_P (xD g) vwCl (SW g ad ga (.int 1) (.int 1) aQ aV aC aP aG aY2_18 aN2_19 aW aK aS aT ++ [(za, .inl (xI g, 4, .inl (fun j => nI (ez j))))]) H := hP
                              have hD : va_D A (SW g ad ga (.int 1) (.int 1) aQ aV aC aP aG aY2_18 aN2_19 aW aK aS aT ++ [(za, .inl (xI g, 4, .inl (fun j => nI (ez j))))]) := hD
                              try dsimp only at hw_89
                              obtain rfl : r_88 = iI ((o_oo aY2_18) (eC (o_kf aG) k)) := hw_89
                              rw [show iI (o_oo aY2_18 (eC (o_kf aG) k)) = nI t1 from by rw [t3b]; exact (iI_nI t1).symm]
                              refine lv_aload_n hx hb dL_law_390 rfl (lv_at hl 3 rfl) ?_
                              refine lv_aload_n hx hb dL_law_391 rfl (lv_at hl 3 rfl) ?_
                              refine lv_iload hx hb dL_law_392 (lv_at hl 1 rfl) ?_
                              have hPc := xPl hP
                              have hDc := xDl hD
                              have hFc := xFree hS hA
                              refine va_calli (va_runV (As := [.int (nI (eC (o_kf aG) k))]) (rest := [.ref (ad 0), .int (nI t1), .ref (ad 0)]) ⟨hx, hb, hml, hown, hts⟩ (L_stackOf l g H.size ad ga (.int 1) (.int 1) aQ aV aC aP aG aY2_18 aN2_19 aW aK aS aT (eC (o_kf aG) k) (show xInv aV aC aP aG aY2_18 aN2_19 aW aK aS aT from by first | assumption | omega) (show (eC (o_kf aG) k) < (o_n aC) from by first | assumption | omega) (show (o_n aC) ≤ 24 from by first | assumption | omega)) (cwV 1 hts gL_law_X8_stackOf rfl rfl rfl (by decide +kernel) ⟨Nat.le_of_ble_eq_true rfl, Nat.le_of_ble_eq_true rfl⟩) ⟨xB.blind, va_recv hK hPc (ci := 8) (q0 := 0) rfl rfl, fun U9 hU9 hW9 => ⟨rfl, xB.mk hPc hK hDc hU9 hW9⟩⟩ rfl rfl hl.1 rfl (lv_room (Nat.le_of_ble_eq_true rfl)) dL_law_394 ⟨Nat.le_of_ble_eq_true rfl, Nat.le_of_ble_eq_true rfl⟩) hS (fun q _ h => hFc q h) hFc (fun r_90 _ t H1 locs ht hvm hw_91 hB hz1 hk1 hS => ?_)
                              have hP := xSame hP hk1
                              generalize H1 = H at hP hS ⊢
                              have hP : va_P (xD g) vwCl (SW g ad ga (.int 1) (.int 1) aQ aV aC aP aG aY2_18 aN2_19 aW aK aS aT ++ [(za, .inl (xI g, 4, .inl (fun j => nI (ez j))))]) H := hP
                              have hD : va_D A (SW g ad ga (.int 1) (.int 1) aQ aV aC aP aG aY2_18 aN2_19 aW aK aS aT ++ [(za, .inl (xI g, 4, .inl (fun j => nI (ez j))))]) := hD
                              try dsimp only at hw_91
                              obtain rfl : r_90 = iI ((o_oo aY2_18) (eC (o_kf aG) k)) := hw_91
                              rw [show iI (o_oo aY2_18 (eC (o_kf aG) k)) = nI t1 from by rw [t3b]; exact (iI_nI t1).symm]
                              have hPc := xPl hP
                              have hDc := xDl hD
                              have hFc := xFree hS hA
                              refine va_calli (va_runV (As := [.int (nI t1)]) (rest := [.int (nI t1), .ref (ad 0)]) ⟨hx, hb, hml, hown, hts⟩ (L_heightOf l g H.size ad ga (.int 1) (.int 1) aQ aV aC aP aG aY2_18 aN2_19 aW aK aS aT t1 (show xInv aV aC aP aG aY2_18 aN2_19 aW aK aS aT from by first | assumption | omega) (show t1 < o_sc _ from by rw [hsc2]; exact t2) (show (o_sc aY2_18) ≤ 12 from by first | assumption | omega)) (cwV 1 hts gL_law_X8_heightOf rfl rfl rfl (by decide +kernel) ⟨Nat.le_of_ble_eq_true rfl, Nat.le_of_ble_eq_true rfl⟩) ⟨xB.blind, va_recv hK hPc (ci := 8) (q0 := 0) rfl rfl, fun U9 hU9 hW9 => ⟨rfl, xB.mk hPc hK hDc hU9 hW9⟩⟩ rfl rfl hl.1 rfl (lv_room (Nat.le_of_ble_eq_true rfl)) dL_law_397 ⟨Nat.le_of_ble_eq_true rfl, Nat.le_of_ble_eq_true rfl⟩) hS (fun q _ h => hFc q h) hFc (fun r_92 _ t H1 locs ht hvm hw_93 hB hz1 hk1 hS => ?_)
                              have hP := xSame hP hk1
                              generalize H1 = H at hP hS ⊢
                              have hP : va_P (xD g) vwCl (SW g ad ga (.int 1) (.int 1) aQ aV aC aP aG aY2_18 aN2_19 aW aK aS aT ++ [(za, .inl (xI g, 4, .inl (fun j => nI (ez j))))]) H := hP
                              have hD : va_D A (SW g ad ga (.int 1) (.int 1) aQ aV aC aP aG aY2_18 aN2_19 aW aK aS aT ++ [(za, .inl (xI g, 4, .inl (fun j => nI (ez j))))]) := hD
                              try dsimp only at hw_93
                              obtain rfl : r_92 = nI ((o_hgt aY2_18) t1) := hw_93
                              refine lv_iconst (v := 1) hx hb dL_law_400 (by decide) ?_
                              refine lv_isub hx hb dL_law_401 ?_
                              refine lv_topi (fun v_94 ev => ?_)
                              obtain rfl : v_94 = nI (((o_hgt aY2_18) t1) - 1) := ev.trans (pk_sub (a := (o_hgt aY2_18) t1) (b := 1) (by omega))
                              have hPc := xPl hP
                              have hDc := xDl hD
                              have hFc := xFree hS hA
                              refine va_calli (va_runV (As := [.int (nI t1), .int (nI (((o_hgt aY2_18) t1) - 1))]) (rest := []) ⟨hx, hb, hml, hown, hts⟩ (L_containerAt l g H.size ad ga (.int 1) (.int 1) aQ aV aC aP aG aY2_18 aN2_19 aW aK aS aT t1 (((o_hgt aY2_18) t1) - 1) (show xInv aV aC aP aG aY2_18 aN2_19 aW aK aS aT from by first | assumption | omega) (show t1 < o_sc _ from by rw [hsc2]; exact t2) (show (o_sc aY2_18) ≤ 12 from by first | assumption | omega) (show (((o_hgt aY2_18) t1) - 1) < (o_hgt aY2_18) t1 from by first | assumption | omega)) (cwV 2 hts gL_law_X8_containerAt rfl rfl rfl (by decide +kernel) ⟨Nat.le_of_ble_eq_true rfl, Nat.le_of_ble_eq_true rfl⟩) ⟨xB.blind, va_recv hK hPc (ci := 8) (q0 := 0) rfl rfl, fun U9 hU9 hW9 => ⟨rfl, xB.mk hPc hK hDc hU9 hW9⟩⟩ rfl rfl hl.1 rfl (lv_room (Nat.le_of_ble_eq_true rfl)) dL_law_402 ⟨Nat.le_of_ble_eq_true rfl, Nat.le_of_ble_eq_true rfl⟩) hS (fun q _ h => hFc q h) hFc (fun r_95 _ t H1 locs ht hvm hw_96 hB hz1 hk1 hS => ?_)
                              have hP := xSame hP hk1
                              generalize H1 = H at hP hS ⊢
                              have hP : va_P (xD g) vwCl (SW g ad ga (.int 1) (.int 1) aQ aV aC aP aG aY2_18 aN2_19 aW aK aS aT ++ [(za, .inl (xI g, 4, .inl (fun j => nI (ez j))))]) H := hP
                              have hD : va_D A (SW g ad ga (.int 1) (.int 1) aQ aV aC aP aG aY2_18 aN2_19 aW aK aS aT ++ [(za, .inl (xI g, 4, .inl (fun j => nI (ez j))))]) := hD
                              try dsimp only at hw_96
                              obtain rfl : r_95 = nI ((o_sd aY2_18) t1 (((o_hgt aY2_18) t1) - 1)) := hw_96
                              refine lv_iload hx hb dL_law_405 (lv_at hl 1 rfl) ?_
                              refine lv_icmp_eq (tgt := 412) hx hb dL_law_407 (by decide) (fun c_97 => ?_) (fun c_97 => ?_)
                              · have nc_97 := (nI_eq (a := (o_sd aY2_18) t1 (((o_hgt aY2_18) t1) - 1)) (b := eC (o_kf aG) k) (by omega) (by omega)).mp c_97
                                refine lv_iload hx hb dL_law_412 (lv_at hl 0 rfl) ?_
                                refine lv_iconst (v := 1) hx hb dL_law_414 (by decide) ?_
                                refine lv_icmp_ne (tgt := 429) hx hb dL_law_415 (by decide) (fun c_98 => ?_) (fun c_98 => ?_)
                                · have nc_98 := mt (iEq (a := (o_stt aY2_18) (eC (o_kf aG) k)) (b := 1) rfl (by decide) (by omega)).mpr c_98
                                  refine lv_iinc (v := nI (k + 1)) (lv' := [(9, .int (nI (k + 1))), (13, .int (iI ((o_stt aY2_18) (eC (o_kf aG) k)))), (12, .int (nI (eC (o_kf aG) k))), (0, .ref sb), (1, .ref (ad 0)), (7, .ref za), (8, .int (nI (((400 * ((o_kf aG) k / 128)) + (100 * (eK (o_kf aG) k))) + (eC (o_kf aG) k)))), (11, .int (iI z2))]) hx hb dL_law_429 hl (k := 6) rfl (nI_add k 1) (by decide) rfl (fun ls hl => ?_)
                                  refine lv_goto (tgt := 201) hx hb dL_law_432 (by decide) ?_
                                  exact ih201 (k + 1) ((400 * (o_kf aG k / 128) + 100 * eK (o_kf aG) k + eC (o_kf aG) k : Nat) : Int) aY2_18 aN2_19 _ _ _ (by omega) (by omega) (Or.inr ⟨by omega, rfl⟩) hInv (by omega) hs2 hrun2 hI2 (by omega) hP hD hS (by rw [(show iI ((400 * (o_kf aG k / 128) + 100 * eK (o_kf aG) k + eC (o_kf aG) k : Nat) : Int) = nI (((400 * ((o_kf aG) k / 128)) + (100 * (eK (o_kf aG) k))) + (eC (o_kf aG) k)) from (iI_nI _).symm)]; exact lv_sub hl [0, 3, 4, 5, 6] rfl)
                                · have nc_98 := (iEq (a := (o_stt aY2_18) (eC (o_kf aG) k)) (b := 1) rfl (by decide) (by omega)).mp c_98
                                  refine lv_aload_n hx hb dL_law_418 rfl (lv_at hl 3 rfl) ?_
                                  refine lv_iload hx hb dL_law_419 (lv_at hl 1 rfl) ?_
                                  have hPc := xPl hP
                                  have hDc := xDl hD
                                  have hFc := xFl hD hS hA
                                  refine va_calli (va_runV (As := [.int (nI (eC (o_kf aG) k))]) (rest := []) ⟨hx, hb, hml, hown, hts⟩ (L_wouldTake l g H.size ad ga (.int 1) (.int 1) aQ aV aC aP aG aY2_18 aN2_19 aW aK aS aT (eC (o_kf aG) k) t1 (show xInv aV aC aP aG aY2_18 aN2_19 aW aK aS aT from by first | assumption | omega) (show (eC (o_kf aG) k) < (o_n aC) from by first | assumption | omega) (show (o_n aC) ≤ 24 from by first | assumption | omega) (show (o_sc aY2_18) ≤ 12 from by first | assumption | omega) (show t1 < o_sc _ from by rw [hsc2]; exact t2) (Or.inl (by omega)) t3b t4b t5 hokb) (cwV 1 hts gL_law_X8_wouldTake rfl rfl rfl (by decide +kernel) ⟨Nat.le_of_ble_eq_true rfl, Nat.le_of_ble_eq_true rfl⟩) ⟨xB.blind, va_recv hK hPc (ci := 8) (q0 := 0) rfl rfl, fun U9 hU9 hW9 => ⟨rfl, xB.mk hPc hK hDc hU9 hW9⟩⟩ rfl rfl hl.1 rfl (lv_room (Nat.le_of_ble_eq_true rfl)) dL_law_421 ⟨Nat.le_of_ble_eq_true rfl, Nat.le_of_ble_eq_true rfl⟩) hS (fun q _ h => hFc q h) hFc (fun r_99 _ t H1 locs ht hvm hw_100 hB hz1 hk1 hS => ?_)
                                  obtain ⟨aN2_101, hc_102, hP1, hK1, hD1⟩ := hB
                                  rw [ht] at hP1
                                  have hInv : xInv aV aC aP aG aY2_18 aN2_101 aW aK aS aT := hc_102
                                  obtain ⟨hP, hD⟩ := xJl hP hD hk1 hFc hP1 hD1
                                  generalize H1 = H at hP hS ⊢
                                  have hP : va_P (xD g) vwCl (SW g ad ga (.int 1) (.int 1) aQ aV aC aP aG aY2_18 aN2_101 aW aK aS aT ++ [(za, .inl (xI g, 4, .inl (fun j => nI (ez j))))]) H := hP
                                  have hD : va_D A (SW g ad ga (.int 1) (.int 1) aQ aV aC aP aG aY2_18 aN2_101 aW aK aS aT ++ [(za, .inl (xI g, 4, .inl (fun j => nI (ez j))))]) := hD
                                  try dsimp only at hw_100
                                  obtain rfl : r_99 = nI 0 := hw_100
                                  refine lv_if_eq (tgt := 429) hx hb dL_law_424 (by decide) (fun c_103 => ?_) (fun c_103 => ?_)
                                  · have nc_103 := (nI_eq (a := 0) (b := 0) (by omega) (by omega)).mp c_103
                                    refine lv_iinc (v := nI (k + 1)) (lv' := [(9, .int (nI (k + 1))), (13, .int (iI ((o_stt aY2_18) (eC (o_kf aG) k)))), (12, .int (nI (eC (o_kf aG) k))), (0, .ref sb), (1, .ref (ad 0)), (7, .ref za), (8, .int (nI (((400 * ((o_kf aG) k / 128)) + (100 * (eK (o_kf aG) k))) + (eC (o_kf aG) k)))), (11, .int (iI z2))]) hx hb dL_law_429 hl (k := 6) rfl (nI_add k 1) (by decide) rfl (fun ls hl => ?_)
                                    refine lv_goto (tgt := 201) hx hb dL_law_432 (by decide) ?_
                                    exact ih201 (k + 1) ((400 * (o_kf aG k / 128) + 100 * eK (o_kf aG) k + eC (o_kf aG) k : Nat) : Int) aY2_18 aN2_101 _ _ _ (by omega) (by omega) (Or.inr ⟨by omega, rfl⟩) hInv (by omega) hs2 hrun2 hI2 (by omega) hP hD hS (by rw [(show iI ((400 * (o_kf aG k / 128) + 100 * eK (o_kf aG) k + eC (o_kf aG) k : Nat) : Int) = nI (((400 * ((o_kf aG) k / 128)) + (100 * (eK (o_kf aG) k))) + (eC (o_kf aG) k)) from (iI_nI _).symm)]; exact lv_sub hl [0, 3, 4, 5, 6] rfl)
                                  · have nc_103 := mt (nI_eq (a := 0) (b := 0) (by omega) (by omega)).mpr c_103
                                    refine lv_iconst (v := 0) hx hb dL_law_427 (by decide) ?_
                                    exfalso; omega
                              · have nc_97 := mt (nI_eq (a := (o_sd aY2_18) t1 (((o_hgt aY2_18) t1) - 1)) (b := eC (o_kf aG) k) (by omega) (by omega)).mpr c_97
                                refine lv_iconst (v := 0) hx hb dL_law_410 (by decide) ?_
                                exfalso; omega
                          · have nc_85 := mt (nI_leI (a := eK (o_kf aG) k) (b := 1) (by omega) (by omega)).mpr c_85
                            refine lv_iload hx hb dL_law_369 (lv_at hl 0 rfl) ?_
                            refine lv_iconst (v := 2) hx hb dL_law_371 (by decide) ?_
                            refine lv_icmp_ge (tgt := 377) hx hb dL_law_372 (by decide) (fun c_104 => ?_) (fun c_104 => ?_)
                            · have nc_104 := (iLe (a := 2) (b := (o_stt aY2_18) (eC (o_kf aG) k)) (by decide) rfl (by omega)).mp c_104
                              refine lv_iload hx hb dL_law_377 (lv_at hl 0 rfl) ?_
                              refine lv_iconst (v := 1) hx hb dL_law_379 (by decide) ?_
                              refine lv_icmp_ne (tgt := 412) hx hb dL_law_380 (by decide) (fun c_105 => ?_) (fun c_105 => ?_)
                              · have nc_105 := mt (iEq (a := (o_stt aY2_18) (eC (o_kf aG) k)) (b := 1) rfl (by decide) (by omega)).mpr c_105
                                refine lv_iload hx hb dL_law_412 (lv_at hl 0 rfl) ?_
                                refine lv_iconst (v := 1) hx hb dL_law_414 (by decide) ?_
                                refine lv_icmp_ne (tgt := 429) hx hb dL_law_415 (by decide) (fun c_106 => ?_) (fun c_106 => ?_)
                                · have nc_106 := mt (iEq (a := (o_stt aY2_18) (eC (o_kf aG) k)) (b := 1) rfl (by decide) (by omega)).mpr c_106
                                  refine lv_iinc (v := nI (k + 1)) (lv' := [(9, .int (nI (k + 1))), (13, .int (iI ((o_stt aY2_18) (eC (o_kf aG) k)))), (12, .int (nI (eC (o_kf aG) k))), (0, .ref sb), (1, .ref (ad 0)), (7, .ref za), (8, .int (nI (((400 * ((o_kf aG) k / 128)) + (100 * (eK (o_kf aG) k))) + (eC (o_kf aG) k)))), (11, .int (iI z2))]) hx hb dL_law_429 hl (k := 6) rfl (nI_add k 1) (by decide) rfl (fun ls hl => ?_)
                                  refine lv_goto (tgt := 201) hx hb dL_law_432 (by decide) ?_
                                  exact ih201 (k + 1) ((400 * (o_kf aG k / 128) + 100 * eK (o_kf aG) k + eC (o_kf aG) k : Nat) : Int) aY2_18 aN2_19 _ _ _ (by omega) (by omega) (Or.inr ⟨by omega, rfl⟩) hInv (by omega) hs2 hrun2 hI2 (by omega) hP hD hS (by rw [(show iI ((400 * (o_kf aG k / 128) + 100 * eK (o_kf aG) k + eC (o_kf aG) k : Nat) : Int) = nI (((400 * ((o_kf aG) k / 128)) + (100 * (eK (o_kf aG) k))) + (eC (o_kf aG) k)) from (iI_nI _).symm)]; exact lv_sub hl [0, 3, 4, 5, 6] rfl)
                                · have nc_106 := (iEq (a := (o_stt aY2_18) (eC (o_kf aG) k)) (b := 1) rfl (by decide) (by omega)).mp c_106
                                  exfalso; omega
                              · have nc_105 := (iEq (a := (o_stt aY2_18) (eC (o_kf aG) k)) (b := 1) rfl (by decide) (by omega)).mp c_105
                                obtain ⟨t1, t2, t3, t4, t5⟩ := hDid.2.2 (show o_stt aY2_18 (eC (o_kf aG) k) = 1 from by omega)
                                have t3b : o_oo aY2_18 (eC (o_kf aG) k) = ((t1 : Nat) : Int) := t3
                                have t4b : 0 < o_hgt aY2_18 t1 := t4
                                have t5b : o_sd aY2_18 t1 (o_hgt aY2_18 t1 - 1) = eC (o_kf aG) k := t5
                                have hhb1 := hInv.2.2.2.2.1.2.1 t1
                                have hokb : yOk (o_n aC) (o_sc aY2_18) (o_lim aY2_18) (o_hgt aY2_18, o_sd aY2_18, o_oo aY2_18) (o_stt aY2_18) := by rw [hs2.1, hs2.2.1]; exact hI2.1
                                refine lv_aload_n hx hb dL_law_383 rfl (lv_at hl 3 rfl) ?_
                                refine lv_aload_n hx hb dL_law_384 rfl (lv_at hl 3 rfl) ?_
                                refine lv_iload hx hb dL_law_385 (lv_at hl 1 rfl) ?_
                                have hPc := xPl hP
                                have hDc := xDl hD
                                have hFc := xFree hS hA
                                refine va_calli (va_runV (As := [.int (nI (eC (o_kf aG) k))]) (rest := [.ref (ad 0)]) ⟨hx, hb, hml, hown, hts⟩ (L_stackOf l g H.size ad ga (.int 1) (.int 1) aQ aV aC aP aG aY2_18 aN2_19 aW aK aS aT (eC (o_kf aG) k) (show xInv aV aC aP aG aY2_18 aN2_19 aW aK aS aT from by first | assumption | omega) (show (eC (o_kf aG) k) < (o_n aC) from by first | assumption | omega) (show (o_n aC) ≤ 24 from by first | assumption | omega)) (cwV 1 hts gL_law_X8_stackOf rfl rfl rfl (by decide +kernel) ⟨Nat.le_of_ble_eq_true rfl, Nat.le_of_ble_eq_true rfl⟩) ⟨xB.blind, va_recv hK hPc (ci := 8) (q0 := 0) rfl rfl, fun U9 hU9 hW9 => ⟨rfl, xB.mk hPc hK hDc hU9 hW9⟩⟩ rfl rfl hl.1 rfl (lv_room (Nat.le_of_ble_eq_true rfl)) dL_law_387 ⟨Nat.le_of_ble_eq_true rfl, Nat.le_of_ble_eq_true rfl⟩) hS (fun q _ h => hFc q h) hFc (fun r_107 _ t H1 locs ht hvm hw_108 hB hz1 hk1 hS => ?_)
                                have hP := xSame hP hk1
                                generalize H1 = H at hP hS ⊢
                                have hP : va_P (xD g) vwCl (SW g ad ga (.int 1) (.int 1) aQ aV aC aP aG aY2_18 aN2_19 aW aK aS aT ++ [(za, .inl (xI g, 4, .inl (fun j => nI (ez j))))]) H := hP
                                have hD : va_D A (SW g ad ga (.int 1) (.int 1) aQ aV aC aP aG aY2_18 aN2_19 aW aK aS aT ++ [(za, .inl (xI g, 4, .inl (fun j => nI (ez j))))]) := hD
                                try dsimp only at hw_108
                                obtain rfl : r_107 = iI ((o_oo aY2_18) (eC (o_kf aG) k)) := hw_108
                                rw [show iI (o_oo aY2_18 (eC (o_kf aG) k)) = nI t1 from by rw [t3b]; exact (iI_nI t1).symm]
                                refine lv_aload_n hx hb dL_law_390 rfl (lv_at hl 3 rfl) ?_
                                refine lv_aload_n hx hb dL_law_391 rfl (lv_at hl 3 rfl) ?_
                                refine lv_iload hx hb dL_law_392 (lv_at hl 1 rfl) ?_
                                have hPc := xPl hP
                                have hDc := xDl hD
                                have hFc := xFree hS hA
                                refine va_calli (va_runV (As := [.int (nI (eC (o_kf aG) k))]) (rest := [.ref (ad 0), .int (nI t1), .ref (ad 0)]) ⟨hx, hb, hml, hown, hts⟩ (L_stackOf l g H.size ad ga (.int 1) (.int 1) aQ aV aC aP aG aY2_18 aN2_19 aW aK aS aT (eC (o_kf aG) k) (show xInv aV aC aP aG aY2_18 aN2_19 aW aK aS aT from by first | assumption | omega) (show (eC (o_kf aG) k) < (o_n aC) from by first | assumption | omega) (show (o_n aC) ≤ 24 from by first | assumption | omega)) (cwV 1 hts gL_law_X8_stackOf rfl rfl rfl (by decide +kernel) ⟨Nat.le_of_ble_eq_true rfl, Nat.le_of_ble_eq_true rfl⟩) ⟨xB.blind, va_recv hK hPc (ci := 8) (q0 := 0) rfl rfl, fun U9 hU9 hW9 => ⟨rfl, xB.mk hPc hK hDc hU9 hW9⟩⟩ rfl rfl hl.1 rfl (lv_room (Nat.le_of_ble_eq_true rfl)) dL_law_394 ⟨Nat.le_of_ble_eq_true rfl, Nat.le_of_ble_eq_true rfl⟩) hS (fun q _ h => hFc q h) hFc (fun r_109 _ t H1 locs ht hvm hw_110 hB hz1 hk1 hS => ?_)
                                have hP := xSame hP hk1
                                generalize H1 = H at hP hS ⊢
                                have hP : va_P (xD g) vwCl (SW g ad ga (.int 1) (.int 1) aQ aV aC aP aG aY2_18 aN2_19 aW aK aS aT ++ [(za, .inl (xI g, 4, .inl (fun j => nI (ez j))))]) H := hP
                                have hD : va_D A (SW g ad ga (.int 1) (.int 1) aQ aV aC aP aG aY2_18 aN2_19 aW aK aS aT ++ [(za, .inl (xI g, 4, .inl (fun j => nI (ez j))))]) := hD
                                try dsimp only at hw_110
                                obtain rfl : r_109 = iI ((o_oo aY2_18) (eC (o_kf aG) k)) := hw_110
                                rw [show iI (o_oo aY2_18 (eC (o_kf aG) k)) = nI t1 from by rw [t3b]; exact (iI_nI t1).symm]
                                have hPc := xPl hP
                                have hDc := xDl hD
                                have hFc := xFree hS hA
                                refine va_calli (va_runV (As := [.int (nI t1)]) (rest := [.int (nI t1), .ref (ad 0)]) ⟨hx, hb, hml, hown, hts⟩ (L_heightOf l g H.size ad ga (.int 1) (.int 1) aQ aV aC aP aG aY2_18 aN2_19 aW aK aS aT t1 (show xInv aV aC aP aG aY2_18 aN2_19 aW aK aS aT from by first | assumption | omega) (show t1 < o_sc _ from by rw [hsc2]; exact t2) (show (o_sc aY2_18) ≤ 12 from by first | assumption | omega)) (cwV 1 hts gL_law_X8_heightOf rfl rfl rfl (by decide +kernel) ⟨Nat.le_of_ble_eq_true rfl, Nat.le_of_ble_eq_true rfl⟩) ⟨xB.blind, va_recv hK hPc (ci := 8) (q0 := 0) rfl rfl, fun U9 hU9 hW9 => ⟨rfl, xB.mk hPc hK hDc hU9 hW9⟩⟩ rfl rfl hl.1 rfl (lv_room (Nat.le_of_ble_eq_true rfl)) dL_law_397 ⟨Nat.le_of_ble_eq_true rfl, Nat.le_of_ble_eq_true rfl⟩) hS (fun q _ h => hFc q h) hFc (fun r_111 _ t H1 locs ht hvm hw_112 hB hz1 hk1 hS => ?_)
                                have hP := xSame hP hk1
                                generalize H1 = H at hP hS ⊢
                                have hP : va_P (xD g) vwCl (SW g ad ga (.int 1) (.int 1) aQ aV aC aP aG aY2_18 aN2_19 aW aK aS aT ++ [(za, .inl (xI g, 4, .inl (fun j => nI (ez j))))]) H := hP
                                have hD : va_D A (SW g ad ga (.int 1) (.int 1) aQ aV aC aP aG aY2_18 aN2_19 aW aK aS aT ++ [(za, .inl (xI g, 4, .inl (fun j => nI (ez j))))]) := hD
                                try dsimp only at hw_112
                                obtain rfl : r_111 = nI ((o_hgt aY2_18) t1) := hw_112
                                refine lv_iconst (v := 1) hx hb dL_law_400 (by decide) ?_
                                refine lv_isub hx hb dL_law_401 ?_
                                refine lv_topi (fun v_113 ev => ?_)
                                obtain rfl : v_113 = nI (((o_hgt aY2_18) t1) - 1) := ev.trans (pk_sub (a := (o_hgt aY2_18) t1) (b := 1) (by omega))
                                have hPc := xPl hP
                                have hDc := xDl hD
                                have hFc := xFree hS hA
                                refine va_calli (va_runV (As := [.int (nI t1), .int (nI (((o_hgt aY2_18) t1) - 1))]) (rest := []) ⟨hx, hb, hml, hown, hts⟩ (L_containerAt l g H.size ad ga (.int 1) (.int 1) aQ aV aC aP aG aY2_18 aN2_19 aW aK aS aT t1 (((o_hgt aY2_18) t1) - 1) (show xInv aV aC aP aG aY2_18 aN2_19 aW aK aS aT from by first | assumption | omega) (show t1 < o_sc _ from by rw [hsc2]; exact t2) (show (o_sc aY2_18) ≤ 12 from by first | assumption | omega) (show (((o_hgt aY2_18) t1) - 1) < (o_hgt aY2_18) t1 from by first | assumption | omega)) (cwV 2 hts gL_law_X8_containerAt rfl rfl rfl (by decide +kernel) ⟨Nat.le_of_ble_eq_true rfl, Nat.le_of_ble_eq_true rfl⟩) ⟨xB.blind, va_recv hK hPc (ci := 8) (q0 := 0) rfl rfl, fun U9 hU9 hW9 => ⟨rfl, xB.mk hPc hK hDc hU9 hW9⟩⟩ rfl rfl hl.1 rfl (lv_room (Nat.le_of_ble_eq_true rfl)) dL_law_402 ⟨Nat.le_of_ble_eq_true rfl, Nat.le_of_ble_eq_true rfl⟩) hS (fun q _ h => hFc q h) hFc (fun r_114 _ t H1 locs ht hvm hw_115 hB hz1 hk1 hS => ?_)
                                have hP := xSame hP hk1
                                generalize H1 = H at hP hS ⊢
                                have hP : va_P (xD g) vwCl (SW g ad ga (.int 1) (.int 1) aQ aV aC aP aG aY2_18 aN2_19 aW aK aS aT ++ [(za, .inl (xI g, 4, .inl (fun j => nI (ez j))))]) H := hP
                                have hD : va_D A (SW g ad ga (.int 1) (.int 1) aQ aV aC aP aG aY2_18 aN2_19 aW aK aS aT ++ [(za, .inl (xI g, 4, .inl (fun j => nI (ez j))))]) := hD
                                try dsimp only at hw_115
                                obtain rfl : r_114 = nI ((o_sd aY2_18) t1 (((o_hgt aY2_18) t1) - 1)) := hw_115
                                refine lv_iload hx hb dL_law_405 (lv_at hl 1 rfl) ?_
                                refine lv_icmp_eq (tgt := 412) hx hb dL_law_407 (by decide) (fun c_116 => ?_) (fun c_116 => ?_)
                                · have nc_116 := (nI_eq (a := (o_sd aY2_18) t1 (((o_hgt aY2_18) t1) - 1)) (b := eC (o_kf aG) k) (by omega) (by omega)).mp c_116
                                  refine lv_iload hx hb dL_law_412 (lv_at hl 0 rfl) ?_
                                  refine lv_iconst (v := 1) hx hb dL_law_414 (by decide) ?_
                                  refine lv_icmp_ne (tgt := 429) hx hb dL_law_415 (by decide) (fun c_117 => ?_) (fun c_117 => ?_)
                                  · have nc_117 := mt (iEq (a := (o_stt aY2_18) (eC (o_kf aG) k)) (b := 1) rfl (by decide) (by omega)).mpr c_117
                                    refine lv_iinc (v := nI (k + 1)) (lv' := [(9, .int (nI (k + 1))), (13, .int (iI ((o_stt aY2_18) (eC (o_kf aG) k)))), (12, .int (nI (eC (o_kf aG) k))), (0, .ref sb), (1, .ref (ad 0)), (7, .ref za), (8, .int (nI (((400 * ((o_kf aG) k / 128)) + (100 * (eK (o_kf aG) k))) + (eC (o_kf aG) k)))), (11, .int (iI z2))]) hx hb dL_law_429 hl (k := 6) rfl (nI_add k 1) (by decide) rfl (fun ls hl => ?_)
                                    refine lv_goto (tgt := 201) hx hb dL_law_432 (by decide) ?_
                                    exact ih201 (k + 1) ((400 * (o_kf aG k / 128) + 100 * eK (o_kf aG) k + eC (o_kf aG) k : Nat) : Int) aY2_18 aN2_19 _ _ _ (by omega) (by omega) (Or.inr ⟨by omega, rfl⟩) hInv (by omega) hs2 hrun2 hI2 (by omega) hP hD hS (by rw [(show iI ((400 * (o_kf aG k / 128) + 100 * eK (o_kf aG) k + eC (o_kf aG) k : Nat) : Int) = nI (((400 * ((o_kf aG) k / 128)) + (100 * (eK (o_kf aG) k))) + (eC (o_kf aG) k)) from (iI_nI _).symm)]; exact lv_sub hl [0, 3, 4, 5, 6] rfl)
                                  · have nc_117 := (iEq (a := (o_stt aY2_18) (eC (o_kf aG) k)) (b := 1) rfl (by decide) (by omega)).mp c_117
                                    refine lv_aload_n hx hb dL_law_418 rfl (lv_at hl 3 rfl) ?_
                                    refine lv_iload hx hb dL_law_419 (lv_at hl 1 rfl) ?_
                                    have hPc := xPl hP
                                    have hDc := xDl hD
                                    have hFc := xFl hD hS hA
                                    refine va_calli (va_runV (As := [.int (nI (eC (o_kf aG) k))]) (rest := []) ⟨hx, hb, hml, hown, hts⟩ (L_wouldTake l g H.size ad ga (.int 1) (.int 1) aQ aV aC aP aG aY2_18 aN2_19 aW aK aS aT (eC (o_kf aG) k) t1 (show xInv aV aC aP aG aY2_18 aN2_19 aW aK aS aT from by first | assumption | omega) (show (eC (o_kf aG) k) < (o_n aC) from by first | assumption | omega) (show (o_n aC) ≤ 24 from by first | assumption | omega) (show (o_sc aY2_18) ≤ 12 from by first | assumption | omega) (show t1 < o_sc _ from by rw [hsc2]; exact t2) (Or.inl (by omega)) t3b t4b t5 hokb) (cwV 1 hts gL_law_X8_wouldTake rfl rfl rfl (by decide +kernel) ⟨Nat.le_of_ble_eq_true rfl, Nat.le_of_ble_eq_true rfl⟩) ⟨xB.blind, va_recv hK hPc (ci := 8) (q0 := 0) rfl rfl, fun U9 hU9 hW9 => ⟨rfl, xB.mk hPc hK hDc hU9 hW9⟩⟩ rfl rfl hl.1 rfl (lv_room (Nat.le_of_ble_eq_true rfl)) dL_law_421 ⟨Nat.le_of_ble_eq_true rfl, Nat.le_of_ble_eq_true rfl⟩) hS (fun q _ h => hFc q h) hFc (fun r_118 _ t H1 locs ht hvm hw_119 hB hz1 hk1 hS => ?_)
                                    obtain ⟨aN2_120, hc_121, hP1, hK1, hD1⟩ := hB
                                    rw [ht] at hP1
                                    have hInv : xInv aV aC aP aG aY2_18 aN2_120 aW aK aS aT := hc_121
                                    obtain ⟨hP, hD⟩ := xJl hP hD hk1 hFc hP1 hD1
                                    generalize H1 = H at hP hS ⊢
                                    have hP : va_P (xD g) vwCl (SW g ad ga (.int 1) (.int 1) aQ aV aC aP aG aY2_18 aN2_120 aW aK aS aT ++ [(za, .inl (xI g, 4, .inl (fun j => nI (ez j))))]) H := hP
                                    have hD : va_D A (SW g ad ga (.int 1) (.int 1) aQ aV aC aP aG aY2_18 aN2_120 aW aK aS aT ++ [(za, .inl (xI g, 4, .inl (fun j => nI (ez j))))]) := hD
                                    try dsimp only at hw_119
                                    obtain rfl : r_118 = nI 0 := hw_119
                                    refine lv_if_eq (tgt := 429) hx hb dL_law_424 (by decide) (fun c_122 => ?_) (fun c_122 => ?_)
                                    · have nc_122 := (nI_eq (a := 0) (b := 0) (by omega) (by omega)).mp c_122
                                      refine lv_iinc (v := nI (k + 1)) (lv' := [(9, .int (nI (k + 1))), (13, .int (iI ((o_stt aY2_18) (eC (o_kf aG) k)))), (12, .int (nI (eC (o_kf aG) k))), (0, .ref sb), (1, .ref (ad 0)), (7, .ref za), (8, .int (nI (((400 * ((o_kf aG) k / 128)) + (100 * (eK (o_kf aG) k))) + (eC (o_kf aG) k)))), (11, .int (iI z2))]) hx hb dL_law_429 hl (k := 6) rfl (nI_add k 1) (by decide) rfl (fun ls hl => ?_)
                                      refine lv_goto (tgt := 201) hx hb dL_law_432 (by decide) ?_
                                      exact ih201 (k + 1) ((400 * (o_kf aG k / 128) + 100 * eK (o_kf aG) k + eC (o_kf aG) k : Nat) : Int) aY2_18 aN2_120 _ _ _ (by omega) (by omega) (Or.inr ⟨by omega, rfl⟩) hInv (by omega) hs2 hrun2 hI2 (by omega) hP hD hS (by rw [(show iI ((400 * (o_kf aG k / 128) + 100 * eK (o_kf aG) k + eC (o_kf aG) k : Nat) : Int) = nI (((400 * ((o_kf aG) k / 128)) + (100 * (eK (o_kf aG) k))) + (eC (o_kf aG) k)) from (iI_nI _).symm)]; exact lv_sub hl [0, 3, 4, 5, 6] rfl)
                                    · have nc_122 := mt (nI_eq (a := 0) (b := 0) (by omega) (by omega)).mpr c_122
                                      refine lv_iconst (v := 0) hx hb dL_law_427 (by decide) ?_
                                      exfalso; omega
                                · have nc_116 := mt (nI_eq (a := (o_sd aY2_18) t1 (((o_hgt aY2_18) t1) - 1)) (b := eC (o_kf aG) k) (by omega) (by omega)).mpr c_116
                                  refine lv_iconst (v := 0) hx hb dL_law_410 (by decide) ?_
                                  exfalso; omega
                            · have nc_104 := mt (iLe (a := 2) (b := (o_stt aY2_18) (eC (o_kf aG) k)) (by decide) rfl (by omega)).mpr c_104
                              refine lv_iconst (v := 0) hx hb dL_law_375 (by decide) ?_
                              exfalso; omega
                        · have nc_82 := mt (iEq (a := (o_stt aY2_18) (eC (o_kf aG) k)) (b := 1) rfl (by decide) (by omega)).mpr c_82
                          refine lv_iload hx hb dL_law_353 (lv_at hl 0 rfl) ?_
                          refine lv_iconst (v := 3) hx hb dL_law_355 (by decide) ?_
                          refine lv_icmp_ne (tgt := 375) hx hb dL_law_356 (by decide) (fun c_123 => ?_) (fun c_123 => ?_)
                          · have nc_123 := mt (iEq (a := (o_stt aY2_18) (eC (o_kf aG) k)) (b := 3) rfl (by decide) (by omega)).mpr c_123
                            refine lv_iconst (v := 0) hx hb dL_law_375 (by decide) ?_
                            exfalso; omega
                          · have nc_123 := (iEq (a := (o_stt aY2_18) (eC (o_kf aG) k)) (b := 3) rfl (by decide) (by omega)).mp c_123
                            refine lv_aload_n hx hb dL_law_359 rfl (lv_at hl 3 rfl) ?_
                            refine lv_iload hx hb dL_law_360 (lv_at hl 6 rfl) ?_
                            have hPc := xPl hP
                            have hDc := xDl hD
                            have hFc := xFree hS hA
                            refine va_calli (va_runV (As := [.int (nI k)]) (rest := []) ⟨hx, hb, hml, hown, hts⟩ (L_kindOf l g H.size ad ga (.int 1) (.int 1) aQ aV aC aP aG aY2_18 aN2_19 aW aK aS aT k (show xInv aV aC aP aG aY2_18 aN2_19 aW aK aS aT from by first | assumption | omega) (show k < (o_cnt aG) from by first | assumption | omega) (show (o_cnt aG) ≤ 48 from by first | assumption | omega)) (cwV 1 hts gL_law_X8_kindOf rfl rfl rfl (by decide +kernel) ⟨Nat.le_of_ble_eq_true rfl, Nat.le_of_ble_eq_true rfl⟩) ⟨xB.blind, va_recv hK hPc (ci := 8) (q0 := 0) rfl rfl, fun U9 hU9 hW9 => ⟨rfl, xB.mk hPc hK hDc hU9 hW9⟩⟩ rfl rfl hl.1 rfl (lv_room (Nat.le_of_ble_eq_true rfl)) dL_law_362 ⟨Nat.le_of_ble_eq_true rfl, Nat.le_of_ble_eq_true rfl⟩) hS (fun q _ h => hFc q h) hFc (fun r_124 _ t H1 locs ht hvm hw_125 hB hz1 hk1 hS => ?_)
                            have hP := xSame hP hk1
                            generalize H1 = H at hP hS ⊢
                            have hP : va_P (xD g) vwCl (SW g ad ga (.int 1) (.int 1) aQ aV aC aP aG aY2_18 aN2_19 aW aK aS aT ++ [(za, .inl (xI g, 4, .inl (fun j => nI (ez j))))]) H := hP
                            have hD : va_D A (SW g ad ga (.int 1) (.int 1) aQ aV aC aP aG aY2_18 aN2_19 aW aK aS aT ++ [(za, .inl (xI g, 4, .inl (fun j => nI (ez j))))]) := hD
                            try dsimp only at hw_125
                            obtain rfl : r_124 = nI (eK (o_kf aG) k) := hw_125
                            refine lv_iconst (v := 1) hx hb dL_law_365 (by decide) ?_
                            refine lv_icmp_le (tgt := 377) hx hb dL_law_366 (by decide) (fun c_126 => ?_) (fun c_126 => ?_)
                            · have nc_126 := (nI_leI (a := eK (o_kf aG) k) (b := 1) (by omega) (by omega)).mp c_126
                              refine lv_iload hx hb dL_law_377 (lv_at hl 0 rfl) ?_
                              refine lv_iconst (v := 1) hx hb dL_law_379 (by decide) ?_
                              refine lv_icmp_ne (tgt := 412) hx hb dL_law_380 (by decide) (fun c_127 => ?_) (fun c_127 => ?_)
                              · have nc_127 := mt (iEq (a := (o_stt aY2_18) (eC (o_kf aG) k)) (b := 1) rfl (by decide) (by omega)).mpr c_127
                                refine lv_iload hx hb dL_law_412 (lv_at hl 0 rfl) ?_
                                refine lv_iconst (v := 1) hx hb dL_law_414 (by decide) ?_
                                refine lv_icmp_ne (tgt := 429) hx hb dL_law_415 (by decide) (fun c_128 => ?_) (fun c_128 => ?_)
                                · have nc_128 := mt (iEq (a := (o_stt aY2_18) (eC (o_kf aG) k)) (b := 1) rfl (by decide) (by omega)).mpr c_128
                                  refine lv_iinc (v := nI (k + 1)) (lv' := [(9, .int (nI (k + 1))), (13, .int (iI ((o_stt aY2_18) (eC (o_kf aG) k)))), (12, .int (nI (eC (o_kf aG) k))), (0, .ref sb), (1, .ref (ad 0)), (7, .ref za), (8, .int (nI (((400 * ((o_kf aG) k / 128)) + (100 * (eK (o_kf aG) k))) + (eC (o_kf aG) k)))), (11, .int (iI z2))]) hx hb dL_law_429 hl (k := 6) rfl (nI_add k 1) (by decide) rfl (fun ls hl => ?_)
                                  refine lv_goto (tgt := 201) hx hb dL_law_432 (by decide) ?_
                                  exact ih201 (k + 1) ((400 * (o_kf aG k / 128) + 100 * eK (o_kf aG) k + eC (o_kf aG) k : Nat) : Int) aY2_18 aN2_19 _ _ _ (by omega) (by omega) (Or.inr ⟨by omega, rfl⟩) hInv (by omega) hs2 hrun2 hI2 (by omega) hP hD hS (by rw [(show iI ((400 * (o_kf aG k / 128) + 100 * eK (o_kf aG) k + eC (o_kf aG) k : Nat) : Int) = nI (((400 * ((o_kf aG) k / 128)) + (100 * (eK (o_kf aG) k))) + (eC (o_kf aG) k)) from (iI_nI _).symm)]; exact lv_sub hl [0, 3, 4, 5, 6] rfl)
                                · have nc_128 := (iEq (a := (o_stt aY2_18) (eC (o_kf aG) k)) (b := 1) rfl (by decide) (by omega)).mp c_128
                                  exfalso; omega
                              · have nc_127 := (iEq (a := (o_stt aY2_18) (eC (o_kf aG) k)) (b := 1) rfl (by decide) (by omega)).mp c_127
                                obtain ⟨t1, t2, t3, t4, t5⟩ := hDid.2.2 (show o_stt aY2_18 (eC (o_kf aG) k) = 1 from by omega)
                                have t3b : o_oo aY2_18 (eC (o_kf aG) k) = ((t1 : Nat) : Int) := t3
                                have t4b : 0 < o_hgt aY2_18 t1 := t4
                                have t5b : o_sd aY2_18 t1 (o_hgt aY2_18 t1 - 1) = eC (o_kf aG) k := t5
                                have hhb1 := hInv.2.2.2.2.1.2.1 t1
                                have hokb : yOk (o_n aC) (o_sc aY2_18) (o_lim aY2_18) (o_hgt aY2_18, o_sd aY2_18, o_oo aY2_18) (o_stt aY2_18) := by rw [hs2.1, hs2.2.1]; exact hI2.1
                                refine lv_aload_n hx hb dL_law_383 rfl (lv_at hl 3 rfl) ?_
                                refine lv_aload_n hx hb dL_law_384 rfl (lv_at hl 3 rfl) ?_
                                refine lv_iload hx hb dL_law_385 (lv_at hl 1 rfl) ?_
                                have hPc := xPl hP
                                have hDc := xDl hD
                                have hFc := xFree hS hA
                                refine va_calli (va_runV (As := [.int (nI (eC (o_kf aG) k))]) (rest := [.ref (ad 0)]) ⟨hx, hb, hml, hown, hts⟩ (L_stackOf l g H.size ad ga (.int 1) (.int 1) aQ aV aC aP aG aY2_18 aN2_19 aW aK aS aT (eC (o_kf aG) k) (show xInv aV aC aP aG aY2_18 aN2_19 aW aK aS aT from by first | assumption | omega) (show (eC (o_kf aG) k) < (o_n aC) from by first | assumption | omega) (show (o_n aC) ≤ 24 from by first | assumption | omega)) (cwV 1 hts gL_law_X8_stackOf rfl rfl rfl (by decide +kernel) ⟨Nat.le_of_ble_eq_true rfl, Nat.le_of_ble_eq_true rfl⟩) ⟨xB.blind, va_recv hK hPc (ci := 8) (q0 := 0) rfl rfl, fun U9 hU9 hW9 => ⟨rfl, xB.mk hPc hK hDc hU9 hW9⟩⟩ rfl rfl hl.1 rfl (lv_room (Nat.le_of_ble_eq_true rfl)) dL_law_387 ⟨Nat.le_of_ble_eq_true rfl, Nat.le_of_ble_eq_true rfl⟩) hS (fun q _ h => hFc q h) hFc (fun r_129 _ t H1 locs ht hvm hw_130 hB hz1 hk1 hS => ?_)
                                have hP := xSame hP hk1
                                generalize H1 = H at hP hS ⊢
                                have hP : va_P (xD g) vwCl (SW g ad ga (.int 1) (.int 1) aQ aV aC aP aG aY2_18 aN2_19 aW aK aS aT ++ [(za, .inl (xI g, 4, .inl (fun j => nI (ez j))))]) H := hP
                                have hD : va_D A (SW g ad ga (.int 1) (.int 1) aQ aV aC aP aG aY2_18 aN2_19 aW aK aS aT ++ [(za, .inl (xI g, 4, .inl (fun j => nI (ez j))))]) := hD
                                try dsimp only at hw_130
                                obtain rfl : r_129 = iI ((o_oo aY2_18) (eC (o_kf aG) k)) := hw_130
                                rw [show iI (o_oo aY2_18 (eC (o_kf aG) k)) = nI t1 from by rw [t3b]; exact (iI_nI t1).symm]
                                refine lv_aload_n hx hb dL_law_390 rfl (lv_at hl 3 rfl) ?_
                                refine lv_aload_n hx hb dL_law_391 rfl (lv_at hl 3 rfl) ?_
                                refine lv_iload hx hb dL_law_392 (lv_at hl 1 rfl) ?_
                                have hPc := xPl hP
                                have hDc := xDl hD
                                have hFc := xFree hS hA
                                refine va_calli (va_runV (As := [.int (nI (eC (o_kf aG) k))]) (rest := [.ref (ad 0), .int (nI t1), .ref (ad 0)]) ⟨hx, hb, hml, hown, hts⟩ (L_stackOf l g H.size ad ga (.int 1) (.int 1) aQ aV aC aP aG aY2_18 aN2_19 aW aK aS aT (eC (o_kf aG) k) (show xInv aV aC aP aG aY2_18 aN2_19 aW aK aS aT from by first | assumption | omega) (show (eC (o_kf aG) k) < (o_n aC) from by first | assumption | omega) (show (o_n aC) ≤ 24 from by first | assumption | omega)) (cwV 1 hts gL_law_X8_stackOf rfl rfl rfl (by decide +kernel) ⟨Nat.le_of_ble_eq_true rfl, Nat.le_of_ble_eq_true rfl⟩) ⟨xB.blind, va_recv hK hPc (ci := 8) (q0 := 0) rfl rfl, fun U9 hU9 hW9 => ⟨rfl, xB.mk hPc hK hDc hU9 hW9⟩⟩ rfl rfl hl.1 rfl (lv_room (Nat.le_of_ble_eq_true rfl)) dL_law_394 ⟨Nat.le_of_ble_eq_true rfl, Nat.le_of_ble_eq_true rfl⟩) hS (fun q _ h => hFc q h) hFc (fun r_131 _ t H1 locs ht hvm hw_132 hB hz1 hk1 hS => ?_)
                                have hP := xSame hP hk1
                                generalize H1 = H at hP hS ⊢
                                have hP : va_P (xD g) vwCl (SW g ad ga (.int 1) (.int 1) aQ aV aC aP aG aY2_18 aN2_19 aW aK aS aT ++ [(za, .inl (xI g, 4, .inl (fun j => nI (ez j))))]) H := hP
                                have hD : va_D A (SW g ad ga (.int 1) (.int 1) aQ aV aC aP aG aY2_18 aN2_19 aW aK aS aT ++ [(za, .inl (xI g, 4, .inl (fun j => nI (ez j))))]) := hD
                                try dsimp only at hw_132
                                obtain rfl : r_131 = iI ((o_oo aY2_18) (eC (o_kf aG) k)) := hw_132
                                rw [show iI (o_oo aY2_18 (eC (o_kf aG) k)) = nI t1 from by rw [t3b]; exact (iI_nI t1).symm]
                                have hPc := xPl hP
                                have hDc := xDl hD
                                have hFc := xFree hS hA
                                refine va_calli (va_runV (As := [.int (nI t1)]) (rest := [.int (nI t1), .ref (ad 0)]) ⟨hx, hb, hml, hown, hts⟩ (L_heightOf l g H.size ad ga (.int 1) (.int 1) aQ aV aC aP aG aY2_18 aN2_19 aW aK aS aT t1 (show xInv aV aC aP aG aY2_18 aN2_19 aW aK aS aT from by first | assumption | omega) (show t1 < o_sc _ from by rw [hsc2]; exact t2) (show (o_sc aY2_18) ≤ 12 from by first | assumption | omega)) (cwV 1 hts gL_law_X8_heightOf rfl rfl rfl (by decide +kernel) ⟨Nat.le_of_ble_eq_true rfl, Nat.le_of_ble_eq_true rfl⟩) ⟨xB.blind, va_recv hK hPc (ci := 8) (q0 := 0) rfl rfl, fun U9 hU9 hW9 => ⟨rfl, xB.mk hPc hK hDc hU9 hW9⟩⟩ rfl rfl hl.1 rfl (lv_room (Nat.le_of_ble_eq_true rfl)) dL_law_397 ⟨Nat.le_of_ble_eq_true rfl, Nat.le_of_ble_eq_true rfl⟩) hS (fun q _ h => hFc q h) hFc (fun r_133 _ t H1 locs ht hvm hw_134 hB hz1 hk1 hS => ?_)
                                have hP := xSame hP hk1
                                generalize H1 = H at hP hS ⊢
                                have hP : va_P (xD g) vwCl (SW g ad ga (.int 1) (.int 1) aQ aV aC aP aG aY2_18 aN2_19 aW aK aS aT ++ [(za, .inl (xI g, 4, .inl (fun j => nI (ez j))))]) H := hP
                                have hD : va_D A (SW g ad ga (.int 1) (.int 1) aQ aV aC aP aG aY2_18 aN2_19 aW aK aS aT ++ [(za, .inl (xI g, 4, .inl (fun j => nI (ez j))))]) := hD
                                try dsimp only at hw_134
                                obtain rfl : r_133 = nI ((o_hgt aY2_18) t1) := hw_134
                                refine lv_iconst (v := 1) hx hb dL_law_400 (by decide) ?_
                                refine lv_isub hx hb dL_law_401 ?_
                                refine lv_topi (fun v_135 ev => ?_)
                                obtain rfl : v_135 = nI (((o_hgt aY2_18) t1) - 1) := ev.trans (pk_sub (a := (o_hgt aY2_18) t1) (b := 1) (by omega))
                                have hPc := xPl hP
                                have hDc := xDl hD
                                have hFc := xFree hS hA
                                refine va_calli (va_runV (As := [.int (nI t1), .int (nI (((o_hgt aY2_18) t1) - 1))]) (rest := []) ⟨hx, hb, hml, hown, hts⟩ (L_containerAt l g H.size ad ga (.int 1) (.int 1) aQ aV aC aP aG aY2_18 aN2_19 aW aK aS aT t1 (((o_hgt aY2_18) t1) - 1) (show xInv aV aC aP aG aY2_18 aN2_19 aW aK aS aT from by first | assumption | omega) (show t1 < o_sc _ from by rw [hsc2]; exact t2) (show (o_sc aY2_18) ≤ 12 from by first | assumption | omega) (show (((o_hgt aY2_18) t1) - 1) < (o_hgt aY2_18) t1 from by first | assumption | omega)) (cwV 2 hts gL_law_X8_containerAt rfl rfl rfl (by decide +kernel) ⟨Nat.le_of_ble_eq_true rfl, Nat.le_of_ble_eq_true rfl⟩) ⟨xB.blind, va_recv hK hPc (ci := 8) (q0 := 0) rfl rfl, fun U9 hU9 hW9 => ⟨rfl, xB.mk hPc hK hDc hU9 hW9⟩⟩ rfl rfl hl.1 rfl (lv_room (Nat.le_of_ble_eq_true rfl)) dL_law_402 ⟨Nat.le_of_ble_eq_true rfl, Nat.le_of_ble_eq_true rfl⟩) hS (fun q _ h => hFc q h) hFc (fun r_136 _ t H1 locs ht hvm hw_137 hB hz1 hk1 hS => ?_)
                                have hP := xSame hP hk1
                                generalize H1 = H at hP hS ⊢
                                have hP : va_P (xD g) vwCl (SW g ad ga (.int 1) (.int 1) aQ aV aC aP aG aY2_18 aN2_19 aW aK aS aT ++ [(za, .inl (xI g, 4, .inl (fun j => nI (ez j))))]) H := hP
                                have hD : va_D A (SW g ad ga (.int 1) (.int 1) aQ aV aC aP aG aY2_18 aN2_19 aW aK aS aT ++ [(za, .inl (xI g, 4, .inl (fun j => nI (ez j))))]) := hD
                                try dsimp only at hw_137
                                obtain rfl : r_136 = nI ((o_sd aY2_18) t1 (((o_hgt aY2_18) t1) - 1)) := hw_137
                                refine lv_iload hx hb dL_law_405 (lv_at hl 1 rfl) ?_
                                refine lv_icmp_eq (tgt := 412) hx hb dL_law_407 (by decide) (fun c_138 => ?_) (fun c_138 => ?_)
                                · have nc_138 := (nI_eq (a := (o_sd aY2_18) t1 (((o_hgt aY2_18) t1) - 1)) (b := eC (o_kf aG) k) (by omega) (by omega)).mp c_138
                                  refine lv_iload hx hb dL_law_412 (lv_at hl 0 rfl) ?_
                                  refine lv_iconst (v := 1) hx hb dL_law_414 (by decide) ?_
                                  refine lv_icmp_ne (tgt := 429) hx hb dL_law_415 (by decide) (fun c_139 => ?_) (fun c_139 => ?_)
                                  · have nc_139 := mt (iEq (a := (o_stt aY2_18) (eC (o_kf aG) k)) (b := 1) rfl (by decide) (by omega)).mpr c_139
                                    refine lv_iinc (v := nI (k + 1)) (lv' := [(9, .int (nI (k + 1))), (13, .int (iI ((o_stt aY2_18) (eC (o_kf aG) k)))), (12, .int (nI (eC (o_kf aG) k))), (0, .ref sb), (1, .ref (ad 0)), (7, .ref za), (8, .int (nI (((400 * ((o_kf aG) k / 128)) + (100 * (eK (o_kf aG) k))) + (eC (o_kf aG) k)))), (11, .int (iI z2))]) hx hb dL_law_429 hl (k := 6) rfl (nI_add k 1) (by decide) rfl (fun ls hl => ?_)
                                    refine lv_goto (tgt := 201) hx hb dL_law_432 (by decide) ?_
                                    exact ih201 (k + 1) ((400 * (o_kf aG k / 128) + 100 * eK (o_kf aG) k + eC (o_kf aG) k : Nat) : Int) aY2_18 aN2_19 _ _ _ (by omega) (by omega) (Or.inr ⟨by omega, rfl⟩) hInv (by omega) hs2 hrun2 hI2 (by omega) hP hD hS (by rw [(show iI ((400 * (o_kf aG k / 128) + 100 * eK (o_kf aG) k + eC (o_kf aG) k : Nat) : Int) = nI (((400 * ((o_kf aG) k / 128)) + (100 * (eK (o_kf aG) k))) + (eC (o_kf aG) k)) from (iI_nI _).symm)]; exact lv_sub hl [0, 3, 4, 5, 6] rfl)
                                  · have nc_139 := (iEq (a := (o_stt aY2_18) (eC (o_kf aG) k)) (b := 1) rfl (by decide) (by omega)).mp c_139
                                    refine lv_aload_n hx hb dL_law_418 rfl (lv_at hl 3 rfl) ?_
                                    refine lv_iload hx hb dL_law_419 (lv_at hl 1 rfl) ?_
                                    have hPc := xPl hP
                                    have hDc := xDl hD
                                    have hFc := xFl hD hS hA
                                    refine va_calli (va_runV (As := [.int (nI (eC (o_kf aG) k))]) (rest := []) ⟨hx, hb, hml, hown, hts⟩ (L_wouldTake l g H.size ad ga (.int 1) (.int 1) aQ aV aC aP aG aY2_18 aN2_19 aW aK aS aT (eC (o_kf aG) k) t1 (show xInv aV aC aP aG aY2_18 aN2_19 aW aK aS aT from by first | assumption | omega) (show (eC (o_kf aG) k) < (o_n aC) from by first | assumption | omega) (show (o_n aC) ≤ 24 from by first | assumption | omega) (show (o_sc aY2_18) ≤ 12 from by first | assumption | omega) (show t1 < o_sc _ from by rw [hsc2]; exact t2) (Or.inl (by omega)) t3b t4b t5 hokb) (cwV 1 hts gL_law_X8_wouldTake rfl rfl rfl (by decide +kernel) ⟨Nat.le_of_ble_eq_true rfl, Nat.le_of_ble_eq_true rfl⟩) ⟨xB.blind, va_recv hK hPc (ci := 8) (q0 := 0) rfl rfl, fun U9 hU9 hW9 => ⟨rfl, xB.mk hPc hK hDc hU9 hW9⟩⟩ rfl rfl hl.1 rfl (lv_room (Nat.le_of_ble_eq_true rfl)) dL_law_421 ⟨Nat.le_of_ble_eq_true rfl, Nat.le_of_ble_eq_true rfl⟩) hS (fun q _ h => hFc q h) hFc (fun r_140 _ t H1 locs ht hvm hw_141 hB hz1 hk1 hS => ?_)
                                    obtain ⟨aN2_142, hc_143, hP1, hK1, hD1⟩ := hB
                                    rw [ht] at hP1
                                    have hInv : xInv aV aC aP aG aY2_18 aN2_142 aW aK aS aT := hc_143
                                    obtain ⟨hP, hD⟩ := xJl hP hD hk1 hFc hP1 hD1
                                    generalize H1 = H at hP hS ⊢
                                    have hP : va_P (xD g) vwCl (SW g ad ga (.int 1) (.int 1) aQ aV aC aP aG aY2_18 aN2_142 aW aK aS aT ++ [(za, .inl (xI g, 4, .inl (fun j => nI (ez j))))]) H := hP
                                    have hD : va_D A (SW g ad ga (.int 1) (.int 1) aQ aV aC aP aG aY2_18 aN2_142 aW aK aS aT ++ [(za, .inl (xI g, 4, .inl (fun j => nI (ez j))))]) := hD
                                    try dsimp only at hw_141
                                    obtain rfl : r_140 = nI 0 := hw_141
                                    refine lv_if_eq (tgt := 429) hx hb dL_law_424 (by decide) (fun c_144 => ?_) (fun c_144 => ?_)
                                    · have nc_144 := (nI_eq (a := 0) (b := 0) (by omega) (by omega)).mp c_144
                                      refine lv_iinc (v := nI (k + 1)) (lv' := [(9, .int (nI (k + 1))), (13, .int (iI ((o_stt aY2_18) (eC (o_kf aG) k)))), (12, .int (nI (eC (o_kf aG) k))), (0, .ref sb), (1, .ref (ad 0)), (7, .ref za), (8, .int (nI (((400 * ((o_kf aG) k / 128)) + (100 * (eK (o_kf aG) k))) + (eC (o_kf aG) k)))), (11, .int (iI z2))]) hx hb dL_law_429 hl (k := 6) rfl (nI_add k 1) (by decide) rfl (fun ls hl => ?_)
                                      refine lv_goto (tgt := 201) hx hb dL_law_432 (by decide) ?_
                                      exact ih201 (k + 1) ((400 * (o_kf aG k / 128) + 100 * eK (o_kf aG) k + eC (o_kf aG) k : Nat) : Int) aY2_18 aN2_142 _ _ _ (by omega) (by omega) (Or.inr ⟨by omega, rfl⟩) hInv (by omega) hs2 hrun2 hI2 (by omega) hP hD hS (by rw [(show iI ((400 * (o_kf aG k / 128) + 100 * eK (o_kf aG) k + eC (o_kf aG) k : Nat) : Int) = nI (((400 * ((o_kf aG) k / 128)) + (100 * (eK (o_kf aG) k))) + (eC (o_kf aG) k)) from (iI_nI _).symm)]; exact lv_sub hl [0, 3, 4, 5, 6] rfl)
                                    · have nc_144 := mt (nI_eq (a := 0) (b := 0) (by omega) (by omega)).mpr c_144
                                      refine lv_iconst (v := 0) hx hb dL_law_427 (by decide) ?_
                                      exfalso; omega
                                · have nc_138 := mt (nI_eq (a := (o_sd aY2_18) t1 (((o_hgt aY2_18) t1) - 1)) (b := eC (o_kf aG) k) (by omega) (by omega)).mpr c_138
                                  refine lv_iconst (v := 0) hx hb dL_law_410 (by decide) ?_
                                  exfalso; omega
                            · have nc_126 := mt (nI_leI (a := eK (o_kf aG) k) (b := 1) (by omega) (by omega)).mpr c_126
                              refine lv_iload hx hb dL_law_369 (lv_at hl 0 rfl) ?_
                              refine lv_iconst (v := 2) hx hb dL_law_371 (by decide) ?_
                              refine lv_icmp_ge (tgt := 377) hx hb dL_law_372 (by decide) (fun c_145 => ?_) (fun c_145 => ?_)
                              · have nc_145 := (iLe (a := 2) (b := (o_stt aY2_18) (eC (o_kf aG) k)) (by decide) rfl (by omega)).mp c_145
                                refine lv_iload hx hb dL_law_377 (lv_at hl 0 rfl) ?_
                                refine lv_iconst (v := 1) hx hb dL_law_379 (by decide) ?_
                                refine lv_icmp_ne (tgt := 412) hx hb dL_law_380 (by decide) (fun c_146 => ?_) (fun c_146 => ?_)
                                · have nc_146 := mt (iEq (a := (o_stt aY2_18) (eC (o_kf aG) k)) (b := 1) rfl (by decide) (by omega)).mpr c_146
                                  refine lv_iload hx hb dL_law_412 (lv_at hl 0 rfl) ?_
                                  refine lv_iconst (v := 1) hx hb dL_law_414 (by decide) ?_
                                  refine lv_icmp_ne (tgt := 429) hx hb dL_law_415 (by decide) (fun c_147 => ?_) (fun c_147 => ?_)
                                  · have nc_147 := mt (iEq (a := (o_stt aY2_18) (eC (o_kf aG) k)) (b := 1) rfl (by decide) (by omega)).mpr c_147
                                    refine lv_iinc (v := nI (k + 1)) (lv' := [(9, .int (nI (k + 1))), (13, .int (iI ((o_stt aY2_18) (eC (o_kf aG) k)))), (12, .int (nI (eC (o_kf aG) k))), (0, .ref sb), (1, .ref (ad 0)), (7, .ref za), (8, .int (nI (((400 * ((o_kf aG) k / 128)) + (100 * (eK (o_kf aG) k))) + (eC (o_kf aG) k)))), (11, .int (iI z2))]) hx hb dL_law_429 hl (k := 6) rfl (nI_add k 1) (by decide) rfl (fun ls hl => ?_)
                                    refine lv_goto (tgt := 201) hx hb dL_law_432 (by decide) ?_
                                    exact ih201 (k + 1) ((400 * (o_kf aG k / 128) + 100 * eK (o_kf aG) k + eC (o_kf aG) k : Nat) : Int) aY2_18 aN2_19 _ _ _ (by omega) (by omega) (Or.inr ⟨by omega, rfl⟩) hInv (by omega) hs2 hrun2 hI2 (by omega) hP hD hS (by rw [(show iI ((400 * (o_kf aG k / 128) + 100 * eK (o_kf aG) k + eC (o_kf aG) k : Nat) : Int) = nI (((400 * ((o_kf aG) k / 128)) + (100 * (eK (o_kf aG) k))) + (eC (o_kf aG) k)) from (iI_nI _).symm)]; exact lv_sub hl [0, 3, 4, 5, 6] rfl)
                                  · have nc_147 := (iEq (a := (o_stt aY2_18) (eC (o_kf aG) k)) (b := 1) rfl (by decide) (by omega)).mp c_147
                                    exfalso; omega
                                · have nc_146 := (iEq (a := (o_stt aY2_18) (eC (o_kf aG) k)) (b := 1) rfl (by decide) (by omega)).mp c_146
                                  obtain ⟨t1, t2, t3, t4, t5⟩ := hDid.2.2 (show o_stt aY2_18 (eC (o_kf aG) k) = 1 from by omega)
                                  have t3b : o_oo aY2_18 (eC (o_kf aG) k) = ((t1 : Nat) : Int) := t3
                                  have t4b : 0 < o_hgt aY2_18 t1 := t4
                                  have t5b : o_sd aY2_18 t1 (o_hgt aY2_18 t1 - 1) = eC (o_kf aG) k := t5
                                  have hhb1 := hInv.2.2.2.2.1.2.1 t1
                                  have hokb : yOk (o_n aC) (o_sc aY2_18) (o_lim aY2_18) (o_hgt aY2_18, o_sd aY2_18, o_oo aY2_18) (o_stt aY2_18) := by rw [hs2.1, hs2.2.1]; exact hI2.1
                                  refine lv_aload_n hx hb dL_law_383 rfl (lv_at hl 3 rfl) ?_
                                  refine lv_aload_n hx hb dL_law_384 rfl (lv_at hl 3 rfl) ?_
                                  refine lv_iload hx hb dL_law_385 (lv_at hl 1 rfl) ?_
                                  have hPc := xPl hP
                                  have hDc := xDl hD
                                  have hFc := xFree hS hA
                                  refine va_calli (va_runV (As := [.int (nI (eC (o_kf aG) k))]) (rest := [.ref (ad 0)]) ⟨hx, hb, hml, hown, hts⟩ (L_stackOf l g H.size ad ga (.int 1) (.int 1) aQ aV aC aP aG aY2_18 aN2_19 aW aK aS aT (eC (o_kf aG) k) (show xInv aV aC aP aG aY2_18 aN2_19 aW aK aS aT from by first | assumption | omega) (show (eC (o_kf aG) k) < (o_n aC) from by first | assumption | omega) (show (o_n aC) ≤ 24 from by first | assumption | omega)) (cwV 1 hts gL_law_X8_stackOf rfl rfl rfl (by decide +kernel) ⟨Nat.le_of_ble_eq_true rfl, Nat.le_of_ble_eq_true rfl⟩) ⟨xB.blind, va_recv hK hPc (ci := 8) (q0 := 0) rfl rfl, fun U9 hU9 hW9 => ⟨rfl, xB.mk hPc hK hDc hU9 hW9⟩⟩ rfl rfl hl.1 rfl (lv_room (Nat.le_of_ble_eq_true rfl)) dL_law_387 ⟨Nat.le_of_ble_eq_true rfl, Nat.le_of_ble_eq_true rfl⟩) hS (fun q _ h => hFc q h) hFc (fun r_148 _ t H1 locs ht hvm hw_149 hB hz1 hk1 hS => ?_)
                                  have hP := xSame hP hk1
                                  generalize H1 = H at hP hS ⊢
                                  have hP : va_P (xD g) vwCl (SW g ad ga (.int 1) (.int 1) aQ aV aC aP aG aY2_18 aN2_19 aW aK aS aT ++ [(za, .inl (xI g, 4, .inl (fun j => nI (ez j))))]) H := hP
                                  have hD : va_D A (SW g ad ga (.int 1) (.int 1) aQ aV aC aP aG aY2_18 aN2_19 aW aK aS aT ++ [(za, .inl (xI g, 4, .inl (fun j => nI (ez j))))]) := hD
                                  try dsimp only at hw_149
                                  obtain rfl : r_148 = iI ((o_oo aY2_18) (eC (o_kf aG) k)) := hw_149
                                  rw [show iI (o_oo aY2_18 (eC (o_kf aG) k)) = nI t1 from by rw [t3b]; exact (iI_nI t1).symm]
                                  refine lv_aload_n hx hb dL_law_390 rfl (lv_at hl 3 rfl) ?_
                                  refine lv_aload_n hx hb dL_law_391 rfl (lv_at hl 3 rfl) ?_
                                  refine lv_iload hx hb dL_law_392 (lv_at hl 1 rfl) ?_
                                  have hPc := xPl hP
                                  have hDc := xDl hD
                                  have hFc := xFree hS hA
                                  refine va_calli (va_runV (As := [.int (nI (eC (o_kf aG) k))]) (rest := [.ref (ad 0), .int (nI t1), .ref (ad 0)]) ⟨hx, hb, hml, hown, hts⟩ (L_stackOf l g H.size ad ga (.int 1) (.int 1) aQ aV aC aP aG aY2_18 aN2_19 aW aK aS aT (eC (o_kf aG) k) (show xInv aV aC aP aG aY2_18 aN2_19 aW aK aS aT from by first | assumption | omega) (show (eC (o_kf aG) k) < (o_n aC) from by first | assumption | omega) (show (o_n aC) ≤ 24 from by first | assumption | omega)) (cwV 1 hts gL_law_X8_stackOf rfl rfl rfl (by decide +kernel) ⟨Nat.le_of_ble_eq_true rfl, Nat.le_of_ble_eq_true rfl⟩) ⟨xB.blind, va_recv hK hPc (ci := 8) (q0 := 0) rfl rfl, fun U9 hU9 hW9 => ⟨rfl, xB.mk hPc hK hDc hU9 hW9⟩⟩ rfl rfl hl.1 rfl (lv_room (Nat.le_of_ble_eq_true rfl)) dL_law_394 ⟨Nat.le_of_ble_eq_true rfl, Nat.le_of_ble_eq_true rfl⟩) hS (fun q _ h => hFc q h) hFc (fun r_150 _ t H1 locs ht hvm hw_151 hB hz1 hk1 hS => ?_)
                                  have hP := xSame hP hk1
                                  generalize H1 = H at hP hS ⊢
                                  have hP : va_P (xD g) vwCl (SW g ad ga (.int 1) (.int 1) aQ aV aC aP aG aY2_18 aN2_19 aW aK aS aT ++ [(za, .inl (xI g, 4, .inl (fun j => nI (ez j))))]) H := hP
                                  have hD : va_D A (SW g ad ga (.int 1) (.int 1) aQ aV aC aP aG aY2_18 aN2_19 aW aK aS aT ++ [(za, .inl (xI g, 4, .inl (fun j => nI (ez j))))]) := hD
                                  try dsimp only at hw_151
                                  obtain rfl : r_150 = iI ((o_oo aY2_18) (eC (o_kf aG) k)) := hw_151
                                  rw [show iI (o_oo aY2_18 (eC (o_kf aG) k)) = nI t1 from by rw [t3b]; exact (iI_nI t1).symm]
                                  have hPc := xPl hP
                                  have hDc := xDl hD
                                  have hFc := xFree hS hA
                                  refine va_calli (va_runV (As := [.int (nI t1)]) (rest := [.int (nI t1), .ref (ad 0)]) ⟨hx, hb, hml, hown, hts⟩ (L_heightOf l g H.size ad ga (.int 1) (.int 1) aQ aV aC aP aG aY2_18 aN2_19 aW aK aS aT t1 (show xInv aV aC aP aG aY2_18 aN2_19 aW aK aS aT from by first | assumption | omega) (show t1 < o_sc _ from by rw [hsc2]; exact t2) (show (o_sc aY2_18) ≤ 12 from by first | assumption | omega)) (cwV 1 hts gL_law_X8_heightOf rfl rfl rfl (by decide +kernel) ⟨Nat.le_of_ble_eq_true rfl, Nat.le_of_ble_eq_true rfl⟩) ⟨xB.blind, va_recv hK hPc (ci := 8) (q0 := 0) rfl rfl, fun U9 hU9 hW9 => ⟨rfl, xB.mk hPc hK hDc hU9 hW9⟩⟩ rfl rfl hl.1 rfl (lv_room (Nat.le_of_ble_eq_true rfl)) dL_law_397 ⟨Nat.le_of_ble_eq_true rfl, Nat.le_of_ble_eq_true rfl⟩) hS (fun q _ h => hFc q h) hFc (fun r_152 _ t H1 locs ht hvm hw_153 hB hz1 hk1 hS => ?_)
                                  have hP := xSame hP hk1
                                  generalize H1 = H at hP hS ⊢
                                  have hP : va_P (xD g) vwCl (SW g ad ga (.int 1) (.int 1) aQ aV aC aP aG aY2_18 aN2_19 aW aK aS aT ++ [(za, .inl (xI g, 4, .inl (fun j => nI (ez j))))]) H := hP
                                  have hD : va_D A (SW g ad ga (.int 1) (.int 1) aQ aV aC aP aG aY2_18 aN2_19 aW aK aS aT ++ [(za, .inl (xI g, 4, .inl (fun j => nI (ez j))))]) := hD
                                  try dsimp only at hw_153
                                  obtain rfl : r_152 = nI ((o_hgt aY2_18) t1) := hw_153
                                  refine lv_iconst (v := 1) hx hb dL_law_400 (by decide) ?_
                                  refine lv_isub hx hb dL_law_401 ?_
                                  refine lv_topi (fun v_154 ev => ?_)
                                  obtain rfl : v_154 = nI (((o_hgt aY2_18) t1) - 1) := ev.trans (pk_sub (a := (o_hgt aY2_18) t1) (b := 1) (by omega))
                                  have hPc := xPl hP
                                  have hDc := xDl hD
                                  have hFc := xFree hS hA
                                  refine va_calli (va_runV (As := [.int (nI t1), .int (nI (((o_hgt aY2_18) t1) - 1))]) (rest := []) ⟨hx, hb, hml, hown, hts⟩ (L_containerAt l g H.size ad ga (.int 1) (.int 1) aQ aV aC aP aG aY2_18 aN2_19 aW aK aS aT t1 (((o_hgt aY2_18) t1) - 1) (show xInv aV aC aP aG aY2_18 aN2_19 aW aK aS aT from by first | assumption | omega) (show t1 < o_sc _ from by rw [hsc2]; exact t2) (show (o_sc aY2_18) ≤ 12 from by first | assumption | omega) (show (((o_hgt aY2_18) t1) - 1) < (o_hgt aY2_18) t1 from by first | assumption | omega)) (cwV 2 hts gL_law_X8_containerAt rfl rfl rfl (by decide +kernel) ⟨Nat.le_of_ble_eq_true rfl, Nat.le_of_ble_eq_true rfl⟩) ⟨xB.blind, va_recv hK hPc (ci := 8) (q0 := 0) rfl rfl, fun U9 hU9 hW9 => ⟨rfl, xB.mk hPc hK hDc hU9 hW9⟩⟩ rfl rfl hl.1 rfl (lv_room (Nat.le_of_ble_eq_true rfl)) dL_law_402 ⟨Nat.le_of_ble_eq_true rfl, Nat.le_of_ble_eq_true rfl⟩) hS (fun q _ h => hFc q h) hFc (fun r_155 _ t H1 locs ht hvm hw_156 hB hz1 hk1 hS => ?_)
                                  have hP := xSame hP hk1
                                  generalize H1 = H at hP hS ⊢
                                  have hP : va_P (xD g) vwCl (SW g ad ga (.int 1) (.int 1) aQ aV aC aP aG aY2_18 aN2_19 aW aK aS aT ++ [(za, .inl (xI g, 4, .inl (fun j => nI (ez j))))]) H := hP
                                  have hD : va_D A (SW g ad ga (.int 1) (.int 1) aQ aV aC aP aG aY2_18 aN2_19 aW aK aS aT ++ [(za, .inl (xI g, 4, .inl (fun j => nI (ez j))))]) := hD
                                  try dsimp only at hw_156
                                  obtain rfl : r_155 = nI ((o_sd aY2_18) t1 (((o_hgt aY2_18) t1) - 1)) := hw_156
                                  refine lv_iload hx hb dL_law_405 (lv_at hl 1 rfl) ?_
                                  refine lv_icmp_eq (tgt := 412) hx hb dL_law_407 (by decide) (fun c_157 => ?_) (fun c_157 => ?_)
                                  · have nc_157 := (nI_eq (a := (o_sd aY2_18) t1 (((o_hgt aY2_18) t1) - 1)) (b := eC (o_kf aG) k) (by omega) (by omega)).mp c_157
                                    refine lv_iload hx hb dL_law_412 (lv_at hl 0 rfl) ?_
                                    refine lv_iconst (v := 1) hx hb dL_law_414 (by decide) ?_
                                    refine lv_icmp_ne (tgt := 429) hx hb dL_law_415 (by decide) (fun c_158 => ?_) (fun c_158 => ?_)
                                    · have nc_158 := mt (iEq (a := (o_stt aY2_18) (eC (o_kf aG) k)) (b := 1) rfl (by decide) (by omega)).mpr c_158
                                      refine lv_iinc (v := nI (k + 1)) (lv' := [(9, .int (nI (k + 1))), (13, .int (iI ((o_stt aY2_18) (eC (o_kf aG) k)))), (12, .int (nI (eC (o_kf aG) k))), (0, .ref sb), (1, .ref (ad 0)), (7, .ref za), (8, .int (nI (((400 * ((o_kf aG) k / 128)) + (100 * (eK (o_kf aG) k))) + (eC (o_kf aG) k)))), (11, .int (iI z2))]) hx hb dL_law_429 hl (k := 6) rfl (nI_add k 1) (by decide) rfl (fun ls hl => ?_)
                                      refine lv_goto (tgt := 201) hx hb dL_law_432 (by decide) ?_
                                      exact ih201 (k + 1) ((400 * (o_kf aG k / 128) + 100 * eK (o_kf aG) k + eC (o_kf aG) k : Nat) : Int) aY2_18 aN2_19 _ _ _ (by omega) (by omega) (Or.inr ⟨by omega, rfl⟩) hInv (by omega) hs2 hrun2 hI2 (by omega) hP hD hS (by rw [(show iI ((400 * (o_kf aG k / 128) + 100 * eK (o_kf aG) k + eC (o_kf aG) k : Nat) : Int) = nI (((400 * ((o_kf aG) k / 128)) + (100 * (eK (o_kf aG) k))) + (eC (o_kf aG) k)) from (iI_nI _).symm)]; exact lv_sub hl [0, 3, 4, 5, 6] rfl)
                                    · have nc_158 := (iEq (a := (o_stt aY2_18) (eC (o_kf aG) k)) (b := 1) rfl (by decide) (by omega)).mp c_158
                                      refine lv_aload_n hx hb dL_law_418 rfl (lv_at hl 3 rfl) ?_
                                      refine lv_iload hx hb dL_law_419 (lv_at hl 1 rfl) ?_
                                      have hPc := xPl hP
                                      have hDc := xDl hD
                                      have hFc := xFl hD hS hA
                                      refine va_calli (va_runV (As := [.int (nI (eC (o_kf aG) k))]) (rest := []) ⟨hx, hb, hml, hown, hts⟩ (L_wouldTake l g H.size ad ga (.int 1) (.int 1) aQ aV aC aP aG aY2_18 aN2_19 aW aK aS aT (eC (o_kf aG) k) t1 (show xInv aV aC aP aG aY2_18 aN2_19 aW aK aS aT from by first | assumption | omega) (show (eC (o_kf aG) k) < (o_n aC) from by first | assumption | omega) (show (o_n aC) ≤ 24 from by first | assumption | omega) (show (o_sc aY2_18) ≤ 12 from by first | assumption | omega) (show t1 < o_sc _ from by rw [hsc2]; exact t2) (Or.inl (by omega)) t3b t4b t5 hokb) (cwV 1 hts gL_law_X8_wouldTake rfl rfl rfl (by decide +kernel) ⟨Nat.le_of_ble_eq_true rfl, Nat.le_of_ble_eq_true rfl⟩) ⟨xB.blind, va_recv hK hPc (ci := 8) (q0 := 0) rfl rfl, fun U9 hU9 hW9 => ⟨rfl, xB.mk hPc hK hDc hU9 hW9⟩⟩ rfl rfl hl.1 rfl (lv_room (Nat.le_of_ble_eq_true rfl)) dL_law_421 ⟨Nat.le_of_ble_eq_true rfl, Nat.le_of_ble_eq_true rfl⟩) hS (fun q _ h => hFc q h) hFc (fun r_159 _ t H1 locs ht hvm hw_160 hB hz1 hk1 hS => ?_)
                                      obtain ⟨aN2_161, hc_162, hP1, hK1, hD1⟩ := hB
                                      rw [ht] at hP1
                                      have hInv : xInv aV aC aP aG aY2_18 aN2_161 aW aK aS aT := hc_162
                                      obtain ⟨hP, hD⟩ := xJl hP hD hk1 hFc hP1 hD1
                                      generalize H1 = H at hP hS ⊢
                                      have hP : va_P (xD g) vwCl (SW g ad ga (.int 1) (.int 1) aQ aV aC aP aG aY2_18 aN2_161 aW aK aS aT ++ [(za, .inl (xI g, 4, .inl (fun j => nI (ez j))))]) H := hP
                                      have hD : va_D A (SW g ad ga (.int 1) (.int 1) aQ aV aC aP aG aY2_18 aN2_161 aW aK aS aT ++ [(za, .inl (xI g, 4, .inl (fun j => nI (ez j))))]) := hD
                                      try dsimp only at hw_160
                                      obtain rfl : r_159 = nI 0 := hw_160
                                      refine lv_if_eq (tgt := 429) hx hb dL_law_424 (by decide) (fun c_163 => ?_) (fun c_163 => ?_)
                                      · have nc_163 := (nI_eq (a := 0) (b := 0) (by omega) (by omega)).mp c_163
                                        refine lv_iinc (v := nI (k + 1)) (lv' := [(9, .int (nI (k + 1))), (13, .int (iI ((o_stt aY2_18) (eC (o_kf aG) k)))), (12, .int (nI (eC (o_kf aG) k))), (0, .ref sb), (1, .ref (ad 0)), (7, .ref za), (8, .int (nI (((400 * ((o_kf aG) k / 128)) + (100 * (eK (o_kf aG) k))) + (eC (o_kf aG) k)))), (11, .int (iI z2))]) hx hb dL_law_429 hl (k := 6) rfl (nI_add k 1) (by decide) rfl (fun ls hl => ?_)
                                        refine lv_goto (tgt := 201) hx hb dL_law_432 (by decide) ?_
                                        exact ih201 (k + 1) ((400 * (o_kf aG k / 128) + 100 * eK (o_kf aG) k + eC (o_kf aG) k : Nat) : Int) aY2_18 aN2_161 _ _ _ (by omega) (by omega) (Or.inr ⟨by omega, rfl⟩) hInv (by omega) hs2 hrun2 hI2 (by omega) hP hD hS (by rw [(show iI ((400 * (o_kf aG k / 128) + 100 * eK (o_kf aG) k + eC (o_kf aG) k : Nat) : Int) = nI (((400 * ((o_kf aG) k / 128)) + (100 * (eK (o_kf aG) k))) + (eC (o_kf aG) k)) from (iI_nI _).symm)]; exact lv_sub hl [0, 3, 4, 5, 6] rfl)
                                      · have nc_163 := mt (nI_eq (a := 0) (b := 0) (by omega) (by omega)).mpr c_163
                                        refine lv_iconst (v := 0) hx hb dL_law_427 (by decide) ?_
                                        exfalso; omega
                                  · have nc_157 := mt (nI_eq (a := (o_sd aY2_18) t1 (((o_hgt aY2_18) t1) - 1)) (b := eC (o_kf aG) k) (by omega) (by omega)).mpr c_157
                                    refine lv_iconst (v := 0) hx hb dL_law_410 (by decide) ?_
                                    exfalso; omega
                              · have nc_145 := mt (iLe (a := 2) (b := (o_stt aY2_18) (eC (o_kf aG) k)) (by decide) rfl (by omega)).mpr c_145
                                refine lv_iconst (v := 0) hx hb dL_law_375 (by decide) ?_
                                exfalso; omega
                · have nc_25 := mt (nI_leI (a := o_sc aY2_18) (b := tt9) (by omega) (by omega)).mpr c_25
                  refine lv_iload hx hb dL_law_279 (lv_at hl 6 rfl) ?_
                  refine lv_aload_n hx hb dL_law_281 rfl (lv_at hl 2 rfl) ?_
                  refine lv_iload hx hb dL_law_282 (lv_at hl 0 rfl) ?_
                  have hPc := xPl hP
                  have hDc := xDl hD
                  have hFc := xFree hS hA
                  refine va_calli (va_runV (As := [.int (nI tt9)]) (rest := [.int (iI z2)]) ⟨hx, hb, hml, hown, hts⟩ (L_heightOf l g H.size ad ga (.int 1) (.int 1) aQ aV aC aP aG aY2_18 aN2_19 aW aK aS aT tt9 (show xInv aV aC aP aG aY2_18 aN2_19 aW aK aS aT from by first | assumption | omega) (show tt9 < (o_sc aY2_18) from by first | assumption | omega) (show (o_sc aY2_18) ≤ 12 from by first | assumption | omega)) (cwV 1 hts gL_law_X8_heightOf rfl rfl rfl (by decide +kernel) ⟨Nat.le_of_ble_eq_true rfl, Nat.le_of_ble_eq_true rfl⟩) ⟨xB.blind, va_recv hK hPc (ci := 8) (q0 := 0) rfl rfl, fun U9 hU9 hW9 => ⟨rfl, xB.mk hPc hK hDc hU9 hW9⟩⟩ rfl rfl hl.1 rfl (lv_room (Nat.le_of_ble_eq_true rfl)) dL_law_284 ⟨Nat.le_of_ble_eq_true rfl, Nat.le_of_ble_eq_true rfl⟩) hS (fun q _ h => hFc q h) hFc (fun r_164 _ t H1 locs ht hvm hw_165 hB hz1 hk1 hS => ?_)
                  have hP := xSame hP hk1
                  generalize H1 = H at hP hS ⊢
                  have hP : va_P (xD g) vwCl (SW g ad ga (.int 1) (.int 1) aQ aV aC aP aG aY2_18 aN2_19 aW aK aS aT ++ [(za, .inl (xI g, 4, .inl (fun j => nI (ez j))))]) H := hP
                  have hD : va_D A (SW g ad ga (.int 1) (.int 1) aQ aV aC aP aG aY2_18 aN2_19 aW aK aS aT ++ [(za, .inl (xI g, 4, .inl (fun j => nI (ez j))))]) := hD
                  try dsimp only at hw_165
                  obtain rfl : r_164 = nI ((o_hgt aY2_18) tt9) := hw_165
                  refine lv_iadd hx hb dL_law_287 ?_
                  refine lv_topi (fun v_166 ev => ?_)
                  obtain rfl : v_166 = iI (z2 + (((o_hgt aY2_18) tt9 : Nat) : Int)) := ev.trans (iA rfl (iI_nI _))
                  refine lv_istore (lv' := [(11, .int (iI (z2 + (((o_hgt aY2_18) tt9 : Nat) : Int)))), (12, .int (nI tt9)), (0, .ref sb), (1, .ref (ad 0)), (7, .ref za), (8, .int (nI (((400 * ((o_kf aG) k / 128)) + (100 * (eK (o_kf aG) k))) + (eC (o_kf aG) k)))), (9, .int (nI k))]) hx hb dL_law_288 hl (by decide) rfl (fun ls hl => ?_)
                  refine lv_iinc (v := nI (tt9 + 1)) (lv' := [(12, .int (nI (tt9 + 1))), (11, .int (iI (z2 + (((o_hgt aY2_18) tt9 : Nat) : Int)))), (0, .ref sb), (1, .ref (ad 0)), (7, .ref za), (8, .int (nI (((400 * ((o_kf aG) k / 128)) + (100 * (eK (o_kf aG) k))) + (eC (o_kf aG) k)))), (9, .int (nI k))]) hx hb dL_law_290 hl (k := 1) rfl (nI_add tt9 1) (by decide) rfl (fun ls hl => ?_)
                  refine lv_goto (tgt := 270) hx hb dL_law_293 (by decide) ?_
                  exact ih270 (tt9 + 1) (z2 + (((o_hgt aY2_18) tt9 : Nat) : Int)) _ _ _ (by omega) (by omega) (by rw [hzz]; rfl) (by omega) hP hD hS (lv_sub hl [0, 2, 3, 4, 5, 6, 1] rfl)
            exact hloop270 (o_sc aY + 1) 0 0 _ _ _ (by omega) (Nat.zero_le _) rfl (by omega) hP hD hS (by rw [(show nI 0 = (0 : Int32) from by decide), (show iI 0 = (0 : Int32) from by decide)]; exact lv_sub hl [0, 5, 6, 7, 2, 4, 1] rfl)
          · have nc_22 := mt (nI_eq (a := o_wo aYe + 1) (b := k + 1) (by omega) (by omega)).mpr c_22
            refine lv_iconst (v := 0) hx hb dL_law_258 (by decide) ?_
            exfalso; omega
  exact hloop201 (o_cnt aG + 1) 0 (-1) aY aN _ _ _ (by omega) (Nat.zero_le _) (Or.inl ⟨rfl, rfl⟩) hInv hwo0 ⟨rfl, rfl, rfl, rfl⟩ rfl hI0 (by omega) hP hD hS (by rw [(show nI 0 = (0 : Int32) from by decide), (show iI (-1) = ((-1) : Int32) from by decide)]; exact lv_sub hl [0, 2, 3, 4, 1] rfl)
