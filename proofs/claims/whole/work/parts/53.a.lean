/-! the law's own instructions, 1 -/
theorem dL_law__0 : decode cL_law_ 0 = .ok (.new 8, 3) := by decide +kernel
theorem dL_law__3 : decode cL_law_ 3 = .ok (.dup, 1) := by decide +kernel
theorem dL_law__4 : decode cL_law_ 4 = .ok (.invokespecial 129, 3) := by decide +kernel
theorem dL_law__7 : decode cL_law_ 7 = .ok (.astore_n 1, 1) := by decide +kernel
theorem dL_law__8 : decode cL_law_ 8 = .ok (.new 130, 3) := by decide +kernel
theorem dL_law__11 : decode cL_law_ 11 = .ok (.dup, 1) := by decide +kernel
theorem dL_law__12 : decode cL_law_ 12 = .ok (.invokespecial 132, 3) := by decide +kernel
theorem dL_law__15 : decode cL_law_ 15 = .ok (.astore_n 2, 1) := by decide +kernel
theorem dL_law__16 : decode cL_law_ 16 = .ok (.iconst 1, 1) := by decide +kernel
theorem dL_law__17 : decode cL_law_ 17 = .ok (.newarray .long, 2) := by decide +kernel
theorem dL_law__19 : decode cL_law_ 19 = .ok (.astore_n 3, 1) := by decide +kernel
theorem dL_law__20 : decode cL_law_ 20 = .ok (.iconst 0, 1) := by decide +kernel
theorem dL_law__21 : decode cL_law_ 21 = .ok (.istore 4, 2) := by decide +kernel
theorem dL_law__23 : decode cL_law_ 23 = .ok (.iload 4, 2) := by decide +kernel
theorem dL_law__25 : decode cL_law_ 25 = .ok (.aload_n 0, 1) := by decide +kernel
theorem dL_law__26 : decode cL_law_ 26 = .ok (.arraylength, 1) := by decide +kernel
theorem dL_law__27 : decode cL_law_ 27 = .ok (.bipush 6, 2) := by decide +kernel
theorem dL_law__29 : decode cL_law_ 29 = .ok (.isub, 1) := by decide +kernel
theorem dL_law__30 : decode cL_law_ 30 = .ok (.if_icmp .gt 2921, 3) := by decide +kernel
theorem dL_law__33 : decode cL_law_ 33 = .ok (.aload_n 0, 1) := by decide +kernel
theorem dL_law__34 : decode cL_law_ 34 = .ok (.iload 4, 2) := by decide +kernel
theorem dL_law__36 : decode cL_law_ 36 = .ok (.iaload, 1) := by decide +kernel
theorem dL_law__37 : decode cL_law_ 37 = .ok (.bipush 63, 2) := by decide +kernel
theorem dL_law__39 : decode cL_law_ 39 = .ok (.iand, 1) := by decide +kernel
theorem dL_law__40 : decode cL_law_ 40 = .ok (.tableswitch 2905 0 46 #[204, 277, 302, 346, 390, 403, 471, 539, 619, 727, 807, 875, 955, 1035, 1103, 1171, 1274, 1330, 1438, 1506, 1574, 1642, 1698, 1711, 1724, 1780, 1855, 1939, 1995, 2075, 2143, 2156, 2169, 2237, 2321, 2377, 2445, 2501, 2514, 2582, 2666, 2750, 2818, 2843, 2856, 2867, 2880], 204) := by decide +kernel
theorem dL_law__244 : decode cL_law_ 244 = .ok (.aload_n 1, 1) := by decide +kernel
theorem dL_law__245 : decode cL_law_ 245 = .ok (.aload_n 0, 1) := by decide +kernel
theorem dL_law__246 : decode cL_law_ 246 = .ok (.iload 4, 2) := by decide +kernel
theorem dL_law__248 : decode cL_law_ 248 = .ok (.iconst 1, 1) := by decide +kernel
theorem dL_law__249 : decode cL_law_ 249 = .ok (.iadd, 1) := by decide +kernel
theorem dL_law__250 : decode cL_law_ 250 = .ok (.iaload, 1) := by decide +kernel
theorem dL_law__251 : decode cL_law_ 251 = .ok (.aload_n 0, 1) := by decide +kernel
theorem dL_law__252 : decode cL_law_ 252 = .ok (.iload 4, 2) := by decide +kernel
theorem dL_law__254 : decode cL_law_ 254 = .ok (.iconst 2, 1) := by decide +kernel
theorem dL_law__255 : decode cL_law_ 255 = .ok (.iadd, 1) := by decide +kernel
theorem dL_law__256 : decode cL_law_ 256 = .ok (.iaload, 1) := by decide +kernel
theorem dL_law__257 : decode cL_law_ 257 = .ok (.aload_n 0, 1) := by decide +kernel
theorem dL_law__258 : decode cL_law_ 258 = .ok (.iload 4, 2) := by decide +kernel
theorem dL_law__260 : decode cL_law_ 260 = .ok (.iconst 3, 1) := by decide +kernel
theorem dL_law__261 : decode cL_law_ 261 = .ok (.iadd, 1) := by decide +kernel
theorem dL_law__262 : decode cL_law_ 262 = .ok (.iaload, 1) := by decide +kernel
theorem dL_law__263 : decode cL_law_ 263 = .ok (.aload_n 0, 1) := by decide +kernel
theorem dL_law__264 : decode cL_law_ 264 = .ok (.iload 4, 2) := by decide +kernel
theorem dL_law__266 : decode cL_law_ 266 = .ok (.iconst 4, 1) := by decide +kernel
theorem dL_law__267 : decode cL_law_ 267 = .ok (.iadd, 1) := by decide +kernel
theorem dL_law__268 : decode cL_law_ 268 = .ok (.iaload, 1) := by decide +kernel
theorem dL_law__269 : decode cL_law_ 269 = .ok (.aload_n 0, 1) := by decide +kernel
theorem dL_law__270 : decode cL_law_ 270 = .ok (.iload 4, 2) := by decide +kernel
theorem dL_law__272 : decode cL_law_ 272 = .ok (.iconst 5, 1) := by decide +kernel
theorem dL_law__273 : decode cL_law_ 273 = .ok (.iadd, 1) := by decide +kernel
theorem dL_law__274 : decode cL_law_ 274 = .ok (.iaload, 1) := by decide +kernel
theorem dL_law__275 : decode cL_law_ 275 = .ok (.invokevirtual 133, 3) := by decide +kernel
theorem dL_law__278 : decode cL_law_ 278 = .ok (.aload_n 2, 1) := by decide +kernel
theorem dL_law__279 : decode cL_law_ 279 = .ok (.aload_n 0, 1) := by decide +kernel
theorem dL_law__280 : decode cL_law_ 280 = .ok (.iload 4, 2) := by decide +kernel
theorem dL_law__282 : decode cL_law_ 282 = .ok (.iconst 1, 1) := by decide +kernel
theorem dL_law__283 : decode cL_law_ 283 = .ok (.iadd, 1) := by decide +kernel
theorem dL_law__284 : decode cL_law_ 284 = .ok (.iaload, 1) := by decide +kernel
theorem dL_law__285 : decode cL_law_ 285 = .ok (.aload_n 0, 1) := by decide +kernel
theorem dL_law__286 : decode cL_law_ 286 = .ok (.iload 4, 2) := by decide +kernel
theorem dL_law__288 : decode cL_law_ 288 = .ok (.iconst 2, 1) := by decide +kernel
theorem dL_law__289 : decode cL_law_ 289 = .ok (.iadd, 1) := by decide +kernel
theorem dL_law__290 : decode cL_law_ 290 = .ok (.iaload, 1) := by decide +kernel
theorem dL_law__291 : decode cL_law_ 291 = .ok (.aload_n 0, 1) := by decide +kernel
theorem dL_law__292 : decode cL_law_ 292 = .ok (.iload 4, 2) := by decide +kernel
theorem dL_law__294 : decode cL_law_ 294 = .ok (.iconst 3, 1) := by decide +kernel
theorem dL_law__295 : decode cL_law_ 295 = .ok (.iadd, 1) := by decide +kernel
theorem dL_law__296 : decode cL_law_ 296 = .ok (.iaload, 1) := by decide +kernel
theorem dL_law__297 : decode cL_law_ 297 = .ok (.aload_n 0, 1) := by decide +kernel
theorem dL_law__298 : decode cL_law_ 298 = .ok (.iload 4, 2) := by decide +kernel
theorem dL_law__300 : decode cL_law_ 300 = .ok (.iconst 4, 1) := by decide +kernel
theorem dL_law__301 : decode cL_law_ 301 = .ok (.iadd, 1) := by decide +kernel
theorem dL_law__302 : decode cL_law_ 302 = .ok (.iaload, 1) := by decide +kernel
theorem dL_law__303 : decode cL_law_ 303 = .ok (.aload_n 0, 1) := by decide +kernel
theorem dL_law__304 : decode cL_law_ 304 = .ok (.iload 4, 2) := by decide +kernel
theorem dL_law__306 : decode cL_law_ 306 = .ok (.iconst 5, 1) := by decide +kernel
theorem dL_law__307 : decode cL_law_ 307 = .ok (.iadd, 1) := by decide +kernel
theorem dL_law__308 : decode cL_law_ 308 = .ok (.iaload, 1) := by decide +kernel
theorem dL_law__309 : decode cL_law_ 309 = .ok (.invokevirtual 137, 3) := by decide +kernel
theorem dL_law__312 : decode cL_law_ 312 = .ok (.if_icmp .eq 2633, 3) := by decide +kernel
theorem dL_law__315 : decode cL_law_ 315 = .ok (.iconst 0, 1) := by decide +kernel
theorem dL_law__316 : decode cL_law_ 316 = .ok (.ireturn, 1) := by decide +kernel
theorem dL_law__317 : decode cL_law_ 317 = .ok (.aload_n 1, 1) := by decide +kernel
theorem dL_law__318 : decode cL_law_ 318 = .ok (.aload_n 0, 1) := by decide +kernel
theorem dL_law__319 : decode cL_law_ 319 = .ok (.iload 4, 2) := by decide +kernel
theorem dL_law__321 : decode cL_law_ 321 = .ok (.iconst 1, 1) := by decide +kernel
theorem dL_law__322 : decode cL_law_ 322 = .ok (.iadd, 1) := by decide +kernel
theorem dL_law__323 : decode cL_law_ 323 = .ok (.iaload, 1) := by decide +kernel
theorem dL_law__324 : decode cL_law_ 324 = .ok (.invokevirtual 138, 3) := by decide +kernel
theorem dL_law__327 : decode cL_law_ 327 = .ok (.aload_n 2, 1) := by decide +kernel
theorem dL_law__328 : decode cL_law_ 328 = .ok (.aload_n 0, 1) := by decide +kernel
theorem dL_law__329 : decode cL_law_ 329 = .ok (.iload 4, 2) := by decide +kernel
theorem dL_law__331 : decode cL_law_ 331 = .ok (.iconst 1, 1) := by decide +kernel
theorem dL_law__332 : decode cL_law_ 332 = .ok (.iadd, 1) := by decide +kernel
theorem dL_law__333 : decode cL_law_ 333 = .ok (.iaload, 1) := by decide +kernel
theorem dL_law__334 : decode cL_law_ 334 = .ok (.invokevirtual 142, 3) := by decide +kernel
theorem dL_law__337 : decode cL_law_ 337 = .ok (.if_icmp .eq 2608, 3) := by decide +kernel
theorem dL_law__340 : decode cL_law_ 340 = .ok (.iconst 0, 1) := by decide +kernel
theorem dL_law__341 : decode cL_law_ 341 = .ok (.ireturn, 1) := by decide +kernel
theorem dL_law__342 : decode cL_law_ 342 = .ok (.aload_n 1, 1) := by decide +kernel
theorem dL_law__343 : decode cL_law_ 343 = .ok (.aload_n 3, 1) := by decide +kernel
theorem dL_law__344 : decode cL_law_ 344 = .ok (.invokestatic 143, 3) := by decide +kernel
theorem dL_law__347 : decode cL_law_ 347 = .ok (.istore 5, 2) := by decide +kernel
theorem dL_law__349 : decode cL_law_ 349 = .ok (.aload_n 2, 1) := by decide +kernel
theorem dL_law__350 : decode cL_law_ 350 = .ok (.invokevirtual 148, 3) := by decide +kernel
theorem dL_law__353 : decode cL_law_ 353 = .ok (.istore 6, 2) := by decide +kernel
theorem dL_law__355 : decode cL_law_ 355 = .ok (.aload_n 2, 1) := by decide +kernel
theorem dL_law__356 : decode cL_law_ 356 = .ok (.invokevirtual 149, 3) := by decide +kernel
theorem dL_law__359 : decode cL_law_ 359 = .ok (.iload 5, 2) := by decide +kernel
theorem dL_law__361 : decode cL_law_ 361 = .ok (.if_icmp .eq 5, 3) := by decide +kernel
theorem dL_law__364 : decode cL_law_ 364 = .ok (.iconst 0, 1) := by decide +kernel
theorem dL_law__365 : decode cL_law_ 365 = .ok (.ireturn, 1) := by decide +kernel
theorem dL_law__366 : decode cL_law_ 366 = .ok (.iload 5, 2) := by decide +kernel
theorem dL_law__368 : decode cL_law_ 368 = .ok (.ifCond .ne 15, 3) := by decide +kernel
theorem dL_law__371 : decode cL_law_ 371 = .ok (.aload_n 3, 1) := by decide +kernel
theorem dL_law__372 : decode cL_law_ 372 = .ok (.iconst 0, 1) := by decide +kernel
theorem dL_law__373 : decode cL_law_ 373 = .ok (.laload, 1) := by decide +kernel
theorem dL_law__374 : decode cL_law_ 374 = .ok (.iload 6, 2) := by decide +kernel
theorem dL_law__376 : decode cL_law_ 376 = .ok (.i2l, 1) := by decide +kernel
theorem dL_law__377 : decode cL_law_ 377 = .ok (.lcmp, 1) := by decide +kernel
theorem dL_law__378 : decode cL_law_ 378 = .ok (.ifCond .eq 5, 3) := by decide +kernel
theorem dL_law__381 : decode cL_law_ 381 = .ok (.iconst 0, 1) := by decide +kernel
theorem dL_law__382 : decode cL_law_ 382 = .ok (.ireturn, 1) := by decide +kernel
theorem dL_law__383 : decode cL_law_ 383 = .ok (.goto 2562, 3) := by decide +kernel
theorem dL_law__386 : decode cL_law_ 386 = .ok (.aload_n 1, 1) := by decide +kernel
theorem dL_law__387 : decode cL_law_ 387 = .ok (.aload_n 3, 1) := by decide +kernel
theorem dL_law__388 : decode cL_law_ 388 = .ok (.invokestatic 152, 3) := by decide +kernel
theorem dL_law__391 : decode cL_law_ 391 = .ok (.istore 5, 2) := by decide +kernel
theorem dL_law__393 : decode cL_law_ 393 = .ok (.aload_n 2, 1) := by decide +kernel
theorem dL_law__394 : decode cL_law_ 394 = .ok (.invokevirtual 154, 3) := by decide +kernel
theorem dL_law__397 : decode cL_law_ 397 = .ok (.istore 6, 2) := by decide +kernel
theorem dL_law__399 : decode cL_law_ 399 = .ok (.aload_n 2, 1) := by decide +kernel
theorem dL_law__400 : decode cL_law_ 400 = .ok (.invokevirtual 149, 3) := by decide +kernel
theorem dL_law__403 : decode cL_law_ 403 = .ok (.iload 5, 2) := by decide +kernel
theorem dL_law__405 : decode cL_law_ 405 = .ok (.if_icmp .eq 5, 3) := by decide +kernel
theorem dL_law__408 : decode cL_law_ 408 = .ok (.iconst 0, 1) := by decide +kernel
theorem dL_law__409 : decode cL_law_ 409 = .ok (.ireturn, 1) := by decide +kernel
theorem dL_law__410 : decode cL_law_ 410 = .ok (.iload 5, 2) := by decide +kernel
theorem dL_law__412 : decode cL_law_ 412 = .ok (.ifCond .ne 15, 3) := by decide +kernel
theorem dL_law__415 : decode cL_law_ 415 = .ok (.aload_n 3, 1) := by decide +kernel
theorem dL_law__416 : decode cL_law_ 416 = .ok (.iconst 0, 1) := by decide +kernel
theorem dL_law__417 : decode cL_law_ 417 = .ok (.laload, 1) := by decide +kernel
theorem dL_law__418 : decode cL_law_ 418 = .ok (.iload 6, 2) := by decide +kernel
theorem dL_law__420 : decode cL_law_ 420 = .ok (.i2l, 1) := by decide +kernel
theorem dL_law__421 : decode cL_law_ 421 = .ok (.lcmp, 1) := by decide +kernel
theorem dL_law__422 : decode cL_law_ 422 = .ok (.ifCond .eq 5, 3) := by decide +kernel
theorem dL_law__425 : decode cL_law_ 425 = .ok (.iconst 0, 1) := by decide +kernel
theorem dL_law__426 : decode cL_law_ 426 = .ok (.ireturn, 1) := by decide +kernel
theorem dL_law__427 : decode cL_law_ 427 = .ok (.goto 2518, 3) := by decide +kernel
theorem dL_law__430 : decode cL_law_ 430 = .ok (.aload_n 1, 1) := by decide +kernel
theorem dL_law__431 : decode cL_law_ 431 = .ok (.invokevirtual 155, 3) := by decide +kernel
theorem dL_law__434 : decode cL_law_ 434 = .ok (.aload_n 2, 1) := by decide +kernel
theorem dL_law__435 : decode cL_law_ 435 = .ok (.invokevirtual 158, 3) := by decide +kernel
theorem dL_law__438 : decode cL_law_ 438 = .ok (.if_icmp .eq 2507, 3) := by decide +kernel
theorem dL_law__441 : decode cL_law_ 441 = .ok (.iconst 0, 1) := by decide +kernel
theorem dL_law__442 : decode cL_law_ 442 = .ok (.ireturn, 1) := by decide +kernel
theorem dL_law__443 : decode cL_law_ 443 = .ok (.aload_n 1, 1) := by decide +kernel
theorem dL_law__444 : decode cL_law_ 444 = .ok (.aload_n 0, 1) := by decide +kernel
theorem dL_law__445 : decode cL_law_ 445 = .ok (.iload 4, 2) := by decide +kernel
theorem dL_law__447 : decode cL_law_ 447 = .ok (.iconst 1, 1) := by decide +kernel
theorem dL_law__448 : decode cL_law_ 448 = .ok (.iadd, 1) := by decide +kernel
theorem dL_law__449 : decode cL_law_ 449 = .ok (.iaload, 1) := by decide +kernel
theorem dL_law__450 : decode cL_law_ 450 = .ok (.aload_n 0, 1) := by decide +kernel
theorem dL_law__451 : decode cL_law_ 451 = .ok (.iload 4, 2) := by decide +kernel
theorem dL_law__453 : decode cL_law_ 453 = .ok (.iconst 2, 1) := by decide +kernel
theorem dL_law__454 : decode cL_law_ 454 = .ok (.iadd, 1) := by decide +kernel
theorem dL_law__455 : decode cL_law_ 455 = .ok (.iaload, 1) := by decide +kernel
theorem dL_law__456 : decode cL_law_ 456 = .ok (.aload_n 3, 1) := by decide +kernel
theorem dL_law__457 : decode cL_law_ 457 = .ok (.invokestatic 159, 3) := by decide +kernel
theorem dL_law__460 : decode cL_law_ 460 = .ok (.istore 5, 2) := by decide +kernel
theorem dL_law__462 : decode cL_law_ 462 = .ok (.aload_n 2, 1) := by decide +kernel
theorem dL_law__463 : decode cL_law_ 463 = .ok (.aload_n 0, 1) := by decide +kernel
theorem dL_law__464 : decode cL_law_ 464 = .ok (.iload 4, 2) := by decide +kernel
theorem dL_law__466 : decode cL_law_ 466 = .ok (.iconst 1, 1) := by decide +kernel
theorem dL_law__467 : decode cL_law_ 467 = .ok (.iadd, 1) := by decide +kernel
theorem dL_law__468 : decode cL_law_ 468 = .ok (.iaload, 1) := by decide +kernel
theorem dL_law__469 : decode cL_law_ 469 = .ok (.aload_n 0, 1) := by decide +kernel
theorem dL_law__470 : decode cL_law_ 470 = .ok (.iload 4, 2) := by decide +kernel
theorem dL_law__472 : decode cL_law_ 472 = .ok (.iconst 2, 1) := by decide +kernel
theorem dL_law__473 : decode cL_law_ 473 = .ok (.iadd, 1) := by decide +kernel
theorem dL_law__474 : decode cL_law_ 474 = .ok (.iaload, 1) := by decide +kernel
theorem dL_law__475 : decode cL_law_ 475 = .ok (.invokevirtual 162, 3) := by decide +kernel
theorem dL_law__478 : decode cL_law_ 478 = .ok (.istore 6, 2) := by decide +kernel
theorem dL_law__480 : decode cL_law_ 480 = .ok (.aload_n 2, 1) := by decide +kernel
theorem dL_law__481 : decode cL_law_ 481 = .ok (.invokevirtual 149, 3) := by decide +kernel
theorem dL_law__484 : decode cL_law_ 484 = .ok (.iload 5, 2) := by decide +kernel
theorem dL_law__486 : decode cL_law_ 486 = .ok (.if_icmp .eq 5, 3) := by decide +kernel
theorem dL_law__489 : decode cL_law_ 489 = .ok (.iconst 0, 1) := by decide +kernel
theorem dL_law__490 : decode cL_law_ 490 = .ok (.ireturn, 1) := by decide +kernel
theorem dL_law__491 : decode cL_law_ 491 = .ok (.iload 5, 2) := by decide +kernel
theorem dL_law__493 : decode cL_law_ 493 = .ok (.ifCond .ne 15, 3) := by decide +kernel
theorem dL_law__496 : decode cL_law_ 496 = .ok (.aload_n 3, 1) := by decide +kernel
theorem dL_law__497 : decode cL_law_ 497 = .ok (.iconst 0, 1) := by decide +kernel
theorem dL_law__498 : decode cL_law_ 498 = .ok (.laload, 1) := by decide +kernel
theorem dL_law__499 : decode cL_law_ 499 = .ok (.iload 6, 2) := by decide +kernel
theorem dL_law__501 : decode cL_law_ 501 = .ok (.i2l, 1) := by decide +kernel
theorem dL_law__502 : decode cL_law_ 502 = .ok (.lcmp, 1) := by decide +kernel
theorem dL_law__503 : decode cL_law_ 503 = .ok (.ifCond .eq 5, 3) := by decide +kernel
theorem dL_law__506 : decode cL_law_ 506 = .ok (.iconst 0, 1) := by decide +kernel
theorem dL_law__507 : decode cL_law_ 507 = .ok (.ireturn, 1) := by decide +kernel
theorem dL_law__508 : decode cL_law_ 508 = .ok (.goto 2437, 3) := by decide +kernel
theorem dL_law__511 : decode cL_law_ 511 = .ok (.aload_n 1, 1) := by decide +kernel
theorem dL_law__512 : decode cL_law_ 512 = .ok (.aload_n 0, 1) := by decide +kernel
theorem dL_law__513 : decode cL_law_ 513 = .ok (.iload 4, 2) := by decide +kernel
theorem dL_law__515 : decode cL_law_ 515 = .ok (.iconst 1, 1) := by decide +kernel
theorem dL_law__516 : decode cL_law_ 516 = .ok (.iadd, 1) := by decide +kernel
theorem dL_law__517 : decode cL_law_ 517 = .ok (.iaload, 1) := by decide +kernel
theorem dL_law__518 : decode cL_law_ 518 = .ok (.aload_n 0, 1) := by decide +kernel
theorem dL_law__519 : decode cL_law_ 519 = .ok (.iload 4, 2) := by decide +kernel
theorem dL_law__521 : decode cL_law_ 521 = .ok (.iconst 2, 1) := by decide +kernel
theorem dL_law__522 : decode cL_law_ 522 = .ok (.iadd, 1) := by decide +kernel
theorem dL_law__523 : decode cL_law_ 523 = .ok (.iaload, 1) := by decide +kernel
theorem dL_law__524 : decode cL_law_ 524 = .ok (.aload_n 3, 1) := by decide +kernel
theorem dL_law__525 : decode cL_law_ 525 = .ok (.invokestatic 163, 3) := by decide +kernel
theorem dL_law__528 : decode cL_law_ 528 = .ok (.istore 5, 2) := by decide +kernel
theorem dL_law__530 : decode cL_law_ 530 = .ok (.aload_n 2, 1) := by decide +kernel
theorem dL_law__531 : decode cL_law_ 531 = .ok (.aload_n 0, 1) := by decide +kernel
theorem dL_law__532 : decode cL_law_ 532 = .ok (.iload 4, 2) := by decide +kernel
theorem dL_law__534 : decode cL_law_ 534 = .ok (.iconst 1, 1) := by decide +kernel
theorem dL_law__535 : decode cL_law_ 535 = .ok (.iadd, 1) := by decide +kernel
theorem dL_law__536 : decode cL_law_ 536 = .ok (.iaload, 1) := by decide +kernel
theorem dL_law__537 : decode cL_law_ 537 = .ok (.aload_n 0, 1) := by decide +kernel
theorem dL_law__538 : decode cL_law_ 538 = .ok (.iload 4, 2) := by decide +kernel
theorem dL_law__540 : decode cL_law_ 540 = .ok (.iconst 2, 1) := by decide +kernel
theorem dL_law__541 : decode cL_law_ 541 = .ok (.iadd, 1) := by decide +kernel
theorem dL_law__542 : decode cL_law_ 542 = .ok (.iaload, 1) := by decide +kernel
theorem dL_law__543 : decode cL_law_ 543 = .ok (.invokevirtual 165, 3) := by decide +kernel
theorem dL_law__546 : decode cL_law_ 546 = .ok (.istore 6, 2) := by decide +kernel
theorem dL_law__548 : decode cL_law_ 548 = .ok (.aload_n 2, 1) := by decide +kernel
theorem dL_law__549 : decode cL_law_ 549 = .ok (.invokevirtual 149, 3) := by decide +kernel
theorem dL_law__552 : decode cL_law_ 552 = .ok (.iload 5, 2) := by decide +kernel
theorem dL_law__554 : decode cL_law_ 554 = .ok (.if_icmp .eq 5, 3) := by decide +kernel
theorem dL_law__557 : decode cL_law_ 557 = .ok (.iconst 0, 1) := by decide +kernel
theorem dL_law__558 : decode cL_law_ 558 = .ok (.ireturn, 1) := by decide +kernel
theorem dL_law__559 : decode cL_law_ 559 = .ok (.iload 5, 2) := by decide +kernel
theorem dL_law__561 : decode cL_law_ 561 = .ok (.ifCond .ne 15, 3) := by decide +kernel
theorem dL_law__564 : decode cL_law_ 564 = .ok (.aload_n 3, 1) := by decide +kernel
theorem dL_law__565 : decode cL_law_ 565 = .ok (.iconst 0, 1) := by decide +kernel
theorem dL_law__566 : decode cL_law_ 566 = .ok (.laload, 1) := by decide +kernel
theorem dL_law__567 : decode cL_law_ 567 = .ok (.iload 6, 2) := by decide +kernel
theorem dL_law__569 : decode cL_law_ 569 = .ok (.i2l, 1) := by decide +kernel
theorem dL_law__570 : decode cL_law_ 570 = .ok (.lcmp, 1) := by decide +kernel
theorem dL_law__571 : decode cL_law_ 571 = .ok (.ifCond .eq 5, 3) := by decide +kernel
theorem dL_law__574 : decode cL_law_ 574 = .ok (.iconst 0, 1) := by decide +kernel
theorem dL_law__575 : decode cL_law_ 575 = .ok (.ireturn, 1) := by decide +kernel
theorem dL_law__576 : decode cL_law_ 576 = .ok (.goto 2369, 3) := by decide +kernel
theorem dL_law__579 : decode cL_law_ 579 = .ok (.aload_n 1, 1) := by decide +kernel
theorem dL_law__580 : decode cL_law_ 580 = .ok (.aload_n 0, 1) := by decide +kernel
theorem dL_law__581 : decode cL_law_ 581 = .ok (.iload 4, 2) := by decide +kernel
theorem dL_law__583 : decode cL_law_ 583 = .ok (.iconst 1, 1) := by decide +kernel
theorem dL_law__584 : decode cL_law_ 584 = .ok (.iadd, 1) := by decide +kernel
theorem dL_law__585 : decode cL_law_ 585 = .ok (.iaload, 1) := by decide +kernel
theorem dL_law__586 : decode cL_law_ 586 = .ok (.aload_n 0, 1) := by decide +kernel
theorem dL_law__587 : decode cL_law_ 587 = .ok (.iload 4, 2) := by decide +kernel
theorem dL_law__589 : decode cL_law_ 589 = .ok (.iconst 2, 1) := by decide +kernel
theorem dL_law__590 : decode cL_law_ 590 = .ok (.iadd, 1) := by decide +kernel
theorem dL_law__591 : decode cL_law_ 591 = .ok (.iaload, 1) := by decide +kernel
theorem dL_law__592 : decode cL_law_ 592 = .ok (.aload_n 0, 1) := by decide +kernel
theorem dL_law__593 : decode cL_law_ 593 = .ok (.iload 4, 2) := by decide +kernel
theorem dL_law__595 : decode cL_law_ 595 = .ok (.iconst 3, 1) := by decide +kernel
theorem dL_law__596 : decode cL_law_ 596 = .ok (.iadd, 1) := by decide +kernel
theorem dL_law__597 : decode cL_law_ 597 = .ok (.iaload, 1) := by decide +kernel
theorem dL_law__598 : decode cL_law_ 598 = .ok (.aload_n 3, 1) := by decide +kernel
theorem dL_law__599 : decode cL_law_ 599 = .ok (.invokestatic 166, 3) := by decide +kernel
theorem dL_law__602 : decode cL_law_ 602 = .ok (.istore 5, 2) := by decide +kernel
theorem dL_law__604 : decode cL_law_ 604 = .ok (.aload_n 2, 1) := by decide +kernel
theorem dL_law__605 : decode cL_law_ 605 = .ok (.aload_n 0, 1) := by decide +kernel
theorem dL_law__606 : decode cL_law_ 606 = .ok (.iload 4, 2) := by decide +kernel
theorem dL_law__608 : decode cL_law_ 608 = .ok (.iconst 1, 1) := by decide +kernel
theorem dL_law__609 : decode cL_law_ 609 = .ok (.iadd, 1) := by decide +kernel
theorem dL_law__610 : decode cL_law_ 610 = .ok (.iaload, 1) := by decide +kernel
theorem dL_law__611 : decode cL_law_ 611 = .ok (.aload_n 0, 1) := by decide +kernel
theorem dL_law__612 : decode cL_law_ 612 = .ok (.iload 4, 2) := by decide +kernel
theorem dL_law__614 : decode cL_law_ 614 = .ok (.iconst 2, 1) := by decide +kernel
theorem dL_law__615 : decode cL_law_ 615 = .ok (.iadd, 1) := by decide +kernel
theorem dL_law__616 : decode cL_law_ 616 = .ok (.iaload, 1) := by decide +kernel
theorem dL_law__617 : decode cL_law_ 617 = .ok (.aload_n 0, 1) := by decide +kernel
theorem dL_law__618 : decode cL_law_ 618 = .ok (.iload 4, 2) := by decide +kernel
theorem dL_law__620 : decode cL_law_ 620 = .ok (.iconst 3, 1) := by decide +kernel
theorem dL_law__621 : decode cL_law_ 621 = .ok (.iadd, 1) := by decide +kernel
theorem dL_law__622 : decode cL_law_ 622 = .ok (.iaload, 1) := by decide +kernel
theorem dL_law__623 : decode cL_law_ 623 = .ok (.invokevirtual 169, 3) := by decide +kernel
theorem dL_law__626 : decode cL_law_ 626 = .ok (.istore 6, 2) := by decide +kernel
theorem dL_law__628 : decode cL_law_ 628 = .ok (.aload_n 2, 1) := by decide +kernel
theorem dL_law__629 : decode cL_law_ 629 = .ok (.invokevirtual 149, 3) := by decide +kernel
theorem dL_law__632 : decode cL_law_ 632 = .ok (.iload 5, 2) := by decide +kernel
theorem dL_law__634 : decode cL_law_ 634 = .ok (.if_icmp .eq 5, 3) := by decide +kernel
theorem dL_law__637 : decode cL_law_ 637 = .ok (.iconst 0, 1) := by decide +kernel
theorem dL_law__638 : decode cL_law_ 638 = .ok (.ireturn, 1) := by decide +kernel
theorem dL_law__639 : decode cL_law_ 639 = .ok (.iload 5, 2) := by decide +kernel
theorem dL_law__641 : decode cL_law_ 641 = .ok (.ifCond .ne 15, 3) := by decide +kernel
theorem dL_law__644 : decode cL_law_ 644 = .ok (.aload_n 3, 1) := by decide +kernel
theorem dL_law__645 : decode cL_law_ 645 = .ok (.iconst 0, 1) := by decide +kernel
theorem dL_law__646 : decode cL_law_ 646 = .ok (.laload, 1) := by decide +kernel
theorem dL_law__647 : decode cL_law_ 647 = .ok (.iload 6, 2) := by decide +kernel
theorem dL_law__649 : decode cL_law_ 649 = .ok (.i2l, 1) := by decide +kernel
theorem dL_law__650 : decode cL_law_ 650 = .ok (.lcmp, 1) := by decide +kernel
theorem dL_law__651 : decode cL_law_ 651 = .ok (.ifCond .eq 5, 3) := by decide +kernel
theorem dL_law__654 : decode cL_law_ 654 = .ok (.iconst 0, 1) := by decide +kernel
theorem dL_law__655 : decode cL_law_ 655 = .ok (.ireturn, 1) := by decide +kernel
