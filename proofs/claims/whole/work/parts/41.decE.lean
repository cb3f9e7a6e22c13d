theorem dL_law__0 : decode cL_law_ 0 = .ok (.new 8, 3) := by decide +kernel
theorem dL_law__3 : decode cL_law_ 3 = .ok (.dup, 1) := by decide +kernel
theorem dL_law__4 : decode cL_law_ 4 = .ok (.invokespecial 108, 3) := by decide +kernel
theorem dL_law__7 : decode cL_law_ 7 = .ok (.astore_n 1, 1) := by decide +kernel
theorem dL_law__8 : decode cL_law_ 8 = .ok (.new 109, 3) := by decide +kernel
theorem dL_law__11 : decode cL_law_ 11 = .ok (.dup, 1) := by decide +kernel
theorem dL_law__12 : decode cL_law_ 12 = .ok (.invokespecial 111, 3) := by decide +kernel
theorem dL_law__15 : decode cL_law_ 15 = .ok (.astore_n 2, 1) := by decide +kernel
theorem dL_law__16 : decode cL_law_ 16 = .ok (.iconst 1, 1) := by decide +kernel
theorem dL_law__17 : decode cL_law_ 17 = .ok (.newarray .long, 2) := by decide +kernel
theorem dL_law__19 : decode cL_law_ 19 = .ok (.astore_n 3, 1) := by decide +kernel
theorem dL_law__20 : decode cL_law_ 20 = .ok (.iconst 0, 1) := by decide +kernel
theorem dL_law__21 : decode cL_law_ 21 = .ok (.istore 4, 2) := by decide +kernel
theorem dL_law__23 : decode cL_law_ 23 = .ok (.iload 4, 2) := by decide +kernel
theorem dL_law__25 : decode cL_law_ 25 = .ok (.aload_n 0, 1) := by decide +kernel
theorem dL_law__26 : decode cL_law_ 26 = .ok (.arraylength, 1) := by decide +kernel
theorem dL_law__27 : decode cL_law_ 27 = .ok (.bipush 6, 2) := by decide +kernel
theorem dL_law__29 : decode cL_law_ 29 = .ok (.isub, 1) := by decide +kernel
theorem dL_law__30 : decode cL_law_ 30 = .ok (.if_icmp .gt 2285, 3) := by decide +kernel
theorem dL_law__33 : decode cL_law_ 33 = .ok (.aload_n 0, 1) := by decide +kernel
theorem dL_law__34 : decode cL_law_ 34 = .ok (.iload 4, 2) := by decide +kernel
theorem dL_law__36 : decode cL_law_ 36 = .ok (.iaload, 1) := by decide +kernel
theorem dL_law__37 : decode cL_law_ 37 = .ok (.bipush 63, 2) := by decide +kernel
theorem dL_law__39 : decode cL_law_ 39 = .ok (.iand, 1) := by decide +kernel
theorem dL_law__40 : decode cL_law_ 40 = .ok (.tableswitch 2269 0 46 #[204, 277, 302, 346, 390, 403, 471, 539, 595, 608, 664, 677, 769, 825, 881, 937, 950, 1006, 1062, 1130, 1198, 1242, 1286, 1330, 1386, 1442, 1467, 1480, 1493, 1506, 1519, 1587, 1643, 1656, 1669, 1682, 1738, 1806, 1862, 1946, 2030, 2114, 2182, 2207, 2220, 2231, 2244], 204) := by decide +kernel
theorem dL_law__244 : decode cL_law_ 244 = .ok (.aload_n 1, 1) := by decide +kernel
theorem dL_law__245 : decode cL_law_ 245 = .ok (.aload_n 0, 1) := by decide +kernel
theorem dL_law__246 : decode cL_law_ 246 = .ok (.iload 4, 2) := by decide +kernel
theorem dL_law__248 : decode cL_law_ 248 = .ok (.iconst 1, 1) := by decide +kernel
theorem dL_law__249 : decode cL_law_ 249 = .ok (.iadd, 1) := by decide +kernel
theorem dL_law__250 : decode cL_law_ 250 = .ok (.iaload, 1) := by decide +kernel
theorem dL_law__251 : decode cL_law_ 251 = .ok (.aload_n 0, 1) := by decide +kernel
theorem dL_law__252 : decode cL_law_ 252 = .ok (.iload 4, 2) := by decide +kernel
theorem dL_law__254 : decode cL_law_ 254 = .ok (.iconst 2, 1) := by decide +kernel
theorem dL_law__255 : decode cL_law_ 255 = .ok (.iadd, 1) := by decide +kernel
theorem dL_law__256 : decode cL_law_ 256 = .ok (.iaload, 1) := by decide +kernel
theorem dL_law__257 : decode cL_law_ 257 = .ok (.aload_n 0, 1) := by decide +kernel
theorem dL_law__258 : decode cL_law_ 258 = .ok (.iload 4, 2) := by decide +kernel
theorem dL_law__260 : decode cL_law_ 260 = .ok (.iconst 3, 1) := by decide +kernel
theorem dL_law__261 : decode cL_law_ 261 = .ok (.iadd, 1) := by decide +kernel
theorem dL_law__262 : decode cL_law_ 262 = .ok (.iaload, 1) := by decide +kernel
theorem dL_law__263 : decode cL_law_ 263 = .ok (.aload_n 0, 1) := by decide +kernel
theorem dL_law__264 : decode cL_law_ 264 = .ok (.iload 4, 2) := by decide +kernel
theorem dL_law__266 : decode cL_law_ 266 = .ok (.iconst 4, 1) := by decide +kernel
theorem dL_law__267 : decode cL_law_ 267 = .ok (.iadd, 1) := by decide +kernel
theorem dL_law__268 : decode cL_law_ 268 = .ok (.iaload, 1) := by decide +kernel
theorem dL_law__269 : decode cL_law_ 269 = .ok (.aload_n 0, 1) := by decide +kernel
theorem dL_law__270 : decode cL_law_ 270 = .ok (.iload 4, 2) := by decide +kernel
theorem dL_law__272 : decode cL_law_ 272 = .ok (.iconst 5, 1) := by decide +kernel
theorem dL_law__273 : decode cL_law_ 273 = .ok (.iadd, 1) := by decide +kernel
theorem dL_law__274 : decode cL_law_ 274 = .ok (.iaload, 1) := by decide +kernel
theorem dL_law__275 : decode cL_law_ 275 = .ok (.invokevirtual 112, 3) := by decide +kernel
theorem dL_law__278 : decode cL_law_ 278 = .ok (.aload_n 2, 1) := by decide +kernel
theorem dL_law__279 : decode cL_law_ 279 = .ok (.aload_n 0, 1) := by decide +kernel
theorem dL_law__280 : decode cL_law_ 280 = .ok (.iload 4, 2) := by decide +kernel
theorem dL_law__282 : decode cL_law_ 282 = .ok (.iconst 1, 1) := by decide +kernel
theorem dL_law__283 : decode cL_law_ 283 = .ok (.iadd, 1) := by decide +kernel
theorem dL_law__284 : decode cL_law_ 284 = .ok (.iaload, 1) := by decide +kernel
theorem dL_law__285 : decode cL_law_ 285 = .ok (.aload_n 0, 1) := by decide +kernel
theorem dL_law__286 : decode cL_law_ 286 = .ok (.iload 4, 2) := by decide +kernel
theorem dL_law__288 : decode cL_law_ 288 = .ok (.iconst 2, 1) := by decide +kernel
theorem dL_law__289 : decode cL_law_ 289 = .ok (.iadd, 1) := by decide +kernel
theorem dL_law__290 : decode cL_law_ 290 = .ok (.iaload, 1) := by decide +kernel
theorem dL_law__291 : decode cL_law_ 291 = .ok (.aload_n 0, 1) := by decide +kernel
theorem dL_law__292 : decode cL_law_ 292 = .ok (.iload 4, 2) := by decide +kernel
theorem dL_law__294 : decode cL_law_ 294 = .ok (.iconst 3, 1) := by decide +kernel
theorem dL_law__295 : decode cL_law_ 295 = .ok (.iadd, 1) := by decide +kernel
theorem dL_law__296 : decode cL_law_ 296 = .ok (.iaload, 1) := by decide +kernel
theorem dL_law__297 : decode cL_law_ 297 = .ok (.aload_n 0, 1) := by decide +kernel
theorem dL_law__298 : decode cL_law_ 298 = .ok (.iload 4, 2) := by decide +kernel
theorem dL_law__300 : decode cL_law_ 300 = .ok (.iconst 4, 1) := by decide +kernel
theorem dL_law__301 : decode cL_law_ 301 = .ok (.iadd, 1) := by decide +kernel
theorem dL_law__302 : decode cL_law_ 302 = .ok (.iaload, 1) := by decide +kernel
theorem dL_law__303 : decode cL_law_ 303 = .ok (.aload_n 0, 1) := by decide +kernel
theorem dL_law__304 : decode cL_law_ 304 = .ok (.iload 4, 2) := by decide +kernel
theorem dL_law__306 : decode cL_law_ 306 = .ok (.iconst 5, 1) := by decide +kernel
theorem dL_law__307 : decode cL_law_ 307 = .ok (.iadd, 1) := by decide +kernel
theorem dL_law__308 : decode cL_law_ 308 = .ok (.iaload, 1) := by decide +kernel
theorem dL_law__309 : decode cL_law_ 309 = .ok (.invokevirtual 116, 3) := by decide +kernel
theorem dL_law__312 : decode cL_law_ 312 = .ok (.if_icmp .eq 1997, 3) := by decide +kernel
theorem dL_law__315 : decode cL_law_ 315 = .ok (.iconst 0, 1) := by decide +kernel
theorem dL_law__316 : decode cL_law_ 316 = .ok (.ireturn, 1) := by decide +kernel
theorem dL_law__317 : decode cL_law_ 317 = .ok (.aload_n 1, 1) := by decide +kernel
theorem dL_law__318 : decode cL_law_ 318 = .ok (.aload_n 0, 1) := by decide +kernel
theorem dL_law__319 : decode cL_law_ 319 = .ok (.iload 4, 2) := by decide +kernel
theorem dL_law__321 : decode cL_law_ 321 = .ok (.iconst 1, 1) := by decide +kernel
theorem dL_law__322 : decode cL_law_ 322 = .ok (.iadd, 1) := by decide +kernel
theorem dL_law__323 : decode cL_law_ 323 = .ok (.iaload, 1) := by decide +kernel
theorem dL_law__324 : decode cL_law_ 324 = .ok (.invokevirtual 117, 3) := by decide +kernel
theorem dL_law__327 : decode cL_law_ 327 = .ok (.aload_n 2, 1) := by decide +kernel
theorem dL_law__328 : decode cL_law_ 328 = .ok (.aload_n 0, 1) := by decide +kernel
theorem dL_law__329 : decode cL_law_ 329 = .ok (.iload 4, 2) := by decide +kernel
theorem dL_law__331 : decode cL_law_ 331 = .ok (.iconst 1, 1) := by decide +kernel
theorem dL_law__332 : decode cL_law_ 332 = .ok (.iadd, 1) := by decide +kernel
theorem dL_law__333 : decode cL_law_ 333 = .ok (.iaload, 1) := by decide +kernel
theorem dL_law__334 : decode cL_law_ 334 = .ok (.invokevirtual 121, 3) := by decide +kernel
theorem dL_law__337 : decode cL_law_ 337 = .ok (.if_icmp .eq 1972, 3) := by decide +kernel
theorem dL_law__340 : decode cL_law_ 340 = .ok (.iconst 0, 1) := by decide +kernel
theorem dL_law__341 : decode cL_law_ 341 = .ok (.ireturn, 1) := by decide +kernel
theorem dL_law__342 : decode cL_law_ 342 = .ok (.aload_n 1, 1) := by decide +kernel
theorem dL_law__343 : decode cL_law_ 343 = .ok (.aload_n 3, 1) := by decide +kernel
theorem dL_law__344 : decode cL_law_ 344 = .ok (.invokestatic 122, 3) := by decide +kernel
theorem dL_law__347 : decode cL_law_ 347 = .ok (.istore 5, 2) := by decide +kernel
theorem dL_law__349 : decode cL_law_ 349 = .ok (.aload_n 2, 1) := by decide +kernel
theorem dL_law__350 : decode cL_law_ 350 = .ok (.invokevirtual 127, 3) := by decide +kernel
theorem dL_law__353 : decode cL_law_ 353 = .ok (.istore 6, 2) := by decide +kernel
theorem dL_law__355 : decode cL_law_ 355 = .ok (.aload_n 2, 1) := by decide +kernel
theorem dL_law__356 : decode cL_law_ 356 = .ok (.invokevirtual 128, 3) := by decide +kernel
theorem dL_law__359 : decode cL_law_ 359 = .ok (.iload 5, 2) := by decide +kernel
theorem dL_law__361 : decode cL_law_ 361 = .ok (.if_icmp .eq 5, 3) := by decide +kernel
theorem dL_law__364 : decode cL_law_ 364 = .ok (.iconst 0, 1) := by decide +kernel
theorem dL_law__365 : decode cL_law_ 365 = .ok (.ireturn, 1) := by decide +kernel
theorem dL_law__366 : decode cL_law_ 366 = .ok (.iload 5, 2) := by decide +kernel
theorem dL_law__368 : decode cL_law_ 368 = .ok (.ifCond .ne 15, 3) := by decide +kernel
theorem dL_law__371 : decode cL_law_ 371 = .ok (.aload_n 3, 1) := by decide +kernel
theorem dL_law__372 : decode cL_law_ 372 = .ok (.iconst 0, 1) := by decide +kernel
theorem dL_law__373 : decode cL_law_ 373 = .ok (.laload, 1) := by decide +kernel
theorem dL_law__374 : decode cL_law_ 374 = .ok (.iload 6, 2) := by decide +kernel
theorem dL_law__376 : decode cL_law_ 376 = .ok (.i2l, 1) := by decide +kernel
theorem dL_law__377 : decode cL_law_ 377 = .ok (.lcmp, 1) := by decide +kernel
theorem dL_law__378 : decode cL_law_ 378 = .ok (.ifCond .eq 5, 3) := by decide +kernel
theorem dL_law__381 : decode cL_law_ 381 = .ok (.iconst 0, 1) := by decide +kernel
theorem dL_law__382 : decode cL_law_ 382 = .ok (.ireturn, 1) := by decide +kernel
theorem dL_law__383 : decode cL_law_ 383 = .ok (.goto 1926, 3) := by decide +kernel
theorem dL_law__386 : decode cL_law_ 386 = .ok (.aload_n 1, 1) := by decide +kernel
theorem dL_law__387 : decode cL_law_ 387 = .ok (.aload_n 3, 1) := by decide +kernel
theorem dL_law__388 : decode cL_law_ 388 = .ok (.invokestatic 131, 3) := by decide +kernel
theorem dL_law__391 : decode cL_law_ 391 = .ok (.istore 5, 2) := by decide +kernel
theorem dL_law__393 : decode cL_law_ 393 = .ok (.aload_n 2, 1) := by decide +kernel
theorem dL_law__394 : decode cL_law_ 394 = .ok (.invokevirtual 133, 3) := by decide +kernel
theorem dL_law__397 : decode cL_law_ 397 = .ok (.istore 6, 2) := by decide +kernel
theorem dL_law__399 : decode cL_law_ 399 = .ok (.aload_n 2, 1) := by decide +kernel
theorem dL_law__400 : decode cL_law_ 400 = .ok (.invokevirtual 128, 3) := by decide +kernel
theorem dL_law__403 : decode cL_law_ 403 = .ok (.iload 5, 2) := by decide +kernel
theorem dL_law__405 : decode cL_law_ 405 = .ok (.if_icmp .eq 5, 3) := by decide +kernel
theorem dL_law__408 : decode cL_law_ 408 = .ok (.iconst 0, 1) := by decide +kernel
theorem dL_law__409 : decode cL_law_ 409 = .ok (.ireturn, 1) := by decide +kernel
theorem dL_law__410 : decode cL_law_ 410 = .ok (.iload 5, 2) := by decide +kernel
theorem dL_law__412 : decode cL_law_ 412 = .ok (.ifCond .ne 15, 3) := by decide +kernel
theorem dL_law__415 : decode cL_law_ 415 = .ok (.aload_n 3, 1) := by decide +kernel
theorem dL_law__416 : decode cL_law_ 416 = .ok (.iconst 0, 1) := by decide +kernel
theorem dL_law__417 : decode cL_law_ 417 = .ok (.laload, 1) := by decide +kernel
theorem dL_law__418 : decode cL_law_ 418 = .ok (.iload 6, 2) := by decide +kernel
theorem dL_law__420 : decode cL_law_ 420 = .ok (.i2l, 1) := by decide +kernel
theorem dL_law__421 : decode cL_law_ 421 = .ok (.lcmp, 1) := by decide +kernel
theorem dL_law__422 : decode cL_law_ 422 = .ok (.ifCond .eq 5, 3) := by decide +kernel
theorem dL_law__425 : decode cL_law_ 425 = .ok (.iconst 0, 1) := by decide +kernel
theorem dL_law__426 : decode cL_law_ 426 = .ok (.ireturn, 1) := by decide +kernel
theorem dL_law__427 : decode cL_law_ 427 = .ok (.goto 1882, 3) := by decide +kernel
theorem dL_law__430 : decode cL_law_ 430 = .ok (.aload_n 1, 1) := by decide +kernel
theorem dL_law__431 : decode cL_law_ 431 = .ok (.invokevirtual 134, 3) := by decide +kernel
theorem dL_law__434 : decode cL_law_ 434 = .ok (.aload_n 2, 1) := by decide +kernel
theorem dL_law__435 : decode cL_law_ 435 = .ok (.invokevirtual 137, 3) := by decide +kernel
theorem dL_law__438 : decode cL_law_ 438 = .ok (.if_icmp .eq 1871, 3) := by decide +kernel
theorem dL_law__441 : decode cL_law_ 441 = .ok (.iconst 0, 1) := by decide +kernel
theorem dL_law__442 : decode cL_law_ 442 = .ok (.ireturn, 1) := by decide +kernel
theorem dL_law__443 : decode cL_law_ 443 = .ok (.aload_n 1, 1) := by decide +kernel
theorem dL_law__444 : decode cL_law_ 444 = .ok (.aload_n 0, 1) := by decide +kernel
theorem dL_law__445 : decode cL_law_ 445 = .ok (.iload 4, 2) := by decide +kernel
theorem dL_law__447 : decode cL_law_ 447 = .ok (.iconst 1, 1) := by decide +kernel
theorem dL_law__448 : decode cL_law_ 448 = .ok (.iadd, 1) := by decide +kernel
theorem dL_law__449 : decode cL_law_ 449 = .ok (.iaload, 1) := by decide +kernel
theorem dL_law__450 : decode cL_law_ 450 = .ok (.aload_n 0, 1) := by decide +kernel
theorem dL_law__451 : decode cL_law_ 451 = .ok (.iload 4, 2) := by decide +kernel
theorem dL_law__453 : decode cL_law_ 453 = .ok (.iconst 2, 1) := by decide +kernel
theorem dL_law__454 : decode cL_law_ 454 = .ok (.iadd, 1) := by decide +kernel
theorem dL_law__455 : decode cL_law_ 455 = .ok (.iaload, 1) := by decide +kernel
theorem dL_law__456 : decode cL_law_ 456 = .ok (.aload_n 3, 1) := by decide +kernel
theorem dL_law__457 : decode cL_law_ 457 = .ok (.invokestatic 138, 3) := by decide +kernel
theorem dL_law__460 : decode cL_law_ 460 = .ok (.istore 5, 2) := by decide +kernel
theorem dL_law__462 : decode cL_law_ 462 = .ok (.aload_n 2, 1) := by decide +kernel
theorem dL_law__463 : decode cL_law_ 463 = .ok (.aload_n 0, 1) := by decide +kernel
theorem dL_law__464 : decode cL_law_ 464 = .ok (.iload 4, 2) := by decide +kernel
theorem dL_law__466 : decode cL_law_ 466 = .ok (.iconst 1, 1) := by decide +kernel
theorem dL_law__467 : decode cL_law_ 467 = .ok (.iadd, 1) := by decide +kernel
theorem dL_law__468 : decode cL_law_ 468 = .ok (.iaload, 1) := by decide +kernel
theorem dL_law__469 : decode cL_law_ 469 = .ok (.aload_n 0, 1) := by decide +kernel
theorem dL_law__470 : decode cL_law_ 470 = .ok (.iload 4, 2) := by decide +kernel
theorem dL_law__472 : decode cL_law_ 472 = .ok (.iconst 2, 1) := by decide +kernel
theorem dL_law__473 : decode cL_law_ 473 = .ok (.iadd, 1) := by decide +kernel
theorem dL_law__474 : decode cL_law_ 474 = .ok (.iaload, 1) := by decide +kernel
theorem dL_law__475 : decode cL_law_ 475 = .ok (.invokevirtual 141, 3) := by decide +kernel
theorem dL_law__478 : decode cL_law_ 478 = .ok (.istore 6, 2) := by decide +kernel
theorem dL_law__480 : decode cL_law_ 480 = .ok (.aload_n 2, 1) := by decide +kernel
theorem dL_law__481 : decode cL_law_ 481 = .ok (.invokevirtual 128, 3) := by decide +kernel
theorem dL_law__484 : decode cL_law_ 484 = .ok (.iload 5, 2) := by decide +kernel
theorem dL_law__486 : decode cL_law_ 486 = .ok (.if_icmp .eq 5, 3) := by decide +kernel
theorem dL_law__489 : decode cL_law_ 489 = .ok (.iconst 0, 1) := by decide +kernel
theorem dL_law__490 : decode cL_law_ 490 = .ok (.ireturn, 1) := by decide +kernel
theorem dL_law__491 : decode cL_law_ 491 = .ok (.iload 5, 2) := by decide +kernel
theorem dL_law__493 : decode cL_law_ 493 = .ok (.ifCond .ne 15, 3) := by decide +kernel
theorem dL_law__496 : decode cL_law_ 496 = .ok (.aload_n 3, 1) := by decide +kernel
theorem dL_law__497 : decode cL_law_ 497 = .ok (.iconst 0, 1) := by decide +kernel
theorem dL_law__498 : decode cL_law_ 498 = .ok (.laload, 1) := by decide +kernel
theorem dL_law__499 : decode cL_law_ 499 = .ok (.iload 6, 2) := by decide +kernel
theorem dL_law__501 : decode cL_law_ 501 = .ok (.i2l, 1) := by decide +kernel
theorem dL_law__502 : decode cL_law_ 502 = .ok (.lcmp, 1) := by decide +kernel
theorem dL_law__503 : decode cL_law_ 503 = .ok (.ifCond .eq 5, 3) := by decide +kernel
theorem dL_law__506 : decode cL_law_ 506 = .ok (.iconst 0, 1) := by decide +kernel
theorem dL_law__507 : decode cL_law_ 507 = .ok (.ireturn, 1) := by decide +kernel
theorem dL_law__508 : decode cL_law_ 508 = .ok (.goto 1801, 3) := by decide +kernel
theorem dL_law__511 : decode cL_law_ 511 = .ok (.aload_n 1, 1) := by decide +kernel
theorem dL_law__512 : decode cL_law_ 512 = .ok (.aload_n 0, 1) := by decide +kernel
theorem dL_law__513 : decode cL_law_ 513 = .ok (.iload 4, 2) := by decide +kernel
theorem dL_law__515 : decode cL_law_ 515 = .ok (.iconst 1, 1) := by decide +kernel
theorem dL_law__516 : decode cL_law_ 516 = .ok (.iadd, 1) := by decide +kernel
theorem dL_law__517 : decode cL_law_ 517 = .ok (.iaload, 1) := by decide +kernel
theorem dL_law__518 : decode cL_law_ 518 = .ok (.aload_n 0, 1) := by decide +kernel
theorem dL_law__519 : decode cL_law_ 519 = .ok (.iload 4, 2) := by decide +kernel
theorem dL_law__521 : decode cL_law_ 521 = .ok (.iconst 2, 1) := by decide +kernel
theorem dL_law__522 : decode cL_law_ 522 = .ok (.iadd, 1) := by decide +kernel
theorem dL_law__523 : decode cL_law_ 523 = .ok (.iaload, 1) := by decide +kernel
theorem dL_law__524 : decode cL_law_ 524 = .ok (.aload_n 3, 1) := by decide +kernel
theorem dL_law__525 : decode cL_law_ 525 = .ok (.invokestatic 142, 3) := by decide +kernel
theorem dL_law__528 : decode cL_law_ 528 = .ok (.istore 5, 2) := by decide +kernel
theorem dL_law__530 : decode cL_law_ 530 = .ok (.aload_n 2, 1) := by decide +kernel
theorem dL_law__531 : decode cL_law_ 531 = .ok (.aload_n 0, 1) := by decide +kernel
theorem dL_law__532 : decode cL_law_ 532 = .ok (.iload 4, 2) := by decide +kernel
theorem dL_law__534 : decode cL_law_ 534 = .ok (.iconst 1, 1) := by decide +kernel
theorem dL_law__535 : decode cL_law_ 535 = .ok (.iadd, 1) := by decide +kernel
theorem dL_law__536 : decode cL_law_ 536 = .ok (.iaload, 1) := by decide +kernel
theorem dL_law__537 : decode cL_law_ 537 = .ok (.aload_n 0, 1) := by decide +kernel
theorem dL_law__538 : decode cL_law_ 538 = .ok (.iload 4, 2) := by decide +kernel
theorem dL_law__540 : decode cL_law_ 540 = .ok (.iconst 2, 1) := by decide +kernel
theorem dL_law__541 : decode cL_law_ 541 = .ok (.iadd, 1) := by decide +kernel
theorem dL_law__542 : decode cL_law_ 542 = .ok (.iaload, 1) := by decide +kernel
theorem dL_law__543 : decode cL_law_ 543 = .ok (.invokevirtual 144, 3) := by decide +kernel
theorem dL_law__546 : decode cL_law_ 546 = .ok (.istore 6, 2) := by decide +kernel
theorem dL_law__548 : decode cL_law_ 548 = .ok (.aload_n 2, 1) := by decide +kernel
theorem dL_law__549 : decode cL_law_ 549 = .ok (.invokevirtual 128, 3) := by decide +kernel
theorem dL_law__552 : decode cL_law_ 552 = .ok (.iload 5, 2) := by decide +kernel
theorem dL_law__554 : decode cL_law_ 554 = .ok (.if_icmp .eq 5, 3) := by decide +kernel
theorem dL_law__557 : decode cL_law_ 557 = .ok (.iconst 0, 1) := by decide +kernel
theorem dL_law__558 : decode cL_law_ 558 = .ok (.ireturn, 1) := by decide +kernel
theorem dL_law__559 : decode cL_law_ 559 = .ok (.iload 5, 2) := by decide +kernel
theorem dL_law__561 : decode cL_law_ 561 = .ok (.ifCond .ne 15, 3) := by decide +kernel
theorem dL_law__564 : decode cL_law_ 564 = .ok (.aload_n 3, 1) := by decide +kernel
theorem dL_law__565 : decode cL_law_ 565 = .ok (.iconst 0, 1) := by decide +kernel
theorem dL_law__566 : decode cL_law_ 566 = .ok (.laload, 1) := by decide +kernel
theorem dL_law__567 : decode cL_law_ 567 = .ok (.iload 6, 2) := by decide +kernel
theorem dL_law__569 : decode cL_law_ 569 = .ok (.i2l, 1) := by decide +kernel
theorem dL_law__570 : decode cL_law_ 570 = .ok (.lcmp, 1) := by decide +kernel
theorem dL_law__571 : decode cL_law_ 571 = .ok (.ifCond .eq 5, 3) := by decide +kernel
theorem dL_law__574 : decode cL_law_ 574 = .ok (.iconst 0, 1) := by decide +kernel
theorem dL_law__575 : decode cL_law_ 575 = .ok (.ireturn, 1) := by decide +kernel
theorem dL_law__576 : decode cL_law_ 576 = .ok (.goto 1733, 3) := by decide +kernel
theorem dL_law__579 : decode cL_law_ 579 = .ok (.aload_n 1, 1) := by decide +kernel
theorem dL_law__580 : decode cL_law_ 580 = .ok (.aload_n 0, 1) := by decide +kernel
theorem dL_law__581 : decode cL_law_ 581 = .ok (.iload 4, 2) := by decide +kernel
theorem dL_law__583 : decode cL_law_ 583 = .ok (.iconst 1, 1) := by decide +kernel
theorem dL_law__584 : decode cL_law_ 584 = .ok (.iadd, 1) := by decide +kernel
theorem dL_law__585 : decode cL_law_ 585 = .ok (.iaload, 1) := by decide +kernel
theorem dL_law__586 : decode cL_law_ 586 = .ok (.aload_n 3, 1) := by decide +kernel
theorem dL_law__587 : decode cL_law_ 587 = .ok (.invokestatic 145, 3) := by decide +kernel
theorem dL_law__590 : decode cL_law_ 590 = .ok (.istore 5, 2) := by decide +kernel
theorem dL_law__592 : decode cL_law_ 592 = .ok (.aload_n 2, 1) := by decide +kernel
theorem dL_law__593 : decode cL_law_ 593 = .ok (.aload_n 0, 1) := by decide +kernel
theorem dL_law__594 : decode cL_law_ 594 = .ok (.iload 4, 2) := by decide +kernel
theorem dL_law__596 : decode cL_law_ 596 = .ok (.iconst 1, 1) := by decide +kernel
theorem dL_law__597 : decode cL_law_ 597 = .ok (.iadd, 1) := by decide +kernel
theorem dL_law__598 : decode cL_law_ 598 = .ok (.iaload, 1) := by decide +kernel
theorem dL_law__599 : decode cL_law_ 599 = .ok (.invokevirtual 148, 3) := by decide +kernel
theorem dL_law__602 : decode cL_law_ 602 = .ok (.istore 6, 2) := by decide +kernel
theorem dL_law__604 : decode cL_law_ 604 = .ok (.aload_n 2, 1) := by decide +kernel
theorem dL_law__605 : decode cL_law_ 605 = .ok (.invokevirtual 128, 3) := by decide +kernel
theorem dL_law__608 : decode cL_law_ 608 = .ok (.iload 5, 2) := by decide +kernel
theorem dL_law__610 : decode cL_law_ 610 = .ok (.if_icmp .eq 5, 3) := by decide +kernel
theorem dL_law__613 : decode cL_law_ 613 = .ok (.iconst 0, 1) := by decide +kernel
theorem dL_law__614 : decode cL_law_ 614 = .ok (.ireturn, 1) := by decide +kernel
theorem dL_law__615 : decode cL_law_ 615 = .ok (.iload 5, 2) := by decide +kernel
theorem dL_law__617 : decode cL_law_ 617 = .ok (.ifCond .ne 15, 3) := by decide +kernel
theorem dL_law__620 : decode cL_law_ 620 = .ok (.aload_n 3, 1) := by decide +kernel
theorem dL_law__621 : decode cL_law_ 621 = .ok (.iconst 0, 1) := by decide +kernel
theorem dL_law__622 : decode cL_law_ 622 = .ok (.laload, 1) := by decide +kernel
theorem dL_law__623 : decode cL_law_ 623 = .ok (.iload 6, 2) := by decide +kernel
theorem dL_law__625 : decode cL_law_ 625 = .ok (.i2l, 1) := by decide +kernel
theorem dL_law__626 : decode cL_law_ 626 = .ok (.lcmp, 1) := by decide +kernel
theorem dL_law__627 : decode cL_law_ 627 = .ok (.ifCond .eq 5, 3) := by decide +kernel
theorem dL_law__630 : decode cL_law_ 630 = .ok (.iconst 0, 1) := by decide +kernel
theorem dL_law__631 : decode cL_law_ 631 = .ok (.ireturn, 1) := by decide +kernel
theorem dL_law__632 : decode cL_law_ 632 = .ok (.goto 1677, 3) := by decide +kernel
theorem dL_law__635 : decode cL_law_ 635 = .ok (.aload_n 1, 1) := by decide +kernel
theorem dL_law__636 : decode cL_law_ 636 = .ok (.invokevirtual 149, 3) := by decide +kernel
theorem dL_law__639 : decode cL_law_ 639 = .ok (.aload_n 2, 1) := by decide +kernel
theorem dL_law__640 : decode cL_law_ 640 = .ok (.invokevirtual 152, 3) := by decide +kernel
theorem dL_law__643 : decode cL_law_ 643 = .ok (.if_icmp .eq 1666, 3) := by decide +kernel
theorem dL_law__646 : decode cL_law_ 646 = .ok (.iconst 0, 1) := by decide +kernel
theorem dL_law__647 : decode cL_law_ 647 = .ok (.ireturn, 1) := by decide +kernel
theorem dL_law__648 : decode cL_law_ 648 = .ok (.aload_n 1, 1) := by decide +kernel
theorem dL_law__649 : decode cL_law_ 649 = .ok (.aload_n 0, 1) := by decide +kernel
theorem dL_law__650 : decode cL_law_ 650 = .ok (.iload 4, 2) := by decide +kernel
theorem dL_law__652 : decode cL_law_ 652 = .ok (.iconst 1, 1) := by decide +kernel
theorem dL_law__653 : decode cL_law_ 653 = .ok (.iadd, 1) := by decide +kernel
theorem dL_law__654 : decode cL_law_ 654 = .ok (.iaload, 1) := by decide +kernel
theorem dL_law__655 : decode cL_law_ 655 = .ok (.aload_n 3, 1) := by decide +kernel
theorem dL_law__656 : decode cL_law_ 656 = .ok (.invokestatic 153, 3) := by decide +kernel
theorem dL_law__659 : decode cL_law_ 659 = .ok (.istore 5, 2) := by decide +kernel
theorem dL_law__661 : decode cL_law_ 661 = .ok (.aload_n 2, 1) := by decide +kernel
theorem dL_law__662 : decode cL_law_ 662 = .ok (.aload_n 0, 1) := by decide +kernel
theorem dL_law__663 : decode cL_law_ 663 = .ok (.iload 4, 2) := by decide +kernel
theorem dL_law__665 : decode cL_law_ 665 = .ok (.iconst 1, 1) := by decide +kernel
theorem dL_law__666 : decode cL_law_ 666 = .ok (.iadd, 1) := by decide +kernel
theorem dL_law__667 : decode cL_law_ 667 = .ok (.iaload, 1) := by decide +kernel
theorem dL_law__668 : decode cL_law_ 668 = .ok (.invokevirtual 155, 3) := by decide +kernel
theorem dL_law__671 : decode cL_law_ 671 = .ok (.istore 6, 2) := by decide +kernel
theorem dL_law__673 : decode cL_law_ 673 = .ok (.aload_n 2, 1) := by decide +kernel
theorem dL_law__674 : decode cL_law_ 674 = .ok (.invokevirtual 128, 3) := by decide +kernel
theorem dL_law__677 : decode cL_law_ 677 = .ok (.iload 5, 2) := by decide +kernel
theorem dL_law__679 : decode cL_law_ 679 = .ok (.if_icmp .eq 5, 3) := by decide +kernel
theorem dL_law__682 : decode cL_law_ 682 = .ok (.iconst 0, 1) := by decide +kernel
theorem dL_law__683 : decode cL_law_ 683 = .ok (.ireturn, 1) := by decide +kernel
theorem dL_law__684 : decode cL_law_ 684 = .ok (.iload 5, 2) := by decide +kernel
theorem dL_law__686 : decode cL_law_ 686 = .ok (.ifCond .ne 15, 3) := by decide +kernel
theorem dL_law__689 : decode cL_law_ 689 = .ok (.aload_n 3, 1) := by decide +kernel
theorem dL_law__690 : decode cL_law_ 690 = .ok (.iconst 0, 1) := by decide +kernel
theorem dL_law__691 : decode cL_law_ 691 = .ok (.laload, 1) := by decide +kernel
theorem dL_law__692 : decode cL_law_ 692 = .ok (.iload 6, 2) := by decide +kernel
theorem dL_law__694 : decode cL_law_ 694 = .ok (.i2l, 1) := by decide +kernel
theorem dL_law__695 : decode cL_law_ 695 = .ok (.lcmp, 1) := by decide +kernel
theorem dL_law__696 : decode cL_law_ 696 = .ok (.ifCond .eq 5, 3) := by decide +kernel
theorem dL_law__699 : decode cL_law_ 699 = .ok (.iconst 0, 1) := by decide +kernel
theorem dL_law__700 : decode cL_law_ 700 = .ok (.ireturn, 1) := by decide +kernel
theorem dL_law__701 : decode cL_law_ 701 = .ok (.goto 1608, 3) := by decide +kernel
theorem dL_law__704 : decode cL_law_ 704 = .ok (.aload_n 1, 1) := by decide +kernel
theorem dL_law__705 : decode cL_law_ 705 = .ok (.invokevirtual 156, 3) := by decide +kernel
theorem dL_law__708 : decode cL_law_ 708 = .ok (.aload_n 2, 1) := by decide +kernel
theorem dL_law__709 : decode cL_law_ 709 = .ok (.invokevirtual 159, 3) := by decide +kernel
theorem dL_law__712 : decode cL_law_ 712 = .ok (.if_icmp .eq 1597, 3) := by decide +kernel
theorem dL_law__715 : decode cL_law_ 715 = .ok (.iconst 0, 1) := by decide +kernel
theorem dL_law__716 : decode cL_law_ 716 = .ok (.ireturn, 1) := by decide +kernel
theorem dL_law__717 : decode cL_law_ 717 = .ok (.aload_n 1, 1) := by decide +kernel
theorem dL_law__718 : decode cL_law_ 718 = .ok (.aload_n 0, 1) := by decide +kernel
theorem dL_law__719 : decode cL_law_ 719 = .ok (.iload 4, 2) := by decide +kernel
theorem dL_law__721 : decode cL_law_ 721 = .ok (.iconst 1, 1) := by decide +kernel
theorem dL_law__722 : decode cL_law_ 722 = .ok (.iadd, 1) := by decide +kernel
theorem dL_law__723 : decode cL_law_ 723 = .ok (.iaload, 1) := by decide +kernel
theorem dL_law__724 : decode cL_law_ 724 = .ok (.aload_n 0, 1) := by decide +kernel
theorem dL_law__725 : decode cL_law_ 725 = .ok (.iload 4, 2) := by decide +kernel
theorem dL_law__727 : decode cL_law_ 727 = .ok (.iconst 2, 1) := by decide +kernel
theorem dL_law__728 : decode cL_law_ 728 = .ok (.iadd, 1) := by decide +kernel
theorem dL_law__729 : decode cL_law_ 729 = .ok (.iaload, 1) := by decide +kernel
theorem dL_law__730 : decode cL_law_ 730 = .ok (.aload_n 0, 1) := by decide +kernel
theorem dL_law__731 : decode cL_law_ 731 = .ok (.iload 4, 2) := by decide +kernel
theorem dL_law__733 : decode cL_law_ 733 = .ok (.iconst 3, 1) := by decide +kernel
theorem dL_law__734 : decode cL_law_ 734 = .ok (.iadd, 1) := by decide +kernel
theorem dL_law__735 : decode cL_law_ 735 = .ok (.iaload, 1) := by decide +kernel
theorem dL_law__736 : decode cL_law_ 736 = .ok (.aload_n 0, 1) := by decide +kernel
theorem dL_law__737 : decode cL_law_ 737 = .ok (.iload 4, 2) := by decide +kernel
theorem dL_law__739 : decode cL_law_ 739 = .ok (.iconst 4, 1) := by decide +kernel
theorem dL_law__740 : decode cL_law_ 740 = .ok (.iadd, 1) := by decide +kernel
theorem dL_law__741 : decode cL_law_ 741 = .ok (.iaload, 1) := by decide +kernel
theorem dL_law__742 : decode cL_law_ 742 = .ok (.aload_n 3, 1) := by decide +kernel
theorem dL_law__743 : decode cL_law_ 743 = .ok (.invokestatic 160, 3) := by decide +kernel
theorem dL_law__746 : decode cL_law_ 746 = .ok (.istore 5, 2) := by decide +kernel
theorem dL_law__748 : decode cL_law_ 748 = .ok (.aload_n 2, 1) := by decide +kernel
theorem dL_law__749 : decode cL_law_ 749 = .ok (.aload_n 0, 1) := by decide +kernel
theorem dL_law__750 : decode cL_law_ 750 = .ok (.iload 4, 2) := by decide +kernel
theorem dL_law__752 : decode cL_law_ 752 = .ok (.iconst 1, 1) := by decide +kernel
theorem dL_law__753 : decode cL_law_ 753 = .ok (.iadd, 1) := by decide +kernel
theorem dL_law__754 : decode cL_law_ 754 = .ok (.iaload, 1) := by decide +kernel
theorem dL_law__755 : decode cL_law_ 755 = .ok (.aload_n 0, 1) := by decide +kernel
theorem dL_law__756 : decode cL_law_ 756 = .ok (.iload 4, 2) := by decide +kernel
theorem dL_law__758 : decode cL_law_ 758 = .ok (.iconst 2, 1) := by decide +kernel
theorem dL_law__759 : decode cL_law_ 759 = .ok (.iadd, 1) := by decide +kernel
theorem dL_law__760 : decode cL_law_ 760 = .ok (.iaload, 1) := by decide +kernel
theorem dL_law__761 : decode cL_law_ 761 = .ok (.aload_n 0, 1) := by decide +kernel
theorem dL_law__762 : decode cL_law_ 762 = .ok (.iload 4, 2) := by decide +kernel
theorem dL_law__764 : decode cL_law_ 764 = .ok (.iconst 3, 1) := by decide +kernel
theorem dL_law__765 : decode cL_law_ 765 = .ok (.iadd, 1) := by decide +kernel
theorem dL_law__766 : decode cL_law_ 766 = .ok (.iaload, 1) := by decide +kernel
theorem dL_law__767 : decode cL_law_ 767 = .ok (.aload_n 0, 1) := by decide +kernel
theorem dL_law__768 : decode cL_law_ 768 = .ok (.iload 4, 2) := by decide +kernel
theorem dL_law__770 : decode cL_law_ 770 = .ok (.iconst 4, 1) := by decide +kernel
theorem dL_law__771 : decode cL_law_ 771 = .ok (.iadd, 1) := by decide +kernel
theorem dL_law__772 : decode cL_law_ 772 = .ok (.iaload, 1) := by decide +kernel
theorem dL_law__773 : decode cL_law_ 773 = .ok (.invokevirtual 163, 3) := by decide +kernel
theorem dL_law__776 : decode cL_law_ 776 = .ok (.istore 6, 2) := by decide +kernel
theorem dL_law__778 : decode cL_law_ 778 = .ok (.aload_n 2, 1) := by decide +kernel
theorem dL_law__779 : decode cL_law_ 779 = .ok (.invokevirtual 128, 3) := by decide +kernel
theorem dL_law__782 : decode cL_law_ 782 = .ok (.iload 5, 2) := by decide +kernel
theorem dL_law__784 : decode cL_law_ 784 = .ok (.if_icmp .eq 5, 3) := by decide +kernel
theorem dL_law__787 : decode cL_law_ 787 = .ok (.iconst 0, 1) := by decide +kernel
theorem dL_law__788 : decode cL_law_ 788 = .ok (.ireturn, 1) := by decide +kernel
theorem dL_law__789 : decode cL_law_ 789 = .ok (.iload 5, 2) := by decide +kernel
theorem dL_law__791 : decode cL_law_ 791 = .ok (.ifCond .ne 15, 3) := by decide +kernel
theorem dL_law__794 : decode cL_law_ 794 = .ok (.aload_n 3, 1) := by decide +kernel
theorem dL_law__795 : decode cL_law_ 795 = .ok (.iconst 0, 1) := by decide +kernel
theorem dL_law__796 : decode cL_law_ 796 = .ok (.laload, 1) := by decide +kernel
theorem dL_law__797 : decode cL_law_ 797 = .ok (.iload 6, 2) := by decide +kernel
theorem dL_law__799 : decode cL_law_ 799 = .ok (.i2l, 1) := by decide +kernel
theorem dL_law__800 : decode cL_law_ 800 = .ok (.lcmp, 1) := by decide +kernel
theorem dL_law__801 : decode cL_law_ 801 = .ok (.ifCond .eq 5, 3) := by decide +kernel
theorem dL_law__804 : decode cL_law_ 804 = .ok (.iconst 0, 1) := by decide +kernel
theorem dL_law__805 : decode cL_law_ 805 = .ok (.ireturn, 1) := by decide +kernel
theorem dL_law__806 : decode cL_law_ 806 = .ok (.goto 1503, 3) := by decide +kernel
theorem dL_law__809 : decode cL_law_ 809 = .ok (.aload_n 1, 1) := by decide +kernel
theorem dL_law__810 : decode cL_law_ 810 = .ok (.aload_n 0, 1) := by decide +kernel
theorem dL_law__811 : decode cL_law_ 811 = .ok (.iload 4, 2) := by decide +kernel
theorem dL_law__813 : decode cL_law_ 813 = .ok (.iconst 1, 1) := by decide +kernel
theorem dL_law__814 : decode cL_law_ 814 = .ok (.iadd, 1) := by decide +kernel
theorem dL_law__815 : decode cL_law_ 815 = .ok (.iaload, 1) := by decide +kernel
theorem dL_law__816 : decode cL_law_ 816 = .ok (.aload_n 3, 1) := by decide +kernel
theorem dL_law__817 : decode cL_law_ 817 = .ok (.invokestatic 164, 3) := by decide +kernel
theorem dL_law__820 : decode cL_law_ 820 = .ok (.istore 5, 2) := by decide +kernel
theorem dL_law__822 : decode cL_law_ 822 = .ok (.aload_n 2, 1) := by decide +kernel
theorem dL_law__823 : decode cL_law_ 823 = .ok (.aload_n 0, 1) := by decide +kernel
theorem dL_law__824 : decode cL_law_ 824 = .ok (.iload 4, 2) := by decide +kernel
theorem dL_law__826 : decode cL_law_ 826 = .ok (.iconst 1, 1) := by decide +kernel
theorem dL_law__827 : decode cL_law_ 827 = .ok (.iadd, 1) := by decide +kernel
theorem dL_law__828 : decode cL_law_ 828 = .ok (.iaload, 1) := by decide +kernel
theorem dL_law__829 : decode cL_law_ 829 = .ok (.invokevirtual 166, 3) := by decide +kernel
theorem dL_law__832 : decode cL_law_ 832 = .ok (.istore 6, 2) := by decide +kernel
theorem dL_law__834 : decode cL_law_ 834 = .ok (.aload_n 2, 1) := by decide +kernel
theorem dL_law__835 : decode cL_law_ 835 = .ok (.invokevirtual 128, 3) := by decide +kernel
theorem dL_law__838 : decode cL_law_ 838 = .ok (.iload 5, 2) := by decide +kernel
theorem dL_law__840 : decode cL_law_ 840 = .ok (.if_icmp .eq 5, 3) := by decide +kernel
theorem dL_law__843 : decode cL_law_ 843 = .ok (.iconst 0, 1) := by decide +kernel
theorem dL_law__844 : decode cL_law_ 844 = .ok (.ireturn, 1) := by decide +kernel
theorem dL_law__845 : decode cL_law_ 845 = .ok (.iload 5, 2) := by decide +kernel
theorem dL_law__847 : decode cL_law_ 847 = .ok (.ifCond .ne 15, 3) := by decide +kernel
theorem dL_law__850 : decode cL_law_ 850 = .ok (.aload_n 3, 1) := by decide +kernel
theorem dL_law__851 : decode cL_law_ 851 = .ok (.iconst 0, 1) := by decide +kernel
theorem dL_law__852 : decode cL_law_ 852 = .ok (.laload, 1) := by decide +kernel
theorem dL_law__853 : decode cL_law_ 853 = .ok (.iload 6, 2) := by decide +kernel
theorem dL_law__855 : decode cL_law_ 855 = .ok (.i2l, 1) := by decide +kernel
theorem dL_law__856 : decode cL_law_ 856 = .ok (.lcmp, 1) := by decide +kernel
theorem dL_law__857 : decode cL_law_ 857 = .ok (.ifCond .eq 5, 3) := by decide +kernel
theorem dL_law__860 : decode cL_law_ 860 = .ok (.iconst 0, 1) := by decide +kernel
theorem dL_law__861 : decode cL_law_ 861 = .ok (.ireturn, 1) := by decide +kernel
theorem dL_law__862 : decode cL_law_ 862 = .ok (.goto 1447, 3) := by decide +kernel
theorem dL_law__865 : decode cL_law_ 865 = .ok (.aload_n 1, 1) := by decide +kernel
theorem dL_law__866 : decode cL_law_ 866 = .ok (.aload_n 0, 1) := by decide +kernel
theorem dL_law__867 : decode cL_law_ 867 = .ok (.iload 4, 2) := by decide +kernel
theorem dL_law__869 : decode cL_law_ 869 = .ok (.iconst 1, 1) := by decide +kernel
theorem dL_law__870 : decode cL_law_ 870 = .ok (.iadd, 1) := by decide +kernel
theorem dL_law__871 : decode cL_law_ 871 = .ok (.iaload, 1) := by decide +kernel
theorem dL_law__872 : decode cL_law_ 872 = .ok (.aload_n 3, 1) := by decide +kernel
theorem dL_law__873 : decode cL_law_ 873 = .ok (.invokestatic 167, 3) := by decide +kernel
theorem dL_law__876 : decode cL_law_ 876 = .ok (.istore 5, 2) := by decide +kernel
theorem dL_law__878 : decode cL_law_ 878 = .ok (.aload_n 2, 1) := by decide +kernel
theorem dL_law__879 : decode cL_law_ 879 = .ok (.aload_n 0, 1) := by decide +kernel
theorem dL_law__880 : decode cL_law_ 880 = .ok (.iload 4, 2) := by decide +kernel
theorem dL_law__882 : decode cL_law_ 882 = .ok (.iconst 1, 1) := by decide +kernel
theorem dL_law__883 : decode cL_law_ 883 = .ok (.iadd, 1) := by decide +kernel
theorem dL_law__884 : decode cL_law_ 884 = .ok (.iaload, 1) := by decide +kernel
theorem dL_law__885 : decode cL_law_ 885 = .ok (.invokevirtual 169, 3) := by decide +kernel
theorem dL_law__888 : decode cL_law_ 888 = .ok (.istore 6, 2) := by decide +kernel
theorem dL_law__890 : decode cL_law_ 890 = .ok (.aload_n 2, 1) := by decide +kernel
theorem dL_law__891 : decode cL_law_ 891 = .ok (.invokevirtual 128, 3) := by decide +kernel
theorem dL_law__894 : decode cL_law_ 894 = .ok (.iload 5, 2) := by decide +kernel
theorem dL_law__896 : decode cL_law_ 896 = .ok (.if_icmp .eq 5, 3) := by decide +kernel
theorem dL_law__899 : decode cL_law_ 899 = .ok (.iconst 0, 1) := by decide +kernel
theorem dL_law__900 : decode cL_law_ 900 = .ok (.ireturn, 1) := by decide +kernel
theorem dL_law__901 : decode cL_law_ 901 = .ok (.iload 5, 2) := by decide +kernel
theorem dL_law__903 : decode cL_law_ 903 = .ok (.ifCond .ne 15, 3) := by decide +kernel
theorem dL_law__906 : decode cL_law_ 906 = .ok (.aload_n 3, 1) := by decide +kernel
theorem dL_law__907 : decode cL_law_ 907 = .ok (.iconst 0, 1) := by decide +kernel
theorem dL_law__908 : decode cL_law_ 908 = .ok (.laload, 1) := by decide +kernel
theorem dL_law__909 : decode cL_law_ 909 = .ok (.iload 6, 2) := by decide +kernel
theorem dL_law__911 : decode cL_law_ 911 = .ok (.i2l, 1) := by decide +kernel
theorem dL_law__912 : decode cL_law_ 912 = .ok (.lcmp, 1) := by decide +kernel
theorem dL_law__913 : decode cL_law_ 913 = .ok (.ifCond .eq 5, 3) := by decide +kernel
theorem dL_law__916 : decode cL_law_ 916 = .ok (.iconst 0, 1) := by decide +kernel
theorem dL_law__917 : decode cL_law_ 917 = .ok (.ireturn, 1) := by decide +kernel
theorem dL_law__918 : decode cL_law_ 918 = .ok (.goto 1391, 3) := by decide +kernel
theorem dL_law__921 : decode cL_law_ 921 = .ok (.aload_n 1, 1) := by decide +kernel
theorem dL_law__922 : decode cL_law_ 922 = .ok (.aload_n 0, 1) := by decide +kernel
theorem dL_law__923 : decode cL_law_ 923 = .ok (.iload 4, 2) := by decide +kernel
theorem dL_law__925 : decode cL_law_ 925 = .ok (.iconst 1, 1) := by decide +kernel
theorem dL_law__926 : decode cL_law_ 926 = .ok (.iadd, 1) := by decide +kernel
theorem dL_law__927 : decode cL_law_ 927 = .ok (.iaload, 1) := by decide +kernel
theorem dL_law__928 : decode cL_law_ 928 = .ok (.aload_n 3, 1) := by decide +kernel
theorem dL_law__929 : decode cL_law_ 929 = .ok (.invokestatic 170, 3) := by decide +kernel
theorem dL_law__932 : decode cL_law_ 932 = .ok (.istore 5, 2) := by decide +kernel
theorem dL_law__934 : decode cL_law_ 934 = .ok (.aload_n 2, 1) := by decide +kernel
theorem dL_law__935 : decode cL_law_ 935 = .ok (.aload_n 0, 1) := by decide +kernel
theorem dL_law__936 : decode cL_law_ 936 = .ok (.iload 4, 2) := by decide +kernel
theorem dL_law__938 : decode cL_law_ 938 = .ok (.iconst 1, 1) := by decide +kernel
theorem dL_law__939 : decode cL_law_ 939 = .ok (.iadd, 1) := by decide +kernel
theorem dL_law__940 : decode cL_law_ 940 = .ok (.iaload, 1) := by decide +kernel
theorem dL_law__941 : decode cL_law_ 941 = .ok (.invokevirtual 172, 3) := by decide +kernel
theorem dL_law__944 : decode cL_law_ 944 = .ok (.istore 6, 2) := by decide +kernel
theorem dL_law__946 : decode cL_law_ 946 = .ok (.aload_n 2, 1) := by decide +kernel
theorem dL_law__947 : decode cL_law_ 947 = .ok (.invokevirtual 128, 3) := by decide +kernel
theorem dL_law__950 : decode cL_law_ 950 = .ok (.iload 5, 2) := by decide +kernel
theorem dL_law__952 : decode cL_law_ 952 = .ok (.if_icmp .eq 5, 3) := by decide +kernel
theorem dL_law__955 : decode cL_law_ 955 = .ok (.iconst 0, 1) := by decide +kernel
theorem dL_law__956 : decode cL_law_ 956 = .ok (.ireturn, 1) := by decide +kernel
theorem dL_law__957 : decode cL_law_ 957 = .ok (.iload 5, 2) := by decide +kernel
theorem dL_law__959 : decode cL_law_ 959 = .ok (.ifCond .ne 15, 3) := by decide +kernel
theorem dL_law__962 : decode cL_law_ 962 = .ok (.aload_n 3, 1) := by decide +kernel
theorem dL_law__963 : decode cL_law_ 963 = .ok (.iconst 0, 1) := by decide +kernel
theorem dL_law__964 : decode cL_law_ 964 = .ok (.laload, 1) := by decide +kernel
theorem dL_law__965 : decode cL_law_ 965 = .ok (.iload 6, 2) := by decide +kernel
theorem dL_law__967 : decode cL_law_ 967 = .ok (.i2l, 1) := by decide +kernel
theorem dL_law__968 : decode cL_law_ 968 = .ok (.lcmp, 1) := by decide +kernel
theorem dL_law__969 : decode cL_law_ 969 = .ok (.ifCond .eq 5, 3) := by decide +kernel
theorem dL_law__972 : decode cL_law_ 972 = .ok (.iconst 0, 1) := by decide +kernel
theorem dL_law__973 : decode cL_law_ 973 = .ok (.ireturn, 1) := by decide +kernel
theorem dL_law__974 : decode cL_law_ 974 = .ok (.goto 1335, 3) := by decide +kernel
theorem dL_law__977 : decode cL_law_ 977 = .ok (.aload_n 1, 1) := by decide +kernel
theorem dL_law__978 : decode cL_law_ 978 = .ok (.invokevirtual 173, 3) := by decide +kernel
theorem dL_law__981 : decode cL_law_ 981 = .ok (.aload_n 2, 1) := by decide +kernel
theorem dL_law__982 : decode cL_law_ 982 = .ok (.invokevirtual 176, 3) := by decide +kernel
theorem dL_law__985 : decode cL_law_ 985 = .ok (.if_icmp .eq 1324, 3) := by decide +kernel
theorem dL_law__988 : decode cL_law_ 988 = .ok (.iconst 0, 1) := by decide +kernel
theorem dL_law__989 : decode cL_law_ 989 = .ok (.ireturn, 1) := by decide +kernel
theorem dL_law__990 : decode cL_law_ 990 = .ok (.aload_n 1, 1) := by decide +kernel
theorem dL_law__991 : decode cL_law_ 991 = .ok (.aload_n 0, 1) := by decide +kernel
theorem dL_law__992 : decode cL_law_ 992 = .ok (.iload 4, 2) := by decide +kernel
theorem dL_law__994 : decode cL_law_ 994 = .ok (.iconst 1, 1) := by decide +kernel
theorem dL_law__995 : decode cL_law_ 995 = .ok (.iadd, 1) := by decide +kernel
theorem dL_law__996 : decode cL_law_ 996 = .ok (.iaload, 1) := by decide +kernel
theorem dL_law__997 : decode cL_law_ 997 = .ok (.aload_n 3, 1) := by decide +kernel
theorem dL_law__998 : decode cL_law_ 998 = .ok (.invokestatic 177, 3) := by decide +kernel
theorem dL_law__1001 : decode cL_law_ 1001 = .ok (.istore 5, 2) := by decide +kernel
theorem dL_law__1003 : decode cL_law_ 1003 = .ok (.aload_n 2, 1) := by decide +kernel
theorem dL_law__1004 : decode cL_law_ 1004 = .ok (.aload_n 0, 1) := by decide +kernel
theorem dL_law__1005 : decode cL_law_ 1005 = .ok (.iload 4, 2) := by decide +kernel
theorem dL_law__1007 : decode cL_law_ 1007 = .ok (.iconst 1, 1) := by decide +kernel
theorem dL_law__1008 : decode cL_law_ 1008 = .ok (.iadd, 1) := by decide +kernel
theorem dL_law__1009 : decode cL_law_ 1009 = .ok (.iaload, 1) := by decide +kernel
theorem dL_law__1010 : decode cL_law_ 1010 = .ok (.invokevirtual 179, 3) := by decide +kernel
theorem dL_law__1013 : decode cL_law_ 1013 = .ok (.istore 6, 2) := by decide +kernel
theorem dL_law__1015 : decode cL_law_ 1015 = .ok (.aload_n 2, 1) := by decide +kernel
theorem dL_law__1016 : decode cL_law_ 1016 = .ok (.invokevirtual 128, 3) := by decide +kernel
theorem dL_law__1019 : decode cL_law_ 1019 = .ok (.iload 5, 2) := by decide +kernel
theorem dL_law__1021 : decode cL_law_ 1021 = .ok (.if_icmp .eq 5, 3) := by decide +kernel
theorem dL_law__1024 : decode cL_law_ 1024 = .ok (.iconst 0, 1) := by decide +kernel
theorem dL_law__1025 : decode cL_law_ 1025 = .ok (.ireturn, 1) := by decide +kernel
theorem dL_law__1026 : decode cL_law_ 1026 = .ok (.iload 5, 2) := by decide +kernel
theorem dL_law__1028 : decode cL_law_ 1028 = .ok (.ifCond .ne 15, 3) := by decide +kernel
theorem dL_law__1031 : decode cL_law_ 1031 = .ok (.aload_n 3, 1) := by decide +kernel
theorem dL_law__1032 : decode cL_law_ 1032 = .ok (.iconst 0, 1) := by decide +kernel
theorem dL_law__1033 : decode cL_law_ 1033 = .ok (.laload, 1) := by decide +kernel
theorem dL_law__1034 : decode cL_law_ 1034 = .ok (.iload 6, 2) := by decide +kernel
theorem dL_law__1036 : decode cL_law_ 1036 = .ok (.i2l, 1) := by decide +kernel
theorem dL_law__1037 : decode cL_law_ 1037 = .ok (.lcmp, 1) := by decide +kernel
theorem dL_law__1038 : decode cL_law_ 1038 = .ok (.ifCond .eq 5, 3) := by decide +kernel
theorem dL_law__1041 : decode cL_law_ 1041 = .ok (.iconst 0, 1) := by decide +kernel
theorem dL_law__1042 : decode cL_law_ 1042 = .ok (.ireturn, 1) := by decide +kernel
theorem dL_law__1043 : decode cL_law_ 1043 = .ok (.goto 1266, 3) := by decide +kernel
theorem dL_law__1046 : decode cL_law_ 1046 = .ok (.aload_n 1, 1) := by decide +kernel
theorem dL_law__1047 : decode cL_law_ 1047 = .ok (.aload_n 0, 1) := by decide +kernel
theorem dL_law__1048 : decode cL_law_ 1048 = .ok (.iload 4, 2) := by decide +kernel
theorem dL_law__1050 : decode cL_law_ 1050 = .ok (.iconst 1, 1) := by decide +kernel
theorem dL_law__1051 : decode cL_law_ 1051 = .ok (.iadd, 1) := by decide +kernel
theorem dL_law__1052 : decode cL_law_ 1052 = .ok (.iaload, 1) := by decide +kernel
theorem dL_law__1053 : decode cL_law_ 1053 = .ok (.aload_n 3, 1) := by decide +kernel
theorem dL_law__1054 : decode cL_law_ 1054 = .ok (.invokestatic 180, 3) := by decide +kernel
theorem dL_law__1057 : decode cL_law_ 1057 = .ok (.istore 5, 2) := by decide +kernel
theorem dL_law__1059 : decode cL_law_ 1059 = .ok (.aload_n 2, 1) := by decide +kernel
theorem dL_law__1060 : decode cL_law_ 1060 = .ok (.aload_n 0, 1) := by decide +kernel
theorem dL_law__1061 : decode cL_law_ 1061 = .ok (.iload 4, 2) := by decide +kernel
theorem dL_law__1063 : decode cL_law_ 1063 = .ok (.iconst 1, 1) := by decide +kernel
theorem dL_law__1064 : decode cL_law_ 1064 = .ok (.iadd, 1) := by decide +kernel
theorem dL_law__1065 : decode cL_law_ 1065 = .ok (.iaload, 1) := by decide +kernel
theorem dL_law__1066 : decode cL_law_ 1066 = .ok (.invokevirtual 182, 3) := by decide +kernel
theorem dL_law__1069 : decode cL_law_ 1069 = .ok (.istore 6, 2) := by decide +kernel
theorem dL_law__1071 : decode cL_law_ 1071 = .ok (.aload_n 2, 1) := by decide +kernel
theorem dL_law__1072 : decode cL_law_ 1072 = .ok (.invokevirtual 128, 3) := by decide +kernel
theorem dL_law__1075 : decode cL_law_ 1075 = .ok (.iload 5, 2) := by decide +kernel
theorem dL_law__1077 : decode cL_law_ 1077 = .ok (.if_icmp .eq 5, 3) := by decide +kernel
theorem dL_law__1080 : decode cL_law_ 1080 = .ok (.iconst 0, 1) := by decide +kernel
theorem dL_law__1081 : decode cL_law_ 1081 = .ok (.ireturn, 1) := by decide +kernel
theorem dL_law__1082 : decode cL_law_ 1082 = .ok (.iload 5, 2) := by decide +kernel
theorem dL_law__1084 : decode cL_law_ 1084 = .ok (.ifCond .ne 15, 3) := by decide +kernel
theorem dL_law__1087 : decode cL_law_ 1087 = .ok (.aload_n 3, 1) := by decide +kernel
theorem dL_law__1088 : decode cL_law_ 1088 = .ok (.iconst 0, 1) := by decide +kernel
theorem dL_law__1089 : decode cL_law_ 1089 = .ok (.laload, 1) := by decide +kernel
theorem dL_law__1090 : decode cL_law_ 1090 = .ok (.iload 6, 2) := by decide +kernel
theorem dL_law__1092 : decode cL_law_ 1092 = .ok (.i2l, 1) := by decide +kernel
theorem dL_law__1093 : decode cL_law_ 1093 = .ok (.lcmp, 1) := by decide +kernel
theorem dL_law__1094 : decode cL_law_ 1094 = .ok (.ifCond .eq 5, 3) := by decide +kernel
theorem dL_law__1097 : decode cL_law_ 1097 = .ok (.iconst 0, 1) := by decide +kernel
theorem dL_law__1098 : decode cL_law_ 1098 = .ok (.ireturn, 1) := by decide +kernel
theorem dL_law__1099 : decode cL_law_ 1099 = .ok (.goto 1210, 3) := by decide +kernel
theorem dL_law__1102 : decode cL_law_ 1102 = .ok (.aload_n 1, 1) := by decide +kernel
theorem dL_law__1103 : decode cL_law_ 1103 = .ok (.aload_n 0, 1) := by decide +kernel
theorem dL_law__1104 : decode cL_law_ 1104 = .ok (.iload 4, 2) := by decide +kernel
theorem dL_law__1106 : decode cL_law_ 1106 = .ok (.iconst 1, 1) := by decide +kernel
theorem dL_law__1107 : decode cL_law_ 1107 = .ok (.iadd, 1) := by decide +kernel
theorem dL_law__1108 : decode cL_law_ 1108 = .ok (.iaload, 1) := by decide +kernel
theorem dL_law__1109 : decode cL_law_ 1109 = .ok (.aload_n 0, 1) := by decide +kernel
theorem dL_law__1110 : decode cL_law_ 1110 = .ok (.iload 4, 2) := by decide +kernel
theorem dL_law__1112 : decode cL_law_ 1112 = .ok (.iconst 2, 1) := by decide +kernel
theorem dL_law__1113 : decode cL_law_ 1113 = .ok (.iadd, 1) := by decide +kernel
theorem dL_law__1114 : decode cL_law_ 1114 = .ok (.iaload, 1) := by decide +kernel
theorem dL_law__1115 : decode cL_law_ 1115 = .ok (.aload_n 3, 1) := by decide +kernel
theorem dL_law__1116 : decode cL_law_ 1116 = .ok (.invokestatic 183, 3) := by decide +kernel
theorem dL_law__1119 : decode cL_law_ 1119 = .ok (.istore 5, 2) := by decide +kernel
theorem dL_law__1121 : decode cL_law_ 1121 = .ok (.aload_n 2, 1) := by decide +kernel
theorem dL_law__1122 : decode cL_law_ 1122 = .ok (.aload_n 0, 1) := by decide +kernel
theorem dL_law__1123 : decode cL_law_ 1123 = .ok (.iload 4, 2) := by decide +kernel
theorem dL_law__1125 : decode cL_law_ 1125 = .ok (.iconst 1, 1) := by decide +kernel
theorem dL_law__1126 : decode cL_law_ 1126 = .ok (.iadd, 1) := by decide +kernel
theorem dL_law__1127 : decode cL_law_ 1127 = .ok (.iaload, 1) := by decide +kernel
theorem dL_law__1128 : decode cL_law_ 1128 = .ok (.aload_n 0, 1) := by decide +kernel
theorem dL_law__1129 : decode cL_law_ 1129 = .ok (.iload 4, 2) := by decide +kernel
theorem dL_law__1131 : decode cL_law_ 1131 = .ok (.iconst 2, 1) := by decide +kernel
theorem dL_law__1132 : decode cL_law_ 1132 = .ok (.iadd, 1) := by decide +kernel
theorem dL_law__1133 : decode cL_law_ 1133 = .ok (.iaload, 1) := by decide +kernel
theorem dL_law__1134 : decode cL_law_ 1134 = .ok (.invokevirtual 185, 3) := by decide +kernel
theorem dL_law__1137 : decode cL_law_ 1137 = .ok (.istore 6, 2) := by decide +kernel
theorem dL_law__1139 : decode cL_law_ 1139 = .ok (.aload_n 2, 1) := by decide +kernel
theorem dL_law__1140 : decode cL_law_ 1140 = .ok (.invokevirtual 128, 3) := by decide +kernel
theorem dL_law__1143 : decode cL_law_ 1143 = .ok (.iload 5, 2) := by decide +kernel
theorem dL_law__1145 : decode cL_law_ 1145 = .ok (.if_icmp .eq 5, 3) := by decide +kernel
theorem dL_law__1148 : decode cL_law_ 1148 = .ok (.iconst 0, 1) := by decide +kernel
theorem dL_law__1149 : decode cL_law_ 1149 = .ok (.ireturn, 1) := by decide +kernel
theorem dL_law__1150 : decode cL_law_ 1150 = .ok (.iload 5, 2) := by decide +kernel
theorem dL_law__1152 : decode cL_law_ 1152 = .ok (.ifCond .ne 15, 3) := by decide +kernel
theorem dL_law__1155 : decode cL_law_ 1155 = .ok (.aload_n 3, 1) := by decide +kernel
theorem dL_law__1156 : decode cL_law_ 1156 = .ok (.iconst 0, 1) := by decide +kernel
theorem dL_law__1157 : decode cL_law_ 1157 = .ok (.laload, 1) := by decide +kernel
theorem dL_law__1158 : decode cL_law_ 1158 = .ok (.iload 6, 2) := by decide +kernel
theorem dL_law__1160 : decode cL_law_ 1160 = .ok (.i2l, 1) := by decide +kernel
theorem dL_law__1161 : decode cL_law_ 1161 = .ok (.lcmp, 1) := by decide +kernel
theorem dL_law__1162 : decode cL_law_ 1162 = .ok (.ifCond .eq 5, 3) := by decide +kernel
theorem dL_law__1165 : decode cL_law_ 1165 = .ok (.iconst 0, 1) := by decide +kernel
theorem dL_law__1166 : decode cL_law_ 1166 = .ok (.ireturn, 1) := by decide +kernel
theorem dL_law__1167 : decode cL_law_ 1167 = .ok (.goto 1142, 3) := by decide +kernel
theorem dL_law__1170 : decode cL_law_ 1170 = .ok (.aload_n 1, 1) := by decide +kernel
theorem dL_law__1171 : decode cL_law_ 1171 = .ok (.aload_n 0, 1) := by decide +kernel
theorem dL_law__1172 : decode cL_law_ 1172 = .ok (.iload 4, 2) := by decide +kernel
theorem dL_law__1174 : decode cL_law_ 1174 = .ok (.iconst 1, 1) := by decide +kernel
theorem dL_law__1175 : decode cL_law_ 1175 = .ok (.iadd, 1) := by decide +kernel
theorem dL_law__1176 : decode cL_law_ 1176 = .ok (.iaload, 1) := by decide +kernel
theorem dL_law__1177 : decode cL_law_ 1177 = .ok (.aload_n 0, 1) := by decide +kernel
theorem dL_law__1178 : decode cL_law_ 1178 = .ok (.iload 4, 2) := by decide +kernel
theorem dL_law__1180 : decode cL_law_ 1180 = .ok (.iconst 2, 1) := by decide +kernel
theorem dL_law__1181 : decode cL_law_ 1181 = .ok (.iadd, 1) := by decide +kernel
theorem dL_law__1182 : decode cL_law_ 1182 = .ok (.iaload, 1) := by decide +kernel
theorem dL_law__1183 : decode cL_law_ 1183 = .ok (.aload_n 3, 1) := by decide +kernel
theorem dL_law__1184 : decode cL_law_ 1184 = .ok (.invokestatic 186, 3) := by decide +kernel
theorem dL_law__1187 : decode cL_law_ 1187 = .ok (.istore 5, 2) := by decide +kernel
theorem dL_law__1189 : decode cL_law_ 1189 = .ok (.aload_n 2, 1) := by decide +kernel
theorem dL_law__1190 : decode cL_law_ 1190 = .ok (.aload_n 0, 1) := by decide +kernel
theorem dL_law__1191 : decode cL_law_ 1191 = .ok (.iload 4, 2) := by decide +kernel
theorem dL_law__1193 : decode cL_law_ 1193 = .ok (.iconst 1, 1) := by decide +kernel
theorem dL_law__1194 : decode cL_law_ 1194 = .ok (.iadd, 1) := by decide +kernel
theorem dL_law__1195 : decode cL_law_ 1195 = .ok (.iaload, 1) := by decide +kernel
theorem dL_law__1196 : decode cL_law_ 1196 = .ok (.aload_n 0, 1) := by decide +kernel
theorem dL_law__1197 : decode cL_law_ 1197 = .ok (.iload 4, 2) := by decide +kernel
theorem dL_law__1199 : decode cL_law_ 1199 = .ok (.iconst 2, 1) := by decide +kernel
theorem dL_law__1200 : decode cL_law_ 1200 = .ok (.iadd, 1) := by decide +kernel
theorem dL_law__1201 : decode cL_law_ 1201 = .ok (.iaload, 1) := by decide +kernel
theorem dL_law__1202 : decode cL_law_ 1202 = .ok (.invokevirtual 188, 3) := by decide +kernel
theorem dL_law__1205 : decode cL_law_ 1205 = .ok (.istore 6, 2) := by decide +kernel
theorem dL_law__1207 : decode cL_law_ 1207 = .ok (.aload_n 2, 1) := by decide +kernel
theorem dL_law__1208 : decode cL_law_ 1208 = .ok (.invokevirtual 128, 3) := by decide +kernel
theorem dL_law__1211 : decode cL_law_ 1211 = .ok (.iload 5, 2) := by decide +kernel
theorem dL_law__1213 : decode cL_law_ 1213 = .ok (.if_icmp .eq 5, 3) := by decide +kernel
theorem dL_law__1216 : decode cL_law_ 1216 = .ok (.iconst 0, 1) := by decide +kernel
theorem dL_law__1217 : decode cL_law_ 1217 = .ok (.ireturn, 1) := by decide +kernel
theorem dL_law__1218 : decode cL_law_ 1218 = .ok (.iload 5, 2) := by decide +kernel
theorem dL_law__1220 : decode cL_law_ 1220 = .ok (.ifCond .ne 15, 3) := by decide +kernel
theorem dL_law__1223 : decode cL_law_ 1223 = .ok (.aload_n 3, 1) := by decide +kernel
theorem dL_law__1224 : decode cL_law_ 1224 = .ok (.iconst 0, 1) := by decide +kernel
theorem dL_law__1225 : decode cL_law_ 1225 = .ok (.laload, 1) := by decide +kernel
theorem dL_law__1226 : decode cL_law_ 1226 = .ok (.iload 6, 2) := by decide +kernel
theorem dL_law__1228 : decode cL_law_ 1228 = .ok (.i2l, 1) := by decide +kernel
theorem dL_law__1229 : decode cL_law_ 1229 = .ok (.lcmp, 1) := by decide +kernel
theorem dL_law__1230 : decode cL_law_ 1230 = .ok (.ifCond .eq 5, 3) := by decide +kernel
theorem dL_law__1233 : decode cL_law_ 1233 = .ok (.iconst 0, 1) := by decide +kernel
theorem dL_law__1234 : decode cL_law_ 1234 = .ok (.ireturn, 1) := by decide +kernel
theorem dL_law__1235 : decode cL_law_ 1235 = .ok (.goto 1074, 3) := by decide +kernel
theorem dL_law__1238 : decode cL_law_ 1238 = .ok (.aload_n 1, 1) := by decide +kernel
theorem dL_law__1239 : decode cL_law_ 1239 = .ok (.aload_n 3, 1) := by decide +kernel
theorem dL_law__1240 : decode cL_law_ 1240 = .ok (.invokestatic 189, 3) := by decide +kernel
theorem dL_law__1243 : decode cL_law_ 1243 = .ok (.istore 5, 2) := by decide +kernel
theorem dL_law__1245 : decode cL_law_ 1245 = .ok (.aload_n 2, 1) := by decide +kernel
theorem dL_law__1246 : decode cL_law_ 1246 = .ok (.invokevirtual 191, 3) := by decide +kernel
theorem dL_law__1249 : decode cL_law_ 1249 = .ok (.istore 6, 2) := by decide +kernel
theorem dL_law__1251 : decode cL_law_ 1251 = .ok (.aload_n 2, 1) := by decide +kernel
theorem dL_law__1252 : decode cL_law_ 1252 = .ok (.invokevirtual 128, 3) := by decide +kernel
theorem dL_law__1255 : decode cL_law_ 1255 = .ok (.iload 5, 2) := by decide +kernel
theorem dL_law__1257 : decode cL_law_ 1257 = .ok (.if_icmp .eq 5, 3) := by decide +kernel
theorem dL_law__1260 : decode cL_law_ 1260 = .ok (.iconst 0, 1) := by decide +kernel
theorem dL_law__1261 : decode cL_law_ 1261 = .ok (.ireturn, 1) := by decide +kernel
theorem dL_law__1262 : decode cL_law_ 1262 = .ok (.iload 5, 2) := by decide +kernel
theorem dL_law__1264 : decode cL_law_ 1264 = .ok (.ifCond .ne 15, 3) := by decide +kernel
theorem dL_law__1267 : decode cL_law_ 1267 = .ok (.aload_n 3, 1) := by decide +kernel
theorem dL_law__1268 : decode cL_law_ 1268 = .ok (.iconst 0, 1) := by decide +kernel
theorem dL_law__1269 : decode cL_law_ 1269 = .ok (.laload, 1) := by decide +kernel
theorem dL_law__1270 : decode cL_law_ 1270 = .ok (.iload 6, 2) := by decide +kernel
theorem dL_law__1272 : decode cL_law_ 1272 = .ok (.i2l, 1) := by decide +kernel
theorem dL_law__1273 : decode cL_law_ 1273 = .ok (.lcmp, 1) := by decide +kernel
theorem dL_law__1274 : decode cL_law_ 1274 = .ok (.ifCond .eq 5, 3) := by decide +kernel
theorem dL_law__1277 : decode cL_law_ 1277 = .ok (.iconst 0, 1) := by decide +kernel
theorem dL_law__1278 : decode cL_law_ 1278 = .ok (.ireturn, 1) := by decide +kernel
theorem dL_law__1279 : decode cL_law_ 1279 = .ok (.goto 1030, 3) := by decide +kernel
theorem dL_law__1282 : decode cL_law_ 1282 = .ok (.aload_n 1, 1) := by decide +kernel
theorem dL_law__1283 : decode cL_law_ 1283 = .ok (.aload_n 3, 1) := by decide +kernel
theorem dL_law__1284 : decode cL_law_ 1284 = .ok (.invokestatic 192, 3) := by decide +kernel
theorem dL_law__1287 : decode cL_law_ 1287 = .ok (.istore 5, 2) := by decide +kernel
theorem dL_law__1289 : decode cL_law_ 1289 = .ok (.aload_n 2, 1) := by decide +kernel
theorem dL_law__1290 : decode cL_law_ 1290 = .ok (.invokevirtual 194, 3) := by decide +kernel
theorem dL_law__1293 : decode cL_law_ 1293 = .ok (.istore 6, 2) := by decide +kernel
theorem dL_law__1295 : decode cL_law_ 1295 = .ok (.aload_n 2, 1) := by decide +kernel
theorem dL_law__1296 : decode cL_law_ 1296 = .ok (.invokevirtual 128, 3) := by decide +kernel
theorem dL_law__1299 : decode cL_law_ 1299 = .ok (.iload 5, 2) := by decide +kernel
theorem dL_law__1301 : decode cL_law_ 1301 = .ok (.if_icmp .eq 5, 3) := by decide +kernel
theorem dL_law__1304 : decode cL_law_ 1304 = .ok (.iconst 0, 1) := by decide +kernel
theorem dL_law__1305 : decode cL_law_ 1305 = .ok (.ireturn, 1) := by decide +kernel
theorem dL_law__1306 : decode cL_law_ 1306 = .ok (.iload 5, 2) := by decide +kernel
theorem dL_law__1308 : decode cL_law_ 1308 = .ok (.ifCond .ne 15, 3) := by decide +kernel
theorem dL_law__1311 : decode cL_law_ 1311 = .ok (.aload_n 3, 1) := by decide +kernel
theorem dL_law__1312 : decode cL_law_ 1312 = .ok (.iconst 0, 1) := by decide +kernel
theorem dL_law__1313 : decode cL_law_ 1313 = .ok (.laload, 1) := by decide +kernel
theorem dL_law__1314 : decode cL_law_ 1314 = .ok (.iload 6, 2) := by decide +kernel
theorem dL_law__1316 : decode cL_law_ 1316 = .ok (.i2l, 1) := by decide +kernel
theorem dL_law__1317 : decode cL_law_ 1317 = .ok (.lcmp, 1) := by decide +kernel
theorem dL_law__1318 : decode cL_law_ 1318 = .ok (.ifCond .eq 5, 3) := by decide +kernel
theorem dL_law__1321 : decode cL_law_ 1321 = .ok (.iconst 0, 1) := by decide +kernel
theorem dL_law__1322 : decode cL_law_ 1322 = .ok (.ireturn, 1) := by decide +kernel
theorem dL_law__1323 : decode cL_law_ 1323 = .ok (.goto 986, 3) := by decide +kernel
theorem dL_law__1326 : decode cL_law_ 1326 = .ok (.aload_n 1, 1) := by decide +kernel
theorem dL_law__1327 : decode cL_law_ 1327 = .ok (.aload_n 3, 1) := by decide +kernel
theorem dL_law__1328 : decode cL_law_ 1328 = .ok (.invokestatic 195, 3) := by decide +kernel
theorem dL_law__1331 : decode cL_law_ 1331 = .ok (.istore 5, 2) := by decide +kernel
theorem dL_law__1333 : decode cL_law_ 1333 = .ok (.aload_n 2, 1) := by decide +kernel
theorem dL_law__1334 : decode cL_law_ 1334 = .ok (.invokevirtual 197, 3) := by decide +kernel
theorem dL_law__1337 : decode cL_law_ 1337 = .ok (.istore 6, 2) := by decide +kernel
theorem dL_law__1339 : decode cL_law_ 1339 = .ok (.aload_n 2, 1) := by decide +kernel
theorem dL_law__1340 : decode cL_law_ 1340 = .ok (.invokevirtual 128, 3) := by decide +kernel
theorem dL_law__1343 : decode cL_law_ 1343 = .ok (.iload 5, 2) := by decide +kernel
theorem dL_law__1345 : decode cL_law_ 1345 = .ok (.if_icmp .eq 5, 3) := by decide +kernel
theorem dL_law__1348 : decode cL_law_ 1348 = .ok (.iconst 0, 1) := by decide +kernel
theorem dL_law__1349 : decode cL_law_ 1349 = .ok (.ireturn, 1) := by decide +kernel
theorem dL_law__1350 : decode cL_law_ 1350 = .ok (.iload 5, 2) := by decide +kernel
theorem dL_law__1352 : decode cL_law_ 1352 = .ok (.ifCond .ne 15, 3) := by decide +kernel
theorem dL_law__1355 : decode cL_law_ 1355 = .ok (.aload_n 3, 1) := by decide +kernel
theorem dL_law__1356 : decode cL_law_ 1356 = .ok (.iconst 0, 1) := by decide +kernel
theorem dL_law__1357 : decode cL_law_ 1357 = .ok (.laload, 1) := by decide +kernel
theorem dL_law__1358 : decode cL_law_ 1358 = .ok (.iload 6, 2) := by decide +kernel
theorem dL_law__1360 : decode cL_law_ 1360 = .ok (.i2l, 1) := by decide +kernel
theorem dL_law__1361 : decode cL_law_ 1361 = .ok (.lcmp, 1) := by decide +kernel
theorem dL_law__1362 : decode cL_law_ 1362 = .ok (.ifCond .eq 5, 3) := by decide +kernel
theorem dL_law__1365 : decode cL_law_ 1365 = .ok (.iconst 0, 1) := by decide +kernel
theorem dL_law__1366 : decode cL_law_ 1366 = .ok (.ireturn, 1) := by decide +kernel
theorem dL_law__1367 : decode cL_law_ 1367 = .ok (.goto 942, 3) := by decide +kernel
theorem dL_law__1370 : decode cL_law_ 1370 = .ok (.aload_n 1, 1) := by decide +kernel
theorem dL_law__1371 : decode cL_law_ 1371 = .ok (.aload_n 0, 1) := by decide +kernel
theorem dL_law__1372 : decode cL_law_ 1372 = .ok (.iload 4, 2) := by decide +kernel
theorem dL_law__1374 : decode cL_law_ 1374 = .ok (.iconst 1, 1) := by decide +kernel
theorem dL_law__1375 : decode cL_law_ 1375 = .ok (.iadd, 1) := by decide +kernel
theorem dL_law__1376 : decode cL_law_ 1376 = .ok (.iaload, 1) := by decide +kernel
theorem dL_law__1377 : decode cL_law_ 1377 = .ok (.aload_n 3, 1) := by decide +kernel
theorem dL_law__1378 : decode cL_law_ 1378 = .ok (.invokestatic 198, 3) := by decide +kernel
theorem dL_law__1381 : decode cL_law_ 1381 = .ok (.istore 5, 2) := by decide +kernel
theorem dL_law__1383 : decode cL_law_ 1383 = .ok (.aload_n 2, 1) := by decide +kernel
theorem dL_law__1384 : decode cL_law_ 1384 = .ok (.aload_n 0, 1) := by decide +kernel
theorem dL_law__1385 : decode cL_law_ 1385 = .ok (.iload 4, 2) := by decide +kernel
theorem dL_law__1387 : decode cL_law_ 1387 = .ok (.iconst 1, 1) := by decide +kernel
theorem dL_law__1388 : decode cL_law_ 1388 = .ok (.iadd, 1) := by decide +kernel
theorem dL_law__1389 : decode cL_law_ 1389 = .ok (.iaload, 1) := by decide +kernel
theorem dL_law__1390 : decode cL_law_ 1390 = .ok (.invokevirtual 200, 3) := by decide +kernel
theorem dL_law__1393 : decode cL_law_ 1393 = .ok (.istore 6, 2) := by decide +kernel
theorem dL_law__1395 : decode cL_law_ 1395 = .ok (.aload_n 2, 1) := by decide +kernel
theorem dL_law__1396 : decode cL_law_ 1396 = .ok (.invokevirtual 128, 3) := by decide +kernel
theorem dL_law__1399 : decode cL_law_ 1399 = .ok (.iload 5, 2) := by decide +kernel
theorem dL_law__1401 : decode cL_law_ 1401 = .ok (.if_icmp .eq 5, 3) := by decide +kernel
theorem dL_law__1404 : decode cL_law_ 1404 = .ok (.iconst 0, 1) := by decide +kernel
theorem dL_law__1405 : decode cL_law_ 1405 = .ok (.ireturn, 1) := by decide +kernel
theorem dL_law__1406 : decode cL_law_ 1406 = .ok (.iload 5, 2) := by decide +kernel
theorem dL_law__1408 : decode cL_law_ 1408 = .ok (.ifCond .ne 15, 3) := by decide +kernel
theorem dL_law__1411 : decode cL_law_ 1411 = .ok (.aload_n 3, 1) := by decide +kernel
theorem dL_law__1412 : decode cL_law_ 1412 = .ok (.iconst 0, 1) := by decide +kernel
theorem dL_law__1413 : decode cL_law_ 1413 = .ok (.laload, 1) := by decide +kernel
theorem dL_law__1414 : decode cL_law_ 1414 = .ok (.iload 6, 2) := by decide +kernel
theorem dL_law__1416 : decode cL_law_ 1416 = .ok (.i2l, 1) := by decide +kernel
theorem dL_law__1417 : decode cL_law_ 1417 = .ok (.lcmp, 1) := by decide +kernel
theorem dL_law__1418 : decode cL_law_ 1418 = .ok (.ifCond .eq 5, 3) := by decide +kernel
theorem dL_law__1421 : decode cL_law_ 1421 = .ok (.iconst 0, 1) := by decide +kernel
theorem dL_law__1422 : decode cL_law_ 1422 = .ok (.ireturn, 1) := by decide +kernel
theorem dL_law__1423 : decode cL_law_ 1423 = .ok (.goto 886, 3) := by decide +kernel
theorem dL_law__1426 : decode cL_law_ 1426 = .ok (.aload_n 1, 1) := by decide +kernel
theorem dL_law__1427 : decode cL_law_ 1427 = .ok (.aload_n 0, 1) := by decide +kernel
theorem dL_law__1428 : decode cL_law_ 1428 = .ok (.iload 4, 2) := by decide +kernel
theorem dL_law__1430 : decode cL_law_ 1430 = .ok (.iconst 1, 1) := by decide +kernel
theorem dL_law__1431 : decode cL_law_ 1431 = .ok (.iadd, 1) := by decide +kernel
theorem dL_law__1432 : decode cL_law_ 1432 = .ok (.iaload, 1) := by decide +kernel
theorem dL_law__1433 : decode cL_law_ 1433 = .ok (.aload_n 3, 1) := by decide +kernel
theorem dL_law__1434 : decode cL_law_ 1434 = .ok (.invokestatic 201, 3) := by decide +kernel
theorem dL_law__1437 : decode cL_law_ 1437 = .ok (.istore 5, 2) := by decide +kernel
theorem dL_law__1439 : decode cL_law_ 1439 = .ok (.aload_n 2, 1) := by decide +kernel
theorem dL_law__1440 : decode cL_law_ 1440 = .ok (.aload_n 0, 1) := by decide +kernel
theorem dL_law__1441 : decode cL_law_ 1441 = .ok (.iload 4, 2) := by decide +kernel
theorem dL_law__1443 : decode cL_law_ 1443 = .ok (.iconst 1, 1) := by decide +kernel
theorem dL_law__1444 : decode cL_law_ 1444 = .ok (.iadd, 1) := by decide +kernel
theorem dL_law__1445 : decode cL_law_ 1445 = .ok (.iaload, 1) := by decide +kernel
theorem dL_law__1446 : decode cL_law_ 1446 = .ok (.invokevirtual 203, 3) := by decide +kernel
theorem dL_law__1449 : decode cL_law_ 1449 = .ok (.istore 6, 2) := by decide +kernel
theorem dL_law__1451 : decode cL_law_ 1451 = .ok (.aload_n 2, 1) := by decide +kernel
theorem dL_law__1452 : decode cL_law_ 1452 = .ok (.invokevirtual 128, 3) := by decide +kernel
theorem dL_law__1455 : decode cL_law_ 1455 = .ok (.iload 5, 2) := by decide +kernel
theorem dL_law__1457 : decode cL_law_ 1457 = .ok (.if_icmp .eq 5, 3) := by decide +kernel
theorem dL_law__1460 : decode cL_law_ 1460 = .ok (.iconst 0, 1) := by decide +kernel
theorem dL_law__1461 : decode cL_law_ 1461 = .ok (.ireturn, 1) := by decide +kernel
theorem dL_law__1462 : decode cL_law_ 1462 = .ok (.iload 5, 2) := by decide +kernel
theorem dL_law__1464 : decode cL_law_ 1464 = .ok (.ifCond .ne 15, 3) := by decide +kernel
theorem dL_law__1467 : decode cL_law_ 1467 = .ok (.aload_n 3, 1) := by decide +kernel
theorem dL_law__1468 : decode cL_law_ 1468 = .ok (.iconst 0, 1) := by decide +kernel
theorem dL_law__1469 : decode cL_law_ 1469 = .ok (.laload, 1) := by decide +kernel
theorem dL_law__1470 : decode cL_law_ 1470 = .ok (.iload 6, 2) := by decide +kernel
theorem dL_law__1472 : decode cL_law_ 1472 = .ok (.i2l, 1) := by decide +kernel
theorem dL_law__1473 : decode cL_law_ 1473 = .ok (.lcmp, 1) := by decide +kernel
theorem dL_law__1474 : decode cL_law_ 1474 = .ok (.ifCond .eq 5, 3) := by decide +kernel
theorem dL_law__1477 : decode cL_law_ 1477 = .ok (.iconst 0, 1) := by decide +kernel
theorem dL_law__1478 : decode cL_law_ 1478 = .ok (.ireturn, 1) := by decide +kernel
theorem dL_law__1479 : decode cL_law_ 1479 = .ok (.goto 830, 3) := by decide +kernel
theorem dL_law__1482 : decode cL_law_ 1482 = .ok (.aload_n 1, 1) := by decide +kernel
theorem dL_law__1483 : decode cL_law_ 1483 = .ok (.aload_n 0, 1) := by decide +kernel
theorem dL_law__1484 : decode cL_law_ 1484 = .ok (.iload 4, 2) := by decide +kernel
theorem dL_law__1486 : decode cL_law_ 1486 = .ok (.iconst 1, 1) := by decide +kernel
theorem dL_law__1487 : decode cL_law_ 1487 = .ok (.iadd, 1) := by decide +kernel
theorem dL_law__1488 : decode cL_law_ 1488 = .ok (.iaload, 1) := by decide +kernel
theorem dL_law__1489 : decode cL_law_ 1489 = .ok (.invokevirtual 204, 3) := by decide +kernel
theorem dL_law__1492 : decode cL_law_ 1492 = .ok (.aload_n 2, 1) := by decide +kernel
theorem dL_law__1493 : decode cL_law_ 1493 = .ok (.aload_n 0, 1) := by decide +kernel
theorem dL_law__1494 : decode cL_law_ 1494 = .ok (.iload 4, 2) := by decide +kernel
theorem dL_law__1496 : decode cL_law_ 1496 = .ok (.iconst 1, 1) := by decide +kernel
theorem dL_law__1497 : decode cL_law_ 1497 = .ok (.iadd, 1) := by decide +kernel
theorem dL_law__1498 : decode cL_law_ 1498 = .ok (.iaload, 1) := by decide +kernel
theorem dL_law__1499 : decode cL_law_ 1499 = .ok (.invokevirtual 207, 3) := by decide +kernel
theorem dL_law__1502 : decode cL_law_ 1502 = .ok (.if_icmp .eq 807, 3) := by decide +kernel
theorem dL_law__1505 : decode cL_law_ 1505 = .ok (.iconst 0, 1) := by decide +kernel
theorem dL_law__1506 : decode cL_law_ 1506 = .ok (.ireturn, 1) := by decide +kernel
theorem dL_law__1507 : decode cL_law_ 1507 = .ok (.aload_n 1, 1) := by decide +kernel
theorem dL_law__1508 : decode cL_law_ 1508 = .ok (.invokevirtual 208, 3) := by decide +kernel
theorem dL_law__1511 : decode cL_law_ 1511 = .ok (.aload_n 2, 1) := by decide +kernel
theorem dL_law__1512 : decode cL_law_ 1512 = .ok (.invokevirtual 211, 3) := by decide +kernel
theorem dL_law__1515 : decode cL_law_ 1515 = .ok (.if_icmp .eq 794, 3) := by decide +kernel
theorem dL_law__1518 : decode cL_law_ 1518 = .ok (.iconst 0, 1) := by decide +kernel
theorem dL_law__1519 : decode cL_law_ 1519 = .ok (.ireturn, 1) := by decide +kernel
theorem dL_law__1520 : decode cL_law_ 1520 = .ok (.aload_n 1, 1) := by decide +kernel
theorem dL_law__1521 : decode cL_law_ 1521 = .ok (.invokevirtual 212, 3) := by decide +kernel
theorem dL_law__1524 : decode cL_law_ 1524 = .ok (.aload_n 2, 1) := by decide +kernel
theorem dL_law__1525 : decode cL_law_ 1525 = .ok (.invokevirtual 215, 3) := by decide +kernel
theorem dL_law__1528 : decode cL_law_ 1528 = .ok (.if_icmp .eq 781, 3) := by decide +kernel
theorem dL_law__1531 : decode cL_law_ 1531 = .ok (.iconst 0, 1) := by decide +kernel
theorem dL_law__1532 : decode cL_law_ 1532 = .ok (.ireturn, 1) := by decide +kernel
theorem dL_law__1533 : decode cL_law_ 1533 = .ok (.aload_n 1, 1) := by decide +kernel
theorem dL_law__1534 : decode cL_law_ 1534 = .ok (.invokevirtual 216, 3) := by decide +kernel
theorem dL_law__1537 : decode cL_law_ 1537 = .ok (.aload_n 2, 1) := by decide +kernel
theorem dL_law__1538 : decode cL_law_ 1538 = .ok (.invokevirtual 219, 3) := by decide +kernel
theorem dL_law__1541 : decode cL_law_ 1541 = .ok (.if_icmp .eq 768, 3) := by decide +kernel
theorem dL_law__1544 : decode cL_law_ 1544 = .ok (.iconst 0, 1) := by decide +kernel
theorem dL_law__1545 : decode cL_law_ 1545 = .ok (.ireturn, 1) := by decide +kernel
theorem dL_law__1546 : decode cL_law_ 1546 = .ok (.aload_n 1, 1) := by decide +kernel
theorem dL_law__1547 : decode cL_law_ 1547 = .ok (.invokevirtual 220, 3) := by decide +kernel
theorem dL_law__1550 : decode cL_law_ 1550 = .ok (.aload_n 2, 1) := by decide +kernel
theorem dL_law__1551 : decode cL_law_ 1551 = .ok (.invokevirtual 223, 3) := by decide +kernel
theorem dL_law__1554 : decode cL_law_ 1554 = .ok (.if_icmp .eq 755, 3) := by decide +kernel
theorem dL_law__1557 : decode cL_law_ 1557 = .ok (.iconst 0, 1) := by decide +kernel
theorem dL_law__1558 : decode cL_law_ 1558 = .ok (.ireturn, 1) := by decide +kernel
theorem dL_law__1559 : decode cL_law_ 1559 = .ok (.aload_n 1, 1) := by decide +kernel
theorem dL_law__1560 : decode cL_law_ 1560 = .ok (.aload_n 0, 1) := by decide +kernel
theorem dL_law__1561 : decode cL_law_ 1561 = .ok (.iload 4, 2) := by decide +kernel
theorem dL_law__1563 : decode cL_law_ 1563 = .ok (.iconst 1, 1) := by decide +kernel
theorem dL_law__1564 : decode cL_law_ 1564 = .ok (.iadd, 1) := by decide +kernel
theorem dL_law__1565 : decode cL_law_ 1565 = .ok (.iaload, 1) := by decide +kernel
theorem dL_law__1566 : decode cL_law_ 1566 = .ok (.aload_n 0, 1) := by decide +kernel
theorem dL_law__1567 : decode cL_law_ 1567 = .ok (.iload 4, 2) := by decide +kernel
theorem dL_law__1569 : decode cL_law_ 1569 = .ok (.iconst 2, 1) := by decide +kernel
theorem dL_law__1570 : decode cL_law_ 1570 = .ok (.iadd, 1) := by decide +kernel
theorem dL_law__1571 : decode cL_law_ 1571 = .ok (.iaload, 1) := by decide +kernel
theorem dL_law__1572 : decode cL_law_ 1572 = .ok (.aload_n 3, 1) := by decide +kernel
theorem dL_law__1573 : decode cL_law_ 1573 = .ok (.invokestatic 224, 3) := by decide +kernel
theorem dL_law__1576 : decode cL_law_ 1576 = .ok (.istore 5, 2) := by decide +kernel
theorem dL_law__1578 : decode cL_law_ 1578 = .ok (.aload_n 2, 1) := by decide +kernel
theorem dL_law__1579 : decode cL_law_ 1579 = .ok (.aload_n 0, 1) := by decide +kernel
theorem dL_law__1580 : decode cL_law_ 1580 = .ok (.iload 4, 2) := by decide +kernel
theorem dL_law__1582 : decode cL_law_ 1582 = .ok (.iconst 1, 1) := by decide +kernel
theorem dL_law__1583 : decode cL_law_ 1583 = .ok (.iadd, 1) := by decide +kernel
theorem dL_law__1584 : decode cL_law_ 1584 = .ok (.iaload, 1) := by decide +kernel
theorem dL_law__1585 : decode cL_law_ 1585 = .ok (.aload_n 0, 1) := by decide +kernel
theorem dL_law__1586 : decode cL_law_ 1586 = .ok (.iload 4, 2) := by decide +kernel
theorem dL_law__1588 : decode cL_law_ 1588 = .ok (.iconst 2, 1) := by decide +kernel
theorem dL_law__1589 : decode cL_law_ 1589 = .ok (.iadd, 1) := by decide +kernel
theorem dL_law__1590 : decode cL_law_ 1590 = .ok (.iaload, 1) := by decide +kernel
theorem dL_law__1591 : decode cL_law_ 1591 = .ok (.invokevirtual 226, 3) := by decide +kernel
theorem dL_law__1594 : decode cL_law_ 1594 = .ok (.istore 6, 2) := by decide +kernel
theorem dL_law__1596 : decode cL_law_ 1596 = .ok (.aload_n 2, 1) := by decide +kernel
theorem dL_law__1597 : decode cL_law_ 1597 = .ok (.invokevirtual 128, 3) := by decide +kernel
theorem dL_law__1600 : decode cL_law_ 1600 = .ok (.iload 5, 2) := by decide +kernel
theorem dL_law__1602 : decode cL_law_ 1602 = .ok (.if_icmp .eq 5, 3) := by decide +kernel
theorem dL_law__1605 : decode cL_law_ 1605 = .ok (.iconst 0, 1) := by decide +kernel
theorem dL_law__1606 : decode cL_law_ 1606 = .ok (.ireturn, 1) := by decide +kernel
theorem dL_law__1607 : decode cL_law_ 1607 = .ok (.iload 5, 2) := by decide +kernel
theorem dL_law__1609 : decode cL_law_ 1609 = .ok (.ifCond .ne 15, 3) := by decide +kernel
theorem dL_law__1612 : decode cL_law_ 1612 = .ok (.aload_n 3, 1) := by decide +kernel
theorem dL_law__1613 : decode cL_law_ 1613 = .ok (.iconst 0, 1) := by decide +kernel
theorem dL_law__1614 : decode cL_law_ 1614 = .ok (.laload, 1) := by decide +kernel
theorem dL_law__1615 : decode cL_law_ 1615 = .ok (.iload 6, 2) := by decide +kernel
theorem dL_law__1617 : decode cL_law_ 1617 = .ok (.i2l, 1) := by decide +kernel
theorem dL_law__1618 : decode cL_law_ 1618 = .ok (.lcmp, 1) := by decide +kernel
theorem dL_law__1619 : decode cL_law_ 1619 = .ok (.ifCond .eq 5, 3) := by decide +kernel
theorem dL_law__1622 : decode cL_law_ 1622 = .ok (.iconst 0, 1) := by decide +kernel
theorem dL_law__1623 : decode cL_law_ 1623 = .ok (.ireturn, 1) := by decide +kernel
theorem dL_law__1624 : decode cL_law_ 1624 = .ok (.goto 685, 3) := by decide +kernel
theorem dL_law__1627 : decode cL_law_ 1627 = .ok (.aload_n 1, 1) := by decide +kernel
theorem dL_law__1628 : decode cL_law_ 1628 = .ok (.aload_n 0, 1) := by decide +kernel
theorem dL_law__1629 : decode cL_law_ 1629 = .ok (.iload 4, 2) := by decide +kernel
theorem dL_law__1631 : decode cL_law_ 1631 = .ok (.iconst 1, 1) := by decide +kernel
theorem dL_law__1632 : decode cL_law_ 1632 = .ok (.iadd, 1) := by decide +kernel
theorem dL_law__1633 : decode cL_law_ 1633 = .ok (.iaload, 1) := by decide +kernel
theorem dL_law__1634 : decode cL_law_ 1634 = .ok (.aload_n 3, 1) := by decide +kernel
theorem dL_law__1635 : decode cL_law_ 1635 = .ok (.invokestatic 227, 3) := by decide +kernel
theorem dL_law__1638 : decode cL_law_ 1638 = .ok (.istore 5, 2) := by decide +kernel
theorem dL_law__1640 : decode cL_law_ 1640 = .ok (.aload_n 2, 1) := by decide +kernel
theorem dL_law__1641 : decode cL_law_ 1641 = .ok (.aload_n 0, 1) := by decide +kernel
theorem dL_law__1642 : decode cL_law_ 1642 = .ok (.iload 4, 2) := by decide +kernel
theorem dL_law__1644 : decode cL_law_ 1644 = .ok (.iconst 1, 1) := by decide +kernel
theorem dL_law__1645 : decode cL_law_ 1645 = .ok (.iadd, 1) := by decide +kernel
theorem dL_law__1646 : decode cL_law_ 1646 = .ok (.iaload, 1) := by decide +kernel
theorem dL_law__1647 : decode cL_law_ 1647 = .ok (.invokevirtual 229, 3) := by decide +kernel
theorem dL_law__1650 : decode cL_law_ 1650 = .ok (.istore 6, 2) := by decide +kernel
theorem dL_law__1652 : decode cL_law_ 1652 = .ok (.aload_n 2, 1) := by decide +kernel
theorem dL_law__1653 : decode cL_law_ 1653 = .ok (.invokevirtual 128, 3) := by decide +kernel
theorem dL_law__1656 : decode cL_law_ 1656 = .ok (.iload 5, 2) := by decide +kernel
theorem dL_law__1658 : decode cL_law_ 1658 = .ok (.if_icmp .eq 5, 3) := by decide +kernel
theorem dL_law__1661 : decode cL_law_ 1661 = .ok (.iconst 0, 1) := by decide +kernel
theorem dL_law__1662 : decode cL_law_ 1662 = .ok (.ireturn, 1) := by decide +kernel
theorem dL_law__1663 : decode cL_law_ 1663 = .ok (.iload 5, 2) := by decide +kernel
theorem dL_law__1665 : decode cL_law_ 1665 = .ok (.ifCond .ne 15, 3) := by decide +kernel
theorem dL_law__1668 : decode cL_law_ 1668 = .ok (.aload_n 3, 1) := by decide +kernel
theorem dL_law__1669 : decode cL_law_ 1669 = .ok (.iconst 0, 1) := by decide +kernel
theorem dL_law__1670 : decode cL_law_ 1670 = .ok (.laload, 1) := by decide +kernel
theorem dL_law__1671 : decode cL_law_ 1671 = .ok (.iload 6, 2) := by decide +kernel
theorem dL_law__1673 : decode cL_law_ 1673 = .ok (.i2l, 1) := by decide +kernel
theorem dL_law__1674 : decode cL_law_ 1674 = .ok (.lcmp, 1) := by decide +kernel
theorem dL_law__1675 : decode cL_law_ 1675 = .ok (.ifCond .eq 5, 3) := by decide +kernel
theorem dL_law__1678 : decode cL_law_ 1678 = .ok (.iconst 0, 1) := by decide +kernel
theorem dL_law__1679 : decode cL_law_ 1679 = .ok (.ireturn, 1) := by decide +kernel
theorem dL_law__1680 : decode cL_law_ 1680 = .ok (.goto 629, 3) := by decide +kernel
theorem dL_law__1683 : decode cL_law_ 1683 = .ok (.aload_n 1, 1) := by decide +kernel
theorem dL_law__1684 : decode cL_law_ 1684 = .ok (.invokevirtual 230, 3) := by decide +kernel
theorem dL_law__1687 : decode cL_law_ 1687 = .ok (.aload_n 2, 1) := by decide +kernel
theorem dL_law__1688 : decode cL_law_ 1688 = .ok (.invokevirtual 233, 3) := by decide +kernel
theorem dL_law__1691 : decode cL_law_ 1691 = .ok (.if_icmp .eq 618, 3) := by decide +kernel
theorem dL_law__1694 : decode cL_law_ 1694 = .ok (.iconst 0, 1) := by decide +kernel
theorem dL_law__1695 : decode cL_law_ 1695 = .ok (.ireturn, 1) := by decide +kernel
theorem dL_law__1696 : decode cL_law_ 1696 = .ok (.aload_n 1, 1) := by decide +kernel
theorem dL_law__1697 : decode cL_law_ 1697 = .ok (.invokevirtual 234, 3) := by decide +kernel
theorem dL_law__1700 : decode cL_law_ 1700 = .ok (.aload_n 2, 1) := by decide +kernel
theorem dL_law__1701 : decode cL_law_ 1701 = .ok (.invokevirtual 237, 3) := by decide +kernel
theorem dL_law__1704 : decode cL_law_ 1704 = .ok (.if_icmp .eq 605, 3) := by decide +kernel
theorem dL_law__1707 : decode cL_law_ 1707 = .ok (.iconst 0, 1) := by decide +kernel
theorem dL_law__1708 : decode cL_law_ 1708 = .ok (.ireturn, 1) := by decide +kernel
theorem dL_law__1709 : decode cL_law_ 1709 = .ok (.aload_n 1, 1) := by decide +kernel
theorem dL_law__1710 : decode cL_law_ 1710 = .ok (.invokevirtual 238, 3) := by decide +kernel
theorem dL_law__1713 : decode cL_law_ 1713 = .ok (.aload_n 2, 1) := by decide +kernel
theorem dL_law__1714 : decode cL_law_ 1714 = .ok (.invokevirtual 241, 3) := by decide +kernel
theorem dL_law__1717 : decode cL_law_ 1717 = .ok (.if_icmp .eq 592, 3) := by decide +kernel
theorem dL_law__1720 : decode cL_law_ 1720 = .ok (.iconst 0, 1) := by decide +kernel
theorem dL_law__1721 : decode cL_law_ 1721 = .ok (.ireturn, 1) := by decide +kernel
theorem dL_law__1722 : decode cL_law_ 1722 = .ok (.aload_n 1, 1) := by decide +kernel
theorem dL_law__1723 : decode cL_law_ 1723 = .ok (.aload_n 0, 1) := by decide +kernel
theorem dL_law__1724 : decode cL_law_ 1724 = .ok (.iload 4, 2) := by decide +kernel
theorem dL_law__1726 : decode cL_law_ 1726 = .ok (.iconst 1, 1) := by decide +kernel
theorem dL_law__1727 : decode cL_law_ 1727 = .ok (.iadd, 1) := by decide +kernel
theorem dL_law__1728 : decode cL_law_ 1728 = .ok (.iaload, 1) := by decide +kernel
theorem dL_law__1729 : decode cL_law_ 1729 = .ok (.aload_n 3, 1) := by decide +kernel
theorem dL_law__1730 : decode cL_law_ 1730 = .ok (.invokestatic 242, 3) := by decide +kernel
theorem dL_law__1733 : decode cL_law_ 1733 = .ok (.istore 5, 2) := by decide +kernel
theorem dL_law__1735 : decode cL_law_ 1735 = .ok (.aload_n 2, 1) := by decide +kernel
theorem dL_law__1736 : decode cL_law_ 1736 = .ok (.aload_n 0, 1) := by decide +kernel
theorem dL_law__1737 : decode cL_law_ 1737 = .ok (.iload 4, 2) := by decide +kernel
theorem dL_law__1739 : decode cL_law_ 1739 = .ok (.iconst 1, 1) := by decide +kernel
theorem dL_law__1740 : decode cL_law_ 1740 = .ok (.iadd, 1) := by decide +kernel
theorem dL_law__1741 : decode cL_law_ 1741 = .ok (.iaload, 1) := by decide +kernel
theorem dL_law__1742 : decode cL_law_ 1742 = .ok (.invokevirtual 244, 3) := by decide +kernel
theorem dL_law__1745 : decode cL_law_ 1745 = .ok (.istore 6, 2) := by decide +kernel
theorem dL_law__1747 : decode cL_law_ 1747 = .ok (.aload_n 2, 1) := by decide +kernel
theorem dL_law__1748 : decode cL_law_ 1748 = .ok (.invokevirtual 128, 3) := by decide +kernel
theorem dL_law__1751 : decode cL_law_ 1751 = .ok (.iload 5, 2) := by decide +kernel
theorem dL_law__1753 : decode cL_law_ 1753 = .ok (.if_icmp .eq 5, 3) := by decide +kernel
theorem dL_law__1756 : decode cL_law_ 1756 = .ok (.iconst 0, 1) := by decide +kernel
theorem dL_law__1757 : decode cL_law_ 1757 = .ok (.ireturn, 1) := by decide +kernel
theorem dL_law__1758 : decode cL_law_ 1758 = .ok (.iload 5, 2) := by decide +kernel
theorem dL_law__1760 : decode cL_law_ 1760 = .ok (.ifCond .ne 15, 3) := by decide +kernel
theorem dL_law__1763 : decode cL_law_ 1763 = .ok (.aload_n 3, 1) := by decide +kernel
theorem dL_law__1764 : decode cL_law_ 1764 = .ok (.iconst 0, 1) := by decide +kernel
theorem dL_law__1765 : decode cL_law_ 1765 = .ok (.laload, 1) := by decide +kernel
theorem dL_law__1766 : decode cL_law_ 1766 = .ok (.iload 6, 2) := by decide +kernel
theorem dL_law__1768 : decode cL_law_ 1768 = .ok (.i2l, 1) := by decide +kernel
theorem dL_law__1769 : decode cL_law_ 1769 = .ok (.lcmp, 1) := by decide +kernel
theorem dL_law__1770 : decode cL_law_ 1770 = .ok (.ifCond .eq 5, 3) := by decide +kernel
theorem dL_law__1773 : decode cL_law_ 1773 = .ok (.iconst 0, 1) := by decide +kernel
theorem dL_law__1774 : decode cL_law_ 1774 = .ok (.ireturn, 1) := by decide +kernel
theorem dL_law__1775 : decode cL_law_ 1775 = .ok (.goto 534, 3) := by decide +kernel
theorem dL_law__1778 : decode cL_law_ 1778 = .ok (.aload_n 1, 1) := by decide +kernel
theorem dL_law__1779 : decode cL_law_ 1779 = .ok (.aload_n 0, 1) := by decide +kernel
theorem dL_law__1780 : decode cL_law_ 1780 = .ok (.iload 4, 2) := by decide +kernel
theorem dL_law__1782 : decode cL_law_ 1782 = .ok (.iconst 1, 1) := by decide +kernel
theorem dL_law__1783 : decode cL_law_ 1783 = .ok (.iadd, 1) := by decide +kernel
theorem dL_law__1784 : decode cL_law_ 1784 = .ok (.iaload, 1) := by decide +kernel
theorem dL_law__1785 : decode cL_law_ 1785 = .ok (.aload_n 0, 1) := by decide +kernel
theorem dL_law__1786 : decode cL_law_ 1786 = .ok (.iload 4, 2) := by decide +kernel
theorem dL_law__1788 : decode cL_law_ 1788 = .ok (.iconst 2, 1) := by decide +kernel
theorem dL_law__1789 : decode cL_law_ 1789 = .ok (.iadd, 1) := by decide +kernel
theorem dL_law__1790 : decode cL_law_ 1790 = .ok (.iaload, 1) := by decide +kernel
theorem dL_law__1791 : decode cL_law_ 1791 = .ok (.aload_n 3, 1) := by decide +kernel
theorem dL_law__1792 : decode cL_law_ 1792 = .ok (.invokestatic 245, 3) := by decide +kernel
theorem dL_law__1795 : decode cL_law_ 1795 = .ok (.istore 5, 2) := by decide +kernel
theorem dL_law__1797 : decode cL_law_ 1797 = .ok (.aload_n 2, 1) := by decide +kernel
theorem dL_law__1798 : decode cL_law_ 1798 = .ok (.aload_n 0, 1) := by decide +kernel
theorem dL_law__1799 : decode cL_law_ 1799 = .ok (.iload 4, 2) := by decide +kernel
theorem dL_law__1801 : decode cL_law_ 1801 = .ok (.iconst 1, 1) := by decide +kernel
theorem dL_law__1802 : decode cL_law_ 1802 = .ok (.iadd, 1) := by decide +kernel
theorem dL_law__1803 : decode cL_law_ 1803 = .ok (.iaload, 1) := by decide +kernel
theorem dL_law__1804 : decode cL_law_ 1804 = .ok (.aload_n 0, 1) := by decide +kernel
theorem dL_law__1805 : decode cL_law_ 1805 = .ok (.iload 4, 2) := by decide +kernel
theorem dL_law__1807 : decode cL_law_ 1807 = .ok (.iconst 2, 1) := by decide +kernel
theorem dL_law__1808 : decode cL_law_ 1808 = .ok (.iadd, 1) := by decide +kernel
theorem dL_law__1809 : decode cL_law_ 1809 = .ok (.iaload, 1) := by decide +kernel
theorem dL_law__1810 : decode cL_law_ 1810 = .ok (.invokevirtual 247, 3) := by decide +kernel
theorem dL_law__1813 : decode cL_law_ 1813 = .ok (.istore 6, 2) := by decide +kernel
theorem dL_law__1815 : decode cL_law_ 1815 = .ok (.aload_n 2, 1) := by decide +kernel
theorem dL_law__1816 : decode cL_law_ 1816 = .ok (.invokevirtual 128, 3) := by decide +kernel
theorem dL_law__1819 : decode cL_law_ 1819 = .ok (.iload 5, 2) := by decide +kernel
theorem dL_law__1821 : decode cL_law_ 1821 = .ok (.if_icmp .eq 5, 3) := by decide +kernel
theorem dL_law__1824 : decode cL_law_ 1824 = .ok (.iconst 0, 1) := by decide +kernel
theorem dL_law__1825 : decode cL_law_ 1825 = .ok (.ireturn, 1) := by decide +kernel
theorem dL_law__1826 : decode cL_law_ 1826 = .ok (.iload 5, 2) := by decide +kernel
theorem dL_law__1828 : decode cL_law_ 1828 = .ok (.ifCond .ne 15, 3) := by decide +kernel
theorem dL_law__1831 : decode cL_law_ 1831 = .ok (.aload_n 3, 1) := by decide +kernel
theorem dL_law__1832 : decode cL_law_ 1832 = .ok (.iconst 0, 1) := by decide +kernel
theorem dL_law__1833 : decode cL_law_ 1833 = .ok (.laload, 1) := by decide +kernel
theorem dL_law__1834 : decode cL_law_ 1834 = .ok (.iload 6, 2) := by decide +kernel
theorem dL_law__1836 : decode cL_law_ 1836 = .ok (.i2l, 1) := by decide +kernel
theorem dL_law__1837 : decode cL_law_ 1837 = .ok (.lcmp, 1) := by decide +kernel
theorem dL_law__1838 : decode cL_law_ 1838 = .ok (.ifCond .eq 5, 3) := by decide +kernel
theorem dL_law__1841 : decode cL_law_ 1841 = .ok (.iconst 0, 1) := by decide +kernel
theorem dL_law__1842 : decode cL_law_ 1842 = .ok (.ireturn, 1) := by decide +kernel
theorem dL_law__1843 : decode cL_law_ 1843 = .ok (.goto 466, 3) := by decide +kernel
theorem dL_law__1846 : decode cL_law_ 1846 = .ok (.aload_n 1, 1) := by decide +kernel
theorem dL_law__1847 : decode cL_law_ 1847 = .ok (.aload_n 0, 1) := by decide +kernel
theorem dL_law__1848 : decode cL_law_ 1848 = .ok (.iload 4, 2) := by decide +kernel
theorem dL_law__1850 : decode cL_law_ 1850 = .ok (.iconst 1, 1) := by decide +kernel
theorem dL_law__1851 : decode cL_law_ 1851 = .ok (.iadd, 1) := by decide +kernel
theorem dL_law__1852 : decode cL_law_ 1852 = .ok (.iaload, 1) := by decide +kernel
theorem dL_law__1853 : decode cL_law_ 1853 = .ok (.aload_n 3, 1) := by decide +kernel
theorem dL_law__1854 : decode cL_law_ 1854 = .ok (.invokestatic 248, 3) := by decide +kernel
theorem dL_law__1857 : decode cL_law_ 1857 = .ok (.istore 5, 2) := by decide +kernel
theorem dL_law__1859 : decode cL_law_ 1859 = .ok (.aload_n 2, 1) := by decide +kernel
theorem dL_law__1860 : decode cL_law_ 1860 = .ok (.aload_n 0, 1) := by decide +kernel
theorem dL_law__1861 : decode cL_law_ 1861 = .ok (.iload 4, 2) := by decide +kernel
theorem dL_law__1863 : decode cL_law_ 1863 = .ok (.iconst 1, 1) := by decide +kernel
theorem dL_law__1864 : decode cL_law_ 1864 = .ok (.iadd, 1) := by decide +kernel
theorem dL_law__1865 : decode cL_law_ 1865 = .ok (.iaload, 1) := by decide +kernel
theorem dL_law__1866 : decode cL_law_ 1866 = .ok (.invokevirtual 250, 3) := by decide +kernel
theorem dL_law__1869 : decode cL_law_ 1869 = .ok (.istore 6, 2) := by decide +kernel
theorem dL_law__1871 : decode cL_law_ 1871 = .ok (.aload_n 2, 1) := by decide +kernel
theorem dL_law__1872 : decode cL_law_ 1872 = .ok (.invokevirtual 128, 3) := by decide +kernel
theorem dL_law__1875 : decode cL_law_ 1875 = .ok (.iload 5, 2) := by decide +kernel
theorem dL_law__1877 : decode cL_law_ 1877 = .ok (.if_icmp .eq 5, 3) := by decide +kernel
theorem dL_law__1880 : decode cL_law_ 1880 = .ok (.iconst 0, 1) := by decide +kernel
theorem dL_law__1881 : decode cL_law_ 1881 = .ok (.ireturn, 1) := by decide +kernel
theorem dL_law__1882 : decode cL_law_ 1882 = .ok (.iload 5, 2) := by decide +kernel
theorem dL_law__1884 : decode cL_law_ 1884 = .ok (.ifCond .ne 15, 3) := by decide +kernel
theorem dL_law__1887 : decode cL_law_ 1887 = .ok (.aload_n 3, 1) := by decide +kernel
theorem dL_law__1888 : decode cL_law_ 1888 = .ok (.iconst 0, 1) := by decide +kernel
theorem dL_law__1889 : decode cL_law_ 1889 = .ok (.laload, 1) := by decide +kernel
theorem dL_law__1890 : decode cL_law_ 1890 = .ok (.iload 6, 2) := by decide +kernel
theorem dL_law__1892 : decode cL_law_ 1892 = .ok (.i2l, 1) := by decide +kernel
theorem dL_law__1893 : decode cL_law_ 1893 = .ok (.lcmp, 1) := by decide +kernel
theorem dL_law__1894 : decode cL_law_ 1894 = .ok (.ifCond .eq 5, 3) := by decide +kernel
theorem dL_law__1897 : decode cL_law_ 1897 = .ok (.iconst 0, 1) := by decide +kernel
theorem dL_law__1898 : decode cL_law_ 1898 = .ok (.ireturn, 1) := by decide +kernel
theorem dL_law__1899 : decode cL_law_ 1899 = .ok (.goto 410, 3) := by decide +kernel
theorem dL_law__1902 : decode cL_law_ 1902 = .ok (.aload_n 1, 1) := by decide +kernel
theorem dL_law__1903 : decode cL_law_ 1903 = .ok (.aload_n 0, 1) := by decide +kernel
theorem dL_law__1904 : decode cL_law_ 1904 = .ok (.iload 4, 2) := by decide +kernel
theorem dL_law__1906 : decode cL_law_ 1906 = .ok (.iconst 1, 1) := by decide +kernel
theorem dL_law__1907 : decode cL_law_ 1907 = .ok (.iadd, 1) := by decide +kernel
theorem dL_law__1908 : decode cL_law_ 1908 = .ok (.iaload, 1) := by decide +kernel
theorem dL_law__1909 : decode cL_law_ 1909 = .ok (.aload_n 0, 1) := by decide +kernel
theorem dL_law__1910 : decode cL_law_ 1910 = .ok (.iload 4, 2) := by decide +kernel
theorem dL_law__1912 : decode cL_law_ 1912 = .ok (.iconst 2, 1) := by decide +kernel
theorem dL_law__1913 : decode cL_law_ 1913 = .ok (.iadd, 1) := by decide +kernel
theorem dL_law__1914 : decode cL_law_ 1914 = .ok (.iaload, 1) := by decide +kernel
theorem dL_law__1915 : decode cL_law_ 1915 = .ok (.ifCond .eq 7, 3) := by decide +kernel
theorem dL_law__1918 : decode cL_law_ 1918 = .ok (.iconst 1, 1) := by decide +kernel
theorem dL_law__1919 : decode cL_law_ 1919 = .ok (.goto 4, 3) := by decide +kernel
theorem dL_law__1922 : decode cL_law_ 1922 = .ok (.iconst 0, 1) := by decide +kernel
theorem dL_law__1923 : decode cL_law_ 1923 = .ok (.aload_n 3, 1) := by decide +kernel
theorem dL_law__1924 : decode cL_law_ 1924 = .ok (.invokestatic 251, 3) := by decide +kernel
theorem dL_law__1927 : decode cL_law_ 1927 = .ok (.istore 5, 2) := by decide +kernel
theorem dL_law__1929 : decode cL_law_ 1929 = .ok (.aload_n 2, 1) := by decide +kernel
theorem dL_law__1930 : decode cL_law_ 1930 = .ok (.aload_n 0, 1) := by decide +kernel
theorem dL_law__1931 : decode cL_law_ 1931 = .ok (.iload 4, 2) := by decide +kernel
theorem dL_law__1933 : decode cL_law_ 1933 = .ok (.iconst 1, 1) := by decide +kernel
theorem dL_law__1934 : decode cL_law_ 1934 = .ok (.iadd, 1) := by decide +kernel
theorem dL_law__1935 : decode cL_law_ 1935 = .ok (.iaload, 1) := by decide +kernel
theorem dL_law__1936 : decode cL_law_ 1936 = .ok (.aload_n 0, 1) := by decide +kernel
theorem dL_law__1937 : decode cL_law_ 1937 = .ok (.iload 4, 2) := by decide +kernel
theorem dL_law__1939 : decode cL_law_ 1939 = .ok (.iconst 2, 1) := by decide +kernel
theorem dL_law__1940 : decode cL_law_ 1940 = .ok (.iadd, 1) := by decide +kernel
theorem dL_law__1941 : decode cL_law_ 1941 = .ok (.iaload, 1) := by decide +kernel
theorem dL_law__1942 : decode cL_law_ 1942 = .ok (.ifCond .eq 7, 3) := by decide +kernel
theorem dL_law__1945 : decode cL_law_ 1945 = .ok (.iconst 1, 1) := by decide +kernel
theorem dL_law__1946 : decode cL_law_ 1946 = .ok (.goto 4, 3) := by decide +kernel
theorem dL_law__1949 : decode cL_law_ 1949 = .ok (.iconst 0, 1) := by decide +kernel
theorem dL_law__1950 : decode cL_law_ 1950 = .ok (.invokevirtual 254, 3) := by decide +kernel
theorem dL_law__1953 : decode cL_law_ 1953 = .ok (.istore 6, 2) := by decide +kernel
theorem dL_law__1955 : decode cL_law_ 1955 = .ok (.aload_n 2, 1) := by decide +kernel
theorem dL_law__1956 : decode cL_law_ 1956 = .ok (.invokevirtual 128, 3) := by decide +kernel
theorem dL_law__1959 : decode cL_law_ 1959 = .ok (.iload 5, 2) := by decide +kernel
theorem dL_law__1961 : decode cL_law_ 1961 = .ok (.if_icmp .eq 5, 3) := by decide +kernel
theorem dL_law__1964 : decode cL_law_ 1964 = .ok (.iconst 0, 1) := by decide +kernel
theorem dL_law__1965 : decode cL_law_ 1965 = .ok (.ireturn, 1) := by decide +kernel
theorem dL_law__1966 : decode cL_law_ 1966 = .ok (.iload 5, 2) := by decide +kernel
theorem dL_law__1968 : decode cL_law_ 1968 = .ok (.ifCond .ne 15, 3) := by decide +kernel
theorem dL_law__1971 : decode cL_law_ 1971 = .ok (.aload_n 3, 1) := by decide +kernel
theorem dL_law__1972 : decode cL_law_ 1972 = .ok (.iconst 0, 1) := by decide +kernel
theorem dL_law__1973 : decode cL_law_ 1973 = .ok (.laload, 1) := by decide +kernel
theorem dL_law__1974 : decode cL_law_ 1974 = .ok (.iload 6, 2) := by decide +kernel
theorem dL_law__1976 : decode cL_law_ 1976 = .ok (.i2l, 1) := by decide +kernel
theorem dL_law__1977 : decode cL_law_ 1977 = .ok (.lcmp, 1) := by decide +kernel
theorem dL_law__1978 : decode cL_law_ 1978 = .ok (.ifCond .eq 5, 3) := by decide +kernel
theorem dL_law__1981 : decode cL_law_ 1981 = .ok (.iconst 0, 1) := by decide +kernel
theorem dL_law__1982 : decode cL_law_ 1982 = .ok (.ireturn, 1) := by decide +kernel
theorem dL_law__1983 : decode cL_law_ 1983 = .ok (.goto 326, 3) := by decide +kernel
theorem dL_law__1986 : decode cL_law_ 1986 = .ok (.aload_n 1, 1) := by decide +kernel
theorem dL_law__1987 : decode cL_law_ 1987 = .ok (.aload_n 0, 1) := by decide +kernel
theorem dL_law__1988 : decode cL_law_ 1988 = .ok (.iload 4, 2) := by decide +kernel
theorem dL_law__1990 : decode cL_law_ 1990 = .ok (.iconst 1, 1) := by decide +kernel
theorem dL_law__1991 : decode cL_law_ 1991 = .ok (.iadd, 1) := by decide +kernel
theorem dL_law__1992 : decode cL_law_ 1992 = .ok (.iaload, 1) := by decide +kernel
theorem dL_law__1993 : decode cL_law_ 1993 = .ok (.aload_n 0, 1) := by decide +kernel
theorem dL_law__1994 : decode cL_law_ 1994 = .ok (.iload 4, 2) := by decide +kernel
theorem dL_law__1996 : decode cL_law_ 1996 = .ok (.iconst 2, 1) := by decide +kernel
theorem dL_law__1997 : decode cL_law_ 1997 = .ok (.iadd, 1) := by decide +kernel
theorem dL_law__1998 : decode cL_law_ 1998 = .ok (.iaload, 1) := by decide +kernel
theorem dL_law__1999 : decode cL_law_ 1999 = .ok (.ifCond .eq 7, 3) := by decide +kernel
theorem dL_law__2002 : decode cL_law_ 2002 = .ok (.iconst 1, 1) := by decide +kernel
theorem dL_law__2003 : decode cL_law_ 2003 = .ok (.goto 4, 3) := by decide +kernel
theorem dL_law__2006 : decode cL_law_ 2006 = .ok (.iconst 0, 1) := by decide +kernel
theorem dL_law__2007 : decode cL_law_ 2007 = .ok (.aload_n 3, 1) := by decide +kernel
theorem dL_law__2008 : decode cL_law_ 2008 = .ok (.invokestatic 255, 3) := by decide +kernel
theorem dL_law__2011 : decode cL_law_ 2011 = .ok (.istore 5, 2) := by decide +kernel
theorem dL_law__2013 : decode cL_law_ 2013 = .ok (.aload_n 2, 1) := by decide +kernel
theorem dL_law__2014 : decode cL_law_ 2014 = .ok (.aload_n 0, 1) := by decide +kernel
theorem dL_law__2015 : decode cL_law_ 2015 = .ok (.iload 4, 2) := by decide +kernel
theorem dL_law__2017 : decode cL_law_ 2017 = .ok (.iconst 1, 1) := by decide +kernel
theorem dL_law__2018 : decode cL_law_ 2018 = .ok (.iadd, 1) := by decide +kernel
theorem dL_law__2019 : decode cL_law_ 2019 = .ok (.iaload, 1) := by decide +kernel
theorem dL_law__2020 : decode cL_law_ 2020 = .ok (.aload_n 0, 1) := by decide +kernel
theorem dL_law__2021 : decode cL_law_ 2021 = .ok (.iload 4, 2) := by decide +kernel
theorem dL_law__2023 : decode cL_law_ 2023 = .ok (.iconst 2, 1) := by decide +kernel
theorem dL_law__2024 : decode cL_law_ 2024 = .ok (.iadd, 1) := by decide +kernel
theorem dL_law__2025 : decode cL_law_ 2025 = .ok (.iaload, 1) := by decide +kernel
theorem dL_law__2026 : decode cL_law_ 2026 = .ok (.ifCond .eq 7, 3) := by decide +kernel
theorem dL_law__2029 : decode cL_law_ 2029 = .ok (.iconst 1, 1) := by decide +kernel
theorem dL_law__2030 : decode cL_law_ 2030 = .ok (.goto 4, 3) := by decide +kernel
theorem dL_law__2033 : decode cL_law_ 2033 = .ok (.iconst 0, 1) := by decide +kernel
theorem dL_law__2034 : decode cL_law_ 2034 = .ok (.invokevirtual 257, 3) := by decide +kernel
theorem dL_law__2037 : decode cL_law_ 2037 = .ok (.istore 6, 2) := by decide +kernel
theorem dL_law__2039 : decode cL_law_ 2039 = .ok (.aload_n 2, 1) := by decide +kernel
theorem dL_law__2040 : decode cL_law_ 2040 = .ok (.invokevirtual 128, 3) := by decide +kernel
theorem dL_law__2043 : decode cL_law_ 2043 = .ok (.iload 5, 2) := by decide +kernel
theorem dL_law__2045 : decode cL_law_ 2045 = .ok (.if_icmp .eq 5, 3) := by decide +kernel
theorem dL_law__2048 : decode cL_law_ 2048 = .ok (.iconst 0, 1) := by decide +kernel
theorem dL_law__2049 : decode cL_law_ 2049 = .ok (.ireturn, 1) := by decide +kernel
theorem dL_law__2050 : decode cL_law_ 2050 = .ok (.iload 5, 2) := by decide +kernel
theorem dL_law__2052 : decode cL_law_ 2052 = .ok (.ifCond .ne 15, 3) := by decide +kernel
theorem dL_law__2055 : decode cL_law_ 2055 = .ok (.aload_n 3, 1) := by decide +kernel
theorem dL_law__2056 : decode cL_law_ 2056 = .ok (.iconst 0, 1) := by decide +kernel
theorem dL_law__2057 : decode cL_law_ 2057 = .ok (.laload, 1) := by decide +kernel
theorem dL_law__2058 : decode cL_law_ 2058 = .ok (.iload 6, 2) := by decide +kernel
theorem dL_law__2060 : decode cL_law_ 2060 = .ok (.i2l, 1) := by decide +kernel
theorem dL_law__2061 : decode cL_law_ 2061 = .ok (.lcmp, 1) := by decide +kernel
theorem dL_law__2062 : decode cL_law_ 2062 = .ok (.ifCond .eq 5, 3) := by decide +kernel
theorem dL_law__2065 : decode cL_law_ 2065 = .ok (.iconst 0, 1) := by decide +kernel
theorem dL_law__2066 : decode cL_law_ 2066 = .ok (.ireturn, 1) := by decide +kernel
theorem dL_law__2067 : decode cL_law_ 2067 = .ok (.goto 242, 3) := by decide +kernel
theorem dL_law__2070 : decode cL_law_ 2070 = .ok (.aload_n 1, 1) := by decide +kernel
theorem dL_law__2071 : decode cL_law_ 2071 = .ok (.aload_n 0, 1) := by decide +kernel
theorem dL_law__2072 : decode cL_law_ 2072 = .ok (.iload 4, 2) := by decide +kernel
theorem dL_law__2074 : decode cL_law_ 2074 = .ok (.iconst 1, 1) := by decide +kernel
theorem dL_law__2075 : decode cL_law_ 2075 = .ok (.iadd, 1) := by decide +kernel
theorem dL_law__2076 : decode cL_law_ 2076 = .ok (.iaload, 1) := by decide +kernel
theorem dL_law__2077 : decode cL_law_ 2077 = .ok (.aload_n 0, 1) := by decide +kernel
theorem dL_law__2078 : decode cL_law_ 2078 = .ok (.iload 4, 2) := by decide +kernel
theorem dL_law__2080 : decode cL_law_ 2080 = .ok (.iconst 2, 1) := by decide +kernel
theorem dL_law__2081 : decode cL_law_ 2081 = .ok (.iadd, 1) := by decide +kernel
theorem dL_law__2082 : decode cL_law_ 2082 = .ok (.iaload, 1) := by decide +kernel
theorem dL_law__2083 : decode cL_law_ 2083 = .ok (.ifCond .eq 7, 3) := by decide +kernel
theorem dL_law__2086 : decode cL_law_ 2086 = .ok (.iconst 1, 1) := by decide +kernel
theorem dL_law__2087 : decode cL_law_ 2087 = .ok (.goto 4, 3) := by decide +kernel
theorem dL_law__2090 : decode cL_law_ 2090 = .ok (.iconst 0, 1) := by decide +kernel
theorem dL_law__2091 : decode cL_law_ 2091 = .ok (.aload_n 3, 1) := by decide +kernel
theorem dL_law__2092 : decode cL_law_ 2092 = .ok (.invokestatic 258, 3) := by decide +kernel
theorem dL_law__2095 : decode cL_law_ 2095 = .ok (.istore 5, 2) := by decide +kernel
theorem dL_law__2097 : decode cL_law_ 2097 = .ok (.aload_n 2, 1) := by decide +kernel
theorem dL_law__2098 : decode cL_law_ 2098 = .ok (.aload_n 0, 1) := by decide +kernel
theorem dL_law__2099 : decode cL_law_ 2099 = .ok (.iload 4, 2) := by decide +kernel
theorem dL_law__2101 : decode cL_law_ 2101 = .ok (.iconst 1, 1) := by decide +kernel
theorem dL_law__2102 : decode cL_law_ 2102 = .ok (.iadd, 1) := by decide +kernel
theorem dL_law__2103 : decode cL_law_ 2103 = .ok (.iaload, 1) := by decide +kernel
theorem dL_law__2104 : decode cL_law_ 2104 = .ok (.aload_n 0, 1) := by decide +kernel
theorem dL_law__2105 : decode cL_law_ 2105 = .ok (.iload 4, 2) := by decide +kernel
theorem dL_law__2107 : decode cL_law_ 2107 = .ok (.iconst 2, 1) := by decide +kernel
theorem dL_law__2108 : decode cL_law_ 2108 = .ok (.iadd, 1) := by decide +kernel
theorem dL_law__2109 : decode cL_law_ 2109 = .ok (.iaload, 1) := by decide +kernel
theorem dL_law__2110 : decode cL_law_ 2110 = .ok (.ifCond .eq 7, 3) := by decide +kernel
theorem dL_law__2113 : decode cL_law_ 2113 = .ok (.iconst 1, 1) := by decide +kernel
theorem dL_law__2114 : decode cL_law_ 2114 = .ok (.goto 4, 3) := by decide +kernel
theorem dL_law__2117 : decode cL_law_ 2117 = .ok (.iconst 0, 1) := by decide +kernel
theorem dL_law__2118 : decode cL_law_ 2118 = .ok (.invokevirtual 260, 3) := by decide +kernel
theorem dL_law__2121 : decode cL_law_ 2121 = .ok (.istore 6, 2) := by decide +kernel
theorem dL_law__2123 : decode cL_law_ 2123 = .ok (.aload_n 2, 1) := by decide +kernel
theorem dL_law__2124 : decode cL_law_ 2124 = .ok (.invokevirtual 128, 3) := by decide +kernel
theorem dL_law__2127 : decode cL_law_ 2127 = .ok (.iload 5, 2) := by decide +kernel
theorem dL_law__2129 : decode cL_law_ 2129 = .ok (.if_icmp .eq 5, 3) := by decide +kernel
theorem dL_law__2132 : decode cL_law_ 2132 = .ok (.iconst 0, 1) := by decide +kernel
theorem dL_law__2133 : decode cL_law_ 2133 = .ok (.ireturn, 1) := by decide +kernel
theorem dL_law__2134 : decode cL_law_ 2134 = .ok (.iload 5, 2) := by decide +kernel
theorem dL_law__2136 : decode cL_law_ 2136 = .ok (.ifCond .ne 15, 3) := by decide +kernel
theorem dL_law__2139 : decode cL_law_ 2139 = .ok (.aload_n 3, 1) := by decide +kernel
theorem dL_law__2140 : decode cL_law_ 2140 = .ok (.iconst 0, 1) := by decide +kernel
theorem dL_law__2141 : decode cL_law_ 2141 = .ok (.laload, 1) := by decide +kernel
theorem dL_law__2142 : decode cL_law_ 2142 = .ok (.iload 6, 2) := by decide +kernel
theorem dL_law__2144 : decode cL_law_ 2144 = .ok (.i2l, 1) := by decide +kernel
theorem dL_law__2145 : decode cL_law_ 2145 = .ok (.lcmp, 1) := by decide +kernel
theorem dL_law__2146 : decode cL_law_ 2146 = .ok (.ifCond .eq 5, 3) := by decide +kernel
theorem dL_law__2149 : decode cL_law_ 2149 = .ok (.iconst 0, 1) := by decide +kernel
theorem dL_law__2150 : decode cL_law_ 2150 = .ok (.ireturn, 1) := by decide +kernel
theorem dL_law__2151 : decode cL_law_ 2151 = .ok (.goto 158, 3) := by decide +kernel
theorem dL_law__2154 : decode cL_law_ 2154 = .ok (.aload_n 1, 1) := by decide +kernel
theorem dL_law__2155 : decode cL_law_ 2155 = .ok (.aload_n 0, 1) := by decide +kernel
theorem dL_law__2156 : decode cL_law_ 2156 = .ok (.iload 4, 2) := by decide +kernel
theorem dL_law__2158 : decode cL_law_ 2158 = .ok (.iconst 1, 1) := by decide +kernel
theorem dL_law__2159 : decode cL_law_ 2159 = .ok (.iadd, 1) := by decide +kernel
theorem dL_law__2160 : decode cL_law_ 2160 = .ok (.iaload, 1) := by decide +kernel
theorem dL_law__2161 : decode cL_law_ 2161 = .ok (.aload_n 0, 1) := by decide +kernel
theorem dL_law__2162 : decode cL_law_ 2162 = .ok (.iload 4, 2) := by decide +kernel
theorem dL_law__2164 : decode cL_law_ 2164 = .ok (.iconst 2, 1) := by decide +kernel
theorem dL_law__2165 : decode cL_law_ 2165 = .ok (.iadd, 1) := by decide +kernel
theorem dL_law__2166 : decode cL_law_ 2166 = .ok (.iaload, 1) := by decide +kernel
theorem dL_law__2167 : decode cL_law_ 2167 = .ok (.aload_n 3, 1) := by decide +kernel
theorem dL_law__2168 : decode cL_law_ 2168 = .ok (.invokestatic 261, 3) := by decide +kernel
theorem dL_law__2171 : decode cL_law_ 2171 = .ok (.istore 5, 2) := by decide +kernel
theorem dL_law__2173 : decode cL_law_ 2173 = .ok (.aload_n 2, 1) := by decide +kernel
theorem dL_law__2174 : decode cL_law_ 2174 = .ok (.aload_n 0, 1) := by decide +kernel
theorem dL_law__2175 : decode cL_law_ 2175 = .ok (.iload 4, 2) := by decide +kernel
theorem dL_law__2177 : decode cL_law_ 2177 = .ok (.iconst 1, 1) := by decide +kernel
theorem dL_law__2178 : decode cL_law_ 2178 = .ok (.iadd, 1) := by decide +kernel
theorem dL_law__2179 : decode cL_law_ 2179 = .ok (.iaload, 1) := by decide +kernel
theorem dL_law__2180 : decode cL_law_ 2180 = .ok (.aload_n 0, 1) := by decide +kernel
theorem dL_law__2181 : decode cL_law_ 2181 = .ok (.iload 4, 2) := by decide +kernel
theorem dL_law__2183 : decode cL_law_ 2183 = .ok (.iconst 2, 1) := by decide +kernel
theorem dL_law__2184 : decode cL_law_ 2184 = .ok (.iadd, 1) := by decide +kernel
theorem dL_law__2185 : decode cL_law_ 2185 = .ok (.iaload, 1) := by decide +kernel
theorem dL_law__2186 : decode cL_law_ 2186 = .ok (.invokevirtual 263, 3) := by decide +kernel
theorem dL_law__2189 : decode cL_law_ 2189 = .ok (.istore 6, 2) := by decide +kernel
theorem dL_law__2191 : decode cL_law_ 2191 = .ok (.aload_n 2, 1) := by decide +kernel
theorem dL_law__2192 : decode cL_law_ 2192 = .ok (.invokevirtual 128, 3) := by decide +kernel
theorem dL_law__2195 : decode cL_law_ 2195 = .ok (.iload 5, 2) := by decide +kernel
theorem dL_law__2197 : decode cL_law_ 2197 = .ok (.if_icmp .eq 5, 3) := by decide +kernel
theorem dL_law__2200 : decode cL_law_ 2200 = .ok (.iconst 0, 1) := by decide +kernel
theorem dL_law__2201 : decode cL_law_ 2201 = .ok (.ireturn, 1) := by decide +kernel
theorem dL_law__2202 : decode cL_law_ 2202 = .ok (.iload 5, 2) := by decide +kernel
theorem dL_law__2204 : decode cL_law_ 2204 = .ok (.ifCond .ne 15, 3) := by decide +kernel
theorem dL_law__2207 : decode cL_law_ 2207 = .ok (.aload_n 3, 1) := by decide +kernel
theorem dL_law__2208 : decode cL_law_ 2208 = .ok (.iconst 0, 1) := by decide +kernel
theorem dL_law__2209 : decode cL_law_ 2209 = .ok (.laload, 1) := by decide +kernel
theorem dL_law__2210 : decode cL_law_ 2210 = .ok (.iload 6, 2) := by decide +kernel
theorem dL_law__2212 : decode cL_law_ 2212 = .ok (.i2l, 1) := by decide +kernel
theorem dL_law__2213 : decode cL_law_ 2213 = .ok (.lcmp, 1) := by decide +kernel
theorem dL_law__2214 : decode cL_law_ 2214 = .ok (.ifCond .eq 5, 3) := by decide +kernel
theorem dL_law__2217 : decode cL_law_ 2217 = .ok (.iconst 0, 1) := by decide +kernel
theorem dL_law__2218 : decode cL_law_ 2218 = .ok (.ireturn, 1) := by decide +kernel
theorem dL_law__2219 : decode cL_law_ 2219 = .ok (.goto 90, 3) := by decide +kernel
theorem dL_law__2222 : decode cL_law_ 2222 = .ok (.aload_n 1, 1) := by decide +kernel
theorem dL_law__2223 : decode cL_law_ 2223 = .ok (.aload_n 0, 1) := by decide +kernel
theorem dL_law__2224 : decode cL_law_ 2224 = .ok (.iload 4, 2) := by decide +kernel
theorem dL_law__2226 : decode cL_law_ 2226 = .ok (.iconst 1, 1) := by decide +kernel
theorem dL_law__2227 : decode cL_law_ 2227 = .ok (.iadd, 1) := by decide +kernel
theorem dL_law__2228 : decode cL_law_ 2228 = .ok (.iaload, 1) := by decide +kernel
theorem dL_law__2229 : decode cL_law_ 2229 = .ok (.invokevirtual 264, 3) := by decide +kernel
theorem dL_law__2232 : decode cL_law_ 2232 = .ok (.aload_n 2, 1) := by decide +kernel
theorem dL_law__2233 : decode cL_law_ 2233 = .ok (.aload_n 0, 1) := by decide +kernel
theorem dL_law__2234 : decode cL_law_ 2234 = .ok (.iload 4, 2) := by decide +kernel
theorem dL_law__2236 : decode cL_law_ 2236 = .ok (.iconst 1, 1) := by decide +kernel
theorem dL_law__2237 : decode cL_law_ 2237 = .ok (.iadd, 1) := by decide +kernel
theorem dL_law__2238 : decode cL_law_ 2238 = .ok (.iaload, 1) := by decide +kernel
theorem dL_law__2239 : decode cL_law_ 2239 = .ok (.invokevirtual 267, 3) := by decide +kernel
theorem dL_law__2242 : decode cL_law_ 2242 = .ok (.if_icmp .eq 67, 3) := by decide +kernel
theorem dL_law__2245 : decode cL_law_ 2245 = .ok (.iconst 0, 1) := by decide +kernel
theorem dL_law__2246 : decode cL_law_ 2246 = .ok (.ireturn, 1) := by decide +kernel
theorem dL_law__2247 : decode cL_law_ 2247 = .ok (.aload_n 1, 1) := by decide +kernel
theorem dL_law__2248 : decode cL_law_ 2248 = .ok (.invokevirtual 268, 3) := by decide +kernel
theorem dL_law__2251 : decode cL_law_ 2251 = .ok (.aload_n 2, 1) := by decide +kernel
theorem dL_law__2252 : decode cL_law_ 2252 = .ok (.invokevirtual 272, 3) := by decide +kernel
theorem dL_law__2255 : decode cL_law_ 2255 = .ok (.if_icmp .eq 54, 3) := by decide +kernel
theorem dL_law__2258 : decode cL_law_ 2258 = .ok (.iconst 0, 1) := by decide +kernel
theorem dL_law__2259 : decode cL_law_ 2259 = .ok (.ireturn, 1) := by decide +kernel
theorem dL_law__2260 : decode cL_law_ 2260 = .ok (.aload_n 1, 1) := by decide +kernel
theorem dL_law__2261 : decode cL_law_ 2261 = .ok (.invokevirtual 273, 3) := by decide +kernel
theorem dL_law__2264 : decode cL_law_ 2264 = .ok (.aload_n 2, 1) := by decide +kernel
theorem dL_law__2265 : decode cL_law_ 2265 = .ok (.invokevirtual 276, 3) := by decide +kernel
theorem dL_law__2268 : decode cL_law_ 2268 = .ok (.goto 41, 3) := by decide +kernel
theorem dL_law__2271 : decode cL_law_ 2271 = .ok (.aload_n 1, 1) := by decide +kernel
theorem dL_law__2272 : decode cL_law_ 2272 = .ok (.invokevirtual 277, 3) := by decide +kernel
theorem dL_law__2275 : decode cL_law_ 2275 = .ok (.aload_n 2, 1) := by decide +kernel
theorem dL_law__2276 : decode cL_law_ 2276 = .ok (.invokevirtual 280, 3) := by decide +kernel
theorem dL_law__2279 : decode cL_law_ 2279 = .ok (.if_icmp .eq 30, 3) := by decide +kernel
theorem dL_law__2282 : decode cL_law_ 2282 = .ok (.iconst 0, 1) := by decide +kernel
theorem dL_law__2283 : decode cL_law_ 2283 = .ok (.ireturn, 1) := by decide +kernel
theorem dL_law__2284 : decode cL_law_ 2284 = .ok (.aload_n 1, 1) := by decide +kernel
theorem dL_law__2285 : decode cL_law_ 2285 = .ok (.aload_n 0, 1) := by decide +kernel
theorem dL_law__2286 : decode cL_law_ 2286 = .ok (.iload 4, 2) := by decide +kernel
theorem dL_law__2288 : decode cL_law_ 2288 = .ok (.iconst 1, 1) := by decide +kernel
theorem dL_law__2289 : decode cL_law_ 2289 = .ok (.iadd, 1) := by decide +kernel
theorem dL_law__2290 : decode cL_law_ 2290 = .ok (.iaload, 1) := by decide +kernel
theorem dL_law__2291 : decode cL_law_ 2291 = .ok (.invokevirtual 281, 3) := by decide +kernel
theorem dL_law__2294 : decode cL_law_ 2294 = .ok (.aload_n 2, 1) := by decide +kernel
theorem dL_law__2295 : decode cL_law_ 2295 = .ok (.aload_n 0, 1) := by decide +kernel
theorem dL_law__2296 : decode cL_law_ 2296 = .ok (.iload 4, 2) := by decide +kernel
theorem dL_law__2298 : decode cL_law_ 2298 = .ok (.iconst 1, 1) := by decide +kernel
theorem dL_law__2299 : decode cL_law_ 2299 = .ok (.iadd, 1) := by decide +kernel
theorem dL_law__2300 : decode cL_law_ 2300 = .ok (.iaload, 1) := by decide +kernel
theorem dL_law__2301 : decode cL_law_ 2301 = .ok (.invokevirtual 284, 3) := by decide +kernel
theorem dL_law__2304 : decode cL_law_ 2304 = .ok (.if_icmp .eq 5, 3) := by decide +kernel
theorem dL_law__2307 : decode cL_law_ 2307 = .ok (.iconst 0, 1) := by decide +kernel
theorem dL_law__2308 : decode cL_law_ 2308 = .ok (.ireturn, 1) := by decide +kernel
theorem dL_law__2309 : decode cL_law_ 2309 = .ok (.iinc 4 6, 3) := by decide +kernel
theorem dL_law__2312 : decode cL_law_ 2312 = .ok (.goto (-2289), 3) := by decide +kernel
theorem dL_law__2315 : decode cL_law_ 2315 = .ok (.iconst 1, 1) := by decide +kernel
theorem dL_law__2316 : decode cL_law_ 2316 = .ok (.ireturn, 1) := by decide +kernel
