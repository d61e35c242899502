theorem dL_law_23 : decode cL_law 23 = .ok (.iload 4, 2) := by decide +kernel
theorem dL_law_25 : decode cL_law 25 = .ok (.aload_n 0, 1) := by decide +kernel
theorem dL_law_26 : decode cL_law 26 = .ok (.arraylength, 1) := by decide +kernel
theorem dL_law_27 : decode cL_law 27 = .ok (.bipush 6, 2) := by decide +kernel
theorem dL_law_29 : decode cL_law 29 = .ok (.isub, 1) := by decide +kernel
theorem dL_law_30 : decode cL_law 30 = .ok (.if_icmp .gt 1374, 3) := by decide +kernel
theorem dL_law_220 : decode cL_law 220 = .ok (.aload_n 1, 1) := by decide +kernel
theorem dL_law_221 : decode cL_law 221 = .ok (.aload_n 0, 1) := by decide +kernel
theorem dL_law_222 : decode cL_law 222 = .ok (.iload 4, 2) := by decide +kernel
theorem dL_law_224 : decode cL_law 224 = .ok (.iconst 1, 1) := by decide +kernel
theorem dL_law_225 : decode cL_law 225 = .ok (.iadd, 1) := by decide +kernel
theorem dL_law_226 : decode cL_law 226 = .ok (.iaload, 1) := by decide +kernel
theorem dL_law_227 : decode cL_law 227 = .ok (.aload_n 0, 1) := by decide +kernel
theorem dL_law_228 : decode cL_law 228 = .ok (.iload 4, 2) := by decide +kernel
theorem dL_law_230 : decode cL_law 230 = .ok (.iconst 2, 1) := by decide +kernel
theorem dL_law_231 : decode cL_law 231 = .ok (.iadd, 1) := by decide +kernel
theorem dL_law_232 : decode cL_law 232 = .ok (.iaload, 1) := by decide +kernel
theorem dL_law_233 : decode cL_law 233 = .ok (.aload_n 0, 1) := by decide +kernel
theorem dL_law_234 : decode cL_law 234 = .ok (.iload 4, 2) := by decide +kernel
theorem dL_law_236 : decode cL_law 236 = .ok (.iconst 3, 1) := by decide +kernel
theorem dL_law_237 : decode cL_law 237 = .ok (.iadd, 1) := by decide +kernel
theorem dL_law_238 : decode cL_law 238 = .ok (.iaload, 1) := by decide +kernel
theorem dL_law_239 : decode cL_law 239 = .ok (.aload_n 0, 1) := by decide +kernel
theorem dL_law_240 : decode cL_law 240 = .ok (.iload 4, 2) := by decide +kernel
theorem dL_law_242 : decode cL_law 242 = .ok (.iconst 4, 1) := by decide +kernel
theorem dL_law_243 : decode cL_law 243 = .ok (.iadd, 1) := by decide +kernel
theorem dL_law_244 : decode cL_law 244 = .ok (.iaload, 1) := by decide +kernel
theorem dL_law_245 : decode cL_law 245 = .ok (.aload_n 0, 1) := by decide +kernel
theorem dL_law_246 : decode cL_law 246 = .ok (.iload 4, 2) := by decide +kernel
theorem dL_law_248 : decode cL_law 248 = .ok (.iconst 5, 1) := by decide +kernel
theorem dL_law_249 : decode cL_law 249 = .ok (.iadd, 1) := by decide +kernel
theorem dL_law_250 : decode cL_law 250 = .ok (.iaload, 1) := by decide +kernel
theorem dL_law_251 : decode cL_law 251 = .ok (.invokevirtual 25, 3) := by decide +kernel
theorem dL_law_254 : decode cL_law 254 = .ok (.aload_n 2, 1) := by decide +kernel
theorem dL_law_255 : decode cL_law 255 = .ok (.aload_n 0, 1) := by decide +kernel
theorem dL_law_256 : decode cL_law 256 = .ok (.iload 4, 2) := by decide +kernel
theorem dL_law_258 : decode cL_law 258 = .ok (.iconst 1, 1) := by decide +kernel
theorem dL_law_259 : decode cL_law 259 = .ok (.iadd, 1) := by decide +kernel
theorem dL_law_260 : decode cL_law 260 = .ok (.iaload, 1) := by decide +kernel
theorem dL_law_261 : decode cL_law 261 = .ok (.aload_n 0, 1) := by decide +kernel
theorem dL_law_262 : decode cL_law 262 = .ok (.iload 4, 2) := by decide +kernel
theorem dL_law_264 : decode cL_law 264 = .ok (.iconst 2, 1) := by decide +kernel
theorem dL_law_265 : decode cL_law 265 = .ok (.iadd, 1) := by decide +kernel
theorem dL_law_266 : decode cL_law 266 = .ok (.iaload, 1) := by decide +kernel
theorem dL_law_267 : decode cL_law 267 = .ok (.aload_n 0, 1) := by decide +kernel
theorem dL_law_268 : decode cL_law 268 = .ok (.iload 4, 2) := by decide +kernel
theorem dL_law_270 : decode cL_law 270 = .ok (.iconst 3, 1) := by decide +kernel
theorem dL_law_271 : decode cL_law 271 = .ok (.iadd, 1) := by decide +kernel
theorem dL_law_272 : decode cL_law 272 = .ok (.iaload, 1) := by decide +kernel
theorem dL_law_273 : decode cL_law 273 = .ok (.aload_n 0, 1) := by decide +kernel
theorem dL_law_274 : decode cL_law 274 = .ok (.iload 4, 2) := by decide +kernel
theorem dL_law_276 : decode cL_law 276 = .ok (.iconst 4, 1) := by decide +kernel
theorem dL_law_277 : decode cL_law 277 = .ok (.iadd, 1) := by decide +kernel
theorem dL_law_278 : decode cL_law 278 = .ok (.iaload, 1) := by decide +kernel
theorem dL_law_279 : decode cL_law 279 = .ok (.aload_n 0, 1) := by decide +kernel
theorem dL_law_280 : decode cL_law 280 = .ok (.iload 4, 2) := by decide +kernel
theorem dL_law_282 : decode cL_law 282 = .ok (.iconst 5, 1) := by decide +kernel
theorem dL_law_283 : decode cL_law 283 = .ok (.iadd, 1) := by decide +kernel
theorem dL_law_284 : decode cL_law 284 = .ok (.iaload, 1) := by decide +kernel
theorem dL_law_285 : decode cL_law 285 = .ok (.invokevirtual 29, 3) := by decide +kernel
theorem dL_law_288 : decode cL_law 288 = .ok (.if_icmp .eq 1110, 3) := by decide +kernel
theorem dL_law_293 : decode cL_law 293 = .ok (.aload_n 1, 1) := by decide +kernel
theorem dL_law_294 : decode cL_law 294 = .ok (.aload_n 0, 1) := by decide +kernel
theorem dL_law_295 : decode cL_law 295 = .ok (.iload 4, 2) := by decide +kernel
theorem dL_law_297 : decode cL_law 297 = .ok (.iconst 1, 1) := by decide +kernel
theorem dL_law_298 : decode cL_law 298 = .ok (.iadd, 1) := by decide +kernel
theorem dL_law_299 : decode cL_law 299 = .ok (.iaload, 1) := by decide +kernel
theorem dL_law_300 : decode cL_law 300 = .ok (.invokevirtual 30, 3) := by decide +kernel
theorem dL_law_303 : decode cL_law 303 = .ok (.aload_n 2, 1) := by decide +kernel
theorem dL_law_304 : decode cL_law 304 = .ok (.aload_n 0, 1) := by decide +kernel
theorem dL_law_305 : decode cL_law 305 = .ok (.iload 4, 2) := by decide +kernel
theorem dL_law_307 : decode cL_law 307 = .ok (.iconst 1, 1) := by decide +kernel
theorem dL_law_308 : decode cL_law 308 = .ok (.iadd, 1) := by decide +kernel
theorem dL_law_309 : decode cL_law 309 = .ok (.iaload, 1) := by decide +kernel
theorem dL_law_310 : decode cL_law 310 = .ok (.invokevirtual 34, 3) := by decide +kernel
theorem dL_law_313 : decode cL_law 313 = .ok (.if_icmp .eq 1085, 3) := by decide +kernel
theorem dL_law_318 : decode cL_law 318 = .ok (.aload_n 1, 1) := by decide +kernel
theorem dL_law_319 : decode cL_law 319 = .ok (.invokevirtual 35, 3) := by decide +kernel
theorem dL_law_322 : decode cL_law 322 = .ok (.aload_n 2, 1) := by decide +kernel
theorem dL_law_323 : decode cL_law 323 = .ok (.invokevirtual 39, 3) := by decide +kernel
theorem dL_law_326 : decode cL_law 326 = .ok (.if_icmp .eq 1072, 3) := by decide +kernel
theorem dL_law_331 : decode cL_law 331 = .ok (.aload_n 1, 1) := by decide +kernel
theorem dL_law_332 : decode cL_law 332 = .ok (.invokevirtual 40, 3) := by decide +kernel
theorem dL_law_335 : decode cL_law 335 = .ok (.aload_n 2, 1) := by decide +kernel
theorem dL_law_336 : decode cL_law 336 = .ok (.invokevirtual 43, 3) := by decide +kernel
theorem dL_law_339 : decode cL_law 339 = .ok (.if_icmp .eq 1059, 3) := by decide +kernel
theorem dL_law_548 : decode cL_law 548 = .ok (.aload_n 1, 1) := by decide +kernel
theorem dL_law_549 : decode cL_law 549 = .ok (.aload_n 0, 1) := by decide +kernel
theorem dL_law_550 : decode cL_law 550 = .ok (.iload 4, 2) := by decide +kernel
theorem dL_law_552 : decode cL_law 552 = .ok (.iconst 1, 1) := by decide +kernel
theorem dL_law_553 : decode cL_law 553 = .ok (.iadd, 1) := by decide +kernel
theorem dL_law_554 : decode cL_law 554 = .ok (.iaload, 1) := by decide +kernel
theorem dL_law_555 : decode cL_law 555 = .ok (.aload_n 0, 1) := by decide +kernel
theorem dL_law_556 : decode cL_law 556 = .ok (.iload 4, 2) := by decide +kernel
theorem dL_law_558 : decode cL_law 558 = .ok (.iconst 2, 1) := by decide +kernel
theorem dL_law_559 : decode cL_law 559 = .ok (.iadd, 1) := by decide +kernel
theorem dL_law_560 : decode cL_law 560 = .ok (.iaload, 1) := by decide +kernel
theorem dL_law_561 : decode cL_law 561 = .ok (.invokevirtual 59, 3) := by decide +kernel
theorem dL_law_564 : decode cL_law 564 = .ok (.aload_n 2, 1) := by decide +kernel
theorem dL_law_565 : decode cL_law 565 = .ok (.aload_n 0, 1) := by decide +kernel
theorem dL_law_566 : decode cL_law 566 = .ok (.iload 4, 2) := by decide +kernel
theorem dL_law_568 : decode cL_law 568 = .ok (.iconst 1, 1) := by decide +kernel
theorem dL_law_569 : decode cL_law 569 = .ok (.iadd, 1) := by decide +kernel
theorem dL_law_570 : decode cL_law 570 = .ok (.iaload, 1) := by decide +kernel
theorem dL_law_571 : decode cL_law 571 = .ok (.aload_n 0, 1) := by decide +kernel
theorem dL_law_572 : decode cL_law 572 = .ok (.iload 4, 2) := by decide +kernel
theorem dL_law_574 : decode cL_law 574 = .ok (.iconst 2, 1) := by decide +kernel
theorem dL_law_575 : decode cL_law 575 = .ok (.iadd, 1) := by decide +kernel
theorem dL_law_576 : decode cL_law 576 = .ok (.iaload, 1) := by decide +kernel
theorem dL_law_577 : decode cL_law 577 = .ok (.invokevirtual 62, 3) := by decide +kernel
theorem dL_law_580 : decode cL_law 580 = .ok (.if_icmp .eq 818, 3) := by decide +kernel
theorem dL_law_585 : decode cL_law 585 = .ok (.aload_n 1, 1) := by decide +kernel
theorem dL_law_586 : decode cL_law 586 = .ok (.aload_n 0, 1) := by decide +kernel
theorem dL_law_587 : decode cL_law 587 = .ok (.iload 4, 2) := by decide +kernel
theorem dL_law_589 : decode cL_law 589 = .ok (.iconst 1, 1) := by decide +kernel
theorem dL_law_590 : decode cL_law 590 = .ok (.iadd, 1) := by decide +kernel
theorem dL_law_591 : decode cL_law 591 = .ok (.iaload, 1) := by decide +kernel
theorem dL_law_592 : decode cL_law 592 = .ok (.invokevirtual 63, 3) := by decide +kernel
theorem dL_law_595 : decode cL_law 595 = .ok (.aload_n 2, 1) := by decide +kernel
theorem dL_law_596 : decode cL_law 596 = .ok (.aload_n 0, 1) := by decide +kernel
theorem dL_law_597 : decode cL_law 597 = .ok (.iload 4, 2) := by decide +kernel
theorem dL_law_599 : decode cL_law 599 = .ok (.iconst 1, 1) := by decide +kernel
theorem dL_law_600 : decode cL_law 600 = .ok (.iadd, 1) := by decide +kernel
theorem dL_law_601 : decode cL_law 601 = .ok (.iaload, 1) := by decide +kernel
theorem dL_law_602 : decode cL_law 602 = .ok (.invokevirtual 67, 3) := by decide +kernel
theorem dL_law_605 : decode cL_law 605 = .ok (.if_icmp .eq 793, 3) := by decide +kernel
theorem dL_law_610 : decode cL_law 610 = .ok (.aload_n 1, 1) := by decide +kernel
theorem dL_law_611 : decode cL_law 611 = .ok (.aload_n 0, 1) := by decide +kernel
theorem dL_law_612 : decode cL_law 612 = .ok (.iload 4, 2) := by decide +kernel
theorem dL_law_614 : decode cL_law 614 = .ok (.iconst 1, 1) := by decide +kernel
theorem dL_law_615 : decode cL_law 615 = .ok (.iadd, 1) := by decide +kernel
theorem dL_law_616 : decode cL_law 616 = .ok (.iaload, 1) := by decide +kernel
theorem dL_law_617 : decode cL_law 617 = .ok (.aload_n 0, 1) := by decide +kernel
theorem dL_law_618 : decode cL_law 618 = .ok (.iload 4, 2) := by decide +kernel
theorem dL_law_620 : decode cL_law 620 = .ok (.iconst 2, 1) := by decide +kernel
theorem dL_law_621 : decode cL_law 621 = .ok (.iadd, 1) := by decide +kernel
theorem dL_law_622 : decode cL_law 622 = .ok (.iaload, 1) := by decide +kernel
theorem dL_law_623 : decode cL_law 623 = .ok (.invokevirtual 68, 3) := by decide +kernel
theorem dL_law_626 : decode cL_law 626 = .ok (.aload_n 2, 1) := by decide +kernel
theorem dL_law_627 : decode cL_law 627 = .ok (.aload_n 0, 1) := by decide +kernel
theorem dL_law_628 : decode cL_law 628 = .ok (.iload 4, 2) := by decide +kernel
theorem dL_law_630 : decode cL_law 630 = .ok (.iconst 1, 1) := by decide +kernel
theorem dL_law_631 : decode cL_law 631 = .ok (.iadd, 1) := by decide +kernel
theorem dL_law_632 : decode cL_law 632 = .ok (.iaload, 1) := by decide +kernel
theorem dL_law_633 : decode cL_law 633 = .ok (.aload_n 0, 1) := by decide +kernel
theorem dL_law_634 : decode cL_law 634 = .ok (.iload 4, 2) := by decide +kernel
theorem dL_law_636 : decode cL_law 636 = .ok (.iconst 2, 1) := by decide +kernel
theorem dL_law_637 : decode cL_law 637 = .ok (.iadd, 1) := by decide +kernel
theorem dL_law_638 : decode cL_law 638 = .ok (.iaload, 1) := by decide +kernel
theorem dL_law_639 : decode cL_law 639 = .ok (.invokevirtual 71, 3) := by decide +kernel
theorem dL_law_642 : decode cL_law 642 = .ok (.if_icmp .eq 756, 3) := by decide +kernel
theorem dL_law_647 : decode cL_law 647 = .ok (.aload_n 1, 1) := by decide +kernel
theorem dL_law_648 : decode cL_law 648 = .ok (.aload_n 0, 1) := by decide +kernel
theorem dL_law_649 : decode cL_law 649 = .ok (.iload 4, 2) := by decide +kernel
theorem dL_law_651 : decode cL_law 651 = .ok (.iconst 1, 1) := by decide +kernel
theorem dL_law_652 : decode cL_law 652 = .ok (.iadd, 1) := by decide +kernel
theorem dL_law_653 : decode cL_law 653 = .ok (.iaload, 1) := by decide +kernel
theorem dL_law_654 : decode cL_law 654 = .ok (.aload_n 0, 1) := by decide +kernel
theorem dL_law_655 : decode cL_law 655 = .ok (.iload 4, 2) := by decide +kernel
theorem dL_law_657 : decode cL_law 657 = .ok (.iconst 2, 1) := by decide +kernel
theorem dL_law_658 : decode cL_law 658 = .ok (.iadd, 1) := by decide +kernel
theorem dL_law_659 : decode cL_law 659 = .ok (.iaload, 1) := by decide +kernel
theorem dL_law_660 : decode cL_law 660 = .ok (.invokevirtual 72, 3) := by decide +kernel
theorem dL_law_663 : decode cL_law 663 = .ok (.aload_n 2, 1) := by decide +kernel
theorem dL_law_664 : decode cL_law 664 = .ok (.aload_n 0, 1) := by decide +kernel
theorem dL_law_665 : decode cL_law 665 = .ok (.iload 4, 2) := by decide +kernel
theorem dL_law_667 : decode cL_law 667 = .ok (.iconst 1, 1) := by decide +kernel
theorem dL_law_668 : decode cL_law 668 = .ok (.iadd, 1) := by decide +kernel
theorem dL_law_669 : decode cL_law 669 = .ok (.iaload, 1) := by decide +kernel
theorem dL_law_670 : decode cL_law 670 = .ok (.aload_n 0, 1) := by decide +kernel
theorem dL_law_671 : decode cL_law 671 = .ok (.iload 4, 2) := by decide +kernel
theorem dL_law_673 : decode cL_law 673 = .ok (.iconst 2, 1) := by decide +kernel
theorem dL_law_674 : decode cL_law 674 = .ok (.iadd, 1) := by decide +kernel
theorem dL_law_675 : decode cL_law 675 = .ok (.iaload, 1) := by decide +kernel
theorem dL_law_676 : decode cL_law 676 = .ok (.invokevirtual 75, 3) := by decide +kernel
theorem dL_law_679 : decode cL_law 679 = .ok (.if_icmp .eq 719, 3) := by decide +kernel
theorem dL_law_684 : decode cL_law 684 = .ok (.aload_n 1, 1) := by decide +kernel
theorem dL_law_685 : decode cL_law 685 = .ok (.aload_n 0, 1) := by decide +kernel
theorem dL_law_686 : decode cL_law 686 = .ok (.iload 4, 2) := by decide +kernel
theorem dL_law_688 : decode cL_law 688 = .ok (.iconst 1, 1) := by decide +kernel
theorem dL_law_689 : decode cL_law 689 = .ok (.iadd, 1) := by decide +kernel
theorem dL_law_690 : decode cL_law 690 = .ok (.iaload, 1) := by decide +kernel
theorem dL_law_691 : decode cL_law 691 = .ok (.aload_n 0, 1) := by decide +kernel
theorem dL_law_692 : decode cL_law 692 = .ok (.iload 4, 2) := by decide +kernel
theorem dL_law_694 : decode cL_law 694 = .ok (.iconst 2, 1) := by decide +kernel
theorem dL_law_695 : decode cL_law 695 = .ok (.iadd, 1) := by decide +kernel
theorem dL_law_696 : decode cL_law 696 = .ok (.iaload, 1) := by decide +kernel
theorem dL_law_697 : decode cL_law 697 = .ok (.invokevirtual 76, 3) := by decide +kernel
theorem dL_law_700 : decode cL_law 700 = .ok (.aload_n 2, 1) := by decide +kernel
theorem dL_law_701 : decode cL_law 701 = .ok (.aload_n 0, 1) := by decide +kernel
theorem dL_law_702 : decode cL_law 702 = .ok (.iload 4, 2) := by decide +kernel
theorem dL_law_704 : decode cL_law 704 = .ok (.iconst 1, 1) := by decide +kernel
theorem dL_law_705 : decode cL_law 705 = .ok (.iadd, 1) := by decide +kernel
theorem dL_law_706 : decode cL_law 706 = .ok (.iaload, 1) := by decide +kernel
theorem dL_law_707 : decode cL_law 707 = .ok (.aload_n 0, 1) := by decide +kernel
theorem dL_law_708 : decode cL_law 708 = .ok (.iload 4, 2) := by decide +kernel
theorem dL_law_710 : decode cL_law 710 = .ok (.iconst 2, 1) := by decide +kernel
theorem dL_law_711 : decode cL_law 711 = .ok (.iadd, 1) := by decide +kernel
theorem dL_law_712 : decode cL_law 712 = .ok (.iaload, 1) := by decide +kernel
theorem dL_law_713 : decode cL_law 713 = .ok (.invokevirtual 79, 3) := by decide +kernel
theorem dL_law_716 : decode cL_law 716 = .ok (.if_icmp .eq 682, 3) := by decide +kernel
theorem dL_law_721 : decode cL_law 721 = .ok (.aload_n 1, 1) := by decide +kernel
theorem dL_law_722 : decode cL_law 722 = .ok (.aload_n 0, 1) := by decide +kernel
theorem dL_law_723 : decode cL_law 723 = .ok (.iload 4, 2) := by decide +kernel
theorem dL_law_725 : decode cL_law 725 = .ok (.iconst 1, 1) := by decide +kernel
theorem dL_law_726 : decode cL_law 726 = .ok (.iadd, 1) := by decide +kernel
theorem dL_law_727 : decode cL_law 727 = .ok (.iaload, 1) := by decide +kernel
theorem dL_law_728 : decode cL_law 728 = .ok (.invokevirtual 80, 3) := by decide +kernel
theorem dL_law_731 : decode cL_law 731 = .ok (.aload_n 2, 1) := by decide +kernel
theorem dL_law_732 : decode cL_law 732 = .ok (.aload_n 0, 1) := by decide +kernel
theorem dL_law_733 : decode cL_law 733 = .ok (.iload 4, 2) := by decide +kernel
theorem dL_law_735 : decode cL_law 735 = .ok (.iconst 1, 1) := by decide +kernel
theorem dL_law_736 : decode cL_law 736 = .ok (.iadd, 1) := by decide +kernel
theorem dL_law_737 : decode cL_law 737 = .ok (.iaload, 1) := by decide +kernel
theorem dL_law_738 : decode cL_law 738 = .ok (.invokevirtual 83, 3) := by decide +kernel
theorem dL_law_741 : decode cL_law 741 = .ok (.if_icmp .eq 657, 3) := by decide +kernel
theorem dL_law_746 : decode cL_law 746 = .ok (.aload_n 1, 1) := by decide +kernel
theorem dL_law_747 : decode cL_law 747 = .ok (.aload_n 0, 1) := by decide +kernel
theorem dL_law_748 : decode cL_law 748 = .ok (.iload 4, 2) := by decide +kernel
theorem dL_law_750 : decode cL_law 750 = .ok (.iconst 1, 1) := by decide +kernel
theorem dL_law_751 : decode cL_law 751 = .ok (.iadd, 1) := by decide +kernel
theorem dL_law_752 : decode cL_law 752 = .ok (.iaload, 1) := by decide +kernel
theorem dL_law_753 : decode cL_law 753 = .ok (.invokevirtual 84, 3) := by decide +kernel
theorem dL_law_756 : decode cL_law 756 = .ok (.aload_n 2, 1) := by decide +kernel
theorem dL_law_757 : decode cL_law 757 = .ok (.aload_n 0, 1) := by decide +kernel
theorem dL_law_758 : decode cL_law 758 = .ok (.iload 4, 2) := by decide +kernel
theorem dL_law_760 : decode cL_law 760 = .ok (.iconst 1, 1) := by decide +kernel
theorem dL_law_761 : decode cL_law 761 = .ok (.iadd, 1) := by decide +kernel
theorem dL_law_762 : decode cL_law 762 = .ok (.iaload, 1) := by decide +kernel
theorem dL_law_763 : decode cL_law 763 = .ok (.invokevirtual 87, 3) := by decide +kernel
theorem dL_law_766 : decode cL_law 766 = .ok (.if_icmp .eq 632, 3) := by decide +kernel
theorem dL_law_771 : decode cL_law 771 = .ok (.aload_n 1, 1) := by decide +kernel
theorem dL_law_772 : decode cL_law 772 = .ok (.invokevirtual 88, 3) := by decide +kernel
theorem dL_law_775 : decode cL_law 775 = .ok (.aload_n 2, 1) := by decide +kernel
theorem dL_law_776 : decode cL_law 776 = .ok (.invokevirtual 91, 3) := by decide +kernel
theorem dL_law_779 : decode cL_law 779 = .ok (.if_icmp .eq 619, 3) := by decide +kernel
theorem dL_law_784 : decode cL_law 784 = .ok (.aload_n 1, 1) := by decide +kernel
theorem dL_law_785 : decode cL_law 785 = .ok (.aload_n 0, 1) := by decide +kernel
theorem dL_law_786 : decode cL_law 786 = .ok (.iload 4, 2) := by decide +kernel
theorem dL_law_788 : decode cL_law 788 = .ok (.iconst 1, 1) := by decide +kernel
theorem dL_law_789 : decode cL_law 789 = .ok (.iadd, 1) := by decide +kernel
theorem dL_law_790 : decode cL_law 790 = .ok (.iaload, 1) := by decide +kernel
theorem dL_law_791 : decode cL_law 791 = .ok (.invokevirtual 92, 3) := by decide +kernel
theorem dL_law_794 : decode cL_law 794 = .ok (.aload_n 2, 1) := by decide +kernel
theorem dL_law_795 : decode cL_law 795 = .ok (.aload_n 0, 1) := by decide +kernel
theorem dL_law_796 : decode cL_law 796 = .ok (.iload 4, 2) := by decide +kernel
theorem dL_law_798 : decode cL_law 798 = .ok (.iconst 1, 1) := by decide +kernel
theorem dL_law_799 : decode cL_law 799 = .ok (.iadd, 1) := by decide +kernel
theorem dL_law_800 : decode cL_law 800 = .ok (.iaload, 1) := by decide +kernel
theorem dL_law_801 : decode cL_law 801 = .ok (.invokevirtual 95, 3) := by decide +kernel
theorem dL_law_804 : decode cL_law 804 = .ok (.if_icmp .eq 594, 3) := by decide +kernel
theorem dL_law_809 : decode cL_law 809 = .ok (.aload_n 1, 1) := by decide +kernel
theorem dL_law_810 : decode cL_law 810 = .ok (.aload_n 0, 1) := by decide +kernel
theorem dL_law_811 : decode cL_law 811 = .ok (.iload 4, 2) := by decide +kernel
theorem dL_law_813 : decode cL_law 813 = .ok (.iconst 1, 1) := by decide +kernel
theorem dL_law_814 : decode cL_law 814 = .ok (.iadd, 1) := by decide +kernel
theorem dL_law_815 : decode cL_law 815 = .ok (.iaload, 1) := by decide +kernel
theorem dL_law_816 : decode cL_law 816 = .ok (.invokevirtual 96, 3) := by decide +kernel
theorem dL_law_819 : decode cL_law 819 = .ok (.aload_n 2, 1) := by decide +kernel
theorem dL_law_820 : decode cL_law 820 = .ok (.aload_n 0, 1) := by decide +kernel
theorem dL_law_821 : decode cL_law 821 = .ok (.iload 4, 2) := by decide +kernel
theorem dL_law_823 : decode cL_law 823 = .ok (.iconst 1, 1) := by decide +kernel
theorem dL_law_824 : decode cL_law 824 = .ok (.iadd, 1) := by decide +kernel
theorem dL_law_825 : decode cL_law 825 = .ok (.iaload, 1) := by decide +kernel
theorem dL_law_826 : decode cL_law 826 = .ok (.invokevirtual 99, 3) := by decide +kernel
theorem dL_law_829 : decode cL_law 829 = .ok (.if_icmp .eq 569, 3) := by decide +kernel
theorem dL_law_834 : decode cL_law 834 = .ok (.aload_n 1, 1) := by decide +kernel
theorem dL_law_835 : decode cL_law 835 = .ok (.aload_n 0, 1) := by decide +kernel
theorem dL_law_836 : decode cL_law 836 = .ok (.iload 4, 2) := by decide +kernel
theorem dL_law_838 : decode cL_law 838 = .ok (.iconst 1, 1) := by decide +kernel
theorem dL_law_839 : decode cL_law 839 = .ok (.iadd, 1) := by decide +kernel
theorem dL_law_840 : decode cL_law 840 = .ok (.iaload, 1) := by decide +kernel
theorem dL_law_841 : decode cL_law 841 = .ok (.invokevirtual 100, 3) := by decide +kernel
theorem dL_law_844 : decode cL_law 844 = .ok (.aload_n 2, 1) := by decide +kernel
theorem dL_law_845 : decode cL_law 845 = .ok (.aload_n 0, 1) := by decide +kernel
theorem dL_law_846 : decode cL_law 846 = .ok (.iload 4, 2) := by decide +kernel
theorem dL_law_848 : decode cL_law 848 = .ok (.iconst 1, 1) := by decide +kernel
theorem dL_law_849 : decode cL_law 849 = .ok (.iadd, 1) := by decide +kernel
theorem dL_law_850 : decode cL_law 850 = .ok (.iaload, 1) := by decide +kernel
theorem dL_law_851 : decode cL_law 851 = .ok (.invokevirtual 103, 3) := by decide +kernel
theorem dL_law_854 : decode cL_law 854 = .ok (.if_icmp .eq 544, 3) := by decide +kernel
theorem dL_law_859 : decode cL_law 859 = .ok (.aload_n 1, 1) := by decide +kernel
theorem dL_law_860 : decode cL_law 860 = .ok (.invokevirtual 104, 3) := by decide +kernel
theorem dL_law_863 : decode cL_law 863 = .ok (.aload_n 2, 1) := by decide +kernel
theorem dL_law_864 : decode cL_law 864 = .ok (.invokevirtual 107, 3) := by decide +kernel
theorem dL_law_867 : decode cL_law 867 = .ok (.if_icmp .eq 531, 3) := by decide +kernel
theorem dL_law_872 : decode cL_law 872 = .ok (.aload_n 1, 1) := by decide +kernel
theorem dL_law_873 : decode cL_law 873 = .ok (.invokevirtual 108, 3) := by decide +kernel
theorem dL_law_876 : decode cL_law 876 = .ok (.aload_n 2, 1) := by decide +kernel
theorem dL_law_877 : decode cL_law 877 = .ok (.invokevirtual 111, 3) := by decide +kernel
theorem dL_law_880 : decode cL_law 880 = .ok (.if_icmp .eq 518, 3) := by decide +kernel
theorem dL_law_885 : decode cL_law 885 = .ok (.aload_n 1, 1) := by decide +kernel
theorem dL_law_886 : decode cL_law 886 = .ok (.invokevirtual 112, 3) := by decide +kernel
theorem dL_law_889 : decode cL_law 889 = .ok (.aload_n 2, 1) := by decide +kernel
theorem dL_law_890 : decode cL_law 890 = .ok (.invokevirtual 115, 3) := by decide +kernel
theorem dL_law_893 : decode cL_law 893 = .ok (.if_icmp .eq 505, 3) := by decide +kernel
theorem dL_law_898 : decode cL_law 898 = .ok (.aload_n 1, 1) := by decide +kernel
theorem dL_law_899 : decode cL_law 899 = .ok (.invokevirtual 116, 3) := by decide +kernel
theorem dL_law_902 : decode cL_law 902 = .ok (.aload_n 2, 1) := by decide +kernel
theorem dL_law_903 : decode cL_law 903 = .ok (.invokevirtual 119, 3) := by decide +kernel
theorem dL_law_906 : decode cL_law 906 = .ok (.if_icmp .eq 492, 3) := by decide +kernel
theorem dL_law_911 : decode cL_law 911 = .ok (.aload_n 1, 1) := by decide +kernel
theorem dL_law_912 : decode cL_law 912 = .ok (.aload_n 0, 1) := by decide +kernel
theorem dL_law_913 : decode cL_law 913 = .ok (.iload 4, 2) := by decide +kernel
theorem dL_law_915 : decode cL_law 915 = .ok (.iconst 1, 1) := by decide +kernel
theorem dL_law_916 : decode cL_law 916 = .ok (.iadd, 1) := by decide +kernel
theorem dL_law_917 : decode cL_law 917 = .ok (.iaload, 1) := by decide +kernel
theorem dL_law_918 : decode cL_law 918 = .ok (.aload_n 0, 1) := by decide +kernel
theorem dL_law_919 : decode cL_law 919 = .ok (.iload 4, 2) := by decide +kernel
theorem dL_law_921 : decode cL_law 921 = .ok (.iconst 2, 1) := by decide +kernel
theorem dL_law_922 : decode cL_law 922 = .ok (.iadd, 1) := by decide +kernel
theorem dL_law_923 : decode cL_law 923 = .ok (.iaload, 1) := by decide +kernel
theorem dL_law_924 : decode cL_law 924 = .ok (.invokevirtual 120, 3) := by decide +kernel
theorem dL_law_927 : decode cL_law 927 = .ok (.aload_n 2, 1) := by decide +kernel
theorem dL_law_928 : decode cL_law 928 = .ok (.aload_n 0, 1) := by decide +kernel
theorem dL_law_929 : decode cL_law 929 = .ok (.iload 4, 2) := by decide +kernel
theorem dL_law_931 : decode cL_law 931 = .ok (.iconst 1, 1) := by decide +kernel
theorem dL_law_932 : decode cL_law 932 = .ok (.iadd, 1) := by decide +kernel
theorem dL_law_933 : decode cL_law 933 = .ok (.iaload, 1) := by decide +kernel
theorem dL_law_934 : decode cL_law 934 = .ok (.aload_n 0, 1) := by decide +kernel
theorem dL_law_935 : decode cL_law 935 = .ok (.iload 4, 2) := by decide +kernel
theorem dL_law_937 : decode cL_law 937 = .ok (.iconst 2, 1) := by decide +kernel
theorem dL_law_938 : decode cL_law 938 = .ok (.iadd, 1) := by decide +kernel
theorem dL_law_939 : decode cL_law 939 = .ok (.iaload, 1) := by decide +kernel
theorem dL_law_940 : decode cL_law 940 = .ok (.invokevirtual 123, 3) := by decide +kernel
theorem dL_law_943 : decode cL_law 943 = .ok (.if_icmp .eq 455, 3) := by decide +kernel
theorem dL_law_948 : decode cL_law 948 = .ok (.aload_n 1, 1) := by decide +kernel
theorem dL_law_949 : decode cL_law 949 = .ok (.aload_n 0, 1) := by decide +kernel
theorem dL_law_950 : decode cL_law 950 = .ok (.iload 4, 2) := by decide +kernel
theorem dL_law_952 : decode cL_law 952 = .ok (.iconst 1, 1) := by decide +kernel
theorem dL_law_953 : decode cL_law 953 = .ok (.iadd, 1) := by decide +kernel
theorem dL_law_954 : decode cL_law 954 = .ok (.iaload, 1) := by decide +kernel
theorem dL_law_955 : decode cL_law 955 = .ok (.invokevirtual 124, 3) := by decide +kernel
theorem dL_law_958 : decode cL_law 958 = .ok (.aload_n 2, 1) := by decide +kernel
theorem dL_law_959 : decode cL_law 959 = .ok (.aload_n 0, 1) := by decide +kernel
theorem dL_law_960 : decode cL_law 960 = .ok (.iload 4, 2) := by decide +kernel
theorem dL_law_962 : decode cL_law 962 = .ok (.iconst 1, 1) := by decide +kernel
theorem dL_law_963 : decode cL_law 963 = .ok (.iadd, 1) := by decide +kernel
theorem dL_law_964 : decode cL_law 964 = .ok (.iaload, 1) := by decide +kernel
theorem dL_law_965 : decode cL_law 965 = .ok (.invokevirtual 127, 3) := by decide +kernel
theorem dL_law_968 : decode cL_law 968 = .ok (.if_icmp .eq 430, 3) := by decide +kernel
theorem dL_law_973 : decode cL_law 973 = .ok (.aload_n 1, 1) := by decide +kernel
theorem dL_law_974 : decode cL_law 974 = .ok (.invokevirtual 128, 3) := by decide +kernel
theorem dL_law_977 : decode cL_law 977 = .ok (.aload_n 2, 1) := by decide +kernel
theorem dL_law_978 : decode cL_law 978 = .ok (.invokevirtual 131, 3) := by decide +kernel
theorem dL_law_981 : decode cL_law 981 = .ok (.if_icmp .eq 417, 3) := by decide +kernel
theorem dL_law_986 : decode cL_law 986 = .ok (.aload_n 1, 1) := by decide +kernel
theorem dL_law_987 : decode cL_law 987 = .ok (.invokevirtual 132, 3) := by decide +kernel
theorem dL_law_990 : decode cL_law 990 = .ok (.aload_n 2, 1) := by decide +kernel
theorem dL_law_991 : decode cL_law 991 = .ok (.invokevirtual 135, 3) := by decide +kernel
theorem dL_law_994 : decode cL_law 994 = .ok (.if_icmp .eq 404, 3) := by decide +kernel
theorem dL_law_999 : decode cL_law 999 = .ok (.aload_n 1, 1) := by decide +kernel
theorem dL_law_1000 : decode cL_law 1000 = .ok (.invokevirtual 136, 3) := by decide +kernel
theorem dL_law_1003 : decode cL_law 1003 = .ok (.aload_n 2, 1) := by decide +kernel
theorem dL_law_1004 : decode cL_law 1004 = .ok (.invokevirtual 139, 3) := by decide +kernel
theorem dL_law_1007 : decode cL_law 1007 = .ok (.if_icmp .eq 391, 3) := by decide +kernel
theorem dL_law_1012 : decode cL_law 1012 = .ok (.aload_n 1, 1) := by decide +kernel
theorem dL_law_1013 : decode cL_law 1013 = .ok (.aload_n 0, 1) := by decide +kernel
theorem dL_law_1014 : decode cL_law 1014 = .ok (.iload 4, 2) := by decide +kernel
theorem dL_law_1016 : decode cL_law 1016 = .ok (.iconst 1, 1) := by decide +kernel
theorem dL_law_1017 : decode cL_law 1017 = .ok (.iadd, 1) := by decide +kernel
theorem dL_law_1018 : decode cL_law 1018 = .ok (.iaload, 1) := by decide +kernel
theorem dL_law_1019 : decode cL_law 1019 = .ok (.invokevirtual 140, 3) := by decide +kernel
theorem dL_law_1022 : decode cL_law 1022 = .ok (.aload_n 2, 1) := by decide +kernel
theorem dL_law_1023 : decode cL_law 1023 = .ok (.aload_n 0, 1) := by decide +kernel
theorem dL_law_1024 : decode cL_law 1024 = .ok (.iload 4, 2) := by decide +kernel
theorem dL_law_1026 : decode cL_law 1026 = .ok (.iconst 1, 1) := by decide +kernel
theorem dL_law_1027 : decode cL_law 1027 = .ok (.iadd, 1) := by decide +kernel
theorem dL_law_1028 : decode cL_law 1028 = .ok (.iaload, 1) := by decide +kernel
theorem dL_law_1029 : decode cL_law 1029 = .ok (.invokevirtual 143, 3) := by decide +kernel
theorem dL_law_1032 : decode cL_law 1032 = .ok (.if_icmp .eq 366, 3) := by decide +kernel
theorem dL_law_1037 : decode cL_law 1037 = .ok (.aload_n 1, 1) := by decide +kernel
theorem dL_law_1038 : decode cL_law 1038 = .ok (.aload_n 0, 1) := by decide +kernel
theorem dL_law_1039 : decode cL_law 1039 = .ok (.iload 4, 2) := by decide +kernel
theorem dL_law_1041 : decode cL_law 1041 = .ok (.iconst 1, 1) := by decide +kernel
theorem dL_law_1042 : decode cL_law 1042 = .ok (.iadd, 1) := by decide +kernel
theorem dL_law_1043 : decode cL_law 1043 = .ok (.iaload, 1) := by decide +kernel
theorem dL_law_1044 : decode cL_law 1044 = .ok (.aload_n 0, 1) := by decide +kernel
theorem dL_law_1045 : decode cL_law 1045 = .ok (.iload 4, 2) := by decide +kernel
theorem dL_law_1047 : decode cL_law 1047 = .ok (.iconst 2, 1) := by decide +kernel
theorem dL_law_1048 : decode cL_law 1048 = .ok (.iadd, 1) := by decide +kernel
theorem dL_law_1049 : decode cL_law 1049 = .ok (.iaload, 1) := by decide +kernel
theorem dL_law_1050 : decode cL_law 1050 = .ok (.aload_n 0, 1) := by decide +kernel
theorem dL_law_1051 : decode cL_law 1051 = .ok (.iload 4, 2) := by decide +kernel
theorem dL_law_1053 : decode cL_law 1053 = .ok (.iconst 3, 1) := by decide +kernel
theorem dL_law_1054 : decode cL_law 1054 = .ok (.iadd, 1) := by decide +kernel
theorem dL_law_1055 : decode cL_law 1055 = .ok (.iaload, 1) := by decide +kernel
theorem dL_law_1056 : decode cL_law 1056 = .ok (.invokevirtual 144, 3) := by decide +kernel
theorem dL_law_1059 : decode cL_law 1059 = .ok (.aload_n 2, 1) := by decide +kernel
theorem dL_law_1060 : decode cL_law 1060 = .ok (.aload_n 0, 1) := by decide +kernel
theorem dL_law_1061 : decode cL_law 1061 = .ok (.iload 4, 2) := by decide +kernel
theorem dL_law_1063 : decode cL_law 1063 = .ok (.iconst 1, 1) := by decide +kernel
theorem dL_law_1064 : decode cL_law 1064 = .ok (.iadd, 1) := by decide +kernel
theorem dL_law_1065 : decode cL_law 1065 = .ok (.iaload, 1) := by decide +kernel
theorem dL_law_1066 : decode cL_law 1066 = .ok (.aload_n 0, 1) := by decide +kernel
theorem dL_law_1067 : decode cL_law 1067 = .ok (.iload 4, 2) := by decide +kernel
theorem dL_law_1069 : decode cL_law 1069 = .ok (.iconst 2, 1) := by decide +kernel
theorem dL_law_1070 : decode cL_law 1070 = .ok (.iadd, 1) := by decide +kernel
theorem dL_law_1071 : decode cL_law 1071 = .ok (.iaload, 1) := by decide +kernel
theorem dL_law_1072 : decode cL_law 1072 = .ok (.aload_n 0, 1) := by decide +kernel
theorem dL_law_1073 : decode cL_law 1073 = .ok (.iload 4, 2) := by decide +kernel
theorem dL_law_1075 : decode cL_law 1075 = .ok (.iconst 3, 1) := by decide +kernel
theorem dL_law_1076 : decode cL_law 1076 = .ok (.iadd, 1) := by decide +kernel
theorem dL_law_1077 : decode cL_law 1077 = .ok (.iaload, 1) := by decide +kernel
theorem dL_law_1078 : decode cL_law 1078 = .ok (.invokevirtual 148, 3) := by decide +kernel
theorem dL_law_1081 : decode cL_law 1081 = .ok (.if_icmp .eq 317, 3) := by decide +kernel
theorem dL_law_1086 : decode cL_law 1086 = .ok (.aload_n 1, 1) := by decide +kernel
theorem dL_law_1087 : decode cL_law 1087 = .ok (.invokevirtual 149, 3) := by decide +kernel
theorem dL_law_1090 : decode cL_law 1090 = .ok (.aload_n 2, 1) := by decide +kernel
theorem dL_law_1091 : decode cL_law 1091 = .ok (.invokevirtual 152, 3) := by decide +kernel
theorem dL_law_1094 : decode cL_law 1094 = .ok (.if_icmp .eq 304, 3) := by decide +kernel
theorem dL_law_1099 : decode cL_law 1099 = .ok (.aload_n 1, 1) := by decide +kernel
theorem dL_law_1100 : decode cL_law 1100 = .ok (.aload_n 0, 1) := by decide +kernel
theorem dL_law_1101 : decode cL_law 1101 = .ok (.iload 4, 2) := by decide +kernel
theorem dL_law_1103 : decode cL_law 1103 = .ok (.iconst 1, 1) := by decide +kernel
theorem dL_law_1104 : decode cL_law 1104 = .ok (.iadd, 1) := by decide +kernel
theorem dL_law_1105 : decode cL_law 1105 = .ok (.iaload, 1) := by decide +kernel
theorem dL_law_1106 : decode cL_law 1106 = .ok (.invokevirtual 153, 3) := by decide +kernel
theorem dL_law_1109 : decode cL_law 1109 = .ok (.aload_n 2, 1) := by decide +kernel
theorem dL_law_1110 : decode cL_law 1110 = .ok (.aload_n 0, 1) := by decide +kernel
theorem dL_law_1111 : decode cL_law 1111 = .ok (.iload 4, 2) := by decide +kernel
theorem dL_law_1113 : decode cL_law 1113 = .ok (.iconst 1, 1) := by decide +kernel
theorem dL_law_1114 : decode cL_law 1114 = .ok (.iadd, 1) := by decide +kernel
theorem dL_law_1115 : decode cL_law 1115 = .ok (.iaload, 1) := by decide +kernel
theorem dL_law_1116 : decode cL_law 1116 = .ok (.invokevirtual 156, 3) := by decide +kernel
theorem dL_law_1119 : decode cL_law 1119 = .ok (.if_icmp .eq 279, 3) := by decide +kernel
theorem dL_law_1124 : decode cL_law 1124 = .ok (.aload_n 1, 1) := by decide +kernel
theorem dL_law_1125 : decode cL_law 1125 = .ok (.aload_n 0, 1) := by decide +kernel
theorem dL_law_1126 : decode cL_law 1126 = .ok (.iload 4, 2) := by decide +kernel
theorem dL_law_1128 : decode cL_law 1128 = .ok (.iconst 1, 1) := by decide +kernel
theorem dL_law_1129 : decode cL_law 1129 = .ok (.iadd, 1) := by decide +kernel
theorem dL_law_1130 : decode cL_law 1130 = .ok (.iaload, 1) := by decide +kernel
theorem dL_law_1131 : decode cL_law 1131 = .ok (.invokevirtual 157, 3) := by decide +kernel
theorem dL_law_1134 : decode cL_law 1134 = .ok (.aload_n 2, 1) := by decide +kernel
theorem dL_law_1135 : decode cL_law 1135 = .ok (.aload_n 0, 1) := by decide +kernel
theorem dL_law_1136 : decode cL_law 1136 = .ok (.iload 4, 2) := by decide +kernel
theorem dL_law_1138 : decode cL_law 1138 = .ok (.iconst 1, 1) := by decide +kernel
theorem dL_law_1139 : decode cL_law 1139 = .ok (.iadd, 1) := by decide +kernel
theorem dL_law_1140 : decode cL_law 1140 = .ok (.iaload, 1) := by decide +kernel
theorem dL_law_1141 : decode cL_law 1141 = .ok (.invokevirtual 160, 3) := by decide +kernel
theorem dL_law_1144 : decode cL_law 1144 = .ok (.if_icmp .eq 254, 3) := by decide +kernel
theorem dL_law_1149 : decode cL_law 1149 = .ok (.aload_n 1, 1) := by decide +kernel
theorem dL_law_1150 : decode cL_law 1150 = .ok (.aload_n 0, 1) := by decide +kernel
theorem dL_law_1151 : decode cL_law 1151 = .ok (.iload 4, 2) := by decide +kernel
theorem dL_law_1153 : decode cL_law 1153 = .ok (.iconst 1, 1) := by decide +kernel
theorem dL_law_1154 : decode cL_law 1154 = .ok (.iadd, 1) := by decide +kernel
theorem dL_law_1155 : decode cL_law 1155 = .ok (.iaload, 1) := by decide +kernel
theorem dL_law_1156 : decode cL_law 1156 = .ok (.aload_n 0, 1) := by decide +kernel
theorem dL_law_1157 : decode cL_law 1157 = .ok (.iload 4, 2) := by decide +kernel
theorem dL_law_1159 : decode cL_law 1159 = .ok (.iconst 2, 1) := by decide +kernel
theorem dL_law_1160 : decode cL_law 1160 = .ok (.iadd, 1) := by decide +kernel
theorem dL_law_1161 : decode cL_law 1161 = .ok (.iaload, 1) := by decide +kernel
theorem dL_law_1162 : decode cL_law 1162 = .ok (.invokevirtual 161, 3) := by decide +kernel
theorem dL_law_1165 : decode cL_law 1165 = .ok (.aload_n 2, 1) := by decide +kernel
theorem dL_law_1166 : decode cL_law 1166 = .ok (.aload_n 0, 1) := by decide +kernel
theorem dL_law_1167 : decode cL_law 1167 = .ok (.iload 4, 2) := by decide +kernel
theorem dL_law_1169 : decode cL_law 1169 = .ok (.iconst 1, 1) := by decide +kernel
theorem dL_law_1170 : decode cL_law 1170 = .ok (.iadd, 1) := by decide +kernel
theorem dL_law_1171 : decode cL_law 1171 = .ok (.iaload, 1) := by decide +kernel
theorem dL_law_1172 : decode cL_law 1172 = .ok (.aload_n 0, 1) := by decide +kernel
theorem dL_law_1173 : decode cL_law 1173 = .ok (.iload 4, 2) := by decide +kernel
theorem dL_law_1175 : decode cL_law 1175 = .ok (.iconst 2, 1) := by decide +kernel
theorem dL_law_1176 : decode cL_law 1176 = .ok (.iadd, 1) := by decide +kernel
theorem dL_law_1177 : decode cL_law 1177 = .ok (.iaload, 1) := by decide +kernel
theorem dL_law_1178 : decode cL_law 1178 = .ok (.invokevirtual 164, 3) := by decide +kernel
theorem dL_law_1181 : decode cL_law 1181 = .ok (.if_icmp .eq 217, 3) := by decide +kernel
theorem dL_law_1186 : decode cL_law 1186 = .ok (.aload_n 1, 1) := by decide +kernel
theorem dL_law_1187 : decode cL_law 1187 = .ok (.aload_n 0, 1) := by decide +kernel
theorem dL_law_1188 : decode cL_law 1188 = .ok (.iload 4, 2) := by decide +kernel
theorem dL_law_1190 : decode cL_law 1190 = .ok (.iconst 1, 1) := by decide +kernel
theorem dL_law_1191 : decode cL_law 1191 = .ok (.iadd, 1) := by decide +kernel
theorem dL_law_1192 : decode cL_law 1192 = .ok (.iaload, 1) := by decide +kernel
theorem dL_law_1193 : decode cL_law 1193 = .ok (.aload_n 0, 1) := by decide +kernel
theorem dL_law_1194 : decode cL_law 1194 = .ok (.iload 4, 2) := by decide +kernel
theorem dL_law_1196 : decode cL_law 1196 = .ok (.iconst 2, 1) := by decide +kernel
theorem dL_law_1197 : decode cL_law 1197 = .ok (.iadd, 1) := by decide +kernel
theorem dL_law_1198 : decode cL_law 1198 = .ok (.iaload, 1) := by decide +kernel
theorem dL_law_1199 : decode cL_law 1199 = .ok (.aload_n 0, 1) := by decide +kernel
theorem dL_law_1200 : decode cL_law 1200 = .ok (.iload 4, 2) := by decide +kernel
theorem dL_law_1202 : decode cL_law 1202 = .ok (.iconst 3, 1) := by decide +kernel
theorem dL_law_1203 : decode cL_law 1203 = .ok (.iadd, 1) := by decide +kernel
theorem dL_law_1204 : decode cL_law 1204 = .ok (.iaload, 1) := by decide +kernel
theorem dL_law_1205 : decode cL_law 1205 = .ok (.invokevirtual 165, 3) := by decide +kernel
theorem dL_law_1208 : decode cL_law 1208 = .ok (.aload_n 2, 1) := by decide +kernel
theorem dL_law_1209 : decode cL_law 1209 = .ok (.aload_n 0, 1) := by decide +kernel
theorem dL_law_1210 : decode cL_law 1210 = .ok (.iload 4, 2) := by decide +kernel
theorem dL_law_1212 : decode cL_law 1212 = .ok (.iconst 1, 1) := by decide +kernel
theorem dL_law_1213 : decode cL_law 1213 = .ok (.iadd, 1) := by decide +kernel
theorem dL_law_1214 : decode cL_law 1214 = .ok (.iaload, 1) := by decide +kernel
theorem dL_law_1215 : decode cL_law 1215 = .ok (.aload_n 0, 1) := by decide +kernel
theorem dL_law_1216 : decode cL_law 1216 = .ok (.iload 4, 2) := by decide +kernel
theorem dL_law_1218 : decode cL_law 1218 = .ok (.iconst 2, 1) := by decide +kernel
theorem dL_law_1219 : decode cL_law 1219 = .ok (.iadd, 1) := by decide +kernel
theorem dL_law_1220 : decode cL_law 1220 = .ok (.iaload, 1) := by decide +kernel
theorem dL_law_1221 : decode cL_law 1221 = .ok (.aload_n 0, 1) := by decide +kernel
theorem dL_law_1222 : decode cL_law 1222 = .ok (.iload 4, 2) := by decide +kernel
theorem dL_law_1224 : decode cL_law 1224 = .ok (.iconst 3, 1) := by decide +kernel
theorem dL_law_1225 : decode cL_law 1225 = .ok (.iadd, 1) := by decide +kernel
theorem dL_law_1226 : decode cL_law 1226 = .ok (.iaload, 1) := by decide +kernel
theorem dL_law_1227 : decode cL_law 1227 = .ok (.invokevirtual 168, 3) := by decide +kernel
theorem dL_law_1230 : decode cL_law 1230 = .ok (.if_icmp .eq 168, 3) := by decide +kernel
theorem dL_law_1235 : decode cL_law 1235 = .ok (.aload_n 1, 1) := by decide +kernel
theorem dL_law_1236 : decode cL_law 1236 = .ok (.aload_n 0, 1) := by decide +kernel
theorem dL_law_1237 : decode cL_law 1237 = .ok (.iload 4, 2) := by decide +kernel
theorem dL_law_1239 : decode cL_law 1239 = .ok (.iconst 1, 1) := by decide +kernel
theorem dL_law_1240 : decode cL_law 1240 = .ok (.iadd, 1) := by decide +kernel
theorem dL_law_1241 : decode cL_law 1241 = .ok (.iaload, 1) := by decide +kernel
theorem dL_law_1242 : decode cL_law 1242 = .ok (.invokevirtual 169, 3) := by decide +kernel
theorem dL_law_1245 : decode cL_law 1245 = .ok (.aload_n 2, 1) := by decide +kernel
theorem dL_law_1246 : decode cL_law 1246 = .ok (.aload_n 0, 1) := by decide +kernel
theorem dL_law_1247 : decode cL_law 1247 = .ok (.iload 4, 2) := by decide +kernel
theorem dL_law_1249 : decode cL_law 1249 = .ok (.iconst 1, 1) := by decide +kernel
theorem dL_law_1250 : decode cL_law 1250 = .ok (.iadd, 1) := by decide +kernel
theorem dL_law_1251 : decode cL_law 1251 = .ok (.iaload, 1) := by decide +kernel
theorem dL_law_1252 : decode cL_law 1252 = .ok (.invokevirtual 172, 3) := by decide +kernel
theorem dL_law_1255 : decode cL_law 1255 = .ok (.if_icmp .eq 143, 3) := by decide +kernel
theorem dL_law_1260 : decode cL_law 1260 = .ok (.aload_n 1, 1) := by decide +kernel
theorem dL_law_1261 : decode cL_law 1261 = .ok (.aload_n 0, 1) := by decide +kernel
theorem dL_law_1262 : decode cL_law 1262 = .ok (.iload 4, 2) := by decide +kernel
theorem dL_law_1264 : decode cL_law 1264 = .ok (.iconst 1, 1) := by decide +kernel
theorem dL_law_1265 : decode cL_law 1265 = .ok (.iadd, 1) := by decide +kernel
theorem dL_law_1266 : decode cL_law 1266 = .ok (.iaload, 1) := by decide +kernel
theorem dL_law_1267 : decode cL_law 1267 = .ok (.invokevirtual 173, 3) := by decide +kernel
theorem dL_law_1270 : decode cL_law 1270 = .ok (.aload_n 2, 1) := by decide +kernel
theorem dL_law_1271 : decode cL_law 1271 = .ok (.aload_n 0, 1) := by decide +kernel
theorem dL_law_1272 : decode cL_law 1272 = .ok (.iload 4, 2) := by decide +kernel
theorem dL_law_1274 : decode cL_law 1274 = .ok (.iconst 1, 1) := by decide +kernel
theorem dL_law_1275 : decode cL_law 1275 = .ok (.iadd, 1) := by decide +kernel
theorem dL_law_1276 : decode cL_law 1276 = .ok (.iaload, 1) := by decide +kernel
theorem dL_law_1277 : decode cL_law 1277 = .ok (.invokevirtual 176, 3) := by decide +kernel
theorem dL_law_1280 : decode cL_law 1280 = .ok (.if_icmp .eq 118, 3) := by decide +kernel
theorem dL_law_1285 : decode cL_law 1285 = .ok (.aload_n 1, 1) := by decide +kernel
theorem dL_law_1286 : decode cL_law 1286 = .ok (.invokevirtual 177, 3) := by decide +kernel
theorem dL_law_1289 : decode cL_law 1289 = .ok (.aload_n 2, 1) := by decide +kernel
theorem dL_law_1290 : decode cL_law 1290 = .ok (.invokevirtual 180, 3) := by decide +kernel
theorem dL_law_1293 : decode cL_law 1293 = .ok (.if_icmp .eq 105, 3) := by decide +kernel
theorem dL_law_1298 : decode cL_law 1298 = .ok (.aload_n 1, 1) := by decide +kernel
theorem dL_law_1299 : decode cL_law 1299 = .ok (.aload_n 0, 1) := by decide +kernel
theorem dL_law_1300 : decode cL_law 1300 = .ok (.iload 4, 2) := by decide +kernel
theorem dL_law_1302 : decode cL_law 1302 = .ok (.iconst 1, 1) := by decide +kernel
theorem dL_law_1303 : decode cL_law 1303 = .ok (.iadd, 1) := by decide +kernel
theorem dL_law_1304 : decode cL_law 1304 = .ok (.iaload, 1) := by decide +kernel
theorem dL_law_1305 : decode cL_law 1305 = .ok (.invokevirtual 181, 3) := by decide +kernel
theorem dL_law_1308 : decode cL_law 1308 = .ok (.aload_n 2, 1) := by decide +kernel
theorem dL_law_1309 : decode cL_law 1309 = .ok (.aload_n 0, 1) := by decide +kernel
theorem dL_law_1310 : decode cL_law 1310 = .ok (.iload 4, 2) := by decide +kernel
theorem dL_law_1312 : decode cL_law 1312 = .ok (.iconst 1, 1) := by decide +kernel
theorem dL_law_1313 : decode cL_law 1313 = .ok (.iadd, 1) := by decide +kernel
theorem dL_law_1314 : decode cL_law 1314 = .ok (.iaload, 1) := by decide +kernel
theorem dL_law_1315 : decode cL_law 1315 = .ok (.invokevirtual 184, 3) := by decide +kernel
theorem dL_law_1318 : decode cL_law 1318 = .ok (.if_icmp .eq 80, 3) := by decide +kernel
theorem dL_law_1323 : decode cL_law 1323 = .ok (.aload_n 1, 1) := by decide +kernel
theorem dL_law_1324 : decode cL_law 1324 = .ok (.aload_n 0, 1) := by decide +kernel
theorem dL_law_1325 : decode cL_law 1325 = .ok (.iload 4, 2) := by decide +kernel
theorem dL_law_1327 : decode cL_law 1327 = .ok (.iconst 1, 1) := by decide +kernel
theorem dL_law_1328 : decode cL_law 1328 = .ok (.iadd, 1) := by decide +kernel
theorem dL_law_1329 : decode cL_law 1329 = .ok (.iaload, 1) := by decide +kernel
theorem dL_law_1330 : decode cL_law 1330 = .ok (.invokevirtual 185, 3) := by decide +kernel
theorem dL_law_1333 : decode cL_law 1333 = .ok (.aload_n 2, 1) := by decide +kernel
theorem dL_law_1334 : decode cL_law 1334 = .ok (.aload_n 0, 1) := by decide +kernel
theorem dL_law_1335 : decode cL_law 1335 = .ok (.iload 4, 2) := by decide +kernel
theorem dL_law_1337 : decode cL_law 1337 = .ok (.iconst 1, 1) := by decide +kernel
theorem dL_law_1338 : decode cL_law 1338 = .ok (.iadd, 1) := by decide +kernel
theorem dL_law_1339 : decode cL_law 1339 = .ok (.iaload, 1) := by decide +kernel
theorem dL_law_1340 : decode cL_law 1340 = .ok (.invokevirtual 188, 3) := by decide +kernel
theorem dL_law_1343 : decode cL_law 1343 = .ok (.if_icmp .eq 55, 3) := by decide +kernel
theorem dL_law_1348 : decode cL_law 1348 = .ok (.aload_n 1, 1) := by decide +kernel
theorem dL_law_1349 : decode cL_law 1349 = .ok (.aload_n 0, 1) := by decide +kernel
theorem dL_law_1350 : decode cL_law 1350 = .ok (.iload 4, 2) := by decide +kernel
theorem dL_law_1352 : decode cL_law 1352 = .ok (.iconst 1, 1) := by decide +kernel
theorem dL_law_1353 : decode cL_law 1353 = .ok (.iadd, 1) := by decide +kernel
theorem dL_law_1354 : decode cL_law 1354 = .ok (.iaload, 1) := by decide +kernel
theorem dL_law_1355 : decode cL_law 1355 = .ok (.invokevirtual 189, 3) := by decide +kernel
theorem dL_law_1358 : decode cL_law 1358 = .ok (.aload_n 2, 1) := by decide +kernel
theorem dL_law_1359 : decode cL_law 1359 = .ok (.aload_n 0, 1) := by decide +kernel
theorem dL_law_1360 : decode cL_law 1360 = .ok (.iload 4, 2) := by decide +kernel
theorem dL_law_1362 : decode cL_law 1362 = .ok (.iconst 1, 1) := by decide +kernel
theorem dL_law_1363 : decode cL_law 1363 = .ok (.iadd, 1) := by decide +kernel
theorem dL_law_1364 : decode cL_law 1364 = .ok (.iaload, 1) := by decide +kernel
theorem dL_law_1365 : decode cL_law 1365 = .ok (.invokevirtual 192, 3) := by decide +kernel
theorem dL_law_1368 : decode cL_law 1368 = .ok (.if_icmp .eq 30, 3) := by decide +kernel
theorem dL_law_1373 : decode cL_law 1373 = .ok (.aload_n 1, 1) := by decide +kernel
theorem dL_law_1374 : decode cL_law 1374 = .ok (.aload_n 0, 1) := by decide +kernel
theorem dL_law_1375 : decode cL_law 1375 = .ok (.iload 4, 2) := by decide +kernel
theorem dL_law_1377 : decode cL_law 1377 = .ok (.iconst 1, 1) := by decide +kernel
theorem dL_law_1378 : decode cL_law 1378 = .ok (.iadd, 1) := by decide +kernel
theorem dL_law_1379 : decode cL_law 1379 = .ok (.iaload, 1) := by decide +kernel
theorem dL_law_1380 : decode cL_law 1380 = .ok (.invokevirtual 193, 3) := by decide +kernel
theorem dL_law_1383 : decode cL_law 1383 = .ok (.aload_n 2, 1) := by decide +kernel
theorem dL_law_1384 : decode cL_law 1384 = .ok (.aload_n 0, 1) := by decide +kernel
theorem dL_law_1385 : decode cL_law 1385 = .ok (.iload 4, 2) := by decide +kernel
theorem dL_law_1387 : decode cL_law 1387 = .ok (.iconst 1, 1) := by decide +kernel
theorem dL_law_1388 : decode cL_law 1388 = .ok (.iadd, 1) := by decide +kernel
theorem dL_law_1389 : decode cL_law 1389 = .ok (.iaload, 1) := by decide +kernel
theorem dL_law_1390 : decode cL_law 1390 = .ok (.invokevirtual 196, 3) := by decide +kernel
theorem dL_law_1393 : decode cL_law 1393 = .ok (.if_icmp .eq 5, 3) := by decide +kernel
theorem dL_law_1398 : decode cL_law 1398 = .ok (.iinc 4 6, 3) := by decide +kernel
theorem dL_law_1401 : decode cL_law 1401 = .ok (.goto (-1378), 3) := by decide +kernel
theorem dL_law_1404 : decode cL_law 1404 = .ok (.iconst 1, 1) := by decide +kernel
theorem dL_law_1405 : decode cL_law 1405 = .ok (.ireturn, 1) := by decide +kernel
/-! THE CLAIM OUT OF ONE WALK OF THE LAW'S BODY. Your part is whole_start (and what it stands on); all else here is the same for every law, but numbers. -/
def R_law : String := "FuneralUmbrellasLaw"
def lw_P (b : Addr) (xs : List Int32) (args : Array Value) (s : State) : Prop := args = #[.ref b] ∧ s.IntsAt b xs ∧ xs.length ≤ 6 ∧ (Jvm.Cond.and given_1 narrow_1).before args s = true
def lw_Q (_ : Array Value) (s : State) (o : Outcome) (t : State) : Prop := o = .returned (some (.int 1)) ∧ Framed s o t [] 600002 7302232
def lw_Z (below : List Frame) (a : Array Value) (s : State) : State → Prop := fun t => ∃ o, t.status = .running ∧ Ended t below o ∧ lw_Q a s o t
/-- the law's own end, with 1 on the stack, nothing written that was there before, its room as the claim has it -/
theorem lw_ret {p : Program} {l : Launch} {e : Env} {s : State} {m : MethodId} {below : List Frame} {meth : Method} {c : Code} {b : Nat} (hx : p.tables.exec = Jvm.exec) (hb : c.code = code) (hr : meth.sig.returnType = ret) (hlocks : meth.locks = false) {pc : Nat} {H : Heap} {ls : Array Slot} (hdg : decode code pc = .ok (.ireturn, 1)) : W p l e room_1 s m #[Value.ref b] below meth c H [] 600002 7302232 (lw_Z below #[Value.ref b] s) (F0 m pc ls [.int 1]) := by
  intro T hT X
  obtain ⟨fs, hret, hrun, hended, hW, hframe⟩ := X.leave (v := some (.int 1)) (hlocks := hlocks) (fun h => by rw [hr] at h; cases h)
  have hmeth' : T.vm.method? m = some meth := X.method'
  refine ⟨T.setFrames fs, ?_, .returned (some (.int 1)), hrun, hended, rfl, ⟨_, rfl⟩, hW, hframe⟩
  jvm_step X.here [X.here.top, hx, hb, hdg, hmeth', hr, ret, narrow_b1]
  (try refine ⟨rfl, ?_⟩); (try refine ⟨rfl, ?_⟩)
  first | (intro acts; rw [hret _ acts rfl rfl rfl]) | rw [hret _ _ rfl rfl rfl]
  exact Steps.refl _
/-- what holds at the law's entry: the machine, the code, the tables' words (any of lw_tbl by 'hts w (by decide +kernel)'), the script of L ints xs at the cell b, what the Statement gives of the start (any of its parts by flat_of_before) -/
def lw_At (p : Program) (s : State) (m : MethodId) (meth : Method) (c : Code) (b L : Nat) (xs : Nat → Int32) : Prop :=
  p.tables.exec = Jvm.exec ∧ c.code = code ∧ meth.sig.returnType = ret ∧ c.maxLocals = 7 ∧ s.vm.findClass R_law = some m.cls ∧ (∀ w ∈ lw_tbl, w.before #[Value.ref b] s = true) ∧ va_X b L xs s s.heap ∧ b < s.heap.size ∧ meth.locks = false ∧ (Jvm.Cond.and given_1 narrow_1).before #[Value.ref b] s = true

/-- what holds in the law's body, whatever has been called -/
def z_G (p : Program) (s : State) (m : MethodId) (meth : Method) (c : Code) (ad : Nat → Nat) (A : Nat → Prop) (b : Nat) (xs : Nat → Int32) : Prop :=
  p.tables.exec = Jvm.exec ∧ c.code = code ∧ meth.sig.returnType = ret ∧ c.maxLocals = 7 ∧ s.vm.findClass RL = some m.cls ∧ (∀ w ∈ wsL_law0, w.before #[Value.ref b] s = true) ∧ va_X b 6 xs s s.heap ∧ b < s.heap.size ∧ ¬ A b ∧ (∀ q, s.heap.size ≤ q → A q) ∧ (∀ q, A q → s.heap.size ≤ q) ∧ meth.locks = false ∧ z_W ad A s s.heap ∧ z_O s
theorem law_end {p : Program} {l : Launch} {e : Env} {s : State} {m : MethodId} {below : List Frame} {meth : Method} {c : Code} {ad : Nat → Nat} {A : Nat → Prop} {b : Nat} {xs : Nat → Int32} (G : z_G p s m meth c ad A b xs) {H : Heap} {locs : List Loc} {ls : Array Slot} {cells slots : Nat} (hS : va_S A s.heap H locs) (hc : cells ≤ 600002) (hs : slots ≤ 7302232) (hl : lv_has ls 7 [(4, .int 0), (0, .ref b)]) : W p l e room_1 s m #[Value.ref b] below meth c H locs cells slots (lw_Z below #[Value.ref b] s) (F0 m 1398 ls []) := by
  obtain ⟨hx, hb, hr, hml, hown, hts, hX, hbl, hbA, hA, hAl, hlocks, hE, hO⟩ := G
  refine lv_iinc (v := 6) (lv' := [(4, .int 6), (0, .ref b)]) hx hb dL_law_1398 hl (k := 0) rfl (by decide) (by decide) rfl (fun ls hl => ?_)
  refine lv_goto (tgt := 23) hx hb dL_law_1401 (by decide) ?_
  refine lv_iload hx hb dL_law_23 (lv_at hl 0 rfl) ?_
  refine lv_aload_n hx hb dL_law_25 rfl (lv_at hl 1 rfl) ?_
  refine va_slen hx hb hX hbl hbA hS dL_law_26 ?_
  refine lv_bipush (v := 6) hx hb dL_law_27 (by decide) ?_
  refine lv_isub hx hb dL_law_29 ?_
  refine lv_icmp_gt (tgt := 1404) hx hb dL_law_30 (by decide) (fun _ => ?_) (fun h9 => absurd (by decide) h9)
  refine lv_iconst (v := 1) hx hb dL_law_1404 (by decide) ?_
  refine va_forget (fun q hq => hAl _ (hS.2.2 q hq)) ?_
  refine W.widen (k := 600002) (n := 7302232) hc hs ?_
  exact lw_ret hx hb hr hlocks dL_law_1405
theorem e_end (z1 : Int32) : s_X11_end z1 = s_X12_end z1 := by
  simp only [s_X11_end, s_X12_end, s_X12_isIn]
  repeat' split
  all_goals first | rfl | (exfalso; simp only [Int32.lt_iff_toInt_lt, Int32.le_iff_toInt_le, ← Int32.toInt_inj] at *; simp at *; omega) | simp_all
theorem e_now (z1 : Int32) : s_X11_now z1 = s_X12_now z1 := by
  simp only [s_X11_now, s_X12_isIn, s_X12_now]
  repeat' split
  all_goals first | rfl | (exfalso; simp only [Int32.lt_iff_toInt_lt, Int32.le_iff_toInt_le, ← Int32.toInt_inj] at *; simp at *; omega) | simp_all
theorem e_days (z1 : Int32) : s_X11_days z1 = s_X12_days z1 := by
  simp only [s_X11_days, s_X12_days, s_X12_isIn]
  repeat' split
  all_goals first | rfl | (exfalso; simp only [Int32.lt_iff_toInt_lt, Int32.le_iff_toInt_le, ← Int32.toInt_inj] at *; simp at *; omega) | simp_all
theorem e_sorry (z1 : Int32) : s_X11_sorry z1 = s_X12_sorry z1 := by
  simp only [s_X11_sorry, s_X12_isIn, s_X12_sorry]
  repeat' split
  all_goals first | rfl | (exfalso; simp only [Int32.lt_iff_toInt_lt, Int32.le_iff_toInt_le, ← Int32.toInt_inj] at *; simp at *; omega) | simp_all
theorem e_weeps (z1 : Int32) : s_X11_weeps z1 = s_X12_weeps z1 := by
  simp only [s_X11_weeps, s_X12_isIn, s_X12_weeps]
  repeat' split
  all_goals first | rfl | (exfalso; simp only [Int32.lt_iff_toInt_lt, Int32.le_iff_toInt_le, ← Int32.toInt_inj] at *; simp at *; omega) | simp_all
theorem e_book (z1 : Int32) : s_X11_book z1 = s_X12_book z1 := by
  simp only [s_X11_book, s_X12_book, s_X12_isIn]
  repeat' split
  all_goals first | rfl | (exfalso; simp only [Int32.lt_iff_toInt_lt, Int32.le_iff_toInt_le, ← Int32.toInt_inj] at *; simp at *; omega) | simp_all
theorem e_image (z1 : Int32) : s_X11_image z1 = s_X12_image z1 := by
  simp only [s_X11_image, s_X12_image, s_X12_isIn]
  repeat' split
  all_goals first | rfl | (exfalso; simp only [Int32.lt_iff_toInt_lt, Int32.le_iff_toInt_le, ← Int32.toInt_inj] at *; simp at *; omega) | simp_all
theorem e_count (z1 : Int32) : s_X11_count z1 = s_X12_count z1 := by
  simp only [s_X11_count, s_X12_count, s_X12_isIn]
  repeat' split
  all_goals first | rfl | (exfalso; simp only [Int32.lt_iff_toInt_lt, Int32.le_iff_toInt_le, ← Int32.toInt_inj] at *; simp at *; omega) | simp_all
set_option maxHeartbeats 8000000 in
set_option maxRecDepth 100000 in
theorem lc_0 {p : Program} {l : Launch} {e : Env} {s : State} {m : MethodId} {below : List Frame} {meth : Method} {c : Code} {D : va_G} {ad : Nat → Nat} {A : Nat → Prop} {b : Nat} {xs : Nat → Int32} (G : z_G p s m meth c ad A b xs) {a am : Nat → Nat} {t tm : Nat → ClassId} {qo : Nat} {to : ClassId} {H : Heap} {locs : List Loc} {ls : Array Slot} (hP : va_P D vwCl ((gF ad a t ++ gM ad am tm) ++ [(qo, .inl (to, 1, .inr (.inl (fun _ => 0))))]) H) (hD : va_D A ((gF ad a t ++ gM ad am tm) ++ [(qo, .inl (to, 1, .inr (.inl (fun _ => 0))))])) (hK : va_K D vwCl ((gFt t ++ gMt tm) ++ [(to, .long)]) s) (hS : va_S A s.heap H locs) (hl : lv_has ls 7 [(4, .int 0), (3, .ref qo), (2, .ref (am 18)), (1, .ref (a 0)), (0, .ref b)]) : W p l e room_1 s m #[Value.ref b] below meth c H locs 212 5680 (lw_Z below #[Value.ref b] s) (F0 m 220 ls []) := by
  have G0 := G
  obtain ⟨hx, hb, hr, hml, hown, hts, hX, hbl, hbA, hA, hAl, hlocks, hE, hO⟩ := G
  have hP := hP.sub (ws' := [(a 0, .inr (10, [.ref (a 4), .ref (a 5), .ref (a 6), .ref (a 7), .ref (a 8), .ref (a 9), .ref (a 10), .ref (a 11), .ref (a 12), .int 0, .ref (a 13), .ref (a 102), .ref (a 14), .ref (a 15), .int (-1), .int (-1)])), (a 4, .inr (6, [.ref (a 26), .int 0])), (a 26, .inl (t 6, 940, .inl (fun _ => 0))), (am 0, .inl (tm 0, 940, .inl (fun _ => 0))), (am 18, .inr (11, [.int 0, .ref (am 0), .int 0, .int 0, .int 0, .int 0, .ref (am 1), .ref (am 19), .ref (am 2), .ref (am 3), .ref (am 20), .int 0, .int 0, .int 0, .int 0, .int 0, .int 0, .long 0, .int 0, .int 0, .int 0, .ref (am 4), .ref (am 5), .int 0, .int 0, .int 0, .int 0, .ref (am 6), .int (-1), .ref (am 7), .int 0, .int 0, .ref (am 8), .int (-1), .ref (am 9), .ref (am 10), .int 0, .int 0, .ref (am 11), .int 0, .int 0, .int 0, .ref (am 12), .int 0, .ref (am 13), .int 0, .int 0, .int 0, .int 0, .int 0, .ref (am 14), .ref (am 15), .ref (am 16), .ref (am 17)]))]) [0, 4, 26, 102, 120] rfl
  have hD := hD.sub (ws' := [(a 0, .inr (10, [.ref (a 4), .ref (a 5), .ref (a 6), .ref (a 7), .ref (a 8), .ref (a 9), .ref (a 10), .ref (a 11), .ref (a 12), .int 0, .ref (a 13), .ref (a 102), .ref (a 14), .ref (a 15), .int (-1), .int (-1)])), (a 4, .inr (6, [.ref (a 26), .int 0])), (a 26, .inl (t 6, 940, .inl (fun _ => 0))), (am 0, .inl (tm 0, 940, .inl (fun _ => 0))), (am 18, .inr (11, [.int 0, .ref (am 0), .int 0, .int 0, .int 0, .int 0, .ref (am 1), .ref (am 19), .ref (am 2), .ref (am 3), .ref (am 20), .int 0, .int 0, .int 0, .int 0, .int 0, .int 0, .long 0, .int 0, .int 0, .int 0, .ref (am 4), .ref (am 5), .int 0, .int 0, .int 0, .int 0, .ref (am 6), .int (-1), .ref (am 7), .int 0, .int 0, .ref (am 8), .int (-1), .ref (am 9), .ref (am 10), .int 0, .int 0, .ref (am 11), .int 0, .int 0, .int 0, .ref (am 12), .int 0, .ref (am 13), .int 0, .int 0, .int 0, .int 0, .int 0, .ref (am 14), .ref (am 15), .ref (am 16), .ref (am 17)]))]) [0, 4, 26, 102, 120] (by decide) rfl
  refine lv_aload_n hx hb dL_law_220 rfl (lv_at hl 3 rfl) ?_
  refine lv_aload_n hx hb dL_law_221 rfl (lv_at hl 4 rfl) ?_
  refine lv_iload hx hb dL_law_222 (lv_at hl 0 rfl) ?_
  refine lv_iconst (v := 1) hx hb dL_law_224 (by decide) ?_
  refine lv_iadd hx hb dL_law_225 ?_
  refine lv_topi (fun y_1 ey_1 => ?_)
  obtain rfl : y_1 = 1 := ey_1.trans (by decide)
  refine va_sld hx hb hX hbl hbA hS (show ¬ (_ ∨ _) by decide) dL_law_226 ?_
  refine W.eq (g2 := F0 m 227 ls (.int (xs 1) :: [.ref (a 0)])) rfl ?_
  refine lv_aload_n hx hb dL_law_227 rfl (lv_at hl 4 rfl) ?_
  refine lv_iload hx hb dL_law_228 (lv_at hl 0 rfl) ?_
  refine lv_iconst (v := 2) hx hb dL_law_230 (by decide) ?_
  refine lv_iadd hx hb dL_law_231 ?_
  refine lv_topi (fun y_2 ey_2 => ?_)
  obtain rfl : y_2 = 2 := ey_2.trans (by decide)
  refine va_sld hx hb hX hbl hbA hS (show ¬ (_ ∨ _) by decide) dL_law_232 ?_
  refine W.eq (g2 := F0 m 233 ls (.int (xs 2) :: [.int (xs 1), .ref (a 0)])) rfl ?_
  refine lv_aload_n hx hb dL_law_233 rfl (lv_at hl 4 rfl) ?_
  refine lv_iload hx hb dL_law_234 (lv_at hl 0 rfl) ?_
  refine lv_iconst (v := 3) hx hb dL_law_236 (by decide) ?_
  refine lv_iadd hx hb dL_law_237 ?_
  refine lv_topi (fun y_3 ey_3 => ?_)
  obtain rfl : y_3 = 3 := ey_3.trans (by decide)
  refine va_sld hx hb hX hbl hbA hS (show ¬ (_ ∨ _) by decide) dL_law_238 ?_
  refine W.eq (g2 := F0 m 239 ls (.int (xs 3) :: [.int (xs 2), .int (xs 1), .ref (a 0)])) rfl ?_
  refine lv_aload_n hx hb dL_law_239 rfl (lv_at hl 4 rfl) ?_
  refine lv_iload hx hb dL_law_240 (lv_at hl 0 rfl) ?_
  refine lv_iconst (v := 4) hx hb dL_law_242 (by decide) ?_
  refine lv_iadd hx hb dL_law_243 ?_
  refine lv_topi (fun y_4 ey_4 => ?_)
  obtain rfl : y_4 = 4 := ey_4.trans (by decide)
  refine va_sld hx hb hX hbl hbA hS (show ¬ (_ ∨ _) by decide) dL_law_244 ?_
  refine W.eq (g2 := F0 m 245 ls (.int (xs 4) :: [.int (xs 3), .int (xs 2), .int (xs 1), .ref (a 0)])) rfl ?_
  refine lv_aload_n hx hb dL_law_245 rfl (lv_at hl 4 rfl) ?_
  refine lv_iload hx hb dL_law_246 (lv_at hl 0 rfl) ?_
  refine lv_iconst (v := 5) hx hb dL_law_248 (by decide) ?_
  refine lv_iadd hx hb dL_law_249 ?_
  refine lv_topi (fun y_5 ey_5 => ?_)
  obtain rfl : y_5 = 5 := ey_5.trans (by decide)
  refine va_sld hx hb hX hbl hbA hS (show ¬ (_ ∨ _) by decide) dL_law_250 ?_
  refine W.eq (g2 := F0 m 251 ls (.int (xs 5) :: [.int (xs 4), .int (xs 3), .int (xs 2), .int (xs 1), .ref (a 0)])) rfl ?_
  have hc9 := (k_X11_feed l D ad a t (xs 1) (xs 2) (xs 3) (xs 4) (xs 5) )
  refine z_calli (w0 := [(a 0, .inr (10, [.ref (a 4), .ref (a 5), .ref (a 6), .ref (a 7), .ref (a 8), .ref (a 9), .ref (a 10), .ref (a 11), .ref (a 12), .int 0, .ref (a 13), .ref (a 102), .ref (a 14), .ref (a 15), .int (-1), .int (-1)])), (a 4, .inr (6, [.ref (a 26), .int 0])), (a 26, .inl (t 6, 940, .inl (fun _ => 0)))]) (wr := [(am 0, .inl (tm 0, 940, .inl (fun _ => 0))), (am 18, .inr (11, [.int 0, .ref (am 0), .int 0, .int 0, .int 0, .int 0, .ref (am 1), .ref (am 19), .ref (am 2), .ref (am 3), .ref (am 20), .int 0, .int 0, .int 0, .int 0, .int 0, .int 0, .long 0, .int 0, .int 0, .int 0, .ref (am 4), .ref (am 5), .int 0, .int 0, .int 0, .int 0, .ref (am 6), .int (-1), .ref (am 7), .int 0, .int 0, .ref (am 8), .int (-1), .ref (am 9), .ref (am 10), .int 0, .int 0, .ref (am 11), .int 0, .int 0, .int 0, .ref (am 12), .int 0, .ref (am 13), .int 0, .int 0, .int 0, .int 0, .int 0, .ref (am 14), .ref (am 15), .ref (am 16), .ref (am 17)]))]) (va_runV (As := [.int (xs 1), .int (xs 2), .int (xs 3), .int (xs 4), .int (xs 5)]) (rest := []) ⟨hx, hb, hml, hown, hts⟩ (hc9 _) (cwV 5 hts gL_law_X11_feed rfl rfl rfl (by decide +kernel) ⟨Nat.le_of_ble_eq_true rfl, Nat.le_of_ble_eq_true rfl⟩) (z_preV hP hD hK hS hA hE hO [0, 1, 2] [0] rfl (by decide +kernel) rfl 0 10 rfl rfl rfl) rfl rfl hl.1 rfl (lv_room (Nat.le_of_ble_eq_true rfl)) dL_law_251 ⟨Nat.le_of_ble_eq_true rfl, Nat.le_of_ble_eq_true rfl⟩) hP hD hK hS hA [0, 1, 2] [3, 4] rfl rfl (by decide +kernel) (by decide +kernel) (fun r9 u9 H locs hw hP hD hK hS => ?_)
  obtain ⟨er9, rfl⟩ := hw
  have hP : va_P D vwCl [(am 0, .inl (tm 0, 940, .inl (fun _ => 0))), (am 18, .inr (11, [.int 0, .ref (am 0), .int 0, .int 0, .int 0, .int 0, .ref (am 1), .ref (am 19), .ref (am 2), .ref (am 3), .ref (am 20), .int 0, .int 0, .int 0, .int 0, .int 0, .int 0, .long 0, .int 0, .int 0, .int 0, .ref (am 4), .ref (am 5), .int 0, .int 0, .int 0, .int 0, .ref (am 6), .int (-1), .ref (am 7), .int 0, .int 0, .ref (am 8), .int (-1), .ref (am 9), .ref (am 10), .int 0, .int 0, .ref (am 11), .int 0, .int 0, .int 0, .ref (am 12), .int 0, .ref (am 13), .int 0, .int 0, .int 0, .int 0, .int 0, .ref (am 14), .ref (am 15), .ref (am 16), .ref (am 17)]))] H := hP
  have hD : va_D A [(am 0, .inl (tm 0, 940, .inl (fun _ => 0))), (am 18, .inr (11, [.int 0, .ref (am 0), .int 0, .int 0, .int 0, .int 0, .ref (am 1), .ref (am 19), .ref (am 2), .ref (am 3), .ref (am 20), .int 0, .int 0, .int 0, .int 0, .int 0, .int 0, .long 0, .int 0, .int 0, .int 0, .ref (am 4), .ref (am 5), .int 0, .int 0, .int 0, .int 0, .ref (am 6), .int (-1), .ref (am 7), .int 0, .int 0, .ref (am 8), .int (-1), .ref (am 9), .ref (am 10), .int 0, .int 0, .ref (am 11), .int 0, .int 0, .int 0, .ref (am 12), .int 0, .ref (am 13), .int 0, .int 0, .int 0, .int 0, .int 0, .ref (am 14), .ref (am 15), .ref (am 16), .ref (am 17)]))] := hD
  have hK : va_K D vwCl ((gFt t ++ gMt tm) ++ [(to, .long)]) s := hK
  refine W.cs (cells' := 212) (slots' := 5680) rfl rfl ?_
  obtain rfl := er9
  refine W.eq (g2 := F0 m 254 ls (.int (nI ((((((((((((((((((((0 + 1) + 1) + 1) + 1) + 1) + 1) + 1) + 1) + 1) + 1) + 1) + 1) + 1) + 1) + 1) + 1) + 1) + 1) + 1) + 1)) :: [])) rfl ?_
  refine lv_aload_n hx hb dL_law_254 rfl (lv_at hl 2 rfl) ?_
  refine lv_aload_n hx hb dL_law_255 rfl (lv_at hl 4 rfl) ?_
  refine lv_iload hx hb dL_law_256 (lv_at hl 0 rfl) ?_
  refine lv_iconst (v := 1) hx hb dL_law_258 (by decide) ?_
  refine lv_iadd hx hb dL_law_259 ?_
  refine lv_topi (fun y_6 ey_6 => ?_)
  obtain rfl : y_6 = 1 := ey_6.trans (by decide)
  refine va_sld hx hb hX hbl hbA hS (show ¬ (_ ∨ _) by decide) dL_law_260 ?_
  refine W.eq (g2 := F0 m 261 ls (.int (xs 1) :: [.ref (am 18), .int (nI ((((((((((((((((((((0 + 1) + 1) + 1) + 1) + 1) + 1) + 1) + 1) + 1) + 1) + 1) + 1) + 1) + 1) + 1) + 1) + 1) + 1) + 1) + 1))])) rfl ?_
  refine lv_aload_n hx hb dL_law_261 rfl (lv_at hl 4 rfl) ?_
  refine lv_iload hx hb dL_law_262 (lv_at hl 0 rfl) ?_
  refine lv_iconst (v := 2) hx hb dL_law_264 (by decide) ?_
  refine lv_iadd hx hb dL_law_265 ?_
  refine lv_topi (fun y_7 ey_7 => ?_)
  obtain rfl : y_7 = 2 := ey_7.trans (by decide)
  refine va_sld hx hb hX hbl hbA hS (show ¬ (_ ∨ _) by decide) dL_law_266 ?_
  refine W.eq (g2 := F0 m 267 ls (.int (xs 2) :: [.int (xs 1), .ref (am 18), .int (nI ((((((((((((((((((((0 + 1) + 1) + 1) + 1) + 1) + 1) + 1) + 1) + 1) + 1) + 1) + 1) + 1) + 1) + 1) + 1) + 1) + 1) + 1) + 1))])) rfl ?_
  refine lv_aload_n hx hb dL_law_267 rfl (lv_at hl 4 rfl) ?_
  refine lv_iload hx hb dL_law_268 (lv_at hl 0 rfl) ?_
  refine lv_iconst (v := 3) hx hb dL_law_270 (by decide) ?_
  refine lv_iadd hx hb dL_law_271 ?_
  refine lv_topi (fun y_8 ey_8 => ?_)
  obtain rfl : y_8 = 3 := ey_8.trans (by decide)
  refine va_sld hx hb hX hbl hbA hS (show ¬ (_ ∨ _) by decide) dL_law_272 ?_
  refine W.eq (g2 := F0 m 273 ls (.int (xs 3) :: [.int (xs 2), .int (xs 1), .ref (am 18), .int (nI ((((((((((((((((((((0 + 1) + 1) + 1) + 1) + 1) + 1) + 1) + 1) + 1) + 1) + 1) + 1) + 1) + 1) + 1) + 1) + 1) + 1) + 1) + 1))])) rfl ?_
  refine lv_aload_n hx hb dL_law_273 rfl (lv_at hl 4 rfl) ?_
  refine lv_iload hx hb dL_law_274 (lv_at hl 0 rfl) ?_
  refine lv_iconst (v := 4) hx hb dL_law_276 (by decide) ?_
  refine lv_iadd hx hb dL_law_277 ?_
  refine lv_topi (fun y_9 ey_9 => ?_)
  obtain rfl : y_9 = 4 := ey_9.trans (by decide)
  refine va_sld hx hb hX hbl hbA hS (show ¬ (_ ∨ _) by decide) dL_law_278 ?_
  refine W.eq (g2 := F0 m 279 ls (.int (xs 4) :: [.int (xs 3), .int (xs 2), .int (xs 1), .ref (am 18), .int (nI ((((((((((((((((((((0 + 1) + 1) + 1) + 1) + 1) + 1) + 1) + 1) + 1) + 1) + 1) + 1) + 1) + 1) + 1) + 1) + 1) + 1) + 1) + 1))])) rfl ?_
  refine lv_aload_n hx hb dL_law_279 rfl (lv_at hl 4 rfl) ?_
  refine lv_iload hx hb dL_law_280 (lv_at hl 0 rfl) ?_
  refine lv_iconst (v := 5) hx hb dL_law_282 (by decide) ?_
  refine lv_iadd hx hb dL_law_283 ?_
  refine lv_topi (fun y_10 ey_10 => ?_)
  obtain rfl : y_10 = 5 := ey_10.trans (by decide)
  refine va_sld hx hb hX hbl hbA hS (show ¬ (_ ∨ _) by decide) dL_law_284 ?_
  refine W.eq (g2 := F0 m 285 ls (.int (xs 5) :: [.int (xs 4), .int (xs 3), .int (xs 2), .int (xs 1), .ref (am 18), .int (nI ((((((((((((((((((((0 + 1) + 1) + 1) + 1) + 1) + 1) + 1) + 1) + 1) + 1) + 1) + 1) + 1) + 1) + 1) + 1) + 1) + 1) + 1) + 1))])) rfl ?_
  have hc9 := (k_X12_feed l D ad am tm (xs 1) (xs 2) (xs 3) (xs 4) (xs 5) 0 0 0 (am 1) (am 19) (am 2) (am 3) (am 20) 0 0 0 0 0 0 0 0 0 0 (am 4) (am 5) 0 0 0 0 (am 6) (-1) (am 7) 0 0 (am 8) (-1) (am 9) (am 10) 0 0 (am 11) 0 0 0 (am 12) 0 (am 13) 0 0 0 0 0 (am 14) (am 15) (am 16) (am 17) )
  refine z_calli (w0 := [(am 0, .inl (tm 0, 940, .inl (fun _ => 0))), (am 18, .inr (11, [.int 0, .ref (am 0), .int 0, .int 0, .int 0, .int 0, .ref (am 1), .ref (am 19), .ref (am 2), .ref (am 3), .ref (am 20), .int 0, .int 0, .int 0, .int 0, .int 0, .int 0, .long 0, .int 0, .int 0, .int 0, .ref (am 4), .ref (am 5), .int 0, .int 0, .int 0, .int 0, .ref (am 6), .int (-1), .ref (am 7), .int 0, .int 0, .ref (am 8), .int (-1), .ref (am 9), .ref (am 10), .int 0, .int 0, .ref (am 11), .int 0, .int 0, .int 0, .ref (am 12), .int 0, .ref (am 13), .int 0, .int 0, .int 0, .int 0, .int 0, .ref (am 14), .ref (am 15), .ref (am 16), .ref (am 17)]))]) (wr := []) (va_runV (As := [.int (xs 1), .int (xs 2), .int (xs 3), .int (xs 4), .int (xs 5)]) (rest := [.int (nI ((((((((((((((((((((0 + 1) + 1) + 1) + 1) + 1) + 1) + 1) + 1) + 1) + 1) + 1) + 1) + 1) + 1) + 1) + 1) + 1) + 1) + 1) + 1))]) ⟨hx, hb, hml, hown, hts⟩ (hc9 _) (cwV 5 hts gL_law_X12_feed rfl rfl rfl (by decide +kernel) ⟨Nat.le_of_ble_eq_true rfl, Nat.le_of_ble_eq_true rfl⟩) (z_preV hP hD hK hS hA hE hO [0, 1] [66] rfl (by decide +kernel) rfl 1 11 rfl rfl rfl) rfl rfl hl.1 rfl (lv_room (Nat.le_of_ble_eq_true rfl)) dL_law_285 ⟨Nat.le_of_ble_eq_true rfl, Nat.le_of_ble_eq_true rfl⟩) hP hD hK hS hA [0, 1] [] rfl rfl (by decide +kernel) (by decide +kernel) (fun r9 u9 H locs hw hP hD hK hS => ?_)
  obtain ⟨er9, rfl⟩ := hw
  have hP : va_P D vwCl [] H := hP
  have hD : va_D A [] := hD
  have hK : va_K D vwCl ((gFt t ++ gMt tm) ++ [(to, .long)]) s := hK
  refine W.cs (cells' := 212) (slots' := 5680) rfl rfl ?_
  obtain rfl := er9
  refine W.eq (g2 := F0 m 288 ls (.int (nI ((((((((((((((((((((0 + 1) + 1) + 1) + 1) + 1) + 1) + 1) + 1) + 1) + 1) + 1) + 1) + 1) + 1) + 1) + 1) + 1) + 1) + 1) + 1)) :: [.int (nI ((((((((((((((((((((0 + 1) + 1) + 1) + 1) + 1) + 1) + 1) + 1) + 1) + 1) + 1) + 1) + 1) + 1) + 1) + 1) + 1) + 1) + 1) + 1))])) rfl ?_
  refine lv_icmp_eq (tgt := 1398) hx hb dL_law_288 (by decide) (fun _ => ?_) (fun h9 => absurd rfl h9)
  exact law_end G0 hS (by decide) (by decide) (lv_sub hl [0, 4] rfl)

set_option maxHeartbeats 8000000 in
set_option maxRecDepth 100000 in
theorem lc_1 {p : Program} {l : Launch} {e : Env} {s : State} {m : MethodId} {below : List Frame} {meth : Method} {c : Code} {D : va_G} {ad : Nat → Nat} {A : Nat → Prop} {b : Nat} {xs : Nat → Int32} (G : z_G p s m meth c ad A b xs) {a am : Nat → Nat} {t tm : Nat → ClassId} {qo : Nat} {to : ClassId} {H : Heap} {locs : List Loc} {ls : Array Slot} (hP : va_P D vwCl ((gF ad a t ++ gM ad am tm) ++ [(qo, .inl (to, 1, .inr (.inl (fun _ => 0))))]) H) (hD : va_D A ((gF ad a t ++ gM ad am tm) ++ [(qo, .inl (to, 1, .inr (.inl (fun _ => 0))))])) (hK : va_K D vwCl ((gFt t ++ gMt tm) ++ [(to, .long)]) s) (hS : va_S A s.heap H locs) (hl : lv_has ls 7 [(4, .int 0), (3, .ref qo), (2, .ref (am 18)), (1, .ref (a 0)), (0, .ref b)]) : W p l e room_1 s m #[Value.ref b] below meth c H locs 212 5680 (lw_Z below #[Value.ref b] s) (F0 m 293 ls []) := by
  have G0 := G
  obtain ⟨hx, hb, hr, hml, hown, hts, hX, hbl, hbA, hA, hAl, hlocks, hE, hO⟩ := G
  have hP := hP.sub (ws' := [(a 0, .inr (10, [.ref (a 4), .ref (a 5), .ref (a 6), .ref (a 7), .ref (a 8), .ref (a 9), .ref (a 10), .ref (a 11), .ref (a 12), .int 0, .ref (a 13), .ref (a 102), .ref (a 14), .ref (a 15), .int (-1), .int (-1)])), (a 4, .inr (6, [.ref (a 26), .int 0])), (am 18, .inr (11, [.int 0, .ref (am 0), .int 0, .int 0, .int 0, .int 0, .ref (am 1), .ref (am 19), .ref (am 2), .ref (am 3), .ref (am 20), .int 0, .int 0, .int 0, .int 0, .int 0, .int 0, .long 0, .int 0, .int 0, .int 0, .ref (am 4), .ref (am 5), .int 0, .int 0, .int 0, .int 0, .ref (am 6), .int (-1), .ref (am 7), .int 0, .int 0, .ref (am 8), .int (-1), .ref (am 9), .ref (am 10), .int 0, .int 0, .ref (am 11), .int 0, .int 0, .int 0, .ref (am 12), .int 0, .ref (am 13), .int 0, .int 0, .int 0, .int 0, .int 0, .ref (am 14), .ref (am 15), .ref (am 16), .ref (am 17)]))]) [0, 4, 120] rfl
  have hD := hD.sub (ws' := [(a 0, .inr (10, [.ref (a 4), .ref (a 5), .ref (a 6), .ref (a 7), .ref (a 8), .ref (a 9), .ref (a 10), .ref (a 11), .ref (a 12), .int 0, .ref (a 13), .ref (a 102), .ref (a 14), .ref (a 15), .int (-1), .int (-1)])), (a 4, .inr (6, [.ref (a 26), .int 0])), (am 18, .inr (11, [.int 0, .ref (am 0), .int 0, .int 0, .int 0, .int 0, .ref (am 1), .ref (am 19), .ref (am 2), .ref (am 3), .ref (am 20), .int 0, .int 0, .int 0, .int 0, .int 0, .int 0, .long 0, .int 0, .int 0, .int 0, .ref (am 4), .ref (am 5), .int 0, .int 0, .int 0, .int 0, .ref (am 6), .int (-1), .ref (am 7), .int 0, .int 0, .ref (am 8), .int (-1), .ref (am 9), .ref (am 10), .int 0, .int 0, .ref (am 11), .int 0, .int 0, .int 0, .ref (am 12), .int 0, .ref (am 13), .int 0, .int 0, .int 0, .int 0, .int 0, .ref (am 14), .ref (am 15), .ref (am 16), .ref (am 17)]))]) [0, 4, 120] (by decide) rfl
  refine lv_aload_n hx hb dL_law_293 rfl (lv_at hl 3 rfl) ?_
  refine lv_aload_n hx hb dL_law_294 rfl (lv_at hl 4 rfl) ?_
  refine lv_iload hx hb dL_law_295 (lv_at hl 0 rfl) ?_
  refine lv_iconst (v := 1) hx hb dL_law_297 (by decide) ?_
  refine lv_iadd hx hb dL_law_298 ?_
  refine lv_topi (fun y_1 ey_1 => ?_)
  obtain rfl : y_1 = 1 := ey_1.trans (by decide)
  refine va_sld hx hb hX hbl hbA hS (show ¬ (_ ∨ _) by decide) dL_law_299 ?_
  refine W.eq (g2 := F0 m 300 ls (.int (xs 1) :: [.ref (a 0)])) rfl ?_
  have hc9 := (k_X11_end l D ad a (xs 1) )
  refine z_calli (w0 := [(a 0, .inr (10, [.ref (a 4), .ref (a 5), .ref (a 6), .ref (a 7), .ref (a 8), .ref (a 9), .ref (a 10), .ref (a 11), .ref (a 12), .int 0, .ref (a 13), .ref (a 102), .ref (a 14), .ref (a 15), .int (-1), .int (-1)])), (a 4, .inr (6, [.ref (a 26), .int 0]))]) (wr := [(am 18, .inr (11, [.int 0, .ref (am 0), .int 0, .int 0, .int 0, .int 0, .ref (am 1), .ref (am 19), .ref (am 2), .ref (am 3), .ref (am 20), .int 0, .int 0, .int 0, .int 0, .int 0, .int 0, .long 0, .int 0, .int 0, .int 0, .ref (am 4), .ref (am 5), .int 0, .int 0, .int 0, .int 0, .ref (am 6), .int (-1), .ref (am 7), .int 0, .int 0, .ref (am 8), .int (-1), .ref (am 9), .ref (am 10), .int 0, .int 0, .ref (am 11), .int 0, .int 0, .int 0, .ref (am 12), .int 0, .ref (am 13), .int 0, .int 0, .int 0, .int 0, .int 0, .ref (am 14), .ref (am 15), .ref (am 16), .ref (am 17)]))]) (va_runV (As := [.int (xs 1)]) (rest := []) ⟨hx, hb, hml, hown, hts⟩ (hc9 _) (cwV 1 hts gL_law_X11_end rfl rfl rfl (by decide +kernel) ⟨Nat.le_of_ble_eq_true rfl, Nat.le_of_ble_eq_true rfl⟩) (z_preV hP hD hK hS hA hE hO [0, 1] [] rfl (by decide +kernel) rfl 0 10 rfl rfl rfl) rfl rfl hl.1 rfl (lv_room (Nat.le_of_ble_eq_true rfl)) dL_law_300 ⟨Nat.le_of_ble_eq_true rfl, Nat.le_of_ble_eq_true rfl⟩) hP hD hK hS hA [0, 1] [2] rfl rfl (by decide +kernel) (by decide +kernel) (fun r9 u9 H locs hw hP hD hK hS => ?_)
  obtain ⟨er9, rfl⟩ := hw
  have hP : va_P D vwCl [(am 18, .inr (11, [.int 0, .ref (am 0), .int 0, .int 0, .int 0, .int 0, .ref (am 1), .ref (am 19), .ref (am 2), .ref (am 3), .ref (am 20), .int 0, .int 0, .int 0, .int 0, .int 0, .int 0, .long 0, .int 0, .int 0, .int 0, .ref (am 4), .ref (am 5), .int 0, .int 0, .int 0, .int 0, .ref (am 6), .int (-1), .ref (am 7), .int 0, .int 0, .ref (am 8), .int (-1), .ref (am 9), .ref (am 10), .int 0, .int 0, .ref (am 11), .int 0, .int 0, .int 0, .ref (am 12), .int 0, .ref (am 13), .int 0, .int 0, .int 0, .int 0, .int 0, .ref (am 14), .ref (am 15), .ref (am 16), .ref (am 17)]))] H := hP
  have hD : va_D A [(am 18, .inr (11, [.int 0, .ref (am 0), .int 0, .int 0, .int 0, .int 0, .ref (am 1), .ref (am 19), .ref (am 2), .ref (am 3), .ref (am 20), .int 0, .int 0, .int 0, .int 0, .int 0, .int 0, .long 0, .int 0, .int 0, .int 0, .ref (am 4), .ref (am 5), .int 0, .int 0, .int 0, .int 0, .ref (am 6), .int (-1), .ref (am 7), .int 0, .int 0, .ref (am 8), .int (-1), .ref (am 9), .ref (am 10), .int 0, .int 0, .ref (am 11), .int 0, .int 0, .int 0, .ref (am 12), .int 0, .ref (am 13), .int 0, .int 0, .int 0, .int 0, .int 0, .ref (am 14), .ref (am 15), .ref (am 16), .ref (am 17)]))] := hD
  have hK : va_K D vwCl ((gFt t ++ gMt tm) ++ [(to, .long)]) s := hK
  refine W.cs (cells' := 212) (slots' := 5680) rfl rfl ?_
  obtain rfl := er9
  refine W.eq (g2 := F0 m 303 ls (.int (s_X11_end (xs 1)) :: [])) rfl ?_
  refine lv_aload_n hx hb dL_law_303 rfl (lv_at hl 2 rfl) ?_
  refine lv_aload_n hx hb dL_law_304 rfl (lv_at hl 4 rfl) ?_
  refine lv_iload hx hb dL_law_305 (lv_at hl 0 rfl) ?_
  refine lv_iconst (v := 1) hx hb dL_law_307 (by decide) ?_
  refine lv_iadd hx hb dL_law_308 ?_
  refine lv_topi (fun y_2 ey_2 => ?_)
  obtain rfl : y_2 = 1 := ey_2.trans (by decide)
  refine va_sld hx hb hX hbl hbA hS (show ¬ (_ ∨ _) by decide) dL_law_309 ?_
  refine W.eq (g2 := F0 m 310 ls (.int (xs 1) :: [.ref (am 18), .int (s_X11_end (xs 1))])) rfl ?_
  have hc9 := (k_X12_end l D ad am (xs 1) (am 0) 0 0 0 (am 1) (am 19) (am 2) (am 3) (am 20) 0 0 0 0 0 0 0 0 0 0 (am 4) (am 5) 0 0 0 0 (am 6) (-1) (am 7) 0 0 (am 8) (-1) (am 9) (am 10) 0 0 (am 11) 0 0 0 (am 12) 0 (am 13) 0 0 0 0 0 (am 14) (am 15) (am 16) (am 17) )
  refine z_calli (w0 := [(am 18, .inr (11, [.int 0, .ref (am 0), .int 0, .int 0, .int 0, .int 0, .ref (am 1), .ref (am 19), .ref (am 2), .ref (am 3), .ref (am 20), .int 0, .int 0, .int 0, .int 0, .int 0, .int 0, .long 0, .int 0, .int 0, .int 0, .ref (am 4), .ref (am 5), .int 0, .int 0, .int 0, .int 0, .ref (am 6), .int (-1), .ref (am 7), .int 0, .int 0, .ref (am 8), .int (-1), .ref (am 9), .ref (am 10), .int 0, .int 0, .ref (am 11), .int 0, .int 0, .int 0, .ref (am 12), .int 0, .ref (am 13), .int 0, .int 0, .int 0, .int 0, .int 0, .ref (am 14), .ref (am 15), .ref (am 16), .ref (am 17)]))]) (wr := []) (va_runV (As := [.int (xs 1)]) (rest := [.int (s_X11_end (xs 1))]) ⟨hx, hb, hml, hown, hts⟩ (hc9 _) (cwV 1 hts gL_law_X12_end rfl rfl rfl (by decide +kernel) ⟨Nat.le_of_ble_eq_true rfl, Nat.le_of_ble_eq_true rfl⟩) (z_preV hP hD hK hS hA hE hO [0] [] rfl (by decide +kernel) rfl 0 11 rfl rfl rfl) rfl rfl hl.1 rfl (lv_room (Nat.le_of_ble_eq_true rfl)) dL_law_310 ⟨Nat.le_of_ble_eq_true rfl, Nat.le_of_ble_eq_true rfl⟩) hP hD hK hS hA [0] [] rfl rfl (by decide +kernel) (by decide +kernel) (fun r9 u9 H locs hw hP hD hK hS => ?_)
  obtain ⟨er9, rfl⟩ := hw
  have hP : va_P D vwCl [] H := hP
  have hD : va_D A [] := hD
  have hK : va_K D vwCl ((gFt t ++ gMt tm) ++ [(to, .long)]) s := hK
  refine W.cs (cells' := 212) (slots' := 5680) rfl rfl ?_
  obtain rfl := er9
  refine W.eq (g2 := F0 m 313 ls (.int (s_X12_end (xs 1)) :: [.int (s_X11_end (xs 1))])) rfl ?_
  refine lv_icmp_eq (tgt := 1398) hx hb dL_law_313 (by decide) (fun _ => ?_) (fun h9 => absurd (e_end (xs 1)) h9)
  exact law_end G0 hS (by decide) (by decide) (lv_sub hl [0, 4] rfl)

set_option maxHeartbeats 8000000 in
set_option maxRecDepth 100000 in
theorem lc_2 {p : Program} {l : Launch} {e : Env} {s : State} {m : MethodId} {below : List Frame} {meth : Method} {c : Code} {D : va_G} {ad : Nat → Nat} {A : Nat → Prop} {b : Nat} {xs : Nat → Int32} (G : z_G p s m meth c ad A b xs) {a am : Nat → Nat} {t tm : Nat → ClassId} {qo : Nat} {to : ClassId} {H : Heap} {locs : List Loc} {ls : Array Slot} (hP : va_P D vwCl ((gF ad a t ++ gM ad am tm) ++ [(qo, .inl (to, 1, .inr (.inl (fun _ => 0))))]) H) (hD : va_D A ((gF ad a t ++ gM ad am tm) ++ [(qo, .inl (to, 1, .inr (.inl (fun _ => 0))))])) (hK : va_K D vwCl ((gFt t ++ gMt tm) ++ [(to, .long)]) s) (hS : va_S A s.heap H locs) (hl : lv_has ls 7 [(4, .int 0), (3, .ref qo), (2, .ref (am 18)), (1, .ref (a 0)), (0, .ref b)]) : W p l e room_1 s m #[Value.ref b] below meth c H locs 212 5680 (lw_Z below #[Value.ref b] s) (F0 m 318 ls []) := by
  have G0 := G
  obtain ⟨hx, hb, hr, hml, hown, hts, hX, hbl, hbA, hA, hAl, hlocks, hE, hO⟩ := G
  have hP := hP.sub (ws' := [(a 0, .inr (10, [.ref (a 4), .ref (a 5), .ref (a 6), .ref (a 7), .ref (a 8), .ref (a 9), .ref (a 10), .ref (a 11), .ref (a 12), .int 0, .ref (a 13), .ref (a 102), .ref (a 14), .ref (a 15), .int (-1), .int (-1)])), (a 4, .inr (6, [.ref (a 26), .int 0])), (a 5, .inr (7, [.ref (a 4), .int 0, .int 0, .int 0, .int 0, .int 0, .long 0, .ref (ad 0), .int 0, .int 0])), (a 6, .inr (9, [.ref (a 7), .ref (a 8), .ref (a 27), .int 0])), (a 7, .inr (8, [.ref (a 28), .ref (a 29), .ref (a 30), .int 0, .ref (a 31), .ref (a 32), .ref (a 33), .int 0, .ref (a 34), .ref (a 35), .ref (a 36), .int 2])), (a 8, .inr (4, [.ref (a 7), .int 0, .int 0, .int 0, .ref (a 37), .ref (a 38), .ref (a 39), .ref (a 40)])), (a 9, .inr (9, [.ref (a 41), .ref (a 42), .ref (a 43), .int 0])), (a 27, .inr (5, [.ref (a 127), .ref (a 128), .ref (a 129), .ref (a 130), .ref (a 131), .int 0, .int 0, .int 0, .int 0, .int 0])), (a 28, .inr (2, [.ref (a 77), .int 0])), (a 29, .inr (2, [.ref (a 78), .int 0])), (a 30, .inr (2, [.ref (a 79), .int 0])), (a 31, .inl (t 7, 7, .inl (fun _ => 0))), (a 32, .inl (t 8, 6, .inl (fun _ => 0))), (a 33, .inl (t 9, 6, .inl (fun _ => 0))), (a 34, .inl (t 10, 14, .inl (fun _ => 0))), (a 35, .inl (t 11, 14, .inl (fun _ => 0))), (a 36, .inl (t 12, 14, .inl (fun _ => 0))), (a 37, .inl (t 13, 7, .inl (fun _ => 0))), (a 38, .inl (t 14, 6, .inl (fun _ => 0))), (a 39, .inl (t 15, 6, .inl (fun _ => 0))), (a 40, .inl (t 16, 6, .inl (fun _ => 0))), (a 41, .inr (8, [.ref (a 80), .ref (a 81), .ref (a 82), .int 0, .ref (a 83), .ref (a 84), .ref (a 85), .int 0, .ref (a 86), .ref (a 87), .ref (a 88), .int 2])), (a 42, .inr (4, [.ref (a 41), .int 0, .int 0, .int 0, .ref (a 89), .ref (a 90), .ref (a 91), .ref (a 92)])), (a 43, .inr (5, [.ref (a 132), .ref (a 133), .ref (a 134), .ref (a 135), .ref (a 136), .int 0, .int 0, .int 0, .int 0, .int 0])), (a 77, .inl (t 44, 5, .inr (.inl (fun _ => 0)))), (a 78, .inl (t 45, 7, .inr (.inl (fun _ => 0)))), (a 79, .inl (t 46, 6, .inr (.inl (fun _ => 0)))), (a 80, .inr (2, [.ref (a 99), .int 0])), (a 81, .inr (2, [.ref (a 100), .int 0])), (a 82, .inr (2, [.ref (a 101), .int 0])), (a 83, .inl (t 47, 7, .inl (fun _ => 0))), (a 84, .inl (t 48, 6, .inl (fun _ => 0))), (a 85, .inl (t 49, 6, .inl (fun _ => 0))), (a 86, .inl (t 50, 14, .inl (fun _ => 0))), (a 87, .inl (t 51, 14, .inl (fun _ => 0))), (a 88, .inl (t 52, 14, .inl (fun _ => 0))), (a 89, .inl (t 53, 7, .inl (fun _ => 0))), (a 90, .inl (t 54, 6, .inl (fun _ => 0))), (a 91, .inl (t 55, 6, .inl (fun _ => 0))), (a 92, .inl (t 56, 6, .inl (fun _ => 0))), (a 99, .inl (t 63, 5, .inr (.inl (fun _ => 0)))), (a 100, .inl (t 64, 7, .inr (.inl (fun _ => 0)))), (a 101, .inl (t 65, 6, .inr (.inl (fun _ => 0)))), (am 1, .inl (tm 1, 283, .inl (upd (fun _ => 0) 4 2))), (am 3, .inl (tm 3, 36, .inr (.inl (fun _ => 0)))), (am 18, .inr (11, [.int 0, .ref (am 0), .int 0, .int 0, .int 0, .int 0, .ref (am 1), .ref (am 19), .ref (am 2), .ref (am 3), .ref (am 20), .int 0, .int 0, .int 0, .int 0, .int 0, .int 0, .long 0, .int 0, .int 0, .int 0, .ref (am 4), .ref (am 5), .int 0, .int 0, .int 0, .int 0, .ref (am 6), .int (-1), .ref (am 7), .int 0, .int 0, .ref (am 8), .int (-1), .ref (am 9), .ref (am 10), .int 0, .int 0, .ref (am 11), .int 0, .int 0, .int 0, .ref (am 12), .int 0, .ref (am 13), .int 0, .int 0, .int 0, .int 0, .int 0, .ref (am 14), .ref (am 15), .ref (am 16), .ref (am 17)])), (am 19, .inl (tm 18, 67, .inl (upd (fun _ => 0) 4 2)))]) [0, 4, 5, 6, 7, 8, 9, 27, 28, 29, 30, 31, 32, 33, 34, 35, 36, 37, 38, 39, 40, 41, 42, 43, 77, 78, 79, 80, 81, 82, 83, 84, 85, 86, 87, 88, 89, 90, 91, 92, 99, 100, 101, 103, 105, 120, 121] rfl
  have hD := hD.sub (ws' := [(a 0, .inr (10, [.ref (a 4), .ref (a 5), .ref (a 6), .ref (a 7), .ref (a 8), .ref (a 9), .ref (a 10), .ref (a 11), .ref (a 12), .int 0, .ref (a 13), .ref (a 102), .ref (a 14), .ref (a 15), .int (-1), .int (-1)])), (a 4, .inr (6, [.ref (a 26), .int 0])), (a 5, .inr (7, [.ref (a 4), .int 0, .int 0, .int 0, .int 0, .int 0, .long 0, .ref (ad 0), .int 0, .int 0])), (a 6, .inr (9, [.ref (a 7), .ref (a 8), .ref (a 27), .int 0])), (a 7, .inr (8, [.ref (a 28), .ref (a 29), .ref (a 30), .int 0, .ref (a 31), .ref (a 32), .ref (a 33), .int 0, .ref (a 34), .ref (a 35), .ref (a 36), .int 2])), (a 8, .inr (4, [.ref (a 7), .int 0, .int 0, .int 0, .ref (a 37), .ref (a 38), .ref (a 39), .ref (a 40)])), (a 9, .inr (9, [.ref (a 41), .ref (a 42), .ref (a 43), .int 0])), (a 27, .inr (5, [.ref (a 127), .ref (a 128), .ref (a 129), .ref (a 130), .ref (a 131), .int 0, .int 0, .int 0, .int 0, .int 0])), (a 28, .inr (2, [.ref (a 77), .int 0])), (a 29, .inr (2, [.ref (a 78), .int 0])), (a 30, .inr (2, [.ref (a 79), .int 0])), (a 31, .inl (t 7, 7, .inl (fun _ => 0))), (a 32, .inl (t 8, 6, .inl (fun _ => 0))), (a 33, .inl (t 9, 6, .inl (fun _ => 0))), (a 34, .inl (t 10, 14, .inl (fun _ => 0))), (a 35, .inl (t 11, 14, .inl (fun _ => 0))), (a 36, .inl (t 12, 14, .inl (fun _ => 0))), (a 37, .inl (t 13, 7, .inl (fun _ => 0))), (a 38, .inl (t 14, 6, .inl (fun _ => 0))), (a 39, .inl (t 15, 6, .inl (fun _ => 0))), (a 40, .inl (t 16, 6, .inl (fun _ => 0))), (a 41, .inr (8, [.ref (a 80), .ref (a 81), .ref (a 82), .int 0, .ref (a 83), .ref (a 84), .ref (a 85), .int 0, .ref (a 86), .ref (a 87), .ref (a 88), .int 2])), (a 42, .inr (4, [.ref (a 41), .int 0, .int 0, .int 0, .ref (a 89), .ref (a 90), .ref (a 91), .ref (a 92)])), (a 43, .inr (5, [.ref (a 132), .ref (a 133), .ref (a 134), .ref (a 135), .ref (a 136), .int 0, .int 0, .int 0, .int 0, .int 0])), (a 77, .inl (t 44, 5, .inr (.inl (fun _ => 0)))), (a 78, .inl (t 45, 7, .inr (.inl (fun _ => 0)))), (a 79, .inl (t 46, 6, .inr (.inl (fun _ => 0)))), (a 80, .inr (2, [.ref (a 99), .int 0])), (a 81, .inr (2, [.ref (a 100), .int 0])), (a 82, .inr (2, [.ref (a 101), .int 0])), (a 83, .inl (t 47, 7, .inl (fun _ => 0))), (a 84, .inl (t 48, 6, .inl (fun _ => 0))), (a 85, .inl (t 49, 6, .inl (fun _ => 0))), (a 86, .inl (t 50, 14, .inl (fun _ => 0))), (a 87, .inl (t 51, 14, .inl (fun _ => 0))), (a 88, .inl (t 52, 14, .inl (fun _ => 0))), (a 89, .inl (t 53, 7, .inl (fun _ => 0))), (a 90, .inl (t 54, 6, .inl (fun _ => 0))), (a 91, .inl (t 55, 6, .inl (fun _ => 0))), (a 92, .inl (t 56, 6, .inl (fun _ => 0))), (a 99, .inl (t 63, 5, .inr (.inl (fun _ => 0)))), (a 100, .inl (t 64, 7, .inr (.inl (fun _ => 0)))), (a 101, .inl (t 65, 6, .inr (.inl (fun _ => 0)))), (am 1, .inl (tm 1, 283, .inl (upd (fun _ => 0) 4 2))), (am 3, .inl (tm 3, 36, .inr (.inl (fun _ => 0)))), (am 18, .inr (11, [.int 0, .ref (am 0), .int 0, .int 0, .int 0, .int 0, .ref (am 1), .ref (am 19), .ref (am 2), .ref (am 3), .ref (am 20), .int 0, .int 0, .int 0, .int 0, .int 0, .int 0, .long 0, .int 0, .int 0, .int 0, .ref (am 4), .ref (am 5), .int 0, .int 0, .int 0, .int 0, .ref (am 6), .int (-1), .ref (am 7), .int 0, .int 0, .ref (am 8), .int (-1), .ref (am 9), .ref (am 10), .int 0, .int 0, .ref (am 11), .int 0, .int 0, .int 0, .ref (am 12), .int 0, .ref (am 13), .int 0, .int 0, .int 0, .int 0, .int 0, .ref (am 14), .ref (am 15), .ref (am 16), .ref (am 17)])), (am 19, .inl (tm 18, 67, .inl (upd (fun _ => 0) 4 2)))]) [0, 4, 5, 6, 7, 8, 9, 27, 28, 29, 30, 31, 32, 33, 34, 35, 36, 37, 38, 39, 40, 41, 42, 43, 77, 78, 79, 80, 81, 82, 83, 84, 85, 86, 87, 88, 89, 90, 91, 92, 99, 100, 101, 103, 105, 120, 121] (by decide) rfl
  refine lv_aload_n hx hb dL_law_318 rfl (lv_at hl 3 rfl) ?_
  have hc9 := (k_X11_town l D ad a t )
  refine z_calli (w0 := [(a 0, .inr (10, [.ref (a 4), .ref (a 5), .ref (a 6), .ref (a 7), .ref (a 8), .ref (a 9), .ref (a 10), .ref (a 11), .ref (a 12), .int 0, .ref (a 13), .ref (a 102), .ref (a 14), .ref (a 15), .int (-1), .int (-1)])), (a 4, .inr (6, [.ref (a 26), .int 0])), (a 5, .inr (7, [.ref (a 4), .int 0, .int 0, .int 0, .int 0, .int 0, .long 0, .ref (ad 0), .int 0, .int 0])), (a 6, .inr (9, [.ref (a 7), .ref (a 8), .ref (a 27), .int 0])), (a 7, .inr (8, [.ref (a 28), .ref (a 29), .ref (a 30), .int 0, .ref (a 31), .ref (a 32), .ref (a 33), .int 0, .ref (a 34), .ref (a 35), .ref (a 36), .int 2])), (a 8, .inr (4, [.ref (a 7), .int 0, .int 0, .int 0, .ref (a 37), .ref (a 38), .ref (a 39), .ref (a 40)])), (a 9, .inr (9, [.ref (a 41), .ref (a 42), .ref (a 43), .int 0])), (a 27, .inr (5, [.ref (a 127), .ref (a 128), .ref (a 129), .ref (a 130), .ref (a 131), .int 0, .int 0, .int 0, .int 0, .int 0])), (a 28, .inr (2, [.ref (a 77), .int 0])), (a 29, .inr (2, [.ref (a 78), .int 0])), (a 30, .inr (2, [.ref (a 79), .int 0])), (a 31, .inl (t 7, 7, .inl (fun _ => 0))), (a 32, .inl (t 8, 6, .inl (fun _ => 0))), (a 33, .inl (t 9, 6, .inl (fun _ => 0))), (a 34, .inl (t 10, 14, .inl (fun _ => 0))), (a 35, .inl (t 11, 14, .inl (fun _ => 0))), (a 36, .inl (t 12, 14, .inl (fun _ => 0))), (a 37, .inl (t 13, 7, .inl (fun _ => 0))), (a 38, .inl (t 14, 6, .inl (fun _ => 0))), (a 39, .inl (t 15, 6, .inl (fun _ => 0))), (a 40, .inl (t 16, 6, .inl (fun _ => 0))), (a 41, .inr (8, [.ref (a 80), .ref (a 81), .ref (a 82), .int 0, .ref (a 83), .ref (a 84), .ref (a 85), .int 0, .ref (a 86), .ref (a 87), .ref (a 88), .int 2])), (a 42, .inr (4, [.ref (a 41), .int 0, .int 0, .int 0, .ref (a 89), .ref (a 90), .ref (a 91), .ref (a 92)])), (a 43, .inr (5, [.ref (a 132), .ref (a 133), .ref (a 134), .ref (a 135), .ref (a 136), .int 0, .int 0, .int 0, .int 0, .int 0])), (a 77, .inl (t 44, 5, .inr (.inl (fun _ => 0)))), (a 78, .inl (t 45, 7, .inr (.inl (fun _ => 0)))), (a 79, .inl (t 46, 6, .inr (.inl (fun _ => 0)))), (a 80, .inr (2, [.ref (a 99), .int 0])), (a 81, .inr (2, [.ref (a 100), .int 0])), (a 82, .inr (2, [.ref (a 101), .int 0])), (a 83, .inl (t 47, 7, .inl (fun _ => 0))), (a 84, .inl (t 48, 6, .inl (fun _ => 0))), (a 85, .inl (t 49, 6, .inl (fun _ => 0))), (a 86, .inl (t 50, 14, .inl (fun _ => 0))), (a 87, .inl (t 51, 14, .inl (fun _ => 0))), (a 88, .inl (t 52, 14, .inl (fun _ => 0))), (a 89, .inl (t 53, 7, .inl (fun _ => 0))), (a 90, .inl (t 54, 6, .inl (fun _ => 0))), (a 91, .inl (t 55, 6, .inl (fun _ => 0))), (a 92, .inl (t 56, 6, .inl (fun _ => 0))), (a 99, .inl (t 63, 5, .inr (.inl (fun _ => 0)))), (a 100, .inl (t 64, 7, .inr (.inl (fun _ => 0)))), (a 101, .inl (t 65, 6, .inr (.inl (fun _ => 0))))]) (wr := [(am 1, .inl (tm 1, 283, .inl (upd (fun _ => 0) 4 2))), (am 3, .inl (tm 3, 36, .inr (.inl (fun _ => 0)))), (am 18, .inr (11, [.int 0, .ref (am 0), .int 0, .int 0, .int 0, .int 0, .ref (am 1), .ref (am 19), .ref (am 2), .ref (am 3), .ref (am 20), .int 0, .int 0, .int 0, .int 0, .int 0, .int 0, .long 0, .int 0, .int 0, .int 0, .ref (am 4), .ref (am 5), .int 0, .int 0, .int 0, .int 0, .ref (am 6), .int (-1), .ref (am 7), .int 0, .int 0, .ref (am 8), .int (-1), .ref (am 9), .ref (am 10), .int 0, .int 0, .ref (am 11), .int 0, .int 0, .int 0, .ref (am 12), .int 0, .ref (am 13), .int 0, .int 0, .int 0, .int 0, .int 0, .ref (am 14), .ref (am 15), .ref (am 16), .ref (am 17)])), (am 19, .inl (tm 18, 67, .inl (upd (fun _ => 0) 4 2)))]) (va_runV (As := []) (rest := []) ⟨hx, hb, hml, hown, hts⟩ (hc9 _) (cwV 0 hts gL_law_X11_town rfl rfl rfl (by decide +kernel) ⟨Nat.le_of_ble_eq_true rfl, Nat.le_of_ble_eq_true rfl⟩) (z_preV hP hD hK hS hA hE hO [0, 1, 2, 3, 4, 5, 6, 7, 8, 9, 10, 11, 12, 13, 14, 15, 16, 17, 18, 19, 20, 21, 22, 23, 24, 25, 26, 27, 28, 29, 30, 31, 32, 33, 34, 35, 36, 37, 38, 39, 40, 41, 42] [1, 2, 3, 4, 5, 6, 7, 8, 9, 10, 11, 12, 13, 14, 15, 16, 17, 18, 19, 20, 21, 22, 23, 24, 25, 26] rfl (by decide +kernel) rfl 0 10 rfl rfl rfl) rfl rfl hl.1 rfl (lv_room (Nat.le_of_ble_eq_true rfl)) dL_law_319 ⟨Nat.le_of_ble_eq_true rfl, Nat.le_of_ble_eq_true rfl⟩) hP hD hK hS hA [0, 1, 2, 3, 4, 5, 6, 7, 8, 9, 10, 11, 12, 13, 14, 15, 16, 17, 18, 19, 20, 21, 22, 23, 24, 25, 26, 27, 28, 29, 30, 31, 32, 33, 34, 35, 36, 37, 38, 39, 40, 41, 42] [43, 44, 45, 46] rfl rfl (by decide +kernel) (by decide +kernel) (fun r9 u9 H locs hw hP hD hK hS => ?_)
  obtain ⟨er9, rfl⟩ := hw
  have hP : va_P D vwCl [(am 1, .inl (tm 1, 283, .inl (upd (fun _ => 0) 4 2))), (am 3, .inl (tm 3, 36, .inr (.inl (fun _ => 0)))), (am 18, .inr (11, [.int 0, .ref (am 0), .int 0, .int 0, .int 0, .int 0, .ref (am 1), .ref (am 19), .ref (am 2), .ref (am 3), .ref (am 20), .int 0, .int 0, .int 0, .int 0, .int 0, .int 0, .long 0, .int 0, .int 0, .int 0, .ref (am 4), .ref (am 5), .int 0, .int 0, .int 0, .int 0, .ref (am 6), .int (-1), .ref (am 7), .int 0, .int 0, .ref (am 8), .int (-1), .ref (am 9), .ref (am 10), .int 0, .int 0, .ref (am 11), .int 0, .int 0, .int 0, .ref (am 12), .int 0, .ref (am 13), .int 0, .int 0, .int 0, .int 0, .int 0, .ref (am 14), .ref (am 15), .ref (am 16), .ref (am 17)])), (am 19, .inl (tm 18, 67, .inl (upd (fun _ => 0) 4 2)))] H := hP
  have hD : va_D A [(am 1, .inl (tm 1, 283, .inl (upd (fun _ => 0) 4 2))), (am 3, .inl (tm 3, 36, .inr (.inl (fun _ => 0)))), (am 18, .inr (11, [.int 0, .ref (am 0), .int 0, .int 0, .int 0, .int 0, .ref (am 1), .ref (am 19), .ref (am 2), .ref (am 3), .ref (am 20), .int 0, .int 0, .int 0, .int 0, .int 0, .int 0, .long 0, .int 0, .int 0, .int 0, .ref (am 4), .ref (am 5), .int 0, .int 0, .int 0, .int 0, .ref (am 6), .int (-1), .ref (am 7), .int 0, .int 0, .ref (am 8), .int (-1), .ref (am 9), .ref (am 10), .int 0, .int 0, .ref (am 11), .int 0, .int 0, .int 0, .ref (am 12), .int 0, .ref (am 13), .int 0, .int 0, .int 0, .int 0, .int 0, .ref (am 14), .ref (am 15), .ref (am 16), .ref (am 17)])), (am 19, .inl (tm 18, 67, .inl (upd (fun _ => 0) 4 2)))] := hD
  have hK : va_K D vwCl ((gFt t ++ gMt tm) ++ [(to, .long)]) s := hK
  refine W.cs (cells' := 212) (slots' := 5680) rfl rfl ?_
  obtain rfl := er9
  refine W.eq (g2 := F0 m 322 ls (.int 0 :: [])) rfl ?_
  refine lv_aload_n hx hb dL_law_322 rfl (lv_at hl 2 rfl) ?_
  have hc9 := (k_X12_town l D ad am tm (am 0) (am 2) (am 20) 0 0 0 0 (am 4) (am 5) 0 0 0 (am 6) (-1) (am 7) 0 0 (am 8) (-1) (am 9) (am 10) 0 0 (am 11) 0 0 0 (am 12) 0 (am 13) 0 0 0 0 0 (am 14) (am 15) (am 16) (am 17) )
  refine z_calli (w0 := [(am 1, .inl (tm 1, 283, .inl (upd (fun _ => 0) 4 2))), (am 3, .inl (tm 3, 36, .inr (.inl (fun _ => 0)))), (am 18, .inr (11, [.int 0, .ref (am 0), .int 0, .int 0, .int 0, .int 0, .ref (am 1), .ref (am 19), .ref (am 2), .ref (am 3), .ref (am 20), .int 0, .int 0, .int 0, .int 0, .int 0, .int 0, .long 0, .int 0, .int 0, .int 0, .ref (am 4), .ref (am 5), .int 0, .int 0, .int 0, .int 0, .ref (am 6), .int (-1), .ref (am 7), .int 0, .int 0, .ref (am 8), .int (-1), .ref (am 9), .ref (am 10), .int 0, .int 0, .ref (am 11), .int 0, .int 0, .int 0, .ref (am 12), .int 0, .ref (am 13), .int 0, .int 0, .int 0, .int 0, .int 0, .ref (am 14), .ref (am 15), .ref (am 16), .ref (am 17)])), (am 19, .inl (tm 18, 67, .inl (upd (fun _ => 0) 4 2)))]) (wr := []) (va_runV (As := []) (rest := [.int 0]) ⟨hx, hb, hml, hown, hts⟩ (hc9 _) (cwV 0 hts gL_law_X12_town rfl rfl rfl (by decide +kernel) ⟨Nat.le_of_ble_eq_true rfl, Nat.le_of_ble_eq_true rfl⟩) (z_preV hP hD hK hS hA hE hO [0, 1, 2, 3] [67, 68, 70] rfl (by decide +kernel) rfl 2 11 rfl rfl rfl) rfl rfl hl.1 rfl (lv_room (Nat.le_of_ble_eq_true rfl)) dL_law_323 ⟨Nat.le_of_ble_eq_true rfl, Nat.le_of_ble_eq_true rfl⟩) hP hD hK hS hA [0, 1, 2, 3] [] rfl rfl (by decide +kernel) (by decide +kernel) (fun r9 u9 H locs hw hP hD hK hS => ?_)
  obtain ⟨er9, rfl⟩ := hw
  have hP : va_P D vwCl [] H := hP
  have hD : va_D A [] := hD
  have hK : va_K D vwCl ((gFt t ++ gMt tm) ++ [(to, .long)]) s := hK
  refine W.cs (cells' := 212) (slots' := 5680) rfl rfl ?_
  obtain rfl := er9
  refine W.eq (g2 := F0 m 326 ls (.int 0 :: [.int 0])) rfl ?_
  refine lv_icmp_eq (tgt := 1398) hx hb dL_law_326 (by decide) (fun _ => ?_) (fun h9 => absurd (by decide) h9)
  exact law_end G0 hS (by decide) (by decide) (lv_sub hl [0, 4] rfl)

set_option maxHeartbeats 8000000 in
set_option maxRecDepth 100000 in
theorem lc_3 {p : Program} {l : Launch} {e : Env} {s : State} {m : MethodId} {below : List Frame} {meth : Method} {c : Code} {D : va_G} {ad : Nat → Nat} {A : Nat → Prop} {b : Nat} {xs : Nat → Int32} (G : z_G p s m meth c ad A b xs) {a am : Nat → Nat} {t tm : Nat → ClassId} {qo : Nat} {to : ClassId} {H : Heap} {locs : List Loc} {ls : Array Slot} (hP : va_P D vwCl ((gF ad a t ++ gM ad am tm) ++ [(qo, .inl (to, 1, .inr (.inl (fun _ => 0))))]) H) (hD : va_D A ((gF ad a t ++ gM ad am tm) ++ [(qo, .inl (to, 1, .inr (.inl (fun _ => 0))))])) (hK : va_K D vwCl ((gFt t ++ gMt tm) ++ [(to, .long)]) s) (hS : va_S A s.heap H locs) (hl : lv_has ls 7 [(4, .int 0), (3, .ref qo), (2, .ref (am 18)), (1, .ref (a 0)), (0, .ref b)]) : W p l e room_1 s m #[Value.ref b] below meth c H locs 212 5680 (lw_Z below #[Value.ref b] s) (F0 m 331 ls []) := by
  have G0 := G
  obtain ⟨hx, hb, hr, hml, hown, hts, hX, hbl, hbA, hA, hAl, hlocks, hE, hO⟩ := G
  have hP := hP.sub (ws' := [(a 0, .inr (10, [.ref (a 4), .ref (a 5), .ref (a 6), .ref (a 7), .ref (a 8), .ref (a 9), .ref (a 10), .ref (a 11), .ref (a 12), .int 0, .ref (a 13), .ref (a 102), .ref (a 14), .ref (a 15), .int (-1), .int (-1)])), (a 5, .inr (7, [.ref (a 4), .int 0, .int 0, .int 0, .int 0, .int 0, .long 0, .ref (ad 0), .int 0, .int 0])), (am 18, .inr (11, [.int 0, .ref (am 0), .int 0, .int 0, .int 0, .int 0, .ref (am 1), .ref (am 19), .ref (am 2), .ref (am 3), .ref (am 20), .int 0, .int 0, .int 0, .int 0, .int 0, .int 0, .long 0, .int 0, .int 0, .int 0, .ref (am 4), .ref (am 5), .int 0, .int 0, .int 0, .int 0, .ref (am 6), .int (-1), .ref (am 7), .int 0, .int 0, .ref (am 8), .int (-1), .ref (am 9), .ref (am 10), .int 0, .int 0, .ref (am 11), .int 0, .int 0, .int 0, .ref (am 12), .int 0, .ref (am 13), .int 0, .int 0, .int 0, .int 0, .int 0, .ref (am 14), .ref (am 15), .ref (am 16), .ref (am 17)]))]) [0, 5, 120] rfl
  have hD := hD.sub (ws' := [(a 0, .inr (10, [.ref (a 4), .ref (a 5), .ref (a 6), .ref (a 7), .ref (a 8), .ref (a 9), .ref (a 10), .ref (a 11), .ref (a 12), .int 0, .ref (a 13), .ref (a 102), .ref (a 14), .ref (a 15), .int (-1), .int (-1)])), (a 5, .inr (7, [.ref (a 4), .int 0, .int 0, .int 0, .int 0, .int 0, .long 0, .ref (ad 0), .int 0, .int 0])), (am 18, .inr (11, [.int 0, .ref (am 0), .int 0, .int 0, .int 0, .int 0, .ref (am 1), .ref (am 19), .ref (am 2), .ref (am 3), .ref (am 20), .int 0, .int 0, .int 0, .int 0, .int 0, .int 0, .long 0, .int 0, .int 0, .int 0, .ref (am 4), .ref (am 5), .int 0, .int 0, .int 0, .int 0, .ref (am 6), .int (-1), .ref (am 7), .int 0, .int 0, .ref (am 8), .int (-1), .ref (am 9), .ref (am 10), .int 0, .int 0, .ref (am 11), .int 0, .int 0, .int 0, .ref (am 12), .int 0, .ref (am 13), .int 0, .int 0, .int 0, .int 0, .int 0, .ref (am 14), .ref (am 15), .ref (am 16), .ref (am 17)]))]) [0, 5, 120] (by decide) rfl
  refine lv_aload_n hx hb dL_law_331 rfl (lv_at hl 3 rfl) ?_
  have hc9 := (k_X11_fault l D ad a )
  refine z_calli (w0 := [(a 0, .inr (10, [.ref (a 4), .ref (a 5), .ref (a 6), .ref (a 7), .ref (a 8), .ref (a 9), .ref (a 10), .ref (a 11), .ref (a 12), .int 0, .ref (a 13), .ref (a 102), .ref (a 14), .ref (a 15), .int (-1), .int (-1)])), (a 5, .inr (7, [.ref (a 4), .int 0, .int 0, .int 0, .int 0, .int 0, .long 0, .ref (ad 0), .int 0, .int 0]))]) (wr := [(am 18, .inr (11, [.int 0, .ref (am 0), .int 0, .int 0, .int 0, .int 0, .ref (am 1), .ref (am 19), .ref (am 2), .ref (am 3), .ref (am 20), .int 0, .int 0, .int 0, .int 0, .int 0, .int 0, .long 0, .int 0, .int 0, .int 0, .ref (am 4), .ref (am 5), .int 0, .int 0, .int 0, .int 0, .ref (am 6), .int (-1), .ref (am 7), .int 0, .int 0, .ref (am 8), .int (-1), .ref (am 9), .ref (am 10), .int 0, .int 0, .ref (am 11), .int 0, .int 0, .int 0, .ref (am 12), .int 0, .ref (am 13), .int 0, .int 0, .int 0, .int 0, .int 0, .ref (am 14), .ref (am 15), .ref (am 16), .ref (am 17)]))]) (va_runV (As := []) (rest := []) ⟨hx, hb, hml, hown, hts⟩ (hc9 _) (cwV 0 hts gL_law_X11_fault rfl rfl rfl (by decide +kernel) ⟨Nat.le_of_ble_eq_true rfl, Nat.le_of_ble_eq_true rfl⟩) (z_preV hP hD hK hS hA hE hO [0, 1] [] rfl (by decide +kernel) rfl 0 10 rfl rfl rfl) rfl rfl hl.1 rfl (lv_room (Nat.le_of_ble_eq_true rfl)) dL_law_332 ⟨Nat.le_of_ble_eq_true rfl, Nat.le_of_ble_eq_true rfl⟩) hP hD hK hS hA [0, 1] [2] rfl rfl (by decide +kernel) (by decide +kernel) (fun r9 u9 H locs hw hP hD hK hS => ?_)
  obtain ⟨er9, rfl⟩ := hw
  have hP : va_P D vwCl [(am 18, .inr (11, [.int 0, .ref (am 0), .int 0, .int 0, .int 0, .int 0, .ref (am 1), .ref (am 19), .ref (am 2), .ref (am 3), .ref (am 20), .int 0, .int 0, .int 0, .int 0, .int 0, .int 0, .long 0, .int 0, .int 0, .int 0, .ref (am 4), .ref (am 5), .int 0, .int 0, .int 0, .int 0, .ref (am 6), .int (-1), .ref (am 7), .int 0, .int 0, .ref (am 8), .int (-1), .ref (am 9), .ref (am 10), .int 0, .int 0, .ref (am 11), .int 0, .int 0, .int 0, .ref (am 12), .int 0, .ref (am 13), .int 0, .int 0, .int 0, .int 0, .int 0, .ref (am 14), .ref (am 15), .ref (am 16), .ref (am 17)]))] H := hP
  have hD : va_D A [(am 18, .inr (11, [.int 0, .ref (am 0), .int 0, .int 0, .int 0, .int 0, .ref (am 1), .ref (am 19), .ref (am 2), .ref (am 3), .ref (am 20), .int 0, .int 0, .int 0, .int 0, .int 0, .int 0, .long 0, .int 0, .int 0, .int 0, .ref (am 4), .ref (am 5), .int 0, .int 0, .int 0, .int 0, .ref (am 6), .int (-1), .ref (am 7), .int 0, .int 0, .ref (am 8), .int (-1), .ref (am 9), .ref (am 10), .int 0, .int 0, .ref (am 11), .int 0, .int 0, .int 0, .ref (am 12), .int 0, .ref (am 13), .int 0, .int 0, .int 0, .int 0, .int 0, .ref (am 14), .ref (am 15), .ref (am 16), .ref (am 17)]))] := hD
  have hK : va_K D vwCl ((gFt t ++ gMt tm) ++ [(to, .long)]) s := hK
  refine W.cs (cells' := 212) (slots' := 5680) rfl rfl ?_
  obtain rfl := er9
  refine W.eq (g2 := F0 m 335 ls (.int 0 :: [])) rfl ?_
  refine lv_aload_n hx hb dL_law_335 rfl (lv_at hl 2 rfl) ?_
  have hc9 := (k_X12_fault l D ad am (am 0) 0 0 0 0 (am 1) (am 19) (am 2) (am 3) (am 20) 0 0 0 0 0 0 0 0 0 (am 4) (am 5) 0 0 0 0 (am 6) (-1) (am 7) 0 0 (am 8) (-1) (am 9) (am 10) 0 0 (am 11) 0 0 0 (am 12) 0 (am 13) 0 0 0 0 0 (am 14) (am 15) (am 16) (am 17) )
  refine z_calli (w0 := [(am 18, .inr (11, [.int 0, .ref (am 0), .int 0, .int 0, .int 0, .int 0, .ref (am 1), .ref (am 19), .ref (am 2), .ref (am 3), .ref (am 20), .int 0, .int 0, .int 0, .int 0, .int 0, .int 0, .long 0, .int 0, .int 0, .int 0, .ref (am 4), .ref (am 5), .int 0, .int 0, .int 0, .int 0, .ref (am 6), .int (-1), .ref (am 7), .int 0, .int 0, .ref (am 8), .int (-1), .ref (am 9), .ref (am 10), .int 0, .int 0, .ref (am 11), .int 0, .int 0, .int 0, .ref (am 12), .int 0, .ref (am 13), .int 0, .int 0, .int 0, .int 0, .int 0, .ref (am 14), .ref (am 15), .ref (am 16), .ref (am 17)]))]) (wr := []) (va_runV (As := []) (rest := [.int 0]) ⟨hx, hb, hml, hown, hts⟩ (hc9 _) (cwV 0 hts gL_law_X12_fault rfl rfl rfl (by decide +kernel) ⟨Nat.le_of_ble_eq_true rfl, Nat.le_of_ble_eq_true rfl⟩) (z_preV hP hD hK hS hA hE hO [0] [] rfl (by decide +kernel) rfl 0 11 rfl rfl rfl) rfl rfl hl.1 rfl (lv_room (Nat.le_of_ble_eq_true rfl)) dL_law_336 ⟨Nat.le_of_ble_eq_true rfl, Nat.le_of_ble_eq_true rfl⟩) hP hD hK hS hA [0] [] rfl rfl (by decide +kernel) (by decide +kernel) (fun r9 u9 H locs hw hP hD hK hS => ?_)
  obtain ⟨er9, rfl⟩ := hw
  have hP : va_P D vwCl [] H := hP
  have hD : va_D A [] := hD
  have hK : va_K D vwCl ((gFt t ++ gMt tm) ++ [(to, .long)]) s := hK
  refine W.cs (cells' := 212) (slots' := 5680) rfl rfl ?_
  obtain rfl := er9
  refine W.eq (g2 := F0 m 339 ls (.int 0 :: [.int 0])) rfl ?_
  refine lv_icmp_eq (tgt := 1398) hx hb dL_law_339 (by decide) (fun _ => ?_) (fun h9 => absurd (by decide) h9)
  exact law_end G0 hS (by decide) (by decide) (lv_sub hl [0, 4] rfl)

set_option maxHeartbeats 8000000 in
set_option maxRecDepth 100000 in
theorem lc_7 {p : Program} {l : Launch} {e : Env} {s : State} {m : MethodId} {below : List Frame} {meth : Method} {c : Code} {D : va_G} {ad : Nat → Nat} {A : Nat → Prop} {b : Nat} {xs : Nat → Int32} (G : z_G p s m meth c ad A b xs) {a am : Nat → Nat} {t tm : Nat → ClassId} {qo : Nat} {to : ClassId} {H : Heap} {locs : List Loc} {ls : Array Slot} (hP : va_P D vwCl ((gF ad a t ++ gM ad am tm) ++ [(qo, .inl (to, 1, .inr (.inl (fun _ => 0))))]) H) (hD : va_D A ((gF ad a t ++ gM ad am tm) ++ [(qo, .inl (to, 1, .inr (.inl (fun _ => 0))))])) (hK : va_K D vwCl ((gFt t ++ gMt tm) ++ [(to, .long)]) s) (hS : va_S A s.heap H locs) (hl : lv_has ls 7 [(4, .int 0), (3, .ref qo), (2, .ref (am 18)), (1, .ref (a 0)), (0, .ref b)]) : W p l e room_1 s m #[Value.ref b] below meth c H locs 212 5680 (lw_Z below #[Value.ref b] s) (F0 m 548 ls []) := by
  have G0 := G
  obtain ⟨hx, hb, hr, hml, hown, hts, hX, hbl, hbA, hA, hAl, hlocks, hE, hO⟩ := G
  have hP := hP.sub (ws' := [(a 0, .inr (10, [.ref (a 4), .ref (a 5), .ref (a 6), .ref (a 7), .ref (a 8), .ref (a 9), .ref (a 10), .ref (a 11), .ref (a 12), .int 0, .ref (a 13), .ref (a 102), .ref (a 14), .ref (a 15), .int (-1), .int (-1)])), (a 7, .inr (8, [.ref (a 28), .ref (a 29), .ref (a 30), .int 0, .ref (a 31), .ref (a 32), .ref (a 33), .int 0, .ref (a 34), .ref (a 35), .ref (a 36), .int 2])), (a 28, .inr (2, [.ref (a 77), .int 0])), (am 1, .inl (tm 1, 283, .inl (upd (fun _ => 0) 4 2))), (am 18, .inr (11, [.int 0, .ref (am 0), .int 0, .int 0, .int 0, .int 0, .ref (am 1), .ref (am 19), .ref (am 2), .ref (am 3), .ref (am 20), .int 0, .int 0, .int 0, .int 0, .int 0, .int 0, .long 0, .int 0, .int 0, .int 0, .ref (am 4), .ref (am 5), .int 0, .int 0, .int 0, .int 0, .ref (am 6), .int (-1), .ref (am 7), .int 0, .int 0, .ref (am 8), .int (-1), .ref (am 9), .ref (am 10), .int 0, .int 0, .ref (am 11), .int 0, .int 0, .int 0, .ref (am 12), .int 0, .ref (am 13), .int 0, .int 0, .int 0, .int 0, .int 0, .ref (am 14), .ref (am 15), .ref (am 16), .ref (am 17)]))]) [0, 7, 28, 103, 120] rfl
  have hD := hD.sub (ws' := [(a 0, .inr (10, [.ref (a 4), .ref (a 5), .ref (a 6), .ref (a 7), .ref (a 8), .ref (a 9), .ref (a 10), .ref (a 11), .ref (a 12), .int 0, .ref (a 13), .ref (a 102), .ref (a 14), .ref (a 15), .int (-1), .int (-1)])), (a 7, .inr (8, [.ref (a 28), .ref (a 29), .ref (a 30), .int 0, .ref (a 31), .ref (a 32), .ref (a 33), .int 0, .ref (a 34), .ref (a 35), .ref (a 36), .int 2])), (a 28, .inr (2, [.ref (a 77), .int 0])), (am 1, .inl (tm 1, 283, .inl (upd (fun _ => 0) 4 2))), (am 18, .inr (11, [.int 0, .ref (am 0), .int 0, .int 0, .int 0, .int 0, .ref (am 1), .ref (am 19), .ref (am 2), .ref (am 3), .ref (am 20), .int 0, .int 0, .int 0, .int 0, .int 0, .int 0, .long 0, .int 0, .int 0, .int 0, .ref (am 4), .ref (am 5), .int 0, .int 0, .int 0, .int 0, .ref (am 6), .int (-1), .ref (am 7), .int 0, .int 0, .ref (am 8), .int (-1), .ref (am 9), .ref (am 10), .int 0, .int 0, .ref (am 11), .int 0, .int 0, .int 0, .ref (am 12), .int 0, .ref (am 13), .int 0, .int 0, .int 0, .int 0, .int 0, .ref (am 14), .ref (am 15), .ref (am 16), .ref (am 17)]))]) [0, 7, 28, 103, 120] (by decide) rfl
  refine lv_aload_n hx hb dL_law_548 rfl (lv_at hl 3 rfl) ?_
  refine lv_aload_n hx hb dL_law_549 rfl (lv_at hl 4 rfl) ?_
  refine lv_iload hx hb dL_law_550 (lv_at hl 0 rfl) ?_
  refine lv_iconst (v := 1) hx hb dL_law_552 (by decide) ?_
  refine lv_iadd hx hb dL_law_553 ?_
  refine lv_topi (fun y_1 ey_1 => ?_)
  obtain rfl : y_1 = 1 := ey_1.trans (by decide)
  refine va_sld hx hb hX hbl hbA hS (show ¬ (_ ∨ _) by decide) dL_law_554 ?_
  refine W.eq (g2 := F0 m 555 ls (.int (xs 1) :: [.ref (a 0)])) rfl ?_
  refine lv_aload_n hx hb dL_law_555 rfl (lv_at hl 4 rfl) ?_
  refine lv_iload hx hb dL_law_556 (lv_at hl 0 rfl) ?_
  refine lv_iconst (v := 2) hx hb dL_law_558 (by decide) ?_
  refine lv_iadd hx hb dL_law_559 ?_
  refine lv_topi (fun y_2 ey_2 => ?_)
  obtain rfl : y_2 = 2 := ey_2.trans (by decide)
  refine va_sld hx hb hX hbl hbA hS (show ¬ (_ ∨ _) by decide) dL_law_560 ?_
  refine W.eq (g2 := F0 m 561 ls (.int (xs 2) :: [.int (xs 1), .ref (a 0)])) rfl ?_
  have hc9 := (k_X11_place l D ad a (xs 1) (xs 2) )
  refine z_calli (w0 := [(a 0, .inr (10, [.ref (a 4), .ref (a 5), .ref (a 6), .ref (a 7), .ref (a 8), .ref (a 9), .ref (a 10), .ref (a 11), .ref (a 12), .int 0, .ref (a 13), .ref (a 102), .ref (a 14), .ref (a 15), .int (-1), .int (-1)])), (a 7, .inr (8, [.ref (a 28), .ref (a 29), .ref (a 30), .int 0, .ref (a 31), .ref (a 32), .ref (a 33), .int 0, .ref (a 34), .ref (a 35), .ref (a 36), .int 2])), (a 28, .inr (2, [.ref (a 77), .int 0]))]) (wr := [(am 1, .inl (tm 1, 283, .inl (upd (fun _ => 0) 4 2))), (am 18, .inr (11, [.int 0, .ref (am 0), .int 0, .int 0, .int 0, .int 0, .ref (am 1), .ref (am 19), .ref (am 2), .ref (am 3), .ref (am 20), .int 0, .int 0, .int 0, .int 0, .int 0, .int 0, .long 0, .int 0, .int 0, .int 0, .ref (am 4), .ref (am 5), .int 0, .int 0, .int 0, .int 0, .ref (am 6), .int (-1), .ref (am 7), .int 0, .int 0, .ref (am 8), .int (-1), .ref (am 9), .ref (am 10), .int 0, .int 0, .ref (am 11), .int 0, .int 0, .int 0, .ref (am 12), .int 0, .ref (am 13), .int 0, .int 0, .int 0, .int 0, .int 0, .ref (am 14), .ref (am 15), .ref (am 16), .ref (am 17)]))]) (va_runV (As := [.int (xs 1), .int (xs 2)]) (rest := []) ⟨hx, hb, hml, hown, hts⟩ (hc9 _) (cwV 2 hts gL_law_X11_place rfl rfl rfl (by decide +kernel) ⟨Nat.le_of_ble_eq_true rfl, Nat.le_of_ble_eq_true rfl⟩) (z_preV hP hD hK hS hA hE hO [0, 1, 2] [] rfl (by decide +kernel) rfl 0 10 rfl rfl rfl) rfl rfl hl.1 rfl (lv_room (Nat.le_of_ble_eq_true rfl)) dL_law_561 ⟨Nat.le_of_ble_eq_true rfl, Nat.le_of_ble_eq_true rfl⟩) hP hD hK hS hA [0, 1, 2] [3, 4] rfl rfl (by decide +kernel) (by decide +kernel) (fun r9 u9 H locs hw hP hD hK hS => ?_)
  obtain ⟨er9, rfl⟩ := hw
  have hP : va_P D vwCl [(am 1, .inl (tm 1, 283, .inl (upd (fun _ => 0) 4 2))), (am 18, .inr (11, [.int 0, .ref (am 0), .int 0, .int 0, .int 0, .int 0, .ref (am 1), .ref (am 19), .ref (am 2), .ref (am 3), .ref (am 20), .int 0, .int 0, .int 0, .int 0, .int 0, .int 0, .long 0, .int 0, .int 0, .int 0, .ref (am 4), .ref (am 5), .int 0, .int 0, .int 0, .int 0, .ref (am 6), .int (-1), .ref (am 7), .int 0, .int 0, .ref (am 8), .int (-1), .ref (am 9), .ref (am 10), .int 0, .int 0, .ref (am 11), .int 0, .int 0, .int 0, .ref (am 12), .int 0, .ref (am 13), .int 0, .int 0, .int 0, .int 0, .int 0, .ref (am 14), .ref (am 15), .ref (am 16), .ref (am 17)]))] H := hP
  have hD : va_D A [(am 1, .inl (tm 1, 283, .inl (upd (fun _ => 0) 4 2))), (am 18, .inr (11, [.int 0, .ref (am 0), .int 0, .int 0, .int 0, .int 0, .ref (am 1), .ref (am 19), .ref (am 2), .ref (am 3), .ref (am 20), .int 0, .int 0, .int 0, .int 0, .int 0, .int 0, .long 0, .int 0, .int 0, .int 0, .ref (am 4), .ref (am 5), .int 0, .int 0, .int 0, .int 0, .ref (am 6), .int (-1), .ref (am 7), .int 0, .int 0, .ref (am 8), .int (-1), .ref (am 9), .ref (am 10), .int 0, .int 0, .ref (am 11), .int 0, .int 0, .int 0, .ref (am 12), .int 0, .ref (am 13), .int 0, .int 0, .int 0, .int 0, .int 0, .ref (am 14), .ref (am 15), .ref (am 16), .ref (am 17)]))] := hD
  have hK : va_K D vwCl ((gFt t ++ gMt tm) ++ [(to, .long)]) s := hK
  refine W.cs (cells' := 212) (slots' := 5680) rfl rfl ?_
  obtain rfl := er9
  refine W.eq (g2 := F0 m 564 ls (.int (-1) :: [])) rfl ?_
  refine lv_aload_n hx hb dL_law_564 rfl (lv_at hl 2 rfl) ?_
  refine lv_aload_n hx hb dL_law_565 rfl (lv_at hl 4 rfl) ?_
  refine lv_iload hx hb dL_law_566 (lv_at hl 0 rfl) ?_
  refine lv_iconst (v := 1) hx hb dL_law_568 (by decide) ?_
  refine lv_iadd hx hb dL_law_569 ?_
  refine lv_topi (fun y_3 ey_3 => ?_)
  obtain rfl : y_3 = 1 := ey_3.trans (by decide)
  refine va_sld hx hb hX hbl hbA hS (show ¬ (_ ∨ _) by decide) dL_law_570 ?_
  refine W.eq (g2 := F0 m 571 ls (.int (xs 1) :: [.ref (am 18), .int (-1)])) rfl ?_
  refine lv_aload_n hx hb dL_law_571 rfl (lv_at hl 4 rfl) ?_
  refine lv_iload hx hb dL_law_572 (lv_at hl 0 rfl) ?_
  refine lv_iconst (v := 2) hx hb dL_law_574 (by decide) ?_
  refine lv_iadd hx hb dL_law_575 ?_
  refine lv_topi (fun y_4 ey_4 => ?_)
  obtain rfl : y_4 = 2 := ey_4.trans (by decide)
  refine va_sld hx hb hX hbl hbA hS (show ¬ (_ ∨ _) by decide) dL_law_576 ?_
  refine W.eq (g2 := F0 m 577 ls (.int (xs 2) :: [.int (xs 1), .ref (am 18), .int (-1)])) rfl ?_
  have hc9 := (k_X12_place l D ad am tm (xs 1) (xs 2) (am 0) 0 0 0 0 (am 19) (am 2) (am 3) (am 20) 0 0 0 0 0 0 0 0 0 0 (am 4) (am 5) 0 0 0 0 (am 6) (-1) (am 7) 0 0 (am 8) (-1) (am 9) (am 10) 0 0 (am 11) 0 0 0 (am 12) 0 (am 13) 0 0 0 0 0 (am 14) (am 15) (am 16) (am 17) )
  refine z_calli (w0 := [(am 1, .inl (tm 1, 283, .inl (upd (fun _ => 0) 4 2))), (am 18, .inr (11, [.int 0, .ref (am 0), .int 0, .int 0, .int 0, .int 0, .ref (am 1), .ref (am 19), .ref (am 2), .ref (am 3), .ref (am 20), .int 0, .int 0, .int 0, .int 0, .int 0, .int 0, .long 0, .int 0, .int 0, .int 0, .ref (am 4), .ref (am 5), .int 0, .int 0, .int 0, .int 0, .ref (am 6), .int (-1), .ref (am 7), .int 0, .int 0, .ref (am 8), .int (-1), .ref (am 9), .ref (am 10), .int 0, .int 0, .ref (am 11), .int 0, .int 0, .int 0, .ref (am 12), .int 0, .ref (am 13), .int 0, .int 0, .int 0, .int 0, .int 0, .ref (am 14), .ref (am 15), .ref (am 16), .ref (am 17)]))]) (wr := []) (va_runV (As := [.int (xs 1), .int (xs 2)]) (rest := [.int (-1)]) ⟨hx, hb, hml, hown, hts⟩ (hc9 _) (cwV 2 hts gL_law_X12_place rfl rfl rfl (by decide +kernel) ⟨Nat.le_of_ble_eq_true rfl, Nat.le_of_ble_eq_true rfl⟩) (z_preV hP hD hK hS hA hE hO [0, 1] [67] rfl (by decide +kernel) rfl 1 11 rfl rfl rfl) rfl rfl hl.1 rfl (lv_room (Nat.le_of_ble_eq_true rfl)) dL_law_577 ⟨Nat.le_of_ble_eq_true rfl, Nat.le_of_ble_eq_true rfl⟩) hP hD hK hS hA [0, 1] [] rfl rfl (by decide +kernel) (by decide +kernel) (fun r9 u9 H locs hw hP hD hK hS => ?_)
  obtain ⟨er9, rfl⟩ := hw
  have hP : va_P D vwCl [] H := hP
  have hD : va_D A [] := hD
  have hK : va_K D vwCl ((gFt t ++ gMt tm) ++ [(to, .long)]) s := hK
  refine W.cs (cells' := 212) (slots' := 5680) rfl rfl ?_
  obtain rfl := er9
  refine W.eq (g2 := F0 m 580 ls (.int (-1) :: [.int (-1)])) rfl ?_
  refine lv_icmp_eq (tgt := 1398) hx hb dL_law_580 (by decide) (fun _ => ?_) (fun h9 => absurd (by decide) h9)
  exact law_end G0 hS (by decide) (by decide) (lv_sub hl [0, 4] rfl)

set_option maxHeartbeats 8000000 in
set_option maxRecDepth 100000 in
theorem lc_8 {p : Program} {l : Launch} {e : Env} {s : State} {m : MethodId} {below : List Frame} {meth : Method} {c : Code} {D : va_G} {ad : Nat → Nat} {A : Nat → Prop} {b : Nat} {xs : Nat → Int32} (G : z_G p s m meth c ad A b xs) {a am : Nat → Nat} {t tm : Nat → ClassId} {qo : Nat} {to : ClassId} {H : Heap} {locs : List Loc} {ls : Array Slot} (hP : va_P D vwCl ((gF ad a t ++ gM ad am tm) ++ [(qo, .inl (to, 1, .inr (.inl (fun _ => 0))))]) H) (hD : va_D A ((gF ad a t ++ gM ad am tm) ++ [(qo, .inl (to, 1, .inr (.inl (fun _ => 0))))])) (hK : va_K D vwCl ((gFt t ++ gMt tm) ++ [(to, .long)]) s) (hS : va_S A s.heap H locs) (hl : lv_has ls 7 [(4, .int 0), (3, .ref qo), (2, .ref (am 18)), (1, .ref (a 0)), (0, .ref b)]) : W p l e room_1 s m #[Value.ref b] below meth c H locs 212 5680 (lw_Z below #[Value.ref b] s) (F0 m 585 ls []) := by
  have G0 := G
  obtain ⟨hx, hb, hr, hml, hown, hts, hX, hbl, hbA, hA, hAl, hlocks, hE, hO⟩ := G
  have hP := hP.sub (ws' := [(a 0, .inr (10, [.ref (a 4), .ref (a 5), .ref (a 6), .ref (a 7), .ref (a 8), .ref (a 9), .ref (a 10), .ref (a 11), .ref (a 12), .int 0, .ref (a 13), .ref (a 102), .ref (a 14), .ref (a 15), .int (-1), .int (-1)])), (a 7, .inr (8, [.ref (a 28), .ref (a 29), .ref (a 30), .int 0, .ref (a 31), .ref (a 32), .ref (a 33), .int 0, .ref (a 34), .ref (a 35), .ref (a 36), .int 2])), (a 8, .inr (4, [.ref (a 7), .int 0, .int 0, .int 0, .ref (a 37), .ref (a 38), .ref (a 39), .ref (a 40)])), (a 29, .inr (2, [.ref (a 78), .int 0])), (a 30, .inr (2, [.ref (a 79), .int 0])), (am 1, .inl (tm 1, 283, .inl (upd (fun _ => 0) 4 2))), (am 18, .inr (11, [.int 0, .ref (am 0), .int 0, .int 0, .int 0, .int 0, .ref (am 1), .ref (am 19), .ref (am 2), .ref (am 3), .ref (am 20), .int 0, .int 0, .int 0, .int 0, .int 0, .int 0, .long 0, .int 0, .int 0, .int 0, .ref (am 4), .ref (am 5), .int 0, .int 0, .int 0, .int 0, .ref (am 6), .int (-1), .ref (am 7), .int 0, .int 0, .ref (am 8), .int (-1), .ref (am 9), .ref (am 10), .int 0, .int 0, .ref (am 11), .int 0, .int 0, .int 0, .ref (am 12), .int 0, .ref (am 13), .int 0, .int 0, .int 0, .int 0, .int 0, .ref (am 14), .ref (am 15), .ref (am 16), .ref (am 17)]))]) [0, 7, 8, 29, 30, 103, 120] rfl
  have hD := hD.sub (ws' := [(a 0, .inr (10, [.ref (a 4), .ref (a 5), .ref (a 6), .ref (a 7), .ref (a 8), .ref (a 9), .ref (a 10), .ref (a 11), .ref (a 12), .int 0, .ref (a 13), .ref (a 102), .ref (a 14), .ref (a 15), .int (-1), .int (-1)])), (a 7, .inr (8, [.ref (a 28), .ref (a 29), .ref (a 30), .int 0, .ref (a 31), .ref (a 32), .ref (a 33), .int 0, .ref (a 34), .ref (a 35), .ref (a 36), .int 2])), (a 8, .inr (4, [.ref (a 7), .int 0, .int 0, .int 0, .ref (a 37), .ref (a 38), .ref (a 39), .ref (a 40)])), (a 29, .inr (2, [.ref (a 78), .int 0])), (a 30, .inr (2, [.ref (a 79), .int 0])), (am 1, .inl (tm 1, 283, .inl (upd (fun _ => 0) 4 2))), (am 18, .inr (11, [.int 0, .ref (am 0), .int 0, .int 0, .int 0, .int 0, .ref (am 1), .ref (am 19), .ref (am 2), .ref (am 3), .ref (am 20), .int 0, .int 0, .int 0, .int 0, .int 0, .int 0, .long 0, .int 0, .int 0, .int 0, .ref (am 4), .ref (am 5), .int 0, .int 0, .int 0, .int 0, .ref (am 6), .int (-1), .ref (am 7), .int 0, .int 0, .ref (am 8), .int (-1), .ref (am 9), .ref (am 10), .int 0, .int 0, .ref (am 11), .int 0, .int 0, .int 0, .ref (am 12), .int 0, .ref (am 13), .int 0, .int 0, .int 0, .int 0, .int 0, .ref (am 14), .ref (am 15), .ref (am 16), .ref (am 17)]))]) [0, 7, 8, 29, 30, 103, 120] (by decide) rfl
  refine lv_aload_n hx hb dL_law_585 rfl (lv_at hl 3 rfl) ?_
  refine lv_aload_n hx hb dL_law_586 rfl (lv_at hl 4 rfl) ?_
  refine lv_iload hx hb dL_law_587 (lv_at hl 0 rfl) ?_
  refine lv_iconst (v := 1) hx hb dL_law_589 (by decide) ?_
  refine lv_iadd hx hb dL_law_590 ?_
  refine lv_topi (fun y_1 ey_1 => ?_)
  obtain rfl : y_1 = 1 := ey_1.trans (by decide)
  refine va_sld hx hb hX hbl hbA hS (show ¬ (_ ∨ _) by decide) dL_law_591 ?_
  refine W.eq (g2 := F0 m 592 ls (.int (xs 1) :: [.ref (a 0)])) rfl ?_
  have hc9 := (k_X11_now l D ad a (xs 1) )
  refine z_calli (w0 := [(a 0, .inr (10, [.ref (a 4), .ref (a 5), .ref (a 6), .ref (a 7), .ref (a 8), .ref (a 9), .ref (a 10), .ref (a 11), .ref (a 12), .int 0, .ref (a 13), .ref (a 102), .ref (a 14), .ref (a 15), .int (-1), .int (-1)])), (a 7, .inr (8, [.ref (a 28), .ref (a 29), .ref (a 30), .int 0, .ref (a 31), .ref (a 32), .ref (a 33), .int 0, .ref (a 34), .ref (a 35), .ref (a 36), .int 2])), (a 8, .inr (4, [.ref (a 7), .int 0, .int 0, .int 0, .ref (a 37), .ref (a 38), .ref (a 39), .ref (a 40)])), (a 29, .inr (2, [.ref (a 78), .int 0])), (a 30, .inr (2, [.ref (a 79), .int 0]))]) (wr := [(am 1, .inl (tm 1, 283, .inl (upd (fun _ => 0) 4 2))), (am 18, .inr (11, [.int 0, .ref (am 0), .int 0, .int 0, .int 0, .int 0, .ref (am 1), .ref (am 19), .ref (am 2), .ref (am 3), .ref (am 20), .int 0, .int 0, .int 0, .int 0, .int 0, .int 0, .long 0, .int 0, .int 0, .int 0, .ref (am 4), .ref (am 5), .int 0, .int 0, .int 0, .int 0, .ref (am 6), .int (-1), .ref (am 7), .int 0, .int 0, .ref (am 8), .int (-1), .ref (am 9), .ref (am 10), .int 0, .int 0, .ref (am 11), .int 0, .int 0, .int 0, .ref (am 12), .int 0, .ref (am 13), .int 0, .int 0, .int 0, .int 0, .int 0, .ref (am 14), .ref (am 15), .ref (am 16), .ref (am 17)]))]) (va_runV (As := [.int (xs 1)]) (rest := []) ⟨hx, hb, hml, hown, hts⟩ (hc9 _) (cwV 1 hts gL_law_X11_now rfl rfl rfl (by decide +kernel) ⟨Nat.le_of_ble_eq_true rfl, Nat.le_of_ble_eq_true rfl⟩) (z_preV hP hD hK hS hA hE hO [0, 1, 2, 3, 4] [] rfl (by decide +kernel) rfl 0 10 rfl rfl rfl) rfl rfl hl.1 rfl (lv_room (Nat.le_of_ble_eq_true rfl)) dL_law_592 ⟨Nat.le_of_ble_eq_true rfl, Nat.le_of_ble_eq_true rfl⟩) hP hD hK hS hA [0, 1, 2, 3, 4] [5, 6] rfl rfl (by decide +kernel) (by decide +kernel) (fun r9 u9 H locs hw hP hD hK hS => ?_)
  obtain ⟨er9, rfl⟩ := hw
  have hP : va_P D vwCl [(am 1, .inl (tm 1, 283, .inl (upd (fun _ => 0) 4 2))), (am 18, .inr (11, [.int 0, .ref (am 0), .int 0, .int 0, .int 0, .int 0, .ref (am 1), .ref (am 19), .ref (am 2), .ref (am 3), .ref (am 20), .int 0, .int 0, .int 0, .int 0, .int 0, .int 0, .long 0, .int 0, .int 0, .int 0, .ref (am 4), .ref (am 5), .int 0, .int 0, .int 0, .int 0, .ref (am 6), .int (-1), .ref (am 7), .int 0, .int 0, .ref (am 8), .int (-1), .ref (am 9), .ref (am 10), .int 0, .int 0, .ref (am 11), .int 0, .int 0, .int 0, .ref (am 12), .int 0, .ref (am 13), .int 0, .int 0, .int 0, .int 0, .int 0, .ref (am 14), .ref (am 15), .ref (am 16), .ref (am 17)]))] H := hP
  have hD : va_D A [(am 1, .inl (tm 1, 283, .inl (upd (fun _ => 0) 4 2))), (am 18, .inr (11, [.int 0, .ref (am 0), .int 0, .int 0, .int 0, .int 0, .ref (am 1), .ref (am 19), .ref (am 2), .ref (am 3), .ref (am 20), .int 0, .int 0, .int 0, .int 0, .int 0, .int 0, .long 0, .int 0, .int 0, .int 0, .ref (am 4), .ref (am 5), .int 0, .int 0, .int 0, .int 0, .ref (am 6), .int (-1), .ref (am 7), .int 0, .int 0, .ref (am 8), .int (-1), .ref (am 9), .ref (am 10), .int 0, .int 0, .ref (am 11), .int 0, .int 0, .int 0, .ref (am 12), .int 0, .ref (am 13), .int 0, .int 0, .int 0, .int 0, .int 0, .ref (am 14), .ref (am 15), .ref (am 16), .ref (am 17)]))] := hD
  have hK : va_K D vwCl ((gFt t ++ gMt tm) ++ [(to, .long)]) s := hK
  refine W.cs (cells' := 212) (slots' := 5680) rfl rfl ?_
  obtain rfl := er9
  refine W.eq (g2 := F0 m 595 ls (.int (s_X11_now (xs 1)) :: [])) rfl ?_
  refine lv_aload_n hx hb dL_law_595 rfl (lv_at hl 2 rfl) ?_
  refine lv_aload_n hx hb dL_law_596 rfl (lv_at hl 4 rfl) ?_
  refine lv_iload hx hb dL_law_597 (lv_at hl 0 rfl) ?_
  refine lv_iconst (v := 1) hx hb dL_law_599 (by decide) ?_
  refine lv_iadd hx hb dL_law_600 ?_
  refine lv_topi (fun y_2 ey_2 => ?_)
  obtain rfl : y_2 = 1 := ey_2.trans (by decide)
  refine va_sld hx hb hX hbl hbA hS (show ¬ (_ ∨ _) by decide) dL_law_601 ?_
  refine W.eq (g2 := F0 m 602 ls (.int (xs 1) :: [.ref (am 18), .int (s_X11_now (xs 1))])) rfl ?_
  have hc9 := (k_X12_now l D ad am tm (xs 1) (am 0) 0 0 0 0 (am 19) (am 2) (am 3) (am 20) 0 0 0 0 0 0 0 0 0 0 (am 4) (am 5) 0 0 0 0 (am 6) (-1) (am 7) 0 0 (am 8) (-1) (am 9) (am 10) 0 0 (am 11) 0 0 0 (am 12) 0 (am 13) 0 0 0 0 0 (am 14) (am 15) (am 16) (am 17) )
  refine z_calli (w0 := [(am 1, .inl (tm 1, 283, .inl (upd (fun _ => 0) 4 2))), (am 18, .inr (11, [.int 0, .ref (am 0), .int 0, .int 0, .int 0, .int 0, .ref (am 1), .ref (am 19), .ref (am 2), .ref (am 3), .ref (am 20), .int 0, .int 0, .int 0, .int 0, .int 0, .int 0, .long 0, .int 0, .int 0, .int 0, .ref (am 4), .ref (am 5), .int 0, .int 0, .int 0, .int 0, .ref (am 6), .int (-1), .ref (am 7), .int 0, .int 0, .ref (am 8), .int (-1), .ref (am 9), .ref (am 10), .int 0, .int 0, .ref (am 11), .int 0, .int 0, .int 0, .ref (am 12), .int 0, .ref (am 13), .int 0, .int 0, .int 0, .int 0, .int 0, .ref (am 14), .ref (am 15), .ref (am 16), .ref (am 17)]))]) (wr := []) (va_runV (As := [.int (xs 1)]) (rest := [.int (s_X11_now (xs 1))]) ⟨hx, hb, hml, hown, hts⟩ (hc9 _) (cwV 1 hts gL_law_X12_now rfl rfl rfl (by decide +kernel) ⟨Nat.le_of_ble_eq_true rfl, Nat.le_of_ble_eq_true rfl⟩) (z_preV hP hD hK hS hA hE hO [0, 1] [67] rfl (by decide +kernel) rfl 1 11 rfl rfl rfl) rfl rfl hl.1 rfl (lv_room (Nat.le_of_ble_eq_true rfl)) dL_law_602 ⟨Nat.le_of_ble_eq_true rfl, Nat.le_of_ble_eq_true rfl⟩) hP hD hK hS hA [0, 1] [] rfl rfl (by decide +kernel) (by decide +kernel) (fun r9 u9 H locs hw hP hD hK hS => ?_)
  obtain ⟨er9, rfl⟩ := hw
  have hP : va_P D vwCl [] H := hP
  have hD : va_D A [] := hD
  have hK : va_K D vwCl ((gFt t ++ gMt tm) ++ [(to, .long)]) s := hK
  refine W.cs (cells' := 212) (slots' := 5680) rfl rfl ?_
  obtain rfl := er9
  refine W.eq (g2 := F0 m 605 ls (.int (s_X12_now (xs 1)) :: [.int (s_X11_now (xs 1))])) rfl ?_
  refine lv_icmp_eq (tgt := 1398) hx hb dL_law_605 (by decide) (fun _ => ?_) (fun h9 => absurd (e_now (xs 1)) h9)
  exact law_end G0 hS (by decide) (by decide) (lv_sub hl [0, 4] rfl)

set_option maxHeartbeats 8000000 in
set_option maxRecDepth 100000 in
theorem lc_9 {p : Program} {l : Launch} {e : Env} {s : State} {m : MethodId} {below : List Frame} {meth : Method} {c : Code} {D : va_G} {ad : Nat → Nat} {A : Nat → Prop} {b : Nat} {xs : Nat → Int32} (G : z_G p s m meth c ad A b xs) {a am : Nat → Nat} {t tm : Nat → ClassId} {qo : Nat} {to : ClassId} {H : Heap} {locs : List Loc} {ls : Array Slot} (hP : va_P D vwCl ((gF ad a t ++ gM ad am tm) ++ [(qo, .inl (to, 1, .inr (.inl (fun _ => 0))))]) H) (hD : va_D A ((gF ad a t ++ gM ad am tm) ++ [(qo, .inl (to, 1, .inr (.inl (fun _ => 0))))])) (hK : va_K D vwCl ((gFt t ++ gMt tm) ++ [(to, .long)]) s) (hS : va_S A s.heap H locs) (hl : lv_has ls 7 [(4, .int 0), (3, .ref qo), (2, .ref (am 18)), (1, .ref (a 0)), (0, .ref b)]) : W p l e room_1 s m #[Value.ref b] below meth c H locs 212 5680 (lw_Z below #[Value.ref b] s) (F0 m 610 ls []) := by
  have G0 := G
  obtain ⟨hx, hb, hr, hml, hown, hts, hX, hbl, hbA, hA, hAl, hlocks, hE, hO⟩ := G
  have hP := hP.sub (ws' := [(a 0, .inr (10, [.ref (a 4), .ref (a 5), .ref (a 6), .ref (a 7), .ref (a 8), .ref (a 9), .ref (a 10), .ref (a 11), .ref (a 12), .int 0, .ref (a 13), .ref (a 102), .ref (a 14), .ref (a 15), .int (-1), .int (-1)])), (a 7, .inr (8, [.ref (a 28), .ref (a 29), .ref (a 30), .int 0, .ref (a 31), .ref (a 32), .ref (a 33), .int 0, .ref (a 34), .ref (a 35), .ref (a 36), .int 2])), (a 29, .inr (2, [.ref (a 78), .int 0])), (am 1, .inl (tm 1, 283, .inl (upd (fun _ => 0) 4 2))), (am 18, .inr (11, [.int 0, .ref (am 0), .int 0, .int 0, .int 0, .int 0, .ref (am 1), .ref (am 19), .ref (am 2), .ref (am 3), .ref (am 20), .int 0, .int 0, .int 0, .int 0, .int 0, .int 0, .long 0, .int 0, .int 0, .int 0, .ref (am 4), .ref (am 5), .int 0, .int 0, .int 0, .int 0, .ref (am 6), .int (-1), .ref (am 7), .int 0, .int 0, .ref (am 8), .int (-1), .ref (am 9), .ref (am 10), .int 0, .int 0, .ref (am 11), .int 0, .int 0, .int 0, .ref (am 12), .int 0, .ref (am 13), .int 0, .int 0, .int 0, .int 0, .int 0, .ref (am 14), .ref (am 15), .ref (am 16), .ref (am 17)]))]) [0, 7, 29, 103, 120] rfl
  have hD := hD.sub (ws' := [(a 0, .inr (10, [.ref (a 4), .ref (a 5), .ref (a 6), .ref (a 7), .ref (a 8), .ref (a 9), .ref (a 10), .ref (a 11), .ref (a 12), .int 0, .ref (a 13), .ref (a 102), .ref (a 14), .ref (a 15), .int (-1), .int (-1)])), (a 7, .inr (8, [.ref (a 28), .ref (a 29), .ref (a 30), .int 0, .ref (a 31), .ref (a 32), .ref (a 33), .int 0, .ref (a 34), .ref (a 35), .ref (a 36), .int 2])), (a 29, .inr (2, [.ref (a 78), .int 0])), (am 1, .inl (tm 1, 283, .inl (upd (fun _ => 0) 4 2))), (am 18, .inr (11, [.int 0, .ref (am 0), .int 0, .int 0, .int 0, .int 0, .ref (am 1), .ref (am 19), .ref (am 2), .ref (am 3), .ref (am 20), .int 0, .int 0, .int 0, .int 0, .int 0, .int 0, .long 0, .int 0, .int 0, .int 0, .ref (am 4), .ref (am 5), .int 0, .int 0, .int 0, .int 0, .ref (am 6), .int (-1), .ref (am 7), .int 0, .int 0, .ref (am 8), .int (-1), .ref (am 9), .ref (am 10), .int 0, .int 0, .ref (am 11), .int 0, .int 0, .int 0, .ref (am 12), .int 0, .ref (am 13), .int 0, .int 0, .int 0, .int 0, .int 0, .ref (am 14), .ref (am 15), .ref (am 16), .ref (am 17)]))]) [0, 7, 29, 103, 120] (by decide) rfl
  refine lv_aload_n hx hb dL_law_610 rfl (lv_at hl 3 rfl) ?_
  refine lv_aload_n hx hb dL_law_611 rfl (lv_at hl 4 rfl) ?_
  refine lv_iload hx hb dL_law_612 (lv_at hl 0 rfl) ?_
  refine lv_iconst (v := 1) hx hb dL_law_614 (by decide) ?_
  refine lv_iadd hx hb dL_law_615 ?_
  refine lv_topi (fun y_1 ey_1 => ?_)
  obtain rfl : y_1 = 1 := ey_1.trans (by decide)
  refine va_sld hx hb hX hbl hbA hS (show ¬ (_ ∨ _) by decide) dL_law_616 ?_
  refine W.eq (g2 := F0 m 617 ls (.int (xs 1) :: [.ref (a 0)])) rfl ?_
  refine lv_aload_n hx hb dL_law_617 rfl (lv_at hl 4 rfl) ?_
  refine lv_iload hx hb dL_law_618 (lv_at hl 0 rfl) ?_
  refine lv_iconst (v := 2) hx hb dL_law_620 (by decide) ?_
  refine lv_iadd hx hb dL_law_621 ?_
  refine lv_topi (fun y_2 ey_2 => ?_)
  obtain rfl : y_2 = 2 := ey_2.trans (by decide)
  refine va_sld hx hb hX hbl hbA hS (show ¬ (_ ∨ _) by decide) dL_law_622 ?_
  refine W.eq (g2 := F0 m 623 ls (.int (xs 2) :: [.int (xs 1), .ref (a 0)])) rfl ?_
  have hc9 := (k_X11_go l D ad a (xs 1) (xs 2) )
  refine z_calli (w0 := [(a 0, .inr (10, [.ref (a 4), .ref (a 5), .ref (a 6), .ref (a 7), .ref (a 8), .ref (a 9), .ref (a 10), .ref (a 11), .ref (a 12), .int 0, .ref (a 13), .ref (a 102), .ref (a 14), .ref (a 15), .int (-1), .int (-1)])), (a 7, .inr (8, [.ref (a 28), .ref (a 29), .ref (a 30), .int 0, .ref (a 31), .ref (a 32), .ref (a 33), .int 0, .ref (a 34), .ref (a 35), .ref (a 36), .int 2])), (a 29, .inr (2, [.ref (a 78), .int 0]))]) (wr := [(am 1, .inl (tm 1, 283, .inl (upd (fun _ => 0) 4 2))), (am 18, .inr (11, [.int 0, .ref (am 0), .int 0, .int 0, .int 0, .int 0, .ref (am 1), .ref (am 19), .ref (am 2), .ref (am 3), .ref (am 20), .int 0, .int 0, .int 0, .int 0, .int 0, .int 0, .long 0, .int 0, .int 0, .int 0, .ref (am 4), .ref (am 5), .int 0, .int 0, .int 0, .int 0, .ref (am 6), .int (-1), .ref (am 7), .int 0, .int 0, .ref (am 8), .int (-1), .ref (am 9), .ref (am 10), .int 0, .int 0, .ref (am 11), .int 0, .int 0, .int 0, .ref (am 12), .int 0, .ref (am 13), .int 0, .int 0, .int 0, .int 0, .int 0, .ref (am 14), .ref (am 15), .ref (am 16), .ref (am 17)]))]) (va_runV (As := [.int (xs 1), .int (xs 2)]) (rest := []) ⟨hx, hb, hml, hown, hts⟩ (hc9 _) (cwV 2 hts gL_law_X11_go rfl rfl rfl (by decide +kernel) ⟨Nat.le_of_ble_eq_true rfl, Nat.le_of_ble_eq_true rfl⟩) (z_preV hP hD hK hS hA hE hO [0, 1, 2] [] rfl (by decide +kernel) rfl 0 10 rfl rfl rfl) rfl rfl hl.1 rfl (lv_room (Nat.le_of_ble_eq_true rfl)) dL_law_623 ⟨Nat.le_of_ble_eq_true rfl, Nat.le_of_ble_eq_true rfl⟩) hP hD hK hS hA [0, 1, 2] [3, 4] rfl rfl (by decide +kernel) (by decide +kernel) (fun r9 u9 H locs hw hP hD hK hS => ?_)
  obtain ⟨er9, rfl⟩ := hw
  have hP : va_P D vwCl [(am 1, .inl (tm 1, 283, .inl (upd (fun _ => 0) 4 2))), (am 18, .inr (11, [.int 0, .ref (am 0), .int 0, .int 0, .int 0, .int 0, .ref (am 1), .ref (am 19), .ref (am 2), .ref (am 3), .ref (am 20), .int 0, .int 0, .int 0, .int 0, .int 0, .int 0, .long 0, .int 0, .int 0, .int 0, .ref (am 4), .ref (am 5), .int 0, .int 0, .int 0, .int 0, .ref (am 6), .int (-1), .ref (am 7), .int 0, .int 0, .ref (am 8), .int (-1), .ref (am 9), .ref (am 10), .int 0, .int 0, .ref (am 11), .int 0, .int 0, .int 0, .ref (am 12), .int 0, .ref (am 13), .int 0, .int 0, .int 0, .int 0, .int 0, .ref (am 14), .ref (am 15), .ref (am 16), .ref (am 17)]))] H := hP
  have hD : va_D A [(am 1, .inl (tm 1, 283, .inl (upd (fun _ => 0) 4 2))), (am 18, .inr (11, [.int 0, .ref (am 0), .int 0, .int 0, .int 0, .int 0, .ref (am 1), .ref (am 19), .ref (am 2), .ref (am 3), .ref (am 20), .int 0, .int 0, .int 0, .int 0, .int 0, .int 0, .long 0, .int 0, .int 0, .int 0, .ref (am 4), .ref (am 5), .int 0, .int 0, .int 0, .int 0, .ref (am 6), .int (-1), .ref (am 7), .int 0, .int 0, .ref (am 8), .int (-1), .ref (am 9), .ref (am 10), .int 0, .int 0, .ref (am 11), .int 0, .int 0, .int 0, .ref (am 12), .int 0, .ref (am 13), .int 0, .int 0, .int 0, .int 0, .int 0, .ref (am 14), .ref (am 15), .ref (am 16), .ref (am 17)]))] := hD
  have hK : va_K D vwCl ((gFt t ++ gMt tm) ++ [(to, .long)]) s := hK
  refine W.cs (cells' := 212) (slots' := 5680) rfl rfl ?_
  obtain rfl := er9
  refine W.eq (g2 := F0 m 626 ls (.int (-1) :: [])) rfl ?_
  refine lv_aload_n hx hb dL_law_626 rfl (lv_at hl 2 rfl) ?_
  refine lv_aload_n hx hb dL_law_627 rfl (lv_at hl 4 rfl) ?_
  refine lv_iload hx hb dL_law_628 (lv_at hl 0 rfl) ?_
  refine lv_iconst (v := 1) hx hb dL_law_630 (by decide) ?_
  refine lv_iadd hx hb dL_law_631 ?_
  refine lv_topi (fun y_3 ey_3 => ?_)
  obtain rfl : y_3 = 1 := ey_3.trans (by decide)
  refine va_sld hx hb hX hbl hbA hS (show ¬ (_ ∨ _) by decide) dL_law_632 ?_
  refine W.eq (g2 := F0 m 633 ls (.int (xs 1) :: [.ref (am 18), .int (-1)])) rfl ?_
  refine lv_aload_n hx hb dL_law_633 rfl (lv_at hl 4 rfl) ?_
  refine lv_iload hx hb dL_law_634 (lv_at hl 0 rfl) ?_
  refine lv_iconst (v := 2) hx hb dL_law_636 (by decide) ?_
  refine lv_iadd hx hb dL_law_637 ?_
  refine lv_topi (fun y_4 ey_4 => ?_)
  obtain rfl : y_4 = 2 := ey_4.trans (by decide)
  refine va_sld hx hb hX hbl hbA hS (show ¬ (_ ∨ _) by decide) dL_law_638 ?_
  refine W.eq (g2 := F0 m 639 ls (.int (xs 2) :: [.int (xs 1), .ref (am 18), .int (-1)])) rfl ?_
  have hc9 := (k_X12_go l D ad am tm (xs 1) (xs 2) (am 0) 0 0 0 0 (am 19) (am 2) (am 3) (am 20) 0 0 0 0 0 0 0 0 0 0 (am 4) (am 5) 0 0 0 0 (am 6) (-1) (am 7) 0 0 (am 8) (-1) (am 9) (am 10) 0 0 (am 11) 0 0 0 (am 12) 0 (am 13) 0 0 0 0 0 (am 14) (am 15) (am 16) (am 17) )
  refine z_calli (w0 := [(am 1, .inl (tm 1, 283, .inl (upd (fun _ => 0) 4 2))), (am 18, .inr (11, [.int 0, .ref (am 0), .int 0, .int 0, .int 0, .int 0, .ref (am 1), .ref (am 19), .ref (am 2), .ref (am 3), .ref (am 20), .int 0, .int 0, .int 0, .int 0, .int 0, .int 0, .long 0, .int 0, .int 0, .int 0, .ref (am 4), .ref (am 5), .int 0, .int 0, .int 0, .int 0, .ref (am 6), .int (-1), .ref (am 7), .int 0, .int 0, .ref (am 8), .int (-1), .ref (am 9), .ref (am 10), .int 0, .int 0, .ref (am 11), .int 0, .int 0, .int 0, .ref (am 12), .int 0, .ref (am 13), .int 0, .int 0, .int 0, .int 0, .int 0, .ref (am 14), .ref (am 15), .ref (am 16), .ref (am 17)]))]) (wr := []) (va_runV (As := [.int (xs 1), .int (xs 2)]) (rest := [.int (-1)]) ⟨hx, hb, hml, hown, hts⟩ (hc9 _) (cwV 2 hts gL_law_X12_go rfl rfl rfl (by decide +kernel) ⟨Nat.le_of_ble_eq_true rfl, Nat.le_of_ble_eq_true rfl⟩) (z_preV hP hD hK hS hA hE hO [0, 1] [67] rfl (by decide +kernel) rfl 1 11 rfl rfl rfl) rfl rfl hl.1 rfl (lv_room (Nat.le_of_ble_eq_true rfl)) dL_law_639 ⟨Nat.le_of_ble_eq_true rfl, Nat.le_of_ble_eq_true rfl⟩) hP hD hK hS hA [0, 1] [] rfl rfl (by decide +kernel) (by decide +kernel) (fun r9 u9 H locs hw hP hD hK hS => ?_)
  obtain ⟨er9, rfl⟩ := hw
  have hP : va_P D vwCl [] H := hP
  have hD : va_D A [] := hD
  have hK : va_K D vwCl ((gFt t ++ gMt tm) ++ [(to, .long)]) s := hK
  refine W.cs (cells' := 212) (slots' := 5680) rfl rfl ?_
  obtain rfl := er9
  refine W.eq (g2 := F0 m 642 ls (.int (-1) :: [.int (-1)])) rfl ?_
  refine lv_icmp_eq (tgt := 1398) hx hb dL_law_642 (by decide) (fun _ => ?_) (fun h9 => absurd (by decide) h9)
  exact law_end G0 hS (by decide) (by decide) (lv_sub hl [0, 4] rfl)

set_option maxHeartbeats 8000000 in
set_option maxRecDepth 100000 in
theorem lc_10 {p : Program} {l : Launch} {e : Env} {s : State} {m : MethodId} {below : List Frame} {meth : Method} {c : Code} {D : va_G} {ad : Nat → Nat} {A : Nat → Prop} {b : Nat} {xs : Nat → Int32} (G : z_G p s m meth c ad A b xs) {a am : Nat → Nat} {t tm : Nat → ClassId} {qo : Nat} {to : ClassId} {H : Heap} {locs : List Loc} {ls : Array Slot} (hP : va_P D vwCl ((gF ad a t ++ gM ad am tm) ++ [(qo, .inl (to, 1, .inr (.inl (fun _ => 0))))]) H) (hD : va_D A ((gF ad a t ++ gM ad am tm) ++ [(qo, .inl (to, 1, .inr (.inl (fun _ => 0))))])) (hK : va_K D vwCl ((gFt t ++ gMt tm) ++ [(to, .long)]) s) (hS : va_S A s.heap H locs) (hl : lv_has ls 7 [(4, .int 0), (3, .ref qo), (2, .ref (am 18)), (1, .ref (a 0)), (0, .ref b)]) : W p l e room_1 s m #[Value.ref b] below meth c H locs 212 5680 (lw_Z below #[Value.ref b] s) (F0 m 647 ls []) := by
  have G0 := G
  obtain ⟨hx, hb, hr, hml, hown, hts, hX, hbl, hbA, hA, hAl, hlocks, hE, hO⟩ := G
  have hP := hP.sub (ws' := [(a 0, .inr (10, [.ref (a 4), .ref (a 5), .ref (a 6), .ref (a 7), .ref (a 8), .ref (a 9), .ref (a 10), .ref (a 11), .ref (a 12), .int 0, .ref (a 13), .ref (a 102), .ref (a 14), .ref (a 15), .int (-1), .int (-1)])), (a 7, .inr (8, [.ref (a 28), .ref (a 29), .ref (a 30), .int 0, .ref (a 31), .ref (a 32), .ref (a 33), .int 0, .ref (a 34), .ref (a 35), .ref (a 36), .int 2])), (a 29, .inr (2, [.ref (a 78), .int 0])), (am 1, .inl (tm 1, 283, .inl (upd (fun _ => 0) 4 2))), (am 18, .inr (11, [.int 0, .ref (am 0), .int 0, .int 0, .int 0, .int 0, .ref (am 1), .ref (am 19), .ref (am 2), .ref (am 3), .ref (am 20), .int 0, .int 0, .int 0, .int 0, .int 0, .int 0, .long 0, .int 0, .int 0, .int 0, .ref (am 4), .ref (am 5), .int 0, .int 0, .int 0, .int 0, .ref (am 6), .int (-1), .ref (am 7), .int 0, .int 0, .ref (am 8), .int (-1), .ref (am 9), .ref (am 10), .int 0, .int 0, .ref (am 11), .int 0, .int 0, .int 0, .ref (am 12), .int 0, .ref (am 13), .int 0, .int 0, .int 0, .int 0, .int 0, .ref (am 14), .ref (am 15), .ref (am 16), .ref (am 17)]))]) [0, 7, 29, 103, 120] rfl
  have hD := hD.sub (ws' := [(a 0, .inr (10, [.ref (a 4), .ref (a 5), .ref (a 6), .ref (a 7), .ref (a 8), .ref (a 9), .ref (a 10), .ref (a 11), .ref (a 12), .int 0, .ref (a 13), .ref (a 102), .ref (a 14), .ref (a 15), .int (-1), .int (-1)])), (a 7, .inr (8, [.ref (a 28), .ref (a 29), .ref (a 30), .int 0, .ref (a 31), .ref (a 32), .ref (a 33), .int 0, .ref (a 34), .ref (a 35), .ref (a 36), .int 2])), (a 29, .inr (2, [.ref (a 78), .int 0])), (am 1, .inl (tm 1, 283, .inl (upd (fun _ => 0) 4 2))), (am 18, .inr (11, [.int 0, .ref (am 0), .int 0, .int 0, .int 0, .int 0, .ref (am 1), .ref (am 19), .ref (am 2), .ref (am 3), .ref (am 20), .int 0, .int 0, .int 0, .int 0, .int 0, .int 0, .long 0, .int 0, .int 0, .int 0, .ref (am 4), .ref (am 5), .int 0, .int 0, .int 0, .int 0, .ref (am 6), .int (-1), .ref (am 7), .int 0, .int 0, .ref (am 8), .int (-1), .ref (am 9), .ref (am 10), .int 0, .int 0, .ref (am 11), .int 0, .int 0, .int 0, .ref (am 12), .int 0, .ref (am 13), .int 0, .int 0, .int 0, .int 0, .int 0, .ref (am 14), .ref (am 15), .ref (am 16), .ref (am 17)]))]) [0, 7, 29, 103, 120] (by decide) rfl
  refine lv_aload_n hx hb dL_law_647 rfl (lv_at hl 3 rfl) ?_
  refine lv_aload_n hx hb dL_law_648 rfl (lv_at hl 4 rfl) ?_
  refine lv_iload hx hb dL_law_649 (lv_at hl 0 rfl) ?_
  refine lv_iconst (v := 1) hx hb dL_law_651 (by decide) ?_
  refine lv_iadd hx hb dL_law_652 ?_
  refine lv_topi (fun y_1 ey_1 => ?_)
  obtain rfl : y_1 = 1 := ey_1.trans (by decide)
  refine va_sld hx hb hX hbl hbA hS (show ¬ (_ ∨ _) by decide) dL_law_653 ?_
  refine W.eq (g2 := F0 m 654 ls (.int (xs 1) :: [.ref (a 0)])) rfl ?_
  refine lv_aload_n hx hb dL_law_654 rfl (lv_at hl 4 rfl) ?_
  refine lv_iload hx hb dL_law_655 (lv_at hl 0 rfl) ?_
  refine lv_iconst (v := 2) hx hb dL_law_657 (by decide) ?_
  refine lv_iadd hx hb dL_law_658 ?_
  refine lv_topi (fun y_2 ey_2 => ?_)
  obtain rfl : y_2 = 2 := ey_2.trans (by decide)
  refine va_sld hx hb hX hbl hbA hS (show ¬ (_ ∨ _) by decide) dL_law_659 ?_
  refine W.eq (g2 := F0 m 660 ls (.int (xs 2) :: [.int (xs 1), .ref (a 0)])) rfl ?_
  have hc9 := (k_X11_take l D ad a (xs 1) (xs 2) )
  refine z_calli (w0 := [(a 0, .inr (10, [.ref (a 4), .ref (a 5), .ref (a 6), .ref (a 7), .ref (a 8), .ref (a 9), .ref (a 10), .ref (a 11), .ref (a 12), .int 0, .ref (a 13), .ref (a 102), .ref (a 14), .ref (a 15), .int (-1), .int (-1)])), (a 7, .inr (8, [.ref (a 28), .ref (a 29), .ref (a 30), .int 0, .ref (a 31), .ref (a 32), .ref (a 33), .int 0, .ref (a 34), .ref (a 35), .ref (a 36), .int 2])), (a 29, .inr (2, [.ref (a 78), .int 0]))]) (wr := [(am 1, .inl (tm 1, 283, .inl (upd (fun _ => 0) 4 2))), (am 18, .inr (11, [.int 0, .ref (am 0), .int 0, .int 0, .int 0, .int 0, .ref (am 1), .ref (am 19), .ref (am 2), .ref (am 3), .ref (am 20), .int 0, .int 0, .int 0, .int 0, .int 0, .int 0, .long 0, .int 0, .int 0, .int 0, .ref (am 4), .ref (am 5), .int 0, .int 0, .int 0, .int 0, .ref (am 6), .int (-1), .ref (am 7), .int 0, .int 0, .ref (am 8), .int (-1), .ref (am 9), .ref (am 10), .int 0, .int 0, .ref (am 11), .int 0, .int 0, .int 0, .ref (am 12), .int 0, .ref (am 13), .int 0, .int 0, .int 0, .int 0, .int 0, .ref (am 14), .ref (am 15), .ref (am 16), .ref (am 17)]))]) (va_runV (As := [.int (xs 1), .int (xs 2)]) (rest := []) ⟨hx, hb, hml, hown, hts⟩ (hc9 _) (cwV 2 hts gL_law_X11_take rfl rfl rfl (by decide +kernel) ⟨Nat.le_of_ble_eq_true rfl, Nat.le_of_ble_eq_true rfl⟩) (z_preV hP hD hK hS hA hE hO [0, 1, 2] [] rfl (by decide +kernel) rfl 0 10 rfl rfl rfl) rfl rfl hl.1 rfl (lv_room (Nat.le_of_ble_eq_true rfl)) dL_law_660 ⟨Nat.le_of_ble_eq_true rfl, Nat.le_of_ble_eq_true rfl⟩) hP hD hK hS hA [0, 1, 2] [3, 4] rfl rfl (by decide +kernel) (by decide +kernel) (fun r9 u9 H locs hw hP hD hK hS => ?_)
  obtain ⟨er9, rfl⟩ := hw
  have hP : va_P D vwCl [(am 1, .inl (tm 1, 283, .inl (upd (fun _ => 0) 4 2))), (am 18, .inr (11, [.int 0, .ref (am 0), .int 0, .int 0, .int 0, .int 0, .ref (am 1), .ref (am 19), .ref (am 2), .ref (am 3), .ref (am 20), .int 0, .int 0, .int 0, .int 0, .int 0, .int 0, .long 0, .int 0, .int 0, .int 0, .ref (am 4), .ref (am 5), .int 0, .int 0, .int 0, .int 0, .ref (am 6), .int (-1), .ref (am 7), .int 0, .int 0, .ref (am 8), .int (-1), .ref (am 9), .ref (am 10), .int 0, .int 0, .ref (am 11), .int 0, .int 0, .int 0, .ref (am 12), .int 0, .ref (am 13), .int 0, .int 0, .int 0, .int 0, .int 0, .ref (am 14), .ref (am 15), .ref (am 16), .ref (am 17)]))] H := hP
  have hD : va_D A [(am 1, .inl (tm 1, 283, .inl (upd (fun _ => 0) 4 2))), (am 18, .inr (11, [.int 0, .ref (am 0), .int 0, .int 0, .int 0, .int 0, .ref (am 1), .ref (am 19), .ref (am 2), .ref (am 3), .ref (am 20), .int 0, .int 0, .int 0, .int 0, .int 0, .int 0, .long 0, .int 0, .int 0, .int 0, .ref (am 4), .ref (am 5), .int 0, .int 0, .int 0, .int 0, .ref (am 6), .int (-1), .ref (am 7), .int 0, .int 0, .ref (am 8), .int (-1), .ref (am 9), .ref (am 10), .int 0, .int 0, .ref (am 11), .int 0, .int 0, .int 0, .ref (am 12), .int 0, .ref (am 13), .int 0, .int 0, .int 0, .int 0, .int 0, .ref (am 14), .ref (am 15), .ref (am 16), .ref (am 17)]))] := hD
  have hK : va_K D vwCl ((gFt t ++ gMt tm) ++ [(to, .long)]) s := hK
  refine W.cs (cells' := 212) (slots' := 5680) rfl rfl ?_
  obtain rfl := er9
  refine W.eq (g2 := F0 m 663 ls (.int (-1) :: [])) rfl ?_
  refine lv_aload_n hx hb dL_law_663 rfl (lv_at hl 2 rfl) ?_
  refine lv_aload_n hx hb dL_law_664 rfl (lv_at hl 4 rfl) ?_
  refine lv_iload hx hb dL_law_665 (lv_at hl 0 rfl) ?_
  refine lv_iconst (v := 1) hx hb dL_law_667 (by decide) ?_
  refine lv_iadd hx hb dL_law_668 ?_
  refine lv_topi (fun y_3 ey_3 => ?_)
  obtain rfl : y_3 = 1 := ey_3.trans (by decide)
  refine va_sld hx hb hX hbl hbA hS (show ¬ (_ ∨ _) by decide) dL_law_669 ?_
  refine W.eq (g2 := F0 m 670 ls (.int (xs 1) :: [.ref (am 18), .int (-1)])) rfl ?_
  refine lv_aload_n hx hb dL_law_670 rfl (lv_at hl 4 rfl) ?_
  refine lv_iload hx hb dL_law_671 (lv_at hl 0 rfl) ?_
  refine lv_iconst (v := 2) hx hb dL_law_673 (by decide) ?_
  refine lv_iadd hx hb dL_law_674 ?_
  refine lv_topi (fun y_4 ey_4 => ?_)
  obtain rfl : y_4 = 2 := ey_4.trans (by decide)
  refine va_sld hx hb hX hbl hbA hS (show ¬ (_ ∨ _) by decide) dL_law_675 ?_
  refine W.eq (g2 := F0 m 676 ls (.int (xs 2) :: [.int (xs 1), .ref (am 18), .int (-1)])) rfl ?_
  have hc9 := (k_X12_take l D ad am tm (xs 1) (xs 2) (am 0) 0 0 0 0 (am 19) (am 2) (am 3) (am 20) 0 0 0 0 0 0 0 0 0 0 (am 4) (am 5) 0 0 0 0 (am 6) (-1) (am 7) 0 0 (am 8) (-1) (am 9) (am 10) 0 0 (am 11) 0 0 0 (am 12) 0 (am 13) 0 0 0 0 0 (am 14) (am 15) (am 16) (am 17) )
  refine z_calli (w0 := [(am 1, .inl (tm 1, 283, .inl (upd (fun _ => 0) 4 2))), (am 18, .inr (11, [.int 0, .ref (am 0), .int 0, .int 0, .int 0, .int 0, .ref (am 1), .ref (am 19), .ref (am 2), .ref (am 3), .ref (am 20), .int 0, .int 0, .int 0, .int 0, .int 0, .int 0, .long 0, .int 0, .int 0, .int 0, .ref (am 4), .ref (am 5), .int 0, .int 0, .int 0, .int 0, .ref (am 6), .int (-1), .ref (am 7), .int 0, .int 0, .ref (am 8), .int (-1), .ref (am 9), .ref (am 10), .int 0, .int 0, .ref (am 11), .int 0, .int 0, .int 0, .ref (am 12), .int 0, .ref (am 13), .int 0, .int 0, .int 0, .int 0, .int 0, .ref (am 14), .ref (am 15), .ref (am 16), .ref (am 17)]))]) (wr := []) (va_runV (As := [.int (xs 1), .int (xs 2)]) (rest := [.int (-1)]) ⟨hx, hb, hml, hown, hts⟩ (hc9 _) (cwV 2 hts gL_law_X12_take rfl rfl rfl (by decide +kernel) ⟨Nat.le_of_ble_eq_true rfl, Nat.le_of_ble_eq_true rfl⟩) (z_preV hP hD hK hS hA hE hO [0, 1] [67] rfl (by decide +kernel) rfl 1 11 rfl rfl rfl) rfl rfl hl.1 rfl (lv_room (Nat.le_of_ble_eq_true rfl)) dL_law_676 ⟨Nat.le_of_ble_eq_true rfl, Nat.le_of_ble_eq_true rfl⟩) hP hD hK hS hA [0, 1] [] rfl rfl (by decide +kernel) (by decide +kernel) (fun r9 u9 H locs hw hP hD hK hS => ?_)
  obtain ⟨er9, rfl⟩ := hw
  have hP : va_P D vwCl [] H := hP
  have hD : va_D A [] := hD
  have hK : va_K D vwCl ((gFt t ++ gMt tm) ++ [(to, .long)]) s := hK
  refine W.cs (cells' := 212) (slots' := 5680) rfl rfl ?_
  obtain rfl := er9
  refine W.eq (g2 := F0 m 679 ls (.int (-1) :: [.int (-1)])) rfl ?_
  refine lv_icmp_eq (tgt := 1398) hx hb dL_law_679 (by decide) (fun _ => ?_) (fun h9 => absurd (by decide) h9)
  exact law_end G0 hS (by decide) (by decide) (lv_sub hl [0, 4] rfl)

set_option maxHeartbeats 8000000 in
set_option maxRecDepth 100000 in
theorem lc_11 {p : Program} {l : Launch} {e : Env} {s : State} {m : MethodId} {below : List Frame} {meth : Method} {c : Code} {D : va_G} {ad : Nat → Nat} {A : Nat → Prop} {b : Nat} {xs : Nat → Int32} (G : z_G p s m meth c ad A b xs) {a am : Nat → Nat} {t tm : Nat → ClassId} {qo : Nat} {to : ClassId} {H : Heap} {locs : List Loc} {ls : Array Slot} (hP : va_P D vwCl ((gF ad a t ++ gM ad am tm) ++ [(qo, .inl (to, 1, .inr (.inl (fun _ => 0))))]) H) (hD : va_D A ((gF ad a t ++ gM ad am tm) ++ [(qo, .inl (to, 1, .inr (.inl (fun _ => 0))))])) (hK : va_K D vwCl ((gFt t ++ gMt tm) ++ [(to, .long)]) s) (hS : va_S A s.heap H locs) (hl : lv_has ls 7 [(4, .int 0), (3, .ref qo), (2, .ref (am 18)), (1, .ref (a 0)), (0, .ref b)]) : W p l e room_1 s m #[Value.ref b] below meth c H locs 212 5680 (lw_Z below #[Value.ref b] s) (F0 m 684 ls []) := by
  have G0 := G
  obtain ⟨hx, hb, hr, hml, hown, hts, hX, hbl, hbA, hA, hAl, hlocks, hE, hO⟩ := G
  have hP := hP.sub (ws' := [(a 0, .inr (10, [.ref (a 4), .ref (a 5), .ref (a 6), .ref (a 7), .ref (a 8), .ref (a 9), .ref (a 10), .ref (a 11), .ref (a 12), .int 0, .ref (a 13), .ref (a 102), .ref (a 14), .ref (a 15), .int (-1), .int (-1)])), (a 7, .inr (8, [.ref (a 28), .ref (a 29), .ref (a 30), .int 0, .ref (a 31), .ref (a 32), .ref (a 33), .int 0, .ref (a 34), .ref (a 35), .ref (a 36), .int 2])), (a 29, .inr (2, [.ref (a 78), .int 0])), (am 1, .inl (tm 1, 283, .inl (upd (fun _ => 0) 4 2))), (am 18, .inr (11, [.int 0, .ref (am 0), .int 0, .int 0, .int 0, .int 0, .ref (am 1), .ref (am 19), .ref (am 2), .ref (am 3), .ref (am 20), .int 0, .int 0, .int 0, .int 0, .int 0, .int 0, .long 0, .int 0, .int 0, .int 0, .ref (am 4), .ref (am 5), .int 0, .int 0, .int 0, .int 0, .ref (am 6), .int (-1), .ref (am 7), .int 0, .int 0, .ref (am 8), .int (-1), .ref (am 9), .ref (am 10), .int 0, .int 0, .ref (am 11), .int 0, .int 0, .int 0, .ref (am 12), .int 0, .ref (am 13), .int 0, .int 0, .int 0, .int 0, .int 0, .ref (am 14), .ref (am 15), .ref (am 16), .ref (am 17)]))]) [0, 7, 29, 103, 120] rfl
  have hD := hD.sub (ws' := [(a 0, .inr (10, [.ref (a 4), .ref (a 5), .ref (a 6), .ref (a 7), .ref (a 8), .ref (a 9), .ref (a 10), .ref (a 11), .ref (a 12), .int 0, .ref (a 13), .ref (a 102), .ref (a 14), .ref (a 15), .int (-1), .int (-1)])), (a 7, .inr (8, [.ref (a 28), .ref (a 29), .ref (a 30), .int 0, .ref (a 31), .ref (a 32), .ref (a 33), .int 0, .ref (a 34), .ref (a 35), .ref (a 36), .int 2])), (a 29, .inr (2, [.ref (a 78), .int 0])), (am 1, .inl (tm 1, 283, .inl (upd (fun _ => 0) 4 2))), (am 18, .inr (11, [.int 0, .ref (am 0), .int 0, .int 0, .int 0, .int 0, .ref (am 1), .ref (am 19), .ref (am 2), .ref (am 3), .ref (am 20), .int 0, .int 0, .int 0, .int 0, .int 0, .int 0, .long 0, .int 0, .int 0, .int 0, .ref (am 4), .ref (am 5), .int 0, .int 0, .int 0, .int 0, .ref (am 6), .int (-1), .ref (am 7), .int 0, .int 0, .ref (am 8), .int (-1), .ref (am 9), .ref (am 10), .int 0, .int 0, .ref (am 11), .int 0, .int 0, .int 0, .ref (am 12), .int 0, .ref (am 13), .int 0, .int 0, .int 0, .int 0, .int 0, .ref (am 14), .ref (am 15), .ref (am 16), .ref (am 17)]))]) [0, 7, 29, 103, 120] (by decide) rfl
  refine lv_aload_n hx hb dL_law_684 rfl (lv_at hl 3 rfl) ?_
  refine lv_aload_n hx hb dL_law_685 rfl (lv_at hl 4 rfl) ?_
  refine lv_iload hx hb dL_law_686 (lv_at hl 0 rfl) ?_
  refine lv_iconst (v := 1) hx hb dL_law_688 (by decide) ?_
  refine lv_iadd hx hb dL_law_689 ?_
  refine lv_topi (fun y_1 ey_1 => ?_)
  obtain rfl : y_1 = 1 := ey_1.trans (by decide)
  refine va_sld hx hb hX hbl hbA hS (show ¬ (_ ∨ _) by decide) dL_law_690 ?_
  refine W.eq (g2 := F0 m 691 ls (.int (xs 1) :: [.ref (a 0)])) rfl ?_
  refine lv_aload_n hx hb dL_law_691 rfl (lv_at hl 4 rfl) ?_
  refine lv_iload hx hb dL_law_692 (lv_at hl 0 rfl) ?_
  refine lv_iconst (v := 2) hx hb dL_law_694 (by decide) ?_
  refine lv_iadd hx hb dL_law_695 ?_
  refine lv_topi (fun y_2 ey_2 => ?_)
  obtain rfl : y_2 = 2 := ey_2.trans (by decide)
  refine va_sld hx hb hX hbl hbA hS (show ¬ (_ ∨ _) by decide) dL_law_696 ?_
  refine W.eq (g2 := F0 m 697 ls (.int (xs 2) :: [.int (xs 1), .ref (a 0)])) rfl ?_
  have hc9 := (k_X11_leave l D ad a (xs 1) (xs 2) )
  refine z_calli (w0 := [(a 0, .inr (10, [.ref (a 4), .ref (a 5), .ref (a 6), .ref (a 7), .ref (a 8), .ref (a 9), .ref (a 10), .ref (a 11), .ref (a 12), .int 0, .ref (a 13), .ref (a 102), .ref (a 14), .ref (a 15), .int (-1), .int (-1)])), (a 7, .inr (8, [.ref (a 28), .ref (a 29), .ref (a 30), .int 0, .ref (a 31), .ref (a 32), .ref (a 33), .int 0, .ref (a 34), .ref (a 35), .ref (a 36), .int 2])), (a 29, .inr (2, [.ref (a 78), .int 0]))]) (wr := [(am 1, .inl (tm 1, 283, .inl (upd (fun _ => 0) 4 2))), (am 18, .inr (11, [.int 0, .ref (am 0), .int 0, .int 0, .int 0, .int 0, .ref (am 1), .ref (am 19), .ref (am 2), .ref (am 3), .ref (am 20), .int 0, .int 0, .int 0, .int 0, .int 0, .int 0, .long 0, .int 0, .int 0, .int 0, .ref (am 4), .ref (am 5), .int 0, .int 0, .int 0, .int 0, .ref (am 6), .int (-1), .ref (am 7), .int 0, .int 0, .ref (am 8), .int (-1), .ref (am 9), .ref (am 10), .int 0, .int 0, .ref (am 11), .int 0, .int 0, .int 0, .ref (am 12), .int 0, .ref (am 13), .int 0, .int 0, .int 0, .int 0, .int 0, .ref (am 14), .ref (am 15), .ref (am 16), .ref (am 17)]))]) (va_runV (As := [.int (xs 1), .int (xs 2)]) (rest := []) ⟨hx, hb, hml, hown, hts⟩ (hc9 _) (cwV 2 hts gL_law_X11_leave rfl rfl rfl (by decide +kernel) ⟨Nat.le_of_ble_eq_true rfl, Nat.le_of_ble_eq_true rfl⟩) (z_preV hP hD hK hS hA hE hO [0, 1, 2] [] rfl (by decide +kernel) rfl 0 10 rfl rfl rfl) rfl rfl hl.1 rfl (lv_room (Nat.le_of_ble_eq_true rfl)) dL_law_697 ⟨Nat.le_of_ble_eq_true rfl, Nat.le_of_ble_eq_true rfl⟩) hP hD hK hS hA [0, 1, 2] [3, 4] rfl rfl (by decide +kernel) (by decide +kernel) (fun r9 u9 H locs hw hP hD hK hS => ?_)
  obtain ⟨er9, rfl⟩ := hw
  have hP : va_P D vwCl [(am 1, .inl (tm 1, 283, .inl (upd (fun _ => 0) 4 2))), (am 18, .inr (11, [.int 0, .ref (am 0), .int 0, .int 0, .int 0, .int 0, .ref (am 1), .ref (am 19), .ref (am 2), .ref (am 3), .ref (am 20), .int 0, .int 0, .int 0, .int 0, .int 0, .int 0, .long 0, .int 0, .int 0, .int 0, .ref (am 4), .ref (am 5), .int 0, .int 0, .int 0, .int 0, .ref (am 6), .int (-1), .ref (am 7), .int 0, .int 0, .ref (am 8), .int (-1), .ref (am 9), .ref (am 10), .int 0, .int 0, .ref (am 11), .int 0, .int 0, .int 0, .ref (am 12), .int 0, .ref (am 13), .int 0, .int 0, .int 0, .int 0, .int 0, .ref (am 14), .ref (am 15), .ref (am 16), .ref (am 17)]))] H := hP
  have hD : va_D A [(am 1, .inl (tm 1, 283, .inl (upd (fun _ => 0) 4 2))), (am 18, .inr (11, [.int 0, .ref (am 0), .int 0, .int 0, .int 0, .int 0, .ref (am 1), .ref (am 19), .ref (am 2), .ref (am 3), .ref (am 20), .int 0, .int 0, .int 0, .int 0, .int 0, .int 0, .long 0, .int 0, .int 0, .int 0, .ref (am 4), .ref (am 5), .int 0, .int 0, .int 0, .int 0, .ref (am 6), .int (-1), .ref (am 7), .int 0, .int 0, .ref (am 8), .int (-1), .ref (am 9), .ref (am 10), .int 0, .int 0, .ref (am 11), .int 0, .int 0, .int 0, .ref (am 12), .int 0, .ref (am 13), .int 0, .int 0, .int 0, .int 0, .int 0, .ref (am 14), .ref (am 15), .ref (am 16), .ref (am 17)]))] := hD
  have hK : va_K D vwCl ((gFt t ++ gMt tm) ++ [(to, .long)]) s := hK
  refine W.cs (cells' := 212) (slots' := 5680) rfl rfl ?_
  obtain rfl := er9
  refine W.eq (g2 := F0 m 700 ls (.int (-1) :: [])) rfl ?_
  refine lv_aload_n hx hb dL_law_700 rfl (lv_at hl 2 rfl) ?_
  refine lv_aload_n hx hb dL_law_701 rfl (lv_at hl 4 rfl) ?_
  refine lv_iload hx hb dL_law_702 (lv_at hl 0 rfl) ?_
  refine lv_iconst (v := 1) hx hb dL_law_704 (by decide) ?_
  refine lv_iadd hx hb dL_law_705 ?_
  refine lv_topi (fun y_3 ey_3 => ?_)
  obtain rfl : y_3 = 1 := ey_3.trans (by decide)
  refine va_sld hx hb hX hbl hbA hS (show ¬ (_ ∨ _) by decide) dL_law_706 ?_
  refine W.eq (g2 := F0 m 707 ls (.int (xs 1) :: [.ref (am 18), .int (-1)])) rfl ?_
  refine lv_aload_n hx hb dL_law_707 rfl (lv_at hl 4 rfl) ?_
  refine lv_iload hx hb dL_law_708 (lv_at hl 0 rfl) ?_
  refine lv_iconst (v := 2) hx hb dL_law_710 (by decide) ?_
  refine lv_iadd hx hb dL_law_711 ?_
  refine lv_topi (fun y_4 ey_4 => ?_)
  obtain rfl : y_4 = 2 := ey_4.trans (by decide)
  refine va_sld hx hb hX hbl hbA hS (show ¬ (_ ∨ _) by decide) dL_law_712 ?_
  refine W.eq (g2 := F0 m 713 ls (.int (xs 2) :: [.int (xs 1), .ref (am 18), .int (-1)])) rfl ?_
  have hc9 := (k_X12_leave l D ad am tm (xs 1) (xs 2) (am 0) 0 0 0 0 (am 19) (am 2) (am 3) (am 20) 0 0 0 0 0 0 0 0 0 0 (am 4) (am 5) 0 0 0 0 (am 6) (-1) (am 7) 0 0 (am 8) (-1) (am 9) (am 10) 0 0 (am 11) 0 0 0 (am 12) 0 (am 13) 0 0 0 0 0 (am 14) (am 15) (am 16) (am 17) )
  refine z_calli (w0 := [(am 1, .inl (tm 1, 283, .inl (upd (fun _ => 0) 4 2))), (am 18, .inr (11, [.int 0, .ref (am 0), .int 0, .int 0, .int 0, .int 0, .ref (am 1), .ref (am 19), .ref (am 2), .ref (am 3), .ref (am 20), .int 0, .int 0, .int 0, .int 0, .int 0, .int 0, .long 0, .int 0, .int 0, .int 0, .ref (am 4), .ref (am 5), .int 0, .int 0, .int 0, .int 0, .ref (am 6), .int (-1), .ref (am 7), .int 0, .int 0, .ref (am 8), .int (-1), .ref (am 9), .ref (am 10), .int 0, .int 0, .ref (am 11), .int 0, .int 0, .int 0, .ref (am 12), .int 0, .ref (am 13), .int 0, .int 0, .int 0, .int 0, .int 0, .ref (am 14), .ref (am 15), .ref (am 16), .ref (am 17)]))]) (wr := []) (va_runV (As := [.int (xs 1), .int (xs 2)]) (rest := [.int (-1)]) ⟨hx, hb, hml, hown, hts⟩ (hc9 _) (cwV 2 hts gL_law_X12_leave rfl rfl rfl (by decide +kernel) ⟨Nat.le_of_ble_eq_true rfl, Nat.le_of_ble_eq_true rfl⟩) (z_preV hP hD hK hS hA hE hO [0, 1] [67] rfl (by decide +kernel) rfl 1 11 rfl rfl rfl) rfl rfl hl.1 rfl (lv_room (Nat.le_of_ble_eq_true rfl)) dL_law_713 ⟨Nat.le_of_ble_eq_true rfl, Nat.le_of_ble_eq_true rfl⟩) hP hD hK hS hA [0, 1] [] rfl rfl (by decide +kernel) (by decide +kernel) (fun r9 u9 H locs hw hP hD hK hS => ?_)
  obtain ⟨er9, rfl⟩ := hw
  have hP : va_P D vwCl [] H := hP
  have hD : va_D A [] := hD
  have hK : va_K D vwCl ((gFt t ++ gMt tm) ++ [(to, .long)]) s := hK
  refine W.cs (cells' := 212) (slots' := 5680) rfl rfl ?_
  obtain rfl := er9
  refine W.eq (g2 := F0 m 716 ls (.int (-1) :: [.int (-1)])) rfl ?_
  refine lv_icmp_eq (tgt := 1398) hx hb dL_law_716 (by decide) (fun _ => ?_) (fun h9 => absurd (by decide) h9)
  exact law_end G0 hS (by decide) (by decide) (lv_sub hl [0, 4] rfl)

set_option maxHeartbeats 8000000 in
set_option maxRecDepth 100000 in
theorem lc_12 {p : Program} {l : Launch} {e : Env} {s : State} {m : MethodId} {below : List Frame} {meth : Method} {c : Code} {D : va_G} {ad : Nat → Nat} {A : Nat → Prop} {b : Nat} {xs : Nat → Int32} (G : z_G p s m meth c ad A b xs) {a am : Nat → Nat} {t tm : Nat → ClassId} {qo : Nat} {to : ClassId} {H : Heap} {locs : List Loc} {ls : Array Slot} (hP : va_P D vwCl ((gF ad a t ++ gM ad am tm) ++ [(qo, .inl (to, 1, .inr (.inl (fun _ => 0))))]) H) (hD : va_D A ((gF ad a t ++ gM ad am tm) ++ [(qo, .inl (to, 1, .inr (.inl (fun _ => 0))))])) (hK : va_K D vwCl ((gFt t ++ gMt tm) ++ [(to, .long)]) s) (hS : va_S A s.heap H locs) (hl : lv_has ls 7 [(4, .int 0), (3, .ref qo), (2, .ref (am 18)), (1, .ref (a 0)), (0, .ref b)]) : W p l e room_1 s m #[Value.ref b] below meth c H locs 212 5680 (lw_Z below #[Value.ref b] s) (F0 m 721 ls []) := by
  have G0 := G
  obtain ⟨hx, hb, hr, hml, hown, hts, hX, hbl, hbA, hA, hAl, hlocks, hE, hO⟩ := G
  have hP := hP.sub (ws' := [(a 0, .inr (10, [.ref (a 4), .ref (a 5), .ref (a 6), .ref (a 7), .ref (a 8), .ref (a 9), .ref (a 10), .ref (a 11), .ref (a 12), .int 0, .ref (a 13), .ref (a 102), .ref (a 14), .ref (a 15), .int (-1), .int (-1)])), (a 7, .inr (8, [.ref (a 28), .ref (a 29), .ref (a 30), .int 0, .ref (a 31), .ref (a 32), .ref (a 33), .int 0, .ref (a 34), .ref (a 35), .ref (a 36), .int 2])), (a 28, .inr (2, [.ref (a 77), .int 0])), (am 1, .inl (tm 1, 283, .inl (upd (fun _ => 0) 4 2))), (am 18, .inr (11, [.int 0, .ref (am 0), .int 0, .int 0, .int 0, .int 0, .ref (am 1), .ref (am 19), .ref (am 2), .ref (am 3), .ref (am 20), .int 0, .int 0, .int 0, .int 0, .int 0, .int 0, .long 0, .int 0, .int 0, .int 0, .ref (am 4), .ref (am 5), .int 0, .int 0, .int 0, .int 0, .ref (am 6), .int (-1), .ref (am 7), .int 0, .int 0, .ref (am 8), .int (-1), .ref (am 9), .ref (am 10), .int 0, .int 0, .ref (am 11), .int 0, .int 0, .int 0, .ref (am 12), .int 0, .ref (am 13), .int 0, .int 0, .int 0, .int 0, .int 0, .ref (am 14), .ref (am 15), .ref (am 16), .ref (am 17)]))]) [0, 7, 28, 103, 120] rfl
  have hD := hD.sub (ws' := [(a 0, .inr (10, [.ref (a 4), .ref (a 5), .ref (a 6), .ref (a 7), .ref (a 8), .ref (a 9), .ref (a 10), .ref (a 11), .ref (a 12), .int 0, .ref (a 13), .ref (a 102), .ref (a 14), .ref (a 15), .int (-1), .int (-1)])), (a 7, .inr (8, [.ref (a 28), .ref (a 29), .ref (a 30), .int 0, .ref (a 31), .ref (a 32), .ref (a 33), .int 0, .ref (a 34), .ref (a 35), .ref (a 36), .int 2])), (a 28, .inr (2, [.ref (a 77), .int 0])), (am 1, .inl (tm 1, 283, .inl (upd (fun _ => 0) 4 2))), (am 18, .inr (11, [.int 0, .ref (am 0), .int 0, .int 0, .int 0, .int 0, .ref (am 1), .ref (am 19), .ref (am 2), .ref (am 3), .ref (am 20), .int 0, .int 0, .int 0, .int 0, .int 0, .int 0, .long 0, .int 0, .int 0, .int 0, .ref (am 4), .ref (am 5), .int 0, .int 0, .int 0, .int 0, .ref (am 6), .int (-1), .ref (am 7), .int 0, .int 0, .ref (am 8), .int (-1), .ref (am 9), .ref (am 10), .int 0, .int 0, .ref (am 11), .int 0, .int 0, .int 0, .ref (am 12), .int 0, .ref (am 13), .int 0, .int 0, .int 0, .int 0, .int 0, .ref (am 14), .ref (am 15), .ref (am 16), .ref (am 17)]))]) [0, 7, 28, 103, 120] (by decide) rfl
  refine lv_aload_n hx hb dL_law_721 rfl (lv_at hl 3 rfl) ?_
  refine lv_aload_n hx hb dL_law_722 rfl (lv_at hl 4 rfl) ?_
  refine lv_iload hx hb dL_law_723 (lv_at hl 0 rfl) ?_
  refine lv_iconst (v := 1) hx hb dL_law_725 (by decide) ?_
  refine lv_iadd hx hb dL_law_726 ?_
  refine lv_topi (fun y_1 ey_1 => ?_)
  obtain rfl : y_1 = 1 := ey_1.trans (by decide)
  refine va_sld hx hb hX hbl hbA hS (show ¬ (_ ∨ _) by decide) dL_law_727 ?_
  refine W.eq (g2 := F0 m 728 ls (.int (xs 1) :: [.ref (a 0)])) rfl ?_
  have hc9 := (k_X11_funeral l D ad a (xs 1) )
  refine z_calli (w0 := [(a 0, .inr (10, [.ref (a 4), .ref (a 5), .ref (a 6), .ref (a 7), .ref (a 8), .ref (a 9), .ref (a 10), .ref (a 11), .ref (a 12), .int 0, .ref (a 13), .ref (a 102), .ref (a 14), .ref (a 15), .int (-1), .int (-1)])), (a 7, .inr (8, [.ref (a 28), .ref (a 29), .ref (a 30), .int 0, .ref (a 31), .ref (a 32), .ref (a 33), .int 0, .ref (a 34), .ref (a 35), .ref (a 36), .int 2])), (a 28, .inr (2, [.ref (a 77), .int 0]))]) (wr := [(am 1, .inl (tm 1, 283, .inl (upd (fun _ => 0) 4 2))), (am 18, .inr (11, [.int 0, .ref (am 0), .int 0, .int 0, .int 0, .int 0, .ref (am 1), .ref (am 19), .ref (am 2), .ref (am 3), .ref (am 20), .int 0, .int 0, .int 0, .int 0, .int 0, .int 0, .long 0, .int 0, .int 0, .int 0, .ref (am 4), .ref (am 5), .int 0, .int 0, .int 0, .int 0, .ref (am 6), .int (-1), .ref (am 7), .int 0, .int 0, .ref (am 8), .int (-1), .ref (am 9), .ref (am 10), .int 0, .int 0, .ref (am 11), .int 0, .int 0, .int 0, .ref (am 12), .int 0, .ref (am 13), .int 0, .int 0, .int 0, .int 0, .int 0, .ref (am 14), .ref (am 15), .ref (am 16), .ref (am 17)]))]) (va_runV (As := [.int (xs 1)]) (rest := []) ⟨hx, hb, hml, hown, hts⟩ (hc9 _) (cwV 1 hts gL_law_X11_funeral rfl rfl rfl (by decide +kernel) ⟨Nat.le_of_ble_eq_true rfl, Nat.le_of_ble_eq_true rfl⟩) (z_preV hP hD hK hS hA hE hO [0, 1, 2] [] rfl (by decide +kernel) rfl 0 10 rfl rfl rfl) rfl rfl hl.1 rfl (lv_room (Nat.le_of_ble_eq_true rfl)) dL_law_728 ⟨Nat.le_of_ble_eq_true rfl, Nat.le_of_ble_eq_true rfl⟩) hP hD hK hS hA [0, 1, 2] [3, 4] rfl rfl (by decide +kernel) (by decide +kernel) (fun r9 u9 H locs hw hP hD hK hS => ?_)
  obtain ⟨er9, rfl⟩ := hw
  have hP : va_P D vwCl [(am 1, .inl (tm 1, 283, .inl (upd (fun _ => 0) 4 2))), (am 18, .inr (11, [.int 0, .ref (am 0), .int 0, .int 0, .int 0, .int 0, .ref (am 1), .ref (am 19), .ref (am 2), .ref (am 3), .ref (am 20), .int 0, .int 0, .int 0, .int 0, .int 0, .int 0, .long 0, .int 0, .int 0, .int 0, .ref (am 4), .ref (am 5), .int 0, .int 0, .int 0, .int 0, .ref (am 6), .int (-1), .ref (am 7), .int 0, .int 0, .ref (am 8), .int (-1), .ref (am 9), .ref (am 10), .int 0, .int 0, .ref (am 11), .int 0, .int 0, .int 0, .ref (am 12), .int 0, .ref (am 13), .int 0, .int 0, .int 0, .int 0, .int 0, .ref (am 14), .ref (am 15), .ref (am 16), .ref (am 17)]))] H := hP
  have hD : va_D A [(am 1, .inl (tm 1, 283, .inl (upd (fun _ => 0) 4 2))), (am 18, .inr (11, [.int 0, .ref (am 0), .int 0, .int 0, .int 0, .int 0, .ref (am 1), .ref (am 19), .ref (am 2), .ref (am 3), .ref (am 20), .int 0, .int 0, .int 0, .int 0, .int 0, .int 0, .long 0, .int 0, .int 0, .int 0, .ref (am 4), .ref (am 5), .int 0, .int 0, .int 0, .int 0, .ref (am 6), .int (-1), .ref (am 7), .int 0, .int 0, .ref (am 8), .int (-1), .ref (am 9), .ref (am 10), .int 0, .int 0, .ref (am 11), .int 0, .int 0, .int 0, .ref (am 12), .int 0, .ref (am 13), .int 0, .int 0, .int 0, .int 0, .int 0, .ref (am 14), .ref (am 15), .ref (am 16), .ref (am 17)]))] := hD
  have hK : va_K D vwCl ((gFt t ++ gMt tm) ++ [(to, .long)]) s := hK
  refine W.cs (cells' := 212) (slots' := 5680) rfl rfl ?_
  obtain rfl := er9
  refine W.eq (g2 := F0 m 731 ls (.int (-1) :: [])) rfl ?_
  refine lv_aload_n hx hb dL_law_731 rfl (lv_at hl 2 rfl) ?_
  refine lv_aload_n hx hb dL_law_732 rfl (lv_at hl 4 rfl) ?_
  refine lv_iload hx hb dL_law_733 (lv_at hl 0 rfl) ?_
  refine lv_iconst (v := 1) hx hb dL_law_735 (by decide) ?_
  refine lv_iadd hx hb dL_law_736 ?_
  refine lv_topi (fun y_2 ey_2 => ?_)
  obtain rfl : y_2 = 1 := ey_2.trans (by decide)
  refine va_sld hx hb hX hbl hbA hS (show ¬ (_ ∨ _) by decide) dL_law_737 ?_
  refine W.eq (g2 := F0 m 738 ls (.int (xs 1) :: [.ref (am 18), .int (-1)])) rfl ?_
  have hc9 := (k_X12_funeral l D ad am tm (xs 1) (am 0) 0 0 0 0 (am 19) (am 2) (am 3) (am 20) 0 0 0 0 0 0 0 0 0 0 (am 4) (am 5) 0 0 0 0 (am 6) (-1) (am 7) 0 0 (am 8) (-1) (am 9) (am 10) 0 0 (am 11) 0 0 0 (am 12) 0 (am 13) 0 0 0 0 0 (am 14) (am 15) (am 16) (am 17) )
  refine z_calli (w0 := [(am 1, .inl (tm 1, 283, .inl (upd (fun _ => 0) 4 2))), (am 18, .inr (11, [.int 0, .ref (am 0), .int 0, .int 0, .int 0, .int 0, .ref (am 1), .ref (am 19), .ref (am 2), .ref (am 3), .ref (am 20), .int 0, .int 0, .int 0, .int 0, .int 0, .int 0, .long 0, .int 0, .int 0, .int 0, .ref (am 4), .ref (am 5), .int 0, .int 0, .int 0, .int 0, .ref (am 6), .int (-1), .ref (am 7), .int 0, .int 0, .ref (am 8), .int (-1), .ref (am 9), .ref (am 10), .int 0, .int 0, .ref (am 11), .int 0, .int 0, .int 0, .ref (am 12), .int 0, .ref (am 13), .int 0, .int 0, .int 0, .int 0, .int 0, .ref (am 14), .ref (am 15), .ref (am 16), .ref (am 17)]))]) (wr := []) (va_runV (As := [.int (xs 1)]) (rest := [.int (-1)]) ⟨hx, hb, hml, hown, hts⟩ (hc9 _) (cwV 1 hts gL_law_X12_funeral rfl rfl rfl (by decide +kernel) ⟨Nat.le_of_ble_eq_true rfl, Nat.le_of_ble_eq_true rfl⟩) (z_preV hP hD hK hS hA hE hO [0, 1] [67] rfl (by decide +kernel) rfl 1 11 rfl rfl rfl) rfl rfl hl.1 rfl (lv_room (Nat.le_of_ble_eq_true rfl)) dL_law_738 ⟨Nat.le_of_ble_eq_true rfl, Nat.le_of_ble_eq_true rfl⟩) hP hD hK hS hA [0, 1] [] rfl rfl (by decide +kernel) (by decide +kernel) (fun r9 u9 H locs hw hP hD hK hS => ?_)
  obtain ⟨er9, rfl⟩ := hw
  have hP : va_P D vwCl [] H := hP
  have hD : va_D A [] := hD
  have hK : va_K D vwCl ((gFt t ++ gMt tm) ++ [(to, .long)]) s := hK
  refine W.cs (cells' := 212) (slots' := 5680) rfl rfl ?_
  obtain rfl := er9
  refine W.eq (g2 := F0 m 741 ls (.int (-1) :: [.int (-1)])) rfl ?_
  refine lv_icmp_eq (tgt := 1398) hx hb dL_law_741 (by decide) (fun _ => ?_) (fun h9 => absurd (by decide) h9)
  exact law_end G0 hS (by decide) (by decide) (lv_sub hl [0, 4] rfl)

set_option maxHeartbeats 8000000 in
set_option maxRecDepth 100000 in
theorem lc_13 {p : Program} {l : Launch} {e : Env} {s : State} {m : MethodId} {below : List Frame} {meth : Method} {c : Code} {D : va_G} {ad : Nat → Nat} {A : Nat → Prop} {b : Nat} {xs : Nat → Int32} (G : z_G p s m meth c ad A b xs) {a am : Nat → Nat} {t tm : Nat → ClassId} {qo : Nat} {to : ClassId} {H : Heap} {locs : List Loc} {ls : Array Slot} (hP : va_P D vwCl ((gF ad a t ++ gM ad am tm) ++ [(qo, .inl (to, 1, .inr (.inl (fun _ => 0))))]) H) (hD : va_D A ((gF ad a t ++ gM ad am tm) ++ [(qo, .inl (to, 1, .inr (.inl (fun _ => 0))))])) (hK : va_K D vwCl ((gFt t ++ gMt tm) ++ [(to, .long)]) s) (hS : va_S A s.heap H locs) (hl : lv_has ls 7 [(4, .int 0), (3, .ref qo), (2, .ref (am 18)), (1, .ref (a 0)), (0, .ref b)]) : W p l e room_1 s m #[Value.ref b] below meth c H locs 212 5680 (lw_Z below #[Value.ref b] s) (F0 m 746 ls []) := by
  have G0 := G
  obtain ⟨hx, hb, hr, hml, hown, hts, hX, hbl, hbA, hA, hAl, hlocks, hE, hO⟩ := G
  have hP := hP.sub (ws' := [(a 0, .inr (10, [.ref (a 4), .ref (a 5), .ref (a 6), .ref (a 7), .ref (a 8), .ref (a 9), .ref (a 10), .ref (a 11), .ref (a 12), .int 0, .ref (a 13), .ref (a 102), .ref (a 14), .ref (a 15), .int (-1), .int (-1)])), (a 3, .inr (4, [.ref (a 7), .int 0, .int 0, .int 0, .ref (a 22), .ref (a 23), .ref (a 24), .ref (a 25)])), (a 7, .inr (8, [.ref (a 28), .ref (a 29), .ref (a 30), .int 0, .ref (a 31), .ref (a 32), .ref (a 33), .int 0, .ref (a 34), .ref (a 35), .ref (a 36), .int 2])), (a 8, .inr (4, [.ref (a 7), .int 0, .int 0, .int 0, .ref (a 37), .ref (a 38), .ref (a 39), .ref (a 40)])), (a 11, .inr (4, [.ref (a 7), .int 0, .int 0, .int 0, .ref (a 44), .ref (a 45), .ref (a 46), .ref (a 47)])), (a 12, .inl (t 1, 8, .inr (.inr (.inr (.inr (va_up (va_up (va_up (va_up (va_up (va_up (va_up (va_up (fun _ => none) 0 (some (a 3))) 1 (some (a 103))) 2 (some (a 104))) 3 (some (a 105))) 4 (some (a 106))) 5 (some (a 107))) 6 (some (a 108))) 7 (some (a 109)))))))), (a 22, .inl (t 2, 7, .inl (fun _ => 0))), (a 23, .inl (t 3, 6, .inl (fun _ => 0))), (a 24, .inl (t 4, 6, .inl (fun _ => 0))), (a 25, .inl (t 5, 6, .inl (fun _ => 0))), (a 29, .inr (2, [.ref (a 78), .int 0])), (a 37, .inl (t 13, 7, .inl (fun _ => 0))), (a 38, .inl (t 14, 6, .inl (fun _ => 0))), (a 39, .inl (t 15, 6, .inl (fun _ => 0))), (a 40, .inl (t 16, 6, .inl (fun _ => 0))), (a 44, .inl (t 17, 7, .inl (fun _ => 0))), (a 45, .inl (t 18, 6, .inl (fun _ => 0))), (a 46, .inl (t 19, 6, .inl (fun _ => 0))), (a 47, .inl (t 20, 6, .inl (fun _ => 0))), (am 1, .inl (tm 1, 283, .inl (upd (fun _ => 0) 4 2))), (am 4, .inl (tm 4, 280, .inl (fun _ => 0))), (am 18, .inr (11, [.int 0, .ref (am 0), .int 0, .int 0, .int 0, .int 0, .ref (am 1), .ref (am 19), .ref (am 2), .ref (am 3), .ref (am 20), .int 0, .int 0, .int 0, .int 0, .int 0, .int 0, .long 0, .int 0, .int 0, .int 0, .ref (am 4), .ref (am 5), .int 0, .int 0, .int 0, .int 0, .ref (am 6), .int (-1), .ref (am 7), .int 0, .int 0, .ref (am 8), .int (-1), .ref (am 9), .ref (am 10), .int 0, .int 0, .ref (am 11), .int 0, .int 0, .int 0, .ref (am 12), .int 0, .ref (am 13), .int 0, .int 0, .int 0, .int 0, .int 0, .ref (am 14), .ref (am 15), .ref (am 16), .ref (am 17)]))]) [0, 3, 7, 8, 11, 12, 22, 23, 24, 25, 29, 37, 38, 39, 40, 44, 45, 46, 47, 103, 106, 120] rfl
  have hD := hD.sub (ws' := [(a 0, .inr (10, [.ref (a 4), .ref (a 5), .ref (a 6), .ref (a 7), .ref (a 8), .ref (a 9), .ref (a 10), .ref (a 11), .ref (a 12), .int 0, .ref (a 13), .ref (a 102), .ref (a 14), .ref (a 15), .int (-1), .int (-1)])), (a 3, .inr (4, [.ref (a 7), .int 0, .int 0, .int 0, .ref (a 22), .ref (a 23), .ref (a 24), .ref (a 25)])), (a 7, .inr (8, [.ref (a 28), .ref (a 29), .ref (a 30), .int 0, .ref (a 31), .ref (a 32), .ref (a 33), .int 0, .ref (a 34), .ref (a 35), .ref (a 36), .int 2])), (a 8, .inr (4, [.ref (a 7), .int 0, .int 0, .int 0, .ref (a 37), .ref (a 38), .ref (a 39), .ref (a 40)])), (a 11, .inr (4, [.ref (a 7), .int 0, .int 0, .int 0, .ref (a 44), .ref (a 45), .ref (a 46), .ref (a 47)])), (a 12, .inl (t 1, 8, .inr (.inr (.inr (.inr (va_up (va_up (va_up (va_up (va_up (va_up (va_up (va_up (fun _ => none) 0 (some (a 3))) 1 (some (a 103))) 2 (some (a 104))) 3 (some (a 105))) 4 (some (a 106))) 5 (some (a 107))) 6 (some (a 108))) 7 (some (a 109)))))))), (a 22, .inl (t 2, 7, .inl (fun _ => 0))), (a 23, .inl (t 3, 6, .inl (fun _ => 0))), (a 24, .inl (t 4, 6, .inl (fun _ => 0))), (a 25, .inl (t 5, 6, .inl (fun _ => 0))), (a 29, .inr (2, [.ref (a 78), .int 0])), (a 37, .inl (t 13, 7, .inl (fun _ => 0))), (a 38, .inl (t 14, 6, .inl (fun _ => 0))), (a 39, .inl (t 15, 6, .inl (fun _ => 0))), (a 40, .inl (t 16, 6, .inl (fun _ => 0))), (a 44, .inl (t 17, 7, .inl (fun _ => 0))), (a 45, .inl (t 18, 6, .inl (fun _ => 0))), (a 46, .inl (t 19, 6, .inl (fun _ => 0))), (a 47, .inl (t 20, 6, .inl (fun _ => 0))), (am 1, .inl (tm 1, 283, .inl (upd (fun _ => 0) 4 2))), (am 4, .inl (tm 4, 280, .inl (fun _ => 0))), (am 18, .inr (11, [.int 0, .ref (am 0), .int 0, .int 0, .int 0, .int 0, .ref (am 1), .ref (am 19), .ref (am 2), .ref (am 3), .ref (am 20), .int 0, .int 0, .int 0, .int 0, .int 0, .int 0, .long 0, .int 0, .int 0, .int 0, .ref (am 4), .ref (am 5), .int 0, .int 0, .int 0, .int 0, .ref (am 6), .int (-1), .ref (am 7), .int 0, .int 0, .ref (am 8), .int (-1), .ref (am 9), .ref (am 10), .int 0, .int 0, .ref (am 11), .int 0, .int 0, .int 0, .ref (am 12), .int 0, .ref (am 13), .int 0, .int 0, .int 0, .int 0, .int 0, .ref (am 14), .ref (am 15), .ref (am 16), .ref (am 17)]))]) [0, 3, 7, 8, 11, 12, 22, 23, 24, 25, 29, 37, 38, 39, 40, 44, 45, 46, 47, 103, 106, 120] (by decide) rfl
  refine lv_aload_n hx hb dL_law_746 rfl (lv_at hl 3 rfl) ?_
  refine lv_aload_n hx hb dL_law_747 rfl (lv_at hl 4 rfl) ?_
  refine lv_iload hx hb dL_law_748 (lv_at hl 0 rfl) ?_
  refine lv_iconst (v := 1) hx hb dL_law_750 (by decide) ?_
  refine lv_iadd hx hb dL_law_751 ?_
  refine lv_topi (fun y_1 ey_1 => ?_)
  obtain rfl : y_1 = 1 := ey_1.trans (by decide)
  refine va_sld hx hb hX hbl hbA hS (show ¬ (_ ∨ _) by decide) dL_law_752 ?_
  refine W.eq (g2 := F0 m 753 ls (.int (xs 1) :: [.ref (a 0)])) rfl ?_
  have hc9 := (k_X11_days l D ad a t (xs 1) )
  refine z_calli (w0 := [(a 0, .inr (10, [.ref (a 4), .ref (a 5), .ref (a 6), .ref (a 7), .ref (a 8), .ref (a 9), .ref (a 10), .ref (a 11), .ref (a 12), .int 0, .ref (a 13), .ref (a 102), .ref (a 14), .ref (a 15), .int (-1), .int (-1)])), (a 3, .inr (4, [.ref (a 7), .int 0, .int 0, .int 0, .ref (a 22), .ref (a 23), .ref (a 24), .ref (a 25)])), (a 7, .inr (8, [.ref (a 28), .ref (a 29), .ref (a 30), .int 0, .ref (a 31), .ref (a 32), .ref (a 33), .int 0, .ref (a 34), .ref (a 35), .ref (a 36), .int 2])), (a 8, .inr (4, [.ref (a 7), .int 0, .int 0, .int 0, .ref (a 37), .ref (a 38), .ref (a 39), .ref (a 40)])), (a 11, .inr (4, [.ref (a 7), .int 0, .int 0, .int 0, .ref (a 44), .ref (a 45), .ref (a 46), .ref (a 47)])), (a 12, .inl (t 1, 8, .inr (.inr (.inr (.inr (va_up (va_up (va_up (va_up (va_up (va_up (va_up (va_up (fun _ => none) 0 (some (a 3))) 1 (some (a 103))) 2 (some (a 104))) 3 (some (a 105))) 4 (some (a 106))) 5 (some (a 107))) 6 (some (a 108))) 7 (some (a 109)))))))), (a 22, .inl (t 2, 7, .inl (fun _ => 0))), (a 23, .inl (t 3, 6, .inl (fun _ => 0))), (a 24, .inl (t 4, 6, .inl (fun _ => 0))), (a 25, .inl (t 5, 6, .inl (fun _ => 0))), (a 29, .inr (2, [.ref (a 78), .int 0])), (a 37, .inl (t 13, 7, .inl (fun _ => 0))), (a 38, .inl (t 14, 6, .inl (fun _ => 0))), (a 39, .inl (t 15, 6, .inl (fun _ => 0))), (a 40, .inl (t 16, 6, .inl (fun _ => 0))), (a 44, .inl (t 17, 7, .inl (fun _ => 0))), (a 45, .inl (t 18, 6, .inl (fun _ => 0))), (a 46, .inl (t 19, 6, .inl (fun _ => 0))), (a 47, .inl (t 20, 6, .inl (fun _ => 0)))]) (wr := [(am 1, .inl (tm 1, 283, .inl (upd (fun _ => 0) 4 2))), (am 4, .inl (tm 4, 280, .inl (fun _ => 0))), (am 18, .inr (11, [.int 0, .ref (am 0), .int 0, .int 0, .int 0, .int 0, .ref (am 1), .ref (am 19), .ref (am 2), .ref (am 3), .ref (am 20), .int 0, .int 0, .int 0, .int 0, .int 0, .int 0, .long 0, .int 0, .int 0, .int 0, .ref (am 4), .ref (am 5), .int 0, .int 0, .int 0, .int 0, .ref (am 6), .int (-1), .ref (am 7), .int 0, .int 0, .ref (am 8), .int (-1), .ref (am 9), .ref (am 10), .int 0, .int 0, .ref (am 11), .int 0, .int 0, .int 0, .ref (am 12), .int 0, .ref (am 13), .int 0, .int 0, .int 0, .int 0, .int 0, .ref (am 14), .ref (am 15), .ref (am 16), .ref (am 17)]))]) (va_runV (As := [.int (xs 1)]) (rest := []) ⟨hx, hb, hml, hown, hts⟩ (hc9 _) (cwV 1 hts gL_law_X11_days rfl rfl rfl (by decide +kernel) ⟨Nat.le_of_ble_eq_true rfl, Nat.le_of_ble_eq_true rfl⟩) (z_preV hP hD hK hS hA hE hO [0, 1, 2, 3, 4, 5, 6, 7, 8, 9, 10, 11, 12, 13, 14, 15, 16, 17, 18] [10, 11, 12, 13, 54, 55, 56, 57, 58, 62, 63, 64, 65] rfl (by decide +kernel) rfl 0 10 rfl rfl rfl) rfl rfl hl.1 rfl (lv_room (Nat.le_of_ble_eq_true rfl)) dL_law_753 ⟨Nat.le_of_ble_eq_true rfl, Nat.le_of_ble_eq_true rfl⟩) hP hD hK hS hA [0, 1, 2, 3, 4, 5, 6, 7, 8, 9, 10, 11, 12, 13, 14, 15, 16, 17, 18] [19, 20, 21] rfl rfl (by decide +kernel) (by decide +kernel) (fun r9 u9 H locs hw hP hD hK hS => ?_)
  obtain ⟨er9, rfl⟩ := hw
  have hP : va_P D vwCl [(am 1, .inl (tm 1, 283, .inl (upd (fun _ => 0) 4 2))), (am 4, .inl (tm 4, 280, .inl (fun _ => 0))), (am 18, .inr (11, [.int 0, .ref (am 0), .int 0, .int 0, .int 0, .int 0, .ref (am 1), .ref (am 19), .ref (am 2), .ref (am 3), .ref (am 20), .int 0, .int 0, .int 0, .int 0, .int 0, .int 0, .long 0, .int 0, .int 0, .int 0, .ref (am 4), .ref (am 5), .int 0, .int 0, .int 0, .int 0, .ref (am 6), .int (-1), .ref (am 7), .int 0, .int 0, .ref (am 8), .int (-1), .ref (am 9), .ref (am 10), .int 0, .int 0, .ref (am 11), .int 0, .int 0, .int 0, .ref (am 12), .int 0, .ref (am 13), .int 0, .int 0, .int 0, .int 0, .int 0, .ref (am 14), .ref (am 15), .ref (am 16), .ref (am 17)]))] H := hP
  have hD : va_D A [(am 1, .inl (tm 1, 283, .inl (upd (fun _ => 0) 4 2))), (am 4, .inl (tm 4, 280, .inl (fun _ => 0))), (am 18, .inr (11, [.int 0, .ref (am 0), .int 0, .int 0, .int 0, .int 0, .ref (am 1), .ref (am 19), .ref (am 2), .ref (am 3), .ref (am 20), .int 0, .int 0, .int 0, .int 0, .int 0, .int 0, .long 0, .int 0, .int 0, .int 0, .ref (am 4), .ref (am 5), .int 0, .int 0, .int 0, .int 0, .ref (am 6), .int (-1), .ref (am 7), .int 0, .int 0, .ref (am 8), .int (-1), .ref (am 9), .ref (am 10), .int 0, .int 0, .ref (am 11), .int 0, .int 0, .int 0, .ref (am 12), .int 0, .ref (am 13), .int 0, .int 0, .int 0, .int 0, .int 0, .ref (am 14), .ref (am 15), .ref (am 16), .ref (am 17)]))] := hD
  have hK : va_K D vwCl ((gFt t ++ gMt tm) ++ [(to, .long)]) s := hK
  refine W.cs (cells' := 212) (slots' := 5680) rfl rfl ?_
  obtain rfl := er9
  refine W.eq (g2 := F0 m 756 ls (.int (s_X11_days (xs 1)) :: [])) rfl ?_
  refine lv_aload_n hx hb dL_law_756 rfl (lv_at hl 2 rfl) ?_
  refine lv_aload_n hx hb dL_law_757 rfl (lv_at hl 4 rfl) ?_
  refine lv_iload hx hb dL_law_758 (lv_at hl 0 rfl) ?_
  refine lv_iconst (v := 1) hx hb dL_law_760 (by decide) ?_
  refine lv_iadd hx hb dL_law_761 ?_
  refine lv_topi (fun y_2 ey_2 => ?_)
  obtain rfl : y_2 = 1 := ey_2.trans (by decide)
  refine va_sld hx hb hX hbl hbA hS (show ¬ (_ ∨ _) by decide) dL_law_762 ?_
  refine W.eq (g2 := F0 m 763 ls (.int (xs 1) :: [.ref (am 18), .int (s_X11_days (xs 1))])) rfl ?_
  have hc9 := (k_X12_days l D ad am tm (xs 1) (am 0) 0 0 0 0 (am 19) (am 2) (am 3) (am 20) 0 0 0 0 0 0 0 0 0 0 (am 5) 0 0 0 (am 6) (-1) (am 7) 0 0 (am 8) (-1) (am 9) (am 10) 0 0 (am 11) 0 0 0 (am 12) 0 (am 13) 0 0 0 0 0 (am 14) (am 15) (am 16) (am 17) )
  refine z_calli (w0 := [(am 1, .inl (tm 1, 283, .inl (upd (fun _ => 0) 4 2))), (am 4, .inl (tm 4, 280, .inl (fun _ => 0))), (am 18, .inr (11, [.int 0, .ref (am 0), .int 0, .int 0, .int 0, .int 0, .ref (am 1), .ref (am 19), .ref (am 2), .ref (am 3), .ref (am 20), .int 0, .int 0, .int 0, .int 0, .int 0, .int 0, .long 0, .int 0, .int 0, .int 0, .ref (am 4), .ref (am 5), .int 0, .int 0, .int 0, .int 0, .ref (am 6), .int (-1), .ref (am 7), .int 0, .int 0, .ref (am 8), .int (-1), .ref (am 9), .ref (am 10), .int 0, .int 0, .ref (am 11), .int 0, .int 0, .int 0, .ref (am 12), .int 0, .ref (am 13), .int 0, .int 0, .int 0, .int 0, .int 0, .ref (am 14), .ref (am 15), .ref (am 16), .ref (am 17)]))]) (wr := []) (va_runV (As := [.int (xs 1)]) (rest := [.int (s_X11_days (xs 1))]) ⟨hx, hb, hml, hown, hts⟩ (hc9 _) (cwV 1 hts gL_law_X12_days rfl rfl rfl (by decide +kernel) ⟨Nat.le_of_ble_eq_true rfl, Nat.le_of_ble_eq_true rfl⟩) (z_preV hP hD hK hS hA hE hO [0, 1, 2] [67, 71] rfl (by decide +kernel) rfl 2 11 rfl rfl rfl) rfl rfl hl.1 rfl (lv_room (Nat.le_of_ble_eq_true rfl)) dL_law_763 ⟨Nat.le_of_ble_eq_true rfl, Nat.le_of_ble_eq_true rfl⟩) hP hD hK hS hA [0, 1, 2] [] rfl rfl (by decide +kernel) (by decide +kernel) (fun r9 u9 H locs hw hP hD hK hS => ?_)
  obtain ⟨er9, rfl⟩ := hw
  have hP : va_P D vwCl [] H := hP
  have hD : va_D A [] := hD
  have hK : va_K D vwCl ((gFt t ++ gMt tm) ++ [(to, .long)]) s := hK
  refine W.cs (cells' := 212) (slots' := 5680) rfl rfl ?_
  obtain rfl := er9
  refine W.eq (g2 := F0 m 766 ls (.int (s_X12_days (xs 1)) :: [.int (s_X11_days (xs 1))])) rfl ?_
  refine lv_icmp_eq (tgt := 1398) hx hb dL_law_766 (by decide) (fun _ => ?_) (fun h9 => absurd (e_days (xs 1)) h9)
  exact law_end G0 hS (by decide) (by decide) (lv_sub hl [0, 4] rfl)

set_option maxHeartbeats 8000000 in
set_option maxRecDepth 100000 in
theorem lc_14 {p : Program} {l : Launch} {e : Env} {s : State} {m : MethodId} {below : List Frame} {meth : Method} {c : Code} {D : va_G} {ad : Nat → Nat} {A : Nat → Prop} {b : Nat} {xs : Nat → Int32} (G : z_G p s m meth c ad A b xs) {a am : Nat → Nat} {t tm : Nat → ClassId} {qo : Nat} {to : ClassId} {H : Heap} {locs : List Loc} {ls : Array Slot} (hP : va_P D vwCl ((gF ad a t ++ gM ad am tm) ++ [(qo, .inl (to, 1, .inr (.inl (fun _ => 0))))]) H) (hD : va_D A ((gF ad a t ++ gM ad am tm) ++ [(qo, .inl (to, 1, .inr (.inl (fun _ => 0))))])) (hK : va_K D vwCl ((gFt t ++ gMt tm) ++ [(to, .long)]) s) (hS : va_S A s.heap H locs) (hl : lv_has ls 7 [(4, .int 0), (3, .ref qo), (2, .ref (am 18)), (1, .ref (a 0)), (0, .ref b)]) : W p l e room_1 s m #[Value.ref b] below meth c H locs 212 5680 (lw_Z below #[Value.ref b] s) (F0 m 771 ls []) := by
  have G0 := G
  obtain ⟨hx, hb, hr, hml, hown, hts, hX, hbl, hbA, hA, hAl, hlocks, hE, hO⟩ := G
  have hP := hP.sub (ws' := [(a 0, .inr (10, [.ref (a 4), .ref (a 5), .ref (a 6), .ref (a 7), .ref (a 8), .ref (a 9), .ref (a 10), .ref (a 11), .ref (a 12), .int 0, .ref (a 13), .ref (a 102), .ref (a 14), .ref (a 15), .int (-1), .int (-1)])), (am 18, .inr (11, [.int 0, .ref (am 0), .int 0, .int 0, .int 0, .int 0, .ref (am 1), .ref (am 19), .ref (am 2), .ref (am 3), .ref (am 20), .int 0, .int 0, .int 0, .int 0, .int 0, .int 0, .long 0, .int 0, .int 0, .int 0, .ref (am 4), .ref (am 5), .int 0, .int 0, .int 0, .int 0, .ref (am 6), .int (-1), .ref (am 7), .int 0, .int 0, .ref (am 8), .int (-1), .ref (am 9), .ref (am 10), .int 0, .int 0, .ref (am 11), .int 0, .int 0, .int 0, .ref (am 12), .int 0, .ref (am 13), .int 0, .int 0, .int 0, .int 0, .int 0, .ref (am 14), .ref (am 15), .ref (am 16), .ref (am 17)]))]) [0, 120] rfl
  have hD := hD.sub (ws' := [(a 0, .inr (10, [.ref (a 4), .ref (a 5), .ref (a 6), .ref (a 7), .ref (a 8), .ref (a 9), .ref (a 10), .ref (a 11), .ref (a 12), .int 0, .ref (a 13), .ref (a 102), .ref (a 14), .ref (a 15), .int (-1), .int (-1)])), (am 18, .inr (11, [.int 0, .ref (am 0), .int 0, .int 0, .int 0, .int 0, .ref (am 1), .ref (am 19), .ref (am 2), .ref (am 3), .ref (am 20), .int 0, .int 0, .int 0, .int 0, .int 0, .int 0, .long 0, .int 0, .int 0, .int 0, .ref (am 4), .ref (am 5), .int 0, .int 0, .int 0, .int 0, .ref (am 6), .int (-1), .ref (am 7), .int 0, .int 0, .ref (am 8), .int (-1), .ref (am 9), .ref (am 10), .int 0, .int 0, .ref (am 11), .int 0, .int 0, .int 0, .ref (am 12), .int 0, .ref (am 13), .int 0, .int 0, .int 0, .int 0, .int 0, .ref (am 14), .ref (am 15), .ref (am 16), .ref (am 17)]))]) [0, 120] (by decide) rfl
  refine lv_aload_n hx hb dL_law_771 rfl (lv_at hl 3 rfl) ?_
  have hc9 := (k_X11_undo l D ad a )
  refine z_calli (w0 := [(a 0, .inr (10, [.ref (a 4), .ref (a 5), .ref (a 6), .ref (a 7), .ref (a 8), .ref (a 9), .ref (a 10), .ref (a 11), .ref (a 12), .int 0, .ref (a 13), .ref (a 102), .ref (a 14), .ref (a 15), .int (-1), .int (-1)]))]) (wr := [(am 18, .inr (11, [.int 0, .ref (am 0), .int 0, .int 0, .int 0, .int 0, .ref (am 1), .ref (am 19), .ref (am 2), .ref (am 3), .ref (am 20), .int 0, .int 0, .int 0, .int 0, .int 0, .int 0, .long 0, .int 0, .int 0, .int 0, .ref (am 4), .ref (am 5), .int 0, .int 0, .int 0, .int 0, .ref (am 6), .int (-1), .ref (am 7), .int 0, .int 0, .ref (am 8), .int (-1), .ref (am 9), .ref (am 10), .int 0, .int 0, .ref (am 11), .int 0, .int 0, .int 0, .ref (am 12), .int 0, .ref (am 13), .int 0, .int 0, .int 0, .int 0, .int 0, .ref (am 14), .ref (am 15), .ref (am 16), .ref (am 17)]))]) (va_runV (As := []) (rest := []) ⟨hx, hb, hml, hown, hts⟩ (hc9 _) (cwV 0 hts gL_law_X11_undo rfl rfl rfl (by decide +kernel) ⟨Nat.le_of_ble_eq_true rfl, Nat.le_of_ble_eq_true rfl⟩) (z_preV hP hD hK hS hA hE hO [0] [] rfl (by decide +kernel) rfl 0 10 rfl rfl rfl) rfl rfl hl.1 rfl (lv_room (Nat.le_of_ble_eq_true rfl)) dL_law_772 ⟨Nat.le_of_ble_eq_true rfl, Nat.le_of_ble_eq_true rfl⟩) hP hD hK hS hA [0] [1] rfl rfl (by decide +kernel) (by decide +kernel) (fun r9 u9 H locs hw hP hD hK hS => ?_)
  obtain ⟨er9, rfl⟩ := hw
  have hP : va_P D vwCl [(am 18, .inr (11, [.int 0, .ref (am 0), .int 0, .int 0, .int 0, .int 0, .ref (am 1), .ref (am 19), .ref (am 2), .ref (am 3), .ref (am 20), .int 0, .int 0, .int 0, .int 0, .int 0, .int 0, .long 0, .int 0, .int 0, .int 0, .ref (am 4), .ref (am 5), .int 0, .int 0, .int 0, .int 0, .ref (am 6), .int (-1), .ref (am 7), .int 0, .int 0, .ref (am 8), .int (-1), .ref (am 9), .ref (am 10), .int 0, .int 0, .ref (am 11), .int 0, .int 0, .int 0, .ref (am 12), .int 0, .ref (am 13), .int 0, .int 0, .int 0, .int 0, .int 0, .ref (am 14), .ref (am 15), .ref (am 16), .ref (am 17)]))] H := hP
  have hD : va_D A [(am 18, .inr (11, [.int 0, .ref (am 0), .int 0, .int 0, .int 0, .int 0, .ref (am 1), .ref (am 19), .ref (am 2), .ref (am 3), .ref (am 20), .int 0, .int 0, .int 0, .int 0, .int 0, .int 0, .long 0, .int 0, .int 0, .int 0, .ref (am 4), .ref (am 5), .int 0, .int 0, .int 0, .int 0, .ref (am 6), .int (-1), .ref (am 7), .int 0, .int 0, .ref (am 8), .int (-1), .ref (am 9), .ref (am 10), .int 0, .int 0, .ref (am 11), .int 0, .int 0, .int 0, .ref (am 12), .int 0, .ref (am 13), .int 0, .int 0, .int 0, .int 0, .int 0, .ref (am 14), .ref (am 15), .ref (am 16), .ref (am 17)]))] := hD
  have hK : va_K D vwCl ((gFt t ++ gMt tm) ++ [(to, .long)]) s := hK
  refine W.cs (cells' := 212) (slots' := 5680) rfl rfl ?_
  obtain rfl := er9
  refine W.eq (g2 := F0 m 775 ls (.int (-1) :: [])) rfl ?_
  refine lv_aload_n hx hb dL_law_775 rfl (lv_at hl 2 rfl) ?_
  have hc9 := (k_X12_undo l D ad am (am 0) 0 0 0 0 (am 1) (am 19) (am 2) (am 3) (am 20) 0 0 0 0 0 0 0 0 0 0 (am 4) (am 5) 0 0 0 (am 6) (-1) (am 7) 0 0 (am 8) (-1) (am 9) (am 10) 0 0 (am 11) 0 0 0 (am 12) 0 (am 13) 0 0 0 0 0 (am 14) (am 15) (am 16) (am 17) )
  refine z_calli (w0 := [(am 18, .inr (11, [.int 0, .ref (am 0), .int 0, .int 0, .int 0, .int 0, .ref (am 1), .ref (am 19), .ref (am 2), .ref (am 3), .ref (am 20), .int 0, .int 0, .int 0, .int 0, .int 0, .int 0, .long 0, .int 0, .int 0, .int 0, .ref (am 4), .ref (am 5), .int 0, .int 0, .int 0, .int 0, .ref (am 6), .int (-1), .ref (am 7), .int 0, .int 0, .ref (am 8), .int (-1), .ref (am 9), .ref (am 10), .int 0, .int 0, .ref (am 11), .int 0, .int 0, .int 0, .ref (am 12), .int 0, .ref (am 13), .int 0, .int 0, .int 0, .int 0, .int 0, .ref (am 14), .ref (am 15), .ref (am 16), .ref (am 17)]))]) (wr := []) (va_runV (As := []) (rest := [.int (-1)]) ⟨hx, hb, hml, hown, hts⟩ (hc9 _) (cwV 0 hts gL_law_X12_undo rfl rfl rfl (by decide +kernel) ⟨Nat.le_of_ble_eq_true rfl, Nat.le_of_ble_eq_true rfl⟩) (z_preV hP hD hK hS hA hE hO [0] [] rfl (by decide +kernel) rfl 0 11 rfl rfl rfl) rfl rfl hl.1 rfl (lv_room (Nat.le_of_ble_eq_true rfl)) dL_law_776 ⟨Nat.le_of_ble_eq_true rfl, Nat.le_of_ble_eq_true rfl⟩) hP hD hK hS hA [0] [] rfl rfl (by decide +kernel) (by decide +kernel) (fun r9 u9 H locs hw hP hD hK hS => ?_)
  obtain ⟨er9, rfl⟩ := hw
  have hP : va_P D vwCl [] H := hP
  have hD : va_D A [] := hD
  have hK : va_K D vwCl ((gFt t ++ gMt tm) ++ [(to, .long)]) s := hK
  refine W.cs (cells' := 212) (slots' := 5680) rfl rfl ?_
  obtain rfl := er9
  refine W.eq (g2 := F0 m 779 ls (.int (-1) :: [.int (-1)])) rfl ?_
  refine lv_icmp_eq (tgt := 1398) hx hb dL_law_779 (by decide) (fun _ => ?_) (fun h9 => absurd (by decide) h9)
  exact law_end G0 hS (by decide) (by decide) (lv_sub hl [0, 4] rfl)

set_option maxHeartbeats 8000000 in
set_option maxRecDepth 100000 in
theorem lc_15 {p : Program} {l : Launch} {e : Env} {s : State} {m : MethodId} {below : List Frame} {meth : Method} {c : Code} {D : va_G} {ad : Nat → Nat} {A : Nat → Prop} {b : Nat} {xs : Nat → Int32} (G : z_G p s m meth c ad A b xs) {a am : Nat → Nat} {t tm : Nat → ClassId} {qo : Nat} {to : ClassId} {H : Heap} {locs : List Loc} {ls : Array Slot} (hP : va_P D vwCl ((gF ad a t ++ gM ad am tm) ++ [(qo, .inl (to, 1, .inr (.inl (fun _ => 0))))]) H) (hD : va_D A ((gF ad a t ++ gM ad am tm) ++ [(qo, .inl (to, 1, .inr (.inl (fun _ => 0))))])) (hK : va_K D vwCl ((gFt t ++ gMt tm) ++ [(to, .long)]) s) (hS : va_S A s.heap H locs) (hl : lv_has ls 7 [(4, .int 0), (3, .ref qo), (2, .ref (am 18)), (1, .ref (a 0)), (0, .ref b)]) : W p l e room_1 s m #[Value.ref b] below meth c H locs 212 5680 (lw_Z below #[Value.ref b] s) (F0 m 784 ls []) := by
  have G0 := G
  obtain ⟨hx, hb, hr, hml, hown, hts, hX, hbl, hbA, hA, hAl, hlocks, hE, hO⟩ := G
  have hP := hP.sub (ws' := [(a 0, .inr (10, [.ref (a 4), .ref (a 5), .ref (a 6), .ref (a 7), .ref (a 8), .ref (a 9), .ref (a 10), .ref (a 11), .ref (a 12), .int 0, .ref (a 13), .ref (a 102), .ref (a 14), .ref (a 15), .int (-1), .int (-1)])), (a 7, .inr (8, [.ref (a 28), .ref (a 29), .ref (a 30), .int 0, .ref (a 31), .ref (a 32), .ref (a 33), .int 0, .ref (a 34), .ref (a 35), .ref (a 36), .int 2])), (a 29, .inr (2, [.ref (a 78), .int 0])), (am 1, .inl (tm 1, 283, .inl (upd (fun _ => 0) 4 2))), (am 18, .inr (11, [.int 0, .ref (am 0), .int 0, .int 0, .int 0, .int 0, .ref (am 1), .ref (am 19), .ref (am 2), .ref (am 3), .ref (am 20), .int 0, .int 0, .int 0, .int 0, .int 0, .int 0, .long 0, .int 0, .int 0, .int 0, .ref (am 4), .ref (am 5), .int 0, .int 0, .int 0, .int 0, .ref (am 6), .int (-1), .ref (am 7), .int 0, .int 0, .ref (am 8), .int (-1), .ref (am 9), .ref (am 10), .int 0, .int 0, .ref (am 11), .int 0, .int 0, .int 0, .ref (am 12), .int 0, .ref (am 13), .int 0, .int 0, .int 0, .int 0, .int 0, .ref (am 14), .ref (am 15), .ref (am 16), .ref (am 17)]))]) [0, 7, 29, 103, 120] rfl
  have hD := hD.sub (ws' := [(a 0, .inr (10, [.ref (a 4), .ref (a 5), .ref (a 6), .ref (a 7), .ref (a 8), .ref (a 9), .ref (a 10), .ref (a 11), .ref (a 12), .int 0, .ref (a 13), .ref (a 102), .ref (a 14), .ref (a 15), .int (-1), .int (-1)])), (a 7, .inr (8, [.ref (a 28), .ref (a 29), .ref (a 30), .int 0, .ref (a 31), .ref (a 32), .ref (a 33), .int 0, .ref (a 34), .ref (a 35), .ref (a 36), .int 2])), (a 29, .inr (2, [.ref (a 78), .int 0])), (am 1, .inl (tm 1, 283, .inl (upd (fun _ => 0) 4 2))), (am 18, .inr (11, [.int 0, .ref (am 0), .int 0, .int 0, .int 0, .int 0, .ref (am 1), .ref (am 19), .ref (am 2), .ref (am 3), .ref (am 20), .int 0, .int 0, .int 0, .int 0, .int 0, .int 0, .long 0, .int 0, .int 0, .int 0, .ref (am 4), .ref (am 5), .int 0, .int 0, .int 0, .int 0, .ref (am 6), .int (-1), .ref (am 7), .int 0, .int 0, .ref (am 8), .int (-1), .ref (am 9), .ref (am 10), .int 0, .int 0, .ref (am 11), .int 0, .int 0, .int 0, .ref (am 12), .int 0, .ref (am 13), .int 0, .int 0, .int 0, .int 0, .int 0, .ref (am 14), .ref (am 15), .ref (am 16), .ref (am 17)]))]) [0, 7, 29, 103, 120] (by decide) rfl
  refine lv_aload_n hx hb dL_law_784 rfl (lv_at hl 3 rfl) ?_
  refine lv_aload_n hx hb dL_law_785 rfl (lv_at hl 4 rfl) ?_
  refine lv_iload hx hb dL_law_786 (lv_at hl 0 rfl) ?_
  refine lv_iconst (v := 1) hx hb dL_law_788 (by decide) ?_
  refine lv_iadd hx hb dL_law_789 ?_
  refine lv_topi (fun y_1 ey_1 => ?_)
  obtain rfl : y_1 = 1 := ey_1.trans (by decide)
  refine va_sld hx hb hX hbl hbA hS (show ¬ (_ ∨ _) by decide) dL_law_790 ?_
  refine W.eq (g2 := F0 m 791 ls (.int (xs 1) :: [.ref (a 0)])) rfl ?_
  have hc9 := (k_X11_next l D ad a (xs 1) )
  refine z_calli (w0 := [(a 0, .inr (10, [.ref (a 4), .ref (a 5), .ref (a 6), .ref (a 7), .ref (a 8), .ref (a 9), .ref (a 10), .ref (a 11), .ref (a 12), .int 0, .ref (a 13), .ref (a 102), .ref (a 14), .ref (a 15), .int (-1), .int (-1)])), (a 7, .inr (8, [.ref (a 28), .ref (a 29), .ref (a 30), .int 0, .ref (a 31), .ref (a 32), .ref (a 33), .int 0, .ref (a 34), .ref (a 35), .ref (a 36), .int 2])), (a 29, .inr (2, [.ref (a 78), .int 0]))]) (wr := [(am 1, .inl (tm 1, 283, .inl (upd (fun _ => 0) 4 2))), (am 18, .inr (11, [.int 0, .ref (am 0), .int 0, .int 0, .int 0, .int 0, .ref (am 1), .ref (am 19), .ref (am 2), .ref (am 3), .ref (am 20), .int 0, .int 0, .int 0, .int 0, .int 0, .int 0, .long 0, .int 0, .int 0, .int 0, .ref (am 4), .ref (am 5), .int 0, .int 0, .int 0, .int 0, .ref (am 6), .int (-1), .ref (am 7), .int 0, .int 0, .ref (am 8), .int (-1), .ref (am 9), .ref (am 10), .int 0, .int 0, .ref (am 11), .int 0, .int 0, .int 0, .ref (am 12), .int 0, .ref (am 13), .int 0, .int 0, .int 0, .int 0, .int 0, .ref (am 14), .ref (am 15), .ref (am 16), .ref (am 17)]))]) (va_runV (As := [.int (xs 1)]) (rest := []) ⟨hx, hb, hml, hown, hts⟩ (hc9 _) (cwV 1 hts gL_law_X11_next rfl rfl rfl (by decide +kernel) ⟨Nat.le_of_ble_eq_true rfl, Nat.le_of_ble_eq_true rfl⟩) (z_preV hP hD hK hS hA hE hO [0, 1, 2] [] rfl (by decide +kernel) rfl 0 10 rfl rfl rfl) rfl rfl hl.1 rfl (lv_room (Nat.le_of_ble_eq_true rfl)) dL_law_791 ⟨Nat.le_of_ble_eq_true rfl, Nat.le_of_ble_eq_true rfl⟩) hP hD hK hS hA [0, 1, 2] [3, 4] rfl rfl (by decide +kernel) (by decide +kernel) (fun r9 u9 H locs hw hP hD hK hS => ?_)
  obtain ⟨er9, rfl⟩ := hw
  have hP : va_P D vwCl [(am 1, .inl (tm 1, 283, .inl (upd (fun _ => 0) 4 2))), (am 18, .inr (11, [.int 0, .ref (am 0), .int 0, .int 0, .int 0, .int 0, .ref (am 1), .ref (am 19), .ref (am 2), .ref (am 3), .ref (am 20), .int 0, .int 0, .int 0, .int 0, .int 0, .int 0, .long 0, .int 0, .int 0, .int 0, .ref (am 4), .ref (am 5), .int 0, .int 0, .int 0, .int 0, .ref (am 6), .int (-1), .ref (am 7), .int 0, .int 0, .ref (am 8), .int (-1), .ref (am 9), .ref (am 10), .int 0, .int 0, .ref (am 11), .int 0, .int 0, .int 0, .ref (am 12), .int 0, .ref (am 13), .int 0, .int 0, .int 0, .int 0, .int 0, .ref (am 14), .ref (am 15), .ref (am 16), .ref (am 17)]))] H := hP
  have hD : va_D A [(am 1, .inl (tm 1, 283, .inl (upd (fun _ => 0) 4 2))), (am 18, .inr (11, [.int 0, .ref (am 0), .int 0, .int 0, .int 0, .int 0, .ref (am 1), .ref (am 19), .ref (am 2), .ref (am 3), .ref (am 20), .int 0, .int 0, .int 0, .int 0, .int 0, .int 0, .long 0, .int 0, .int 0, .int 0, .ref (am 4), .ref (am 5), .int 0, .int 0, .int 0, .int 0, .ref (am 6), .int (-1), .ref (am 7), .int 0, .int 0, .ref (am 8), .int (-1), .ref (am 9), .ref (am 10), .int 0, .int 0, .ref (am 11), .int 0, .int 0, .int 0, .ref (am 12), .int 0, .ref (am 13), .int 0, .int 0, .int 0, .int 0, .int 0, .ref (am 14), .ref (am 15), .ref (am 16), .ref (am 17)]))] := hD
  have hK : va_K D vwCl ((gFt t ++ gMt tm) ++ [(to, .long)]) s := hK
  refine W.cs (cells' := 212) (slots' := 5680) rfl rfl ?_
  obtain rfl := er9
  refine W.eq (g2 := F0 m 794 ls (.int (-1) :: [])) rfl ?_
  refine lv_aload_n hx hb dL_law_794 rfl (lv_at hl 2 rfl) ?_
  refine lv_aload_n hx hb dL_law_795 rfl (lv_at hl 4 rfl) ?_
  refine lv_iload hx hb dL_law_796 (lv_at hl 0 rfl) ?_
  refine lv_iconst (v := 1) hx hb dL_law_798 (by decide) ?_
  refine lv_iadd hx hb dL_law_799 ?_
  refine lv_topi (fun y_2 ey_2 => ?_)
  obtain rfl : y_2 = 1 := ey_2.trans (by decide)
  refine va_sld hx hb hX hbl hbA hS (show ¬ (_ ∨ _) by decide) dL_law_800 ?_
  refine W.eq (g2 := F0 m 801 ls (.int (xs 1) :: [.ref (am 18), .int (-1)])) rfl ?_
  have hc9 := (k_X12_next l D ad am tm (xs 1) (am 0) 0 0 0 0 (am 19) (am 2) (am 3) (am 20) 0 0 0 0 0 0 0 0 0 0 (am 4) (am 5) 0 0 0 0 (am 6) (-1) (am 7) 0 0 (am 8) (-1) (am 9) (am 10) 0 0 (am 11) 0 0 0 (am 12) 0 (am 13) 0 0 0 0 0 (am 14) (am 15) (am 16) (am 17) )
  refine z_calli (w0 := [(am 1, .inl (tm 1, 283, .inl (upd (fun _ => 0) 4 2))), (am 18, .inr (11, [.int 0, .ref (am 0), .int 0, .int 0, .int 0, .int 0, .ref (am 1), .ref (am 19), .ref (am 2), .ref (am 3), .ref (am 20), .int 0, .int 0, .int 0, .int 0, .int 0, .int 0, .long 0, .int 0, .int 0, .int 0, .ref (am 4), .ref (am 5), .int 0, .int 0, .int 0, .int 0, .ref (am 6), .int (-1), .ref (am 7), .int 0, .int 0, .ref (am 8), .int (-1), .ref (am 9), .ref (am 10), .int 0, .int 0, .ref (am 11), .int 0, .int 0, .int 0, .ref (am 12), .int 0, .ref (am 13), .int 0, .int 0, .int 0, .int 0, .int 0, .ref (am 14), .ref (am 15), .ref (am 16), .ref (am 17)]))]) (wr := []) (va_runV (As := [.int (xs 1)]) (rest := [.int (-1)]) ⟨hx, hb, hml, hown, hts⟩ (hc9 _) (cwV 1 hts gL_law_X12_next rfl rfl rfl (by decide +kernel) ⟨Nat.le_of_ble_eq_true rfl, Nat.le_of_ble_eq_true rfl⟩) (z_preV hP hD hK hS hA hE hO [0, 1] [67] rfl (by decide +kernel) rfl 1 11 rfl rfl rfl) rfl rfl hl.1 rfl (lv_room (Nat.le_of_ble_eq_true rfl)) dL_law_801 ⟨Nat.le_of_ble_eq_true rfl, Nat.le_of_ble_eq_true rfl⟩) hP hD hK hS hA [0, 1] [] rfl rfl (by decide +kernel) (by decide +kernel) (fun r9 u9 H locs hw hP hD hK hS => ?_)
  obtain ⟨er9, rfl⟩ := hw
  have hP : va_P D vwCl [] H := hP
  have hD : va_D A [] := hD
  have hK : va_K D vwCl ((gFt t ++ gMt tm) ++ [(to, .long)]) s := hK
  refine W.cs (cells' := 212) (slots' := 5680) rfl rfl ?_
  obtain rfl := er9
  refine W.eq (g2 := F0 m 804 ls (.int (-1) :: [.int (-1)])) rfl ?_
  refine lv_icmp_eq (tgt := 1398) hx hb dL_law_804 (by decide) (fun _ => ?_) (fun h9 => absurd (by decide) h9)
  exact law_end G0 hS (by decide) (by decide) (lv_sub hl [0, 4] rfl)

set_option maxHeartbeats 8000000 in
set_option maxRecDepth 100000 in
theorem lc_16 {p : Program} {l : Launch} {e : Env} {s : State} {m : MethodId} {below : List Frame} {meth : Method} {c : Code} {D : va_G} {ad : Nat → Nat} {A : Nat → Prop} {b : Nat} {xs : Nat → Int32} (G : z_G p s m meth c ad A b xs) {a am : Nat → Nat} {t tm : Nat → ClassId} {qo : Nat} {to : ClassId} {H : Heap} {locs : List Loc} {ls : Array Slot} (hP : va_P D vwCl ((gF ad a t ++ gM ad am tm) ++ [(qo, .inl (to, 1, .inr (.inl (fun _ => 0))))]) H) (hD : va_D A ((gF ad a t ++ gM ad am tm) ++ [(qo, .inl (to, 1, .inr (.inl (fun _ => 0))))])) (hK : va_K D vwCl ((gFt t ++ gMt tm) ++ [(to, .long)]) s) (hS : va_S A s.heap H locs) (hl : lv_has ls 7 [(4, .int 0), (3, .ref qo), (2, .ref (am 18)), (1, .ref (a 0)), (0, .ref b)]) : W p l e room_1 s m #[Value.ref b] below meth c H locs 212 5680 (lw_Z below #[Value.ref b] s) (F0 m 809 ls []) := by
  have G0 := G
  obtain ⟨hx, hb, hr, hml, hown, hts, hX, hbl, hbA, hA, hAl, hlocks, hE, hO⟩ := G
  have hP := hP.sub (ws' := [(a 0, .inr (10, [.ref (a 4), .ref (a 5), .ref (a 6), .ref (a 7), .ref (a 8), .ref (a 9), .ref (a 10), .ref (a 11), .ref (a 12), .int 0, .ref (a 13), .ref (a 102), .ref (a 14), .ref (a 15), .int (-1), .int (-1)])), (a 7, .inr (8, [.ref (a 28), .ref (a 29), .ref (a 30), .int 0, .ref (a 31), .ref (a 32), .ref (a 33), .int 0, .ref (a 34), .ref (a 35), .ref (a 36), .int 2])), (a 29, .inr (2, [.ref (a 78), .int 0])), (am 1, .inl (tm 1, 283, .inl (upd (fun _ => 0) 4 2))), (am 18, .inr (11, [.int 0, .ref (am 0), .int 0, .int 0, .int 0, .int 0, .ref (am 1), .ref (am 19), .ref (am 2), .ref (am 3), .ref (am 20), .int 0, .int 0, .int 0, .int 0, .int 0, .int 0, .long 0, .int 0, .int 0, .int 0, .ref (am 4), .ref (am 5), .int 0, .int 0, .int 0, .int 0, .ref (am 6), .int (-1), .ref (am 7), .int 0, .int 0, .ref (am 8), .int (-1), .ref (am 9), .ref (am 10), .int 0, .int 0, .ref (am 11), .int 0, .int 0, .int 0, .ref (am 12), .int 0, .ref (am 13), .int 0, .int 0, .int 0, .int 0, .int 0, .ref (am 14), .ref (am 15), .ref (am 16), .ref (am 17)]))]) [0, 7, 29, 103, 120] rfl
  have hD := hD.sub (ws' := [(a 0, .inr (10, [.ref (a 4), .ref (a 5), .ref (a 6), .ref (a 7), .ref (a 8), .ref (a 9), .ref (a 10), .ref (a 11), .ref (a 12), .int 0, .ref (a 13), .ref (a 102), .ref (a 14), .ref (a 15), .int (-1), .int (-1)])), (a 7, .inr (8, [.ref (a 28), .ref (a 29), .ref (a 30), .int 0, .ref (a 31), .ref (a 32), .ref (a 33), .int 0, .ref (a 34), .ref (a 35), .ref (a 36), .int 2])), (a 29, .inr (2, [.ref (a 78), .int 0])), (am 1, .inl (tm 1, 283, .inl (upd (fun _ => 0) 4 2))), (am 18, .inr (11, [.int 0, .ref (am 0), .int 0, .int 0, .int 0, .int 0, .ref (am 1), .ref (am 19), .ref (am 2), .ref (am 3), .ref (am 20), .int 0, .int 0, .int 0, .int 0, .int 0, .int 0, .long 0, .int 0, .int 0, .int 0, .ref (am 4), .ref (am 5), .int 0, .int 0, .int 0, .int 0, .ref (am 6), .int (-1), .ref (am 7), .int 0, .int 0, .ref (am 8), .int (-1), .ref (am 9), .ref (am 10), .int 0, .int 0, .ref (am 11), .int 0, .int 0, .int 0, .ref (am 12), .int 0, .ref (am 13), .int 0, .int 0, .int 0, .int 0, .int 0, .ref (am 14), .ref (am 15), .ref (am 16), .ref (am 17)]))]) [0, 7, 29, 103, 120] (by decide) rfl
  refine lv_aload_n hx hb dL_law_809 rfl (lv_at hl 3 rfl) ?_
  refine lv_aload_n hx hb dL_law_810 rfl (lv_at hl 4 rfl) ?_
  refine lv_iload hx hb dL_law_811 (lv_at hl 0 rfl) ?_
  refine lv_iconst (v := 1) hx hb dL_law_813 (by decide) ?_
  refine lv_iadd hx hb dL_law_814 ?_
  refine lv_topi (fun y_1 ey_1 => ?_)
  obtain rfl : y_1 = 1 := ey_1.trans (by decide)
  refine va_sld hx hb hX hbl hbA hS (show ¬ (_ ∨ _) by decide) dL_law_815 ?_
  refine W.eq (g2 := F0 m 816 ls (.int (xs 1) :: [.ref (a 0)])) rfl ?_
  have hc9 := (k_X11_sorry l D ad a (xs 1) )
  refine z_calli (w0 := [(a 0, .inr (10, [.ref (a 4), .ref (a 5), .ref (a 6), .ref (a 7), .ref (a 8), .ref (a 9), .ref (a 10), .ref (a 11), .ref (a 12), .int 0, .ref (a 13), .ref (a 102), .ref (a 14), .ref (a 15), .int (-1), .int (-1)])), (a 7, .inr (8, [.ref (a 28), .ref (a 29), .ref (a 30), .int 0, .ref (a 31), .ref (a 32), .ref (a 33), .int 0, .ref (a 34), .ref (a 35), .ref (a 36), .int 2])), (a 29, .inr (2, [.ref (a 78), .int 0]))]) (wr := [(am 1, .inl (tm 1, 283, .inl (upd (fun _ => 0) 4 2))), (am 18, .inr (11, [.int 0, .ref (am 0), .int 0, .int 0, .int 0, .int 0, .ref (am 1), .ref (am 19), .ref (am 2), .ref (am 3), .ref (am 20), .int 0, .int 0, .int 0, .int 0, .int 0, .int 0, .long 0, .int 0, .int 0, .int 0, .ref (am 4), .ref (am 5), .int 0, .int 0, .int 0, .int 0, .ref (am 6), .int (-1), .ref (am 7), .int 0, .int 0, .ref (am 8), .int (-1), .ref (am 9), .ref (am 10), .int 0, .int 0, .ref (am 11), .int 0, .int 0, .int 0, .ref (am 12), .int 0, .ref (am 13), .int 0, .int 0, .int 0, .int 0, .int 0, .ref (am 14), .ref (am 15), .ref (am 16), .ref (am 17)]))]) (va_runV (As := [.int (xs 1)]) (rest := []) ⟨hx, hb, hml, hown, hts⟩ (hc9 _) (cwV 1 hts gL_law_X11_sorry rfl rfl rfl (by decide +kernel) ⟨Nat.le_of_ble_eq_true rfl, Nat.le_of_ble_eq_true rfl⟩) (z_preV hP hD hK hS hA hE hO [0, 1, 2] [] rfl (by decide +kernel) rfl 0 10 rfl rfl rfl) rfl rfl hl.1 rfl (lv_room (Nat.le_of_ble_eq_true rfl)) dL_law_816 ⟨Nat.le_of_ble_eq_true rfl, Nat.le_of_ble_eq_true rfl⟩) hP hD hK hS hA [0, 1, 2] [3, 4] rfl rfl (by decide +kernel) (by decide +kernel) (fun r9 u9 H locs hw hP hD hK hS => ?_)
  obtain ⟨er9, rfl⟩ := hw
  have hP : va_P D vwCl [(am 1, .inl (tm 1, 283, .inl (upd (fun _ => 0) 4 2))), (am 18, .inr (11, [.int 0, .ref (am 0), .int 0, .int 0, .int 0, .int 0, .ref (am 1), .ref (am 19), .ref (am 2), .ref (am 3), .ref (am 20), .int 0, .int 0, .int 0, .int 0, .int 0, .int 0, .long 0, .int 0, .int 0, .int 0, .ref (am 4), .ref (am 5), .int 0, .int 0, .int 0, .int 0, .ref (am 6), .int (-1), .ref (am 7), .int 0, .int 0, .ref (am 8), .int (-1), .ref (am 9), .ref (am 10), .int 0, .int 0, .ref (am 11), .int 0, .int 0, .int 0, .ref (am 12), .int 0, .ref (am 13), .int 0, .int 0, .int 0, .int 0, .int 0, .ref (am 14), .ref (am 15), .ref (am 16), .ref (am 17)]))] H := hP
  have hD : va_D A [(am 1, .inl (tm 1, 283, .inl (upd (fun _ => 0) 4 2))), (am 18, .inr (11, [.int 0, .ref (am 0), .int 0, .int 0, .int 0, .int 0, .ref (am 1), .ref (am 19), .ref (am 2), .ref (am 3), .ref (am 20), .int 0, .int 0, .int 0, .int 0, .int 0, .int 0, .long 0, .int 0, .int 0, .int 0, .ref (am 4), .ref (am 5), .int 0, .int 0, .int 0, .int 0, .ref (am 6), .int (-1), .ref (am 7), .int 0, .int 0, .ref (am 8), .int (-1), .ref (am 9), .ref (am 10), .int 0, .int 0, .ref (am 11), .int 0, .int 0, .int 0, .ref (am 12), .int 0, .ref (am 13), .int 0, .int 0, .int 0, .int 0, .int 0, .ref (am 14), .ref (am 15), .ref (am 16), .ref (am 17)]))] := hD
  have hK : va_K D vwCl ((gFt t ++ gMt tm) ++ [(to, .long)]) s := hK
  refine W.cs (cells' := 212) (slots' := 5680) rfl rfl ?_
  obtain rfl := er9
  refine W.eq (g2 := F0 m 819 ls (.int (s_X11_sorry (xs 1)) :: [])) rfl ?_
  refine lv_aload_n hx hb dL_law_819 rfl (lv_at hl 2 rfl) ?_
  refine lv_aload_n hx hb dL_law_820 rfl (lv_at hl 4 rfl) ?_
  refine lv_iload hx hb dL_law_821 (lv_at hl 0 rfl) ?_
  refine lv_iconst (v := 1) hx hb dL_law_823 (by decide) ?_
  refine lv_iadd hx hb dL_law_824 ?_
  refine lv_topi (fun y_2 ey_2 => ?_)
  obtain rfl : y_2 = 1 := ey_2.trans (by decide)
  refine va_sld hx hb hX hbl hbA hS (show ¬ (_ ∨ _) by decide) dL_law_825 ?_
  refine W.eq (g2 := F0 m 826 ls (.int (xs 1) :: [.ref (am 18), .int (s_X11_sorry (xs 1))])) rfl ?_
  have hc9 := (k_X12_sorry l D ad am tm (xs 1) (am 0) 0 0 0 0 (am 19) (am 2) (am 3) (am 20) 0 0 0 0 0 0 0 0 0 0 (am 4) (am 5) 0 0 0 0 (am 6) (-1) (am 7) 0 0 (am 8) (-1) (am 9) (am 10) 0 0 (am 11) 0 0 0 (am 12) 0 (am 13) 0 0 0 0 0 (am 14) (am 15) (am 16) (am 17) )
  refine z_calli (w0 := [(am 1, .inl (tm 1, 283, .inl (upd (fun _ => 0) 4 2))), (am 18, .inr (11, [.int 0, .ref (am 0), .int 0, .int 0, .int 0, .int 0, .ref (am 1), .ref (am 19), .ref (am 2), .ref (am 3), .ref (am 20), .int 0, .int 0, .int 0, .int 0, .int 0, .int 0, .long 0, .int 0, .int 0, .int 0, .ref (am 4), .ref (am 5), .int 0, .int 0, .int 0, .int 0, .ref (am 6), .int (-1), .ref (am 7), .int 0, .int 0, .ref (am 8), .int (-1), .ref (am 9), .ref (am 10), .int 0, .int 0, .ref (am 11), .int 0, .int 0, .int 0, .ref (am 12), .int 0, .ref (am 13), .int 0, .int 0, .int 0, .int 0, .int 0, .ref (am 14), .ref (am 15), .ref (am 16), .ref (am 17)]))]) (wr := []) (va_runV (As := [.int (xs 1)]) (rest := [.int (s_X11_sorry (xs 1))]) ⟨hx, hb, hml, hown, hts⟩ (hc9 _) (cwV 1 hts gL_law_X12_sorry rfl rfl rfl (by decide +kernel) ⟨Nat.le_of_ble_eq_true rfl, Nat.le_of_ble_eq_true rfl⟩) (z_preV hP hD hK hS hA hE hO [0, 1] [67] rfl (by decide +kernel) rfl 1 11 rfl rfl rfl) rfl rfl hl.1 rfl (lv_room (Nat.le_of_ble_eq_true rfl)) dL_law_826 ⟨Nat.le_of_ble_eq_true rfl, Nat.le_of_ble_eq_true rfl⟩) hP hD hK hS hA [0, 1] [] rfl rfl (by decide +kernel) (by decide +kernel) (fun r9 u9 H locs hw hP hD hK hS => ?_)
  obtain ⟨er9, rfl⟩ := hw
  have hP : va_P D vwCl [] H := hP
  have hD : va_D A [] := hD
  have hK : va_K D vwCl ((gFt t ++ gMt tm) ++ [(to, .long)]) s := hK
  refine W.cs (cells' := 212) (slots' := 5680) rfl rfl ?_
  obtain rfl := er9
  refine W.eq (g2 := F0 m 829 ls (.int (s_X12_sorry (xs 1)) :: [.int (s_X11_sorry (xs 1))])) rfl ?_
  refine lv_icmp_eq (tgt := 1398) hx hb dL_law_829 (by decide) (fun _ => ?_) (fun h9 => absurd (e_sorry (xs 1)) h9)
  exact law_end G0 hS (by decide) (by decide) (lv_sub hl [0, 4] rfl)

set_option maxHeartbeats 8000000 in
set_option maxRecDepth 100000 in
theorem lc_17 {p : Program} {l : Launch} {e : Env} {s : State} {m : MethodId} {below : List Frame} {meth : Method} {c : Code} {D : va_G} {ad : Nat → Nat} {A : Nat → Prop} {b : Nat} {xs : Nat → Int32} (G : z_G p s m meth c ad A b xs) {a am : Nat → Nat} {t tm : Nat → ClassId} {qo : Nat} {to : ClassId} {H : Heap} {locs : List Loc} {ls : Array Slot} (hP : va_P D vwCl ((gF ad a t ++ gM ad am tm) ++ [(qo, .inl (to, 1, .inr (.inl (fun _ => 0))))]) H) (hD : va_D A ((gF ad a t ++ gM ad am tm) ++ [(qo, .inl (to, 1, .inr (.inl (fun _ => 0))))])) (hK : va_K D vwCl ((gFt t ++ gMt tm) ++ [(to, .long)]) s) (hS : va_S A s.heap H locs) (hl : lv_has ls 7 [(4, .int 0), (3, .ref qo), (2, .ref (am 18)), (1, .ref (a 0)), (0, .ref b)]) : W p l e room_1 s m #[Value.ref b] below meth c H locs 212 5680 (lw_Z below #[Value.ref b] s) (F0 m 834 ls []) := by
  have G0 := G
  obtain ⟨hx, hb, hr, hml, hown, hts, hX, hbl, hbA, hA, hAl, hlocks, hE, hO⟩ := G
  have hP := hP.sub (ws' := [(a 0, .inr (10, [.ref (a 4), .ref (a 5), .ref (a 6), .ref (a 7), .ref (a 8), .ref (a 9), .ref (a 10), .ref (a 11), .ref (a 12), .int 0, .ref (a 13), .ref (a 102), .ref (a 14), .ref (a 15), .int (-1), .int (-1)])), (a 7, .inr (8, [.ref (a 28), .ref (a 29), .ref (a 30), .int 0, .ref (a 31), .ref (a 32), .ref (a 33), .int 0, .ref (a 34), .ref (a 35), .ref (a 36), .int 2])), (a 8, .inr (4, [.ref (a 7), .int 0, .int 0, .int 0, .ref (a 37), .ref (a 38), .ref (a 39), .ref (a 40)])), (a 11, .inr (4, [.ref (a 7), .int 0, .int 0, .int 0, .ref (a 44), .ref (a 45), .ref (a 46), .ref (a 47)])), (a 29, .inr (2, [.ref (a 78), .int 0])), (a 37, .inl (t 13, 7, .inl (fun _ => 0))), (a 38, .inl (t 14, 6, .inl (fun _ => 0))), (a 39, .inl (t 15, 6, .inl (fun _ => 0))), (a 40, .inl (t 16, 6, .inl (fun _ => 0))), (a 44, .inl (t 17, 7, .inl (fun _ => 0))), (a 45, .inl (t 18, 6, .inl (fun _ => 0))), (a 46, .inl (t 19, 6, .inl (fun _ => 0))), (a 47, .inl (t 20, 6, .inl (fun _ => 0))), (am 1, .inl (tm 1, 283, .inl (upd (fun _ => 0) 4 2))), (am 5, .inl (tm 5, 35, .inl (fun _ => 0))), (am 18, .inr (11, [.int 0, .ref (am 0), .int 0, .int 0, .int 0, .int 0, .ref (am 1), .ref (am 19), .ref (am 2), .ref (am 3), .ref (am 20), .int 0, .int 0, .int 0, .int 0, .int 0, .int 0, .long 0, .int 0, .int 0, .int 0, .ref (am 4), .ref (am 5), .int 0, .int 0, .int 0, .int 0, .ref (am 6), .int (-1), .ref (am 7), .int 0, .int 0, .ref (am 8), .int (-1), .ref (am 9), .ref (am 10), .int 0, .int 0, .ref (am 11), .int 0, .int 0, .int 0, .ref (am 12), .int 0, .ref (am 13), .int 0, .int 0, .int 0, .int 0, .int 0, .ref (am 14), .ref (am 15), .ref (am 16), .ref (am 17)]))]) [0, 7, 8, 11, 29, 37, 38, 39, 40, 44, 45, 46, 47, 103, 107, 120] rfl
  have hD := hD.sub (ws' := [(a 0, .inr (10, [.ref (a 4), .ref (a 5), .ref (a 6), .ref (a 7), .ref (a 8), .ref (a 9), .ref (a 10), .ref (a 11), .ref (a 12), .int 0, .ref (a 13), .ref (a 102), .ref (a 14), .ref (a 15), .int (-1), .int (-1)])), (a 7, .inr (8, [.ref (a 28), .ref (a 29), .ref (a 30), .int 0, .ref (a 31), .ref (a 32), .ref (a 33), .int 0, .ref (a 34), .ref (a 35), .ref (a 36), .int 2])), (a 8, .inr (4, [.ref (a 7), .int 0, .int 0, .int 0, .ref (a 37), .ref (a 38), .ref (a 39), .ref (a 40)])), (a 11, .inr (4, [.ref (a 7), .int 0, .int 0, .int 0, .ref (a 44), .ref (a 45), .ref (a 46), .ref (a 47)])), (a 29, .inr (2, [.ref (a 78), .int 0])), (a 37, .inl (t 13, 7, .inl (fun _ => 0))), (a 38, .inl (t 14, 6, .inl (fun _ => 0))), (a 39, .inl (t 15, 6, .inl (fun _ => 0))), (a 40, .inl (t 16, 6, .inl (fun _ => 0))), (a 44, .inl (t 17, 7, .inl (fun _ => 0))), (a 45, .inl (t 18, 6, .inl (fun _ => 0))), (a 46, .inl (t 19, 6, .inl (fun _ => 0))), (a 47, .inl (t 20, 6, .inl (fun _ => 0))), (am 1, .inl (tm 1, 283, .inl (upd (fun _ => 0) 4 2))), (am 5, .inl (tm 5, 35, .inl (fun _ => 0))), (am 18, .inr (11, [.int 0, .ref (am 0), .int 0, .int 0, .int 0, .int 0, .ref (am 1), .ref (am 19), .ref (am 2), .ref (am 3), .ref (am 20), .int 0, .int 0, .int 0, .int 0, .int 0, .int 0, .long 0, .int 0, .int 0, .int 0, .ref (am 4), .ref (am 5), .int 0, .int 0, .int 0, .int 0, .ref (am 6), .int (-1), .ref (am 7), .int 0, .int 0, .ref (am 8), .int (-1), .ref (am 9), .ref (am 10), .int 0, .int 0, .ref (am 11), .int 0, .int 0, .int 0, .ref (am 12), .int 0, .ref (am 13), .int 0, .int 0, .int 0, .int 0, .int 0, .ref (am 14), .ref (am 15), .ref (am 16), .ref (am 17)]))]) [0, 7, 8, 11, 29, 37, 38, 39, 40, 44, 45, 46, 47, 103, 107, 120] (by decide) rfl
  refine lv_aload_n hx hb dL_law_834 rfl (lv_at hl 3 rfl) ?_
  refine lv_aload_n hx hb dL_law_835 rfl (lv_at hl 4 rfl) ?_
  refine lv_iload hx hb dL_law_836 (lv_at hl 0 rfl) ?_
  refine lv_iconst (v := 1) hx hb dL_law_838 (by decide) ?_
  refine lv_iadd hx hb dL_law_839 ?_
  refine lv_topi (fun y_1 ey_1 => ?_)
  obtain rfl : y_1 = 1 := ey_1.trans (by decide)
  refine va_sld hx hb hX hbl hbA hS (show ¬ (_ ∨ _) by decide) dL_law_840 ?_
  refine W.eq (g2 := F0 m 841 ls (.int (xs 1) :: [.ref (a 0)])) rfl ?_
  have hc9 := (k_X11_weeps l D ad a t (xs 1) )
  refine z_calli (w0 := [(a 0, .inr (10, [.ref (a 4), .ref (a 5), .ref (a 6), .ref (a 7), .ref (a 8), .ref (a 9), .ref (a 10), .ref (a 11), .ref (a 12), .int 0, .ref (a 13), .ref (a 102), .ref (a 14), .ref (a 15), .int (-1), .int (-1)])), (a 7, .inr (8, [.ref (a 28), .ref (a 29), .ref (a 30), .int 0, .ref (a 31), .ref (a 32), .ref (a 33), .int 0, .ref (a 34), .ref (a 35), .ref (a 36), .int 2])), (a 8, .inr (4, [.ref (a 7), .int 0, .int 0, .int 0, .ref (a 37), .ref (a 38), .ref (a 39), .ref (a 40)])), (a 11, .inr (4, [.ref (a 7), .int 0, .int 0, .int 0, .ref (a 44), .ref (a 45), .ref (a 46), .ref (a 47)])), (a 29, .inr (2, [.ref (a 78), .int 0])), (a 37, .inl (t 13, 7, .inl (fun _ => 0))), (a 38, .inl (t 14, 6, .inl (fun _ => 0))), (a 39, .inl (t 15, 6, .inl (fun _ => 0))), (a 40, .inl (t 16, 6, .inl (fun _ => 0))), (a 44, .inl (t 17, 7, .inl (fun _ => 0))), (a 45, .inl (t 18, 6, .inl (fun _ => 0))), (a 46, .inl (t 19, 6, .inl (fun _ => 0))), (a 47, .inl (t 20, 6, .inl (fun _ => 0)))]) (wr := [(am 1, .inl (tm 1, 283, .inl (upd (fun _ => 0) 4 2))), (am 5, .inl (tm 5, 35, .inl (fun _ => 0))), (am 18, .inr (11, [.int 0, .ref (am 0), .int 0, .int 0, .int 0, .int 0, .ref (am 1), .ref (am 19), .ref (am 2), .ref (am 3), .ref (am 20), .int 0, .int 0, .int 0, .int 0, .int 0, .int 0, .long 0, .int 0, .int 0, .int 0, .ref (am 4), .ref (am 5), .int 0, .int 0, .int 0, .int 0, .ref (am 6), .int (-1), .ref (am 7), .int 0, .int 0, .ref (am 8), .int (-1), .ref (am 9), .ref (am 10), .int 0, .int 0, .ref (am 11), .int 0, .int 0, .int 0, .ref (am 12), .int 0, .ref (am 13), .int 0, .int 0, .int 0, .int 0, .int 0, .ref (am 14), .ref (am 15), .ref (am 16), .ref (am 17)]))]) (va_runV (As := [.int (xs 1)]) (rest := []) ⟨hx, hb, hml, hown, hts⟩ (hc9 _) (cwV 1 hts gL_law_X11_weeps rfl rfl rfl (by decide +kernel) ⟨Nat.le_of_ble_eq_true rfl, Nat.le_of_ble_eq_true rfl⟩) (z_preV hP hD hK hS hA hE hO [0, 1, 2, 3, 4, 5, 6, 7, 8, 9, 10, 11, 12] [10, 11, 12, 13, 54, 55, 56, 57] rfl (by decide +kernel) rfl 0 10 rfl rfl rfl) rfl rfl hl.1 rfl (lv_room (Nat.le_of_ble_eq_true rfl)) dL_law_841 ⟨Nat.le_of_ble_eq_true rfl, Nat.le_of_ble_eq_true rfl⟩) hP hD hK hS hA [0, 1, 2, 3, 4, 5, 6, 7, 8, 9, 10, 11, 12] [13, 14, 15] rfl rfl (by decide +kernel) (by decide +kernel) (fun r9 u9 H locs hw hP hD hK hS => ?_)
  obtain ⟨er9, rfl⟩ := hw
  have hP : va_P D vwCl [(am 1, .inl (tm 1, 283, .inl (upd (fun _ => 0) 4 2))), (am 5, .inl (tm 5, 35, .inl (fun _ => 0))), (am 18, .inr (11, [.int 0, .ref (am 0), .int 0, .int 0, .int 0, .int 0, .ref (am 1), .ref (am 19), .ref (am 2), .ref (am 3), .ref (am 20), .int 0, .int 0, .int 0, .int 0, .int 0, .int 0, .long 0, .int 0, .int 0, .int 0, .ref (am 4), .ref (am 5), .int 0, .int 0, .int 0, .int 0, .ref (am 6), .int (-1), .ref (am 7), .int 0, .int 0, .ref (am 8), .int (-1), .ref (am 9), .ref (am 10), .int 0, .int 0, .ref (am 11), .int 0, .int 0, .int 0, .ref (am 12), .int 0, .ref (am 13), .int 0, .int 0, .int 0, .int 0, .int 0, .ref (am 14), .ref (am 15), .ref (am 16), .ref (am 17)]))] H := hP
  have hD : va_D A [(am 1, .inl (tm 1, 283, .inl (upd (fun _ => 0) 4 2))), (am 5, .inl (tm 5, 35, .inl (fun _ => 0))), (am 18, .inr (11, [.int 0, .ref (am 0), .int 0, .int 0, .int 0, .int 0, .ref (am 1), .ref (am 19), .ref (am 2), .ref (am 3), .ref (am 20), .int 0, .int 0, .int 0, .int 0, .int 0, .int 0, .long 0, .int 0, .int 0, .int 0, .ref (am 4), .ref (am 5), .int 0, .int 0, .int 0, .int 0, .ref (am 6), .int (-1), .ref (am 7), .int 0, .int 0, .ref (am 8), .int (-1), .ref (am 9), .ref (am 10), .int 0, .int 0, .ref (am 11), .int 0, .int 0, .int 0, .ref (am 12), .int 0, .ref (am 13), .int 0, .int 0, .int 0, .int 0, .int 0, .ref (am 14), .ref (am 15), .ref (am 16), .ref (am 17)]))] := hD
  have hK : va_K D vwCl ((gFt t ++ gMt tm) ++ [(to, .long)]) s := hK
  refine W.cs (cells' := 212) (slots' := 5680) rfl rfl ?_
  obtain rfl := er9
  refine W.eq (g2 := F0 m 844 ls (.int (s_X11_weeps (xs 1)) :: [])) rfl ?_
  refine lv_aload_n hx hb dL_law_844 rfl (lv_at hl 2 rfl) ?_
  refine lv_aload_n hx hb dL_law_845 rfl (lv_at hl 4 rfl) ?_
  refine lv_iload hx hb dL_law_846 (lv_at hl 0 rfl) ?_
  refine lv_iconst (v := 1) hx hb dL_law_848 (by decide) ?_
  refine lv_iadd hx hb dL_law_849 ?_
  refine lv_topi (fun y_2 ey_2 => ?_)
  obtain rfl : y_2 = 1 := ey_2.trans (by decide)
  refine va_sld hx hb hX hbl hbA hS (show ¬ (_ ∨ _) by decide) dL_law_850 ?_
  refine W.eq (g2 := F0 m 851 ls (.int (xs 1) :: [.ref (am 18), .int (s_X11_weeps (xs 1))])) rfl ?_
  have hc9 := (k_X12_weeps l D ad am tm (xs 1) (am 0) 0 0 0 0 (am 19) (am 2) (am 3) (am 20) 0 0 0 0 0 0 0 0 0 0 (am 4) 0 0 0 0 (am 6) (-1) (am 7) 0 0 (am 8) (-1) (am 9) (am 10) 0 0 (am 11) 0 0 0 (am 12) 0 (am 13) 0 0 0 0 0 (am 14) (am 15) (am 16) (am 17) )
  refine z_calli (w0 := [(am 1, .inl (tm 1, 283, .inl (upd (fun _ => 0) 4 2))), (am 5, .inl (tm 5, 35, .inl (fun _ => 0))), (am 18, .inr (11, [.int 0, .ref (am 0), .int 0, .int 0, .int 0, .int 0, .ref (am 1), .ref (am 19), .ref (am 2), .ref (am 3), .ref (am 20), .int 0, .int 0, .int 0, .int 0, .int 0, .int 0, .long 0, .int 0, .int 0, .int 0, .ref (am 4), .ref (am 5), .int 0, .int 0, .int 0, .int 0, .ref (am 6), .int (-1), .ref (am 7), .int 0, .int 0, .ref (am 8), .int (-1), .ref (am 9), .ref (am 10), .int 0, .int 0, .ref (am 11), .int 0, .int 0, .int 0, .ref (am 12), .int 0, .ref (am 13), .int 0, .int 0, .int 0, .int 0, .int 0, .ref (am 14), .ref (am 15), .ref (am 16), .ref (am 17)]))]) (wr := []) (va_runV (As := [.int (xs 1)]) (rest := [.int (s_X11_weeps (xs 1))]) ⟨hx, hb, hml, hown, hts⟩ (hc9 _) (cwV 1 hts gL_law_X12_weeps rfl rfl rfl (by decide +kernel) ⟨Nat.le_of_ble_eq_true rfl, Nat.le_of_ble_eq_true rfl⟩) (z_preV hP hD hK hS hA hE hO [0, 1, 2] [67, 72] rfl (by decide +kernel) rfl 2 11 rfl rfl rfl) rfl rfl hl.1 rfl (lv_room (Nat.le_of_ble_eq_true rfl)) dL_law_851 ⟨Nat.le_of_ble_eq_true rfl, Nat.le_of_ble_eq_true rfl⟩) hP hD hK hS hA [0, 1, 2] [] rfl rfl (by decide +kernel) (by decide +kernel) (fun r9 u9 H locs hw hP hD hK hS => ?_)
  obtain ⟨er9, rfl⟩ := hw
  have hP : va_P D vwCl [] H := hP
  have hD : va_D A [] := hD
  have hK : va_K D vwCl ((gFt t ++ gMt tm) ++ [(to, .long)]) s := hK
  refine W.cs (cells' := 212) (slots' := 5680) rfl rfl ?_
  obtain rfl := er9
  refine W.eq (g2 := F0 m 854 ls (.int (s_X12_weeps (xs 1)) :: [.int (s_X11_weeps (xs 1))])) rfl ?_
  refine lv_icmp_eq (tgt := 1398) hx hb dL_law_854 (by decide) (fun _ => ?_) (fun h9 => absurd (e_weeps (xs 1)) h9)
  exact law_end G0 hS (by decide) (by decide) (lv_sub hl [0, 4] rfl)

set_option maxHeartbeats 8000000 in
set_option maxRecDepth 100000 in
theorem lc_18 {p : Program} {l : Launch} {e : Env} {s : State} {m : MethodId} {below : List Frame} {meth : Method} {c : Code} {D : va_G} {ad : Nat → Nat} {A : Nat → Prop} {b : Nat} {xs : Nat → Int32} (G : z_G p s m meth c ad A b xs) {a am : Nat → Nat} {t tm : Nat → ClassId} {qo : Nat} {to : ClassId} {H : Heap} {locs : List Loc} {ls : Array Slot} (hP : va_P D vwCl ((gF ad a t ++ gM ad am tm) ++ [(qo, .inl (to, 1, .inr (.inl (fun _ => 0))))]) H) (hD : va_D A ((gF ad a t ++ gM ad am tm) ++ [(qo, .inl (to, 1, .inr (.inl (fun _ => 0))))])) (hK : va_K D vwCl ((gFt t ++ gMt tm) ++ [(to, .long)]) s) (hS : va_S A s.heap H locs) (hl : lv_has ls 7 [(4, .int 0), (3, .ref qo), (2, .ref (am 18)), (1, .ref (a 0)), (0, .ref b)]) : W p l e room_1 s m #[Value.ref b] below meth c H locs 212 5680 (lw_Z below #[Value.ref b] s) (F0 m 859 ls []) := by
  have G0 := G
  obtain ⟨hx, hb, hr, hml, hown, hts, hX, hbl, hbA, hA, hAl, hlocks, hE, hO⟩ := G
  have hP := hP.sub (ws' := [(a 0, .inr (10, [.ref (a 4), .ref (a 5), .ref (a 6), .ref (a 7), .ref (a 8), .ref (a 9), .ref (a 10), .ref (a 11), .ref (a 12), .int 0, .ref (a 13), .ref (a 102), .ref (a 14), .ref (a 15), .int (-1), .int (-1)])), (a 4, .inr (6, [.ref (a 26), .int 0])), (am 1, .inl (tm 1, 283, .inl (upd (fun _ => 0) 4 2))), (am 18, .inr (11, [.int 0, .ref (am 0), .int 0, .int 0, .int 0, .int 0, .ref (am 1), .ref (am 19), .ref (am 2), .ref (am 3), .ref (am 20), .int 0, .int 0, .int 0, .int 0, .int 0, .int 0, .long 0, .int 0, .int 0, .int 0, .ref (am 4), .ref (am 5), .int 0, .int 0, .int 0, .int 0, .ref (am 6), .int (-1), .ref (am 7), .int 0, .int 0, .ref (am 8), .int (-1), .ref (am 9), .ref (am 10), .int 0, .int 0, .ref (am 11), .int 0, .int 0, .int 0, .ref (am 12), .int 0, .ref (am 13), .int 0, .int 0, .int 0, .int 0, .int 0, .ref (am 14), .ref (am 15), .ref (am 16), .ref (am 17)]))]) [0, 4, 103, 120] rfl
  have hD := hD.sub (ws' := [(a 0, .inr (10, [.ref (a 4), .ref (a 5), .ref (a 6), .ref (a 7), .ref (a 8), .ref (a 9), .ref (a 10), .ref (a 11), .ref (a 12), .int 0, .ref (a 13), .ref (a 102), .ref (a 14), .ref (a 15), .int (-1), .int (-1)])), (a 4, .inr (6, [.ref (a 26), .int 0])), (am 1, .inl (tm 1, 283, .inl (upd (fun _ => 0) 4 2))), (am 18, .inr (11, [.int 0, .ref (am 0), .int 0, .int 0, .int 0, .int 0, .ref (am 1), .ref (am 19), .ref (am 2), .ref (am 3), .ref (am 20), .int 0, .int 0, .int 0, .int 0, .int 0, .int 0, .long 0, .int 0, .int 0, .int 0, .ref (am 4), .ref (am 5), .int 0, .int 0, .int 0, .int 0, .ref (am 6), .int (-1), .ref (am 7), .int 0, .int 0, .ref (am 8), .int (-1), .ref (am 9), .ref (am 10), .int 0, .int 0, .ref (am 11), .int 0, .int 0, .int 0, .ref (am 12), .int 0, .ref (am 13), .int 0, .int 0, .int 0, .int 0, .int 0, .ref (am 14), .ref (am 15), .ref (am 16), .ref (am 17)]))]) [0, 4, 103, 120] (by decide) rfl
  refine lv_aload_n hx hb dL_law_859 rfl (lv_at hl 3 rfl) ?_
  have hc9 := (k_X11_meant l D ad a )
  refine z_calli (w0 := [(a 0, .inr (10, [.ref (a 4), .ref (a 5), .ref (a 6), .ref (a 7), .ref (a 8), .ref (a 9), .ref (a 10), .ref (a 11), .ref (a 12), .int 0, .ref (a 13), .ref (a 102), .ref (a 14), .ref (a 15), .int (-1), .int (-1)])), (a 4, .inr (6, [.ref (a 26), .int 0]))]) (wr := [(am 1, .inl (tm 1, 283, .inl (upd (fun _ => 0) 4 2))), (am 18, .inr (11, [.int 0, .ref (am 0), .int 0, .int 0, .int 0, .int 0, .ref (am 1), .ref (am 19), .ref (am 2), .ref (am 3), .ref (am 20), .int 0, .int 0, .int 0, .int 0, .int 0, .int 0, .long 0, .int 0, .int 0, .int 0, .ref (am 4), .ref (am 5), .int 0, .int 0, .int 0, .int 0, .ref (am 6), .int (-1), .ref (am 7), .int 0, .int 0, .ref (am 8), .int (-1), .ref (am 9), .ref (am 10), .int 0, .int 0, .ref (am 11), .int 0, .int 0, .int 0, .ref (am 12), .int 0, .ref (am 13), .int 0, .int 0, .int 0, .int 0, .int 0, .ref (am 14), .ref (am 15), .ref (am 16), .ref (am 17)]))]) (va_runV (As := []) (rest := []) ⟨hx, hb, hml, hown, hts⟩ (hc9 _) (cwV 0 hts gL_law_X11_meant rfl rfl rfl (by decide +kernel) ⟨Nat.le_of_ble_eq_true rfl, Nat.le_of_ble_eq_true rfl⟩) (z_preV hP hD hK hS hA hE hO [0, 1] [] rfl (by decide +kernel) rfl 0 10 rfl rfl rfl) rfl rfl hl.1 rfl (lv_room (Nat.le_of_ble_eq_true rfl)) dL_law_860 ⟨Nat.le_of_ble_eq_true rfl, Nat.le_of_ble_eq_true rfl⟩) hP hD hK hS hA [0, 1] [2, 3] rfl rfl (by decide +kernel) (by decide +kernel) (fun r9 u9 H locs hw hP hD hK hS => ?_)
  obtain ⟨er9, rfl⟩ := hw
  have hP : va_P D vwCl [(am 1, .inl (tm 1, 283, .inl (upd (fun _ => 0) 4 2))), (am 18, .inr (11, [.int 0, .ref (am 0), .int 0, .int 0, .int 0, .int 0, .ref (am 1), .ref (am 19), .ref (am 2), .ref (am 3), .ref (am 20), .int 0, .int 0, .int 0, .int 0, .int 0, .int 0, .long 0, .int 0, .int 0, .int 0, .ref (am 4), .ref (am 5), .int 0, .int 0, .int 0, .int 0, .ref (am 6), .int (-1), .ref (am 7), .int 0, .int 0, .ref (am 8), .int (-1), .ref (am 9), .ref (am 10), .int 0, .int 0, .ref (am 11), .int 0, .int 0, .int 0, .ref (am 12), .int 0, .ref (am 13), .int 0, .int 0, .int 0, .int 0, .int 0, .ref (am 14), .ref (am 15), .ref (am 16), .ref (am 17)]))] H := hP
  have hD : va_D A [(am 1, .inl (tm 1, 283, .inl (upd (fun _ => 0) 4 2))), (am 18, .inr (11, [.int 0, .ref (am 0), .int 0, .int 0, .int 0, .int 0, .ref (am 1), .ref (am 19), .ref (am 2), .ref (am 3), .ref (am 20), .int 0, .int 0, .int 0, .int 0, .int 0, .int 0, .long 0, .int 0, .int 0, .int 0, .ref (am 4), .ref (am 5), .int 0, .int 0, .int 0, .int 0, .ref (am 6), .int (-1), .ref (am 7), .int 0, .int 0, .ref (am 8), .int (-1), .ref (am 9), .ref (am 10), .int 0, .int 0, .ref (am 11), .int 0, .int 0, .int 0, .ref (am 12), .int 0, .ref (am 13), .int 0, .int 0, .int 0, .int 0, .int 0, .ref (am 14), .ref (am 15), .ref (am 16), .ref (am 17)]))] := hD
  have hK : va_K D vwCl ((gFt t ++ gMt tm) ++ [(to, .long)]) s := hK
  refine W.cs (cells' := 212) (slots' := 5680) rfl rfl ?_
  obtain rfl := er9
  refine W.eq (g2 := F0 m 863 ls (.int (-1) :: [])) rfl ?_
  refine lv_aload_n hx hb dL_law_863 rfl (lv_at hl 2 rfl) ?_
  have hc9 := (k_X12_meant l D ad am tm (am 0) (am 19) (am 2) (am 3) (am 20) 0 0 0 0 0 0 0 0 0 0 (am 4) (am 5) 0 0 0 0 (am 6) (-1) (am 7) 0 0 (am 8) (-1) (am 9) (am 10) 0 0 (am 11) 0 0 0 (am 12) 0 (am 13) 0 0 0 0 0 (am 14) (am 15) (am 16) (am 17) )
  refine z_calli (w0 := [(am 1, .inl (tm 1, 283, .inl (upd (fun _ => 0) 4 2))), (am 18, .inr (11, [.int 0, .ref (am 0), .int 0, .int 0, .int 0, .int 0, .ref (am 1), .ref (am 19), .ref (am 2), .ref (am 3), .ref (am 20), .int 0, .int 0, .int 0, .int 0, .int 0, .int 0, .long 0, .int 0, .int 0, .int 0, .ref (am 4), .ref (am 5), .int 0, .int 0, .int 0, .int 0, .ref (am 6), .int (-1), .ref (am 7), .int 0, .int 0, .ref (am 8), .int (-1), .ref (am 9), .ref (am 10), .int 0, .int 0, .ref (am 11), .int 0, .int 0, .int 0, .ref (am 12), .int 0, .ref (am 13), .int 0, .int 0, .int 0, .int 0, .int 0, .ref (am 14), .ref (am 15), .ref (am 16), .ref (am 17)]))]) (wr := []) (va_runV (As := []) (rest := [.int (-1)]) ⟨hx, hb, hml, hown, hts⟩ (hc9 _) (cwV 0 hts gL_law_X12_meant rfl rfl rfl (by decide +kernel) ⟨Nat.le_of_ble_eq_true rfl, Nat.le_of_ble_eq_true rfl⟩) (z_preV hP hD hK hS hA hE hO [0, 1] [67] rfl (by decide +kernel) rfl 1 11 rfl rfl rfl) rfl rfl hl.1 rfl (lv_room (Nat.le_of_ble_eq_true rfl)) dL_law_864 ⟨Nat.le_of_ble_eq_true rfl, Nat.le_of_ble_eq_true rfl⟩) hP hD hK hS hA [0, 1] [] rfl rfl (by decide +kernel) (by decide +kernel) (fun r9 u9 H locs hw hP hD hK hS => ?_)
  obtain ⟨er9, rfl⟩ := hw
  have hP : va_P D vwCl [] H := hP
  have hD : va_D A [] := hD
  have hK : va_K D vwCl ((gFt t ++ gMt tm) ++ [(to, .long)]) s := hK
  refine W.cs (cells' := 212) (slots' := 5680) rfl rfl ?_
  obtain rfl := er9
  refine W.eq (g2 := F0 m 867 ls (.int (-1) :: [.int (-1)])) rfl ?_
  refine lv_icmp_eq (tgt := 1398) hx hb dL_law_867 (by decide) (fun _ => ?_) (fun h9 => absurd (by decide) h9)
  exact law_end G0 hS (by decide) (by decide) (lv_sub hl [0, 4] rfl)

set_option maxHeartbeats 8000000 in
set_option maxRecDepth 100000 in
theorem lc_19 {p : Program} {l : Launch} {e : Env} {s : State} {m : MethodId} {below : List Frame} {meth : Method} {c : Code} {D : va_G} {ad : Nat → Nat} {A : Nat → Prop} {b : Nat} {xs : Nat → Int32} (G : z_G p s m meth c ad A b xs) {a am : Nat → Nat} {t tm : Nat → ClassId} {qo : Nat} {to : ClassId} {H : Heap} {locs : List Loc} {ls : Array Slot} (hP : va_P D vwCl ((gF ad a t ++ gM ad am tm) ++ [(qo, .inl (to, 1, .inr (.inl (fun _ => 0))))]) H) (hD : va_D A ((gF ad a t ++ gM ad am tm) ++ [(qo, .inl (to, 1, .inr (.inl (fun _ => 0))))])) (hK : va_K D vwCl ((gFt t ++ gMt tm) ++ [(to, .long)]) s) (hS : va_S A s.heap H locs) (hl : lv_has ls 7 [(4, .int 0), (3, .ref qo), (2, .ref (am 18)), (1, .ref (a 0)), (0, .ref b)]) : W p l e room_1 s m #[Value.ref b] below meth c H locs 212 5680 (lw_Z below #[Value.ref b] s) (F0 m 872 ls []) := by
  have G0 := G
  obtain ⟨hx, hb, hr, hml, hown, hts, hX, hbl, hbA, hA, hAl, hlocks, hE, hO⟩ := G
  have hP := hP.sub (ws' := [(a 0, .inr (10, [.ref (a 4), .ref (a 5), .ref (a 6), .ref (a 7), .ref (a 8), .ref (a 9), .ref (a 10), .ref (a 11), .ref (a 12), .int 0, .ref (a 13), .ref (a 102), .ref (a 14), .ref (a 15), .int (-1), .int (-1)])), (am 18, .inr (11, [.int 0, .ref (am 0), .int 0, .int 0, .int 0, .int 0, .ref (am 1), .ref (am 19), .ref (am 2), .ref (am 3), .ref (am 20), .int 0, .int 0, .int 0, .int 0, .int 0, .int 0, .long 0, .int 0, .int 0, .int 0, .ref (am 4), .ref (am 5), .int 0, .int 0, .int 0, .int 0, .ref (am 6), .int (-1), .ref (am 7), .int 0, .int 0, .ref (am 8), .int (-1), .ref (am 9), .ref (am 10), .int 0, .int 0, .ref (am 11), .int 0, .int 0, .int 0, .ref (am 12), .int 0, .ref (am 13), .int 0, .int 0, .int 0, .int 0, .int 0, .ref (am 14), .ref (am 15), .ref (am 16), .ref (am 17)]))]) [0, 120] rfl
  have hD := hD.sub (ws' := [(a 0, .inr (10, [.ref (a 4), .ref (a 5), .ref (a 6), .ref (a 7), .ref (a 8), .ref (a 9), .ref (a 10), .ref (a 11), .ref (a 12), .int 0, .ref (a 13), .ref (a 102), .ref (a 14), .ref (a 15), .int (-1), .int (-1)])), (am 18, .inr (11, [.int 0, .ref (am 0), .int 0, .int 0, .int 0, .int 0, .ref (am 1), .ref (am 19), .ref (am 2), .ref (am 3), .ref (am 20), .int 0, .int 0, .int 0, .int 0, .int 0, .int 0, .long 0, .int 0, .int 0, .int 0, .ref (am 4), .ref (am 5), .int 0, .int 0, .int 0, .int 0, .ref (am 6), .int (-1), .ref (am 7), .int 0, .int 0, .ref (am 8), .int (-1), .ref (am 9), .ref (am 10), .int 0, .int 0, .ref (am 11), .int 0, .int 0, .int 0, .ref (am 12), .int 0, .ref (am 13), .int 0, .int 0, .int 0, .int 0, .int 0, .ref (am 14), .ref (am 15), .ref (am 16), .ref (am 17)]))]) [0, 120] (by decide) rfl
  refine lv_aload_n hx hb dL_law_872 rfl (lv_at hl 3 rfl) ?_
  have hc9 := (k_X11_surely l D ad a )
  refine z_calli (w0 := [(a 0, .inr (10, [.ref (a 4), .ref (a 5), .ref (a 6), .ref (a 7), .ref (a 8), .ref (a 9), .ref (a 10), .ref (a 11), .ref (a 12), .int 0, .ref (a 13), .ref (a 102), .ref (a 14), .ref (a 15), .int (-1), .int (-1)]))]) (wr := [(am 18, .inr (11, [.int 0, .ref (am 0), .int 0, .int 0, .int 0, .int 0, .ref (am 1), .ref (am 19), .ref (am 2), .ref (am 3), .ref (am 20), .int 0, .int 0, .int 0, .int 0, .int 0, .int 0, .long 0, .int 0, .int 0, .int 0, .ref (am 4), .ref (am 5), .int 0, .int 0, .int 0, .int 0, .ref (am 6), .int (-1), .ref (am 7), .int 0, .int 0, .ref (am 8), .int (-1), .ref (am 9), .ref (am 10), .int 0, .int 0, .ref (am 11), .int 0, .int 0, .int 0, .ref (am 12), .int 0, .ref (am 13), .int 0, .int 0, .int 0, .int 0, .int 0, .ref (am 14), .ref (am 15), .ref (am 16), .ref (am 17)]))]) (va_runV (As := []) (rest := []) ⟨hx, hb, hml, hown, hts⟩ (hc9 _) (cwV 0 hts gL_law_X11_surely rfl rfl rfl (by decide +kernel) ⟨Nat.le_of_ble_eq_true rfl, Nat.le_of_ble_eq_true rfl⟩) (z_preV hP hD hK hS hA hE hO [0] [] rfl (by decide +kernel) rfl 0 10 rfl rfl rfl) rfl rfl hl.1 rfl (lv_room (Nat.le_of_ble_eq_true rfl)) dL_law_873 ⟨Nat.le_of_ble_eq_true rfl, Nat.le_of_ble_eq_true rfl⟩) hP hD hK hS hA [0] [1] rfl rfl (by decide +kernel) (by decide +kernel) (fun r9 u9 H locs hw hP hD hK hS => ?_)
  obtain ⟨er9, rfl⟩ := hw
  have hP : va_P D vwCl [(am 18, .inr (11, [.int 0, .ref (am 0), .int 0, .int 0, .int 0, .int 0, .ref (am 1), .ref (am 19), .ref (am 2), .ref (am 3), .ref (am 20), .int 0, .int 0, .int 0, .int 0, .int 0, .int 0, .long 0, .int 0, .int 0, .int 0, .ref (am 4), .ref (am 5), .int 0, .int 0, .int 0, .int 0, .ref (am 6), .int (-1), .ref (am 7), .int 0, .int 0, .ref (am 8), .int (-1), .ref (am 9), .ref (am 10), .int 0, .int 0, .ref (am 11), .int 0, .int 0, .int 0, .ref (am 12), .int 0, .ref (am 13), .int 0, .int 0, .int 0, .int 0, .int 0, .ref (am 14), .ref (am 15), .ref (am 16), .ref (am 17)]))] H := hP
  have hD : va_D A [(am 18, .inr (11, [.int 0, .ref (am 0), .int 0, .int 0, .int 0, .int 0, .ref (am 1), .ref (am 19), .ref (am 2), .ref (am 3), .ref (am 20), .int 0, .int 0, .int 0, .int 0, .int 0, .int 0, .long 0, .int 0, .int 0, .int 0, .ref (am 4), .ref (am 5), .int 0, .int 0, .int 0, .int 0, .ref (am 6), .int (-1), .ref (am 7), .int 0, .int 0, .ref (am 8), .int (-1), .ref (am 9), .ref (am 10), .int 0, .int 0, .ref (am 11), .int 0, .int 0, .int 0, .ref (am 12), .int 0, .ref (am 13), .int 0, .int 0, .int 0, .int 0, .int 0, .ref (am 14), .ref (am 15), .ref (am 16), .ref (am 17)]))] := hD
  have hK : va_K D vwCl ((gFt t ++ gMt tm) ++ [(to, .long)]) s := hK
  refine W.cs (cells' := 212) (slots' := 5680) rfl rfl ?_
  obtain rfl := er9
  refine W.eq (g2 := F0 m 876 ls (.int (-1) :: [])) rfl ?_
  refine lv_aload_n hx hb dL_law_876 rfl (lv_at hl 2 rfl) ?_
  have hc9 := (k_X12_surely l D ad am (am 0) 0 0 0 0 (am 1) (am 19) (am 2) (am 3) (am 20) 0 0 0 0 0 0 0 0 0 0 (am 4) (am 5) 0 0 0 (am 6) (-1) (am 7) 0 0 (am 8) (-1) (am 9) (am 10) 0 0 (am 11) 0 0 0 (am 12) 0 (am 13) 0 0 0 0 0 (am 14) (am 15) (am 16) (am 17) )
  refine z_calli (w0 := [(am 18, .inr (11, [.int 0, .ref (am 0), .int 0, .int 0, .int 0, .int 0, .ref (am 1), .ref (am 19), .ref (am 2), .ref (am 3), .ref (am 20), .int 0, .int 0, .int 0, .int 0, .int 0, .int 0, .long 0, .int 0, .int 0, .int 0, .ref (am 4), .ref (am 5), .int 0, .int 0, .int 0, .int 0, .ref (am 6), .int (-1), .ref (am 7), .int 0, .int 0, .ref (am 8), .int (-1), .ref (am 9), .ref (am 10), .int 0, .int 0, .ref (am 11), .int 0, .int 0, .int 0, .ref (am 12), .int 0, .ref (am 13), .int 0, .int 0, .int 0, .int 0, .int 0, .ref (am 14), .ref (am 15), .ref (am 16), .ref (am 17)]))]) (wr := []) (va_runV (As := []) (rest := [.int (-1)]) ⟨hx, hb, hml, hown, hts⟩ (hc9 _) (cwV 0 hts gL_law_X12_surely rfl rfl rfl (by decide +kernel) ⟨Nat.le_of_ble_eq_true rfl, Nat.le_of_ble_eq_true rfl⟩) (z_preV hP hD hK hS hA hE hO [0] [] rfl (by decide +kernel) rfl 0 11 rfl rfl rfl) rfl rfl hl.1 rfl (lv_room (Nat.le_of_ble_eq_true rfl)) dL_law_877 ⟨Nat.le_of_ble_eq_true rfl, Nat.le_of_ble_eq_true rfl⟩) hP hD hK hS hA [0] [] rfl rfl (by decide +kernel) (by decide +kernel) (fun r9 u9 H locs hw hP hD hK hS => ?_)
  obtain ⟨er9, rfl⟩ := hw
  have hP : va_P D vwCl [] H := hP
  have hD : va_D A [] := hD
  have hK : va_K D vwCl ((gFt t ++ gMt tm) ++ [(to, .long)]) s := hK
  refine W.cs (cells' := 212) (slots' := 5680) rfl rfl ?_
  obtain rfl := er9
  refine W.eq (g2 := F0 m 880 ls (.int (-1) :: [.int (-1)])) rfl ?_
  refine lv_icmp_eq (tgt := 1398) hx hb dL_law_880 (by decide) (fun _ => ?_) (fun h9 => absurd (by decide) h9)
  exact law_end G0 hS (by decide) (by decide) (lv_sub hl [0, 4] rfl)

set_option maxHeartbeats 8000000 in
set_option maxRecDepth 100000 in
theorem lc_20 {p : Program} {l : Launch} {e : Env} {s : State} {m : MethodId} {below : List Frame} {meth : Method} {c : Code} {D : va_G} {ad : Nat → Nat} {A : Nat → Prop} {b : Nat} {xs : Nat → Int32} (G : z_G p s m meth c ad A b xs) {a am : Nat → Nat} {t tm : Nat → ClassId} {qo : Nat} {to : ClassId} {H : Heap} {locs : List Loc} {ls : Array Slot} (hP : va_P D vwCl ((gF ad a t ++ gM ad am tm) ++ [(qo, .inl (to, 1, .inr (.inl (fun _ => 0))))]) H) (hD : va_D A ((gF ad a t ++ gM ad am tm) ++ [(qo, .inl (to, 1, .inr (.inl (fun _ => 0))))])) (hK : va_K D vwCl ((gFt t ++ gMt tm) ++ [(to, .long)]) s) (hS : va_S A s.heap H locs) (hl : lv_has ls 7 [(4, .int 0), (3, .ref qo), (2, .ref (am 18)), (1, .ref (a 0)), (0, .ref b)]) : W p l e room_1 s m #[Value.ref b] below meth c H locs 212 5680 (lw_Z below #[Value.ref b] s) (F0 m 885 ls []) := by
  have G0 := G
  obtain ⟨hx, hb, hr, hml, hown, hts, hX, hbl, hbA, hA, hAl, hlocks, hE, hO⟩ := G
  have hP := hP.sub (ws' := [(a 0, .inr (10, [.ref (a 4), .ref (a 5), .ref (a 6), .ref (a 7), .ref (a 8), .ref (a 9), .ref (a 10), .ref (a 11), .ref (a 12), .int 0, .ref (a 13), .ref (a 102), .ref (a 14), .ref (a 15), .int (-1), .int (-1)])), (am 18, .inr (11, [.int 0, .ref (am 0), .int 0, .int 0, .int 0, .int 0, .ref (am 1), .ref (am 19), .ref (am 2), .ref (am 3), .ref (am 20), .int 0, .int 0, .int 0, .int 0, .int 0, .int 0, .long 0, .int 0, .int 0, .int 0, .ref (am 4), .ref (am 5), .int 0, .int 0, .int 0, .int 0, .ref (am 6), .int (-1), .ref (am 7), .int 0, .int 0, .ref (am 8), .int (-1), .ref (am 9), .ref (am 10), .int 0, .int 0, .ref (am 11), .int 0, .int 0, .int 0, .ref (am 12), .int 0, .ref (am 13), .int 0, .int 0, .int 0, .int 0, .int 0, .ref (am 14), .ref (am 15), .ref (am 16), .ref (am 17)]))]) [0, 120] rfl
  have hD := hD.sub (ws' := [(a 0, .inr (10, [.ref (a 4), .ref (a 5), .ref (a 6), .ref (a 7), .ref (a 8), .ref (a 9), .ref (a 10), .ref (a 11), .ref (a 12), .int 0, .ref (a 13), .ref (a 102), .ref (a 14), .ref (a 15), .int (-1), .int (-1)])), (am 18, .inr (11, [.int 0, .ref (am 0), .int 0, .int 0, .int 0, .int 0, .ref (am 1), .ref (am 19), .ref (am 2), .ref (am 3), .ref (am 20), .int 0, .int 0, .int 0, .int 0, .int 0, .int 0, .long 0, .int 0, .int 0, .int 0, .ref (am 4), .ref (am 5), .int 0, .int 0, .int 0, .int 0, .ref (am 6), .int (-1), .ref (am 7), .int 0, .int 0, .ref (am 8), .int (-1), .ref (am 9), .ref (am 10), .int 0, .int 0, .ref (am 11), .int 0, .int 0, .int 0, .ref (am 12), .int 0, .ref (am 13), .int 0, .int 0, .int 0, .int 0, .int 0, .ref (am 14), .ref (am 15), .ref (am 16), .ref (am 17)]))]) [0, 120] (by decide) rfl
  refine lv_aload_n hx hb dL_law_885 rfl (lv_at hl 3 rfl) ?_
  have hc9 := (k_X11_ask l D ad a )
  refine z_calli (w0 := [(a 0, .inr (10, [.ref (a 4), .ref (a 5), .ref (a 6), .ref (a 7), .ref (a 8), .ref (a 9), .ref (a 10), .ref (a 11), .ref (a 12), .int 0, .ref (a 13), .ref (a 102), .ref (a 14), .ref (a 15), .int (-1), .int (-1)]))]) (wr := [(am 18, .inr (11, [.int 0, .ref (am 0), .int 0, .int 0, .int 0, .int 0, .ref (am 1), .ref (am 19), .ref (am 2), .ref (am 3), .ref (am 20), .int 0, .int 0, .int 0, .int 0, .int 0, .int 0, .long 0, .int 0, .int 0, .int 0, .ref (am 4), .ref (am 5), .int 0, .int 0, .int 0, .int 0, .ref (am 6), .int (-1), .ref (am 7), .int 0, .int 0, .ref (am 8), .int (-1), .ref (am 9), .ref (am 10), .int 0, .int 0, .ref (am 11), .int 0, .int 0, .int 0, .ref (am 12), .int 0, .ref (am 13), .int 0, .int 0, .int 0, .int 0, .int 0, .ref (am 14), .ref (am 15), .ref (am 16), .ref (am 17)]))]) (va_runV (As := []) (rest := []) ⟨hx, hb, hml, hown, hts⟩ (hc9 _) (cwV 0 hts gL_law_X11_ask rfl rfl rfl (by decide +kernel) ⟨Nat.le_of_ble_eq_true rfl, Nat.le_of_ble_eq_true rfl⟩) (z_preV hP hD hK hS hA hE hO [0] [] rfl (by decide +kernel) rfl 0 10 rfl rfl rfl) rfl rfl hl.1 rfl (lv_room (Nat.le_of_ble_eq_true rfl)) dL_law_886 ⟨Nat.le_of_ble_eq_true rfl, Nat.le_of_ble_eq_true rfl⟩) hP hD hK hS hA [0] [1] rfl rfl (by decide +kernel) (by decide +kernel) (fun r9 u9 H locs hw hP hD hK hS => ?_)
  obtain ⟨er9, rfl⟩ := hw
  have hP : va_P D vwCl [(am 18, .inr (11, [.int 0, .ref (am 0), .int 0, .int 0, .int 0, .int 0, .ref (am 1), .ref (am 19), .ref (am 2), .ref (am 3), .ref (am 20), .int 0, .int 0, .int 0, .int 0, .int 0, .int 0, .long 0, .int 0, .int 0, .int 0, .ref (am 4), .ref (am 5), .int 0, .int 0, .int 0, .int 0, .ref (am 6), .int (-1), .ref (am 7), .int 0, .int 0, .ref (am 8), .int (-1), .ref (am 9), .ref (am 10), .int 0, .int 0, .ref (am 11), .int 0, .int 0, .int 0, .ref (am 12), .int 0, .ref (am 13), .int 0, .int 0, .int 0, .int 0, .int 0, .ref (am 14), .ref (am 15), .ref (am 16), .ref (am 17)]))] H := hP
  have hD : va_D A [(am 18, .inr (11, [.int 0, .ref (am 0), .int 0, .int 0, .int 0, .int 0, .ref (am 1), .ref (am 19), .ref (am 2), .ref (am 3), .ref (am 20), .int 0, .int 0, .int 0, .int 0, .int 0, .int 0, .long 0, .int 0, .int 0, .int 0, .ref (am 4), .ref (am 5), .int 0, .int 0, .int 0, .int 0, .ref (am 6), .int (-1), .ref (am 7), .int 0, .int 0, .ref (am 8), .int (-1), .ref (am 9), .ref (am 10), .int 0, .int 0, .ref (am 11), .int 0, .int 0, .int 0, .ref (am 12), .int 0, .ref (am 13), .int 0, .int 0, .int 0, .int 0, .int 0, .ref (am 14), .ref (am 15), .ref (am 16), .ref (am 17)]))] := hD
  have hK : va_K D vwCl ((gFt t ++ gMt tm) ++ [(to, .long)]) s := hK
  refine W.cs (cells' := 212) (slots' := 5680) rfl rfl ?_
  obtain rfl := er9
  refine W.eq (g2 := F0 m 889 ls (.int (-1) :: [])) rfl ?_
  refine lv_aload_n hx hb dL_law_889 rfl (lv_at hl 2 rfl) ?_
  have hc9 := (k_X12_ask l D ad am (am 0) 0 0 0 0 (am 1) (am 19) (am 2) (am 3) (am 20) 0 0 0 0 0 0 0 0 0 0 (am 4) (am 5) 0 0 0 (am 6) (-1) (am 7) 0 0 (am 8) (-1) (am 9) (am 10) 0 0 (am 11) 0 0 0 (am 12) 0 (am 13) 0 0 0 0 0 (am 14) (am 15) (am 16) (am 17) )
  refine z_calli (w0 := [(am 18, .inr (11, [.int 0, .ref (am 0), .int 0, .int 0, .int 0, .int 0, .ref (am 1), .ref (am 19), .ref (am 2), .ref (am 3), .ref (am 20), .int 0, .int 0, .int 0, .int 0, .int 0, .int 0, .long 0, .int 0, .int 0, .int 0, .ref (am 4), .ref (am 5), .int 0, .int 0, .int 0, .int 0, .ref (am 6), .int (-1), .ref (am 7), .int 0, .int 0, .ref (am 8), .int (-1), .ref (am 9), .ref (am 10), .int 0, .int 0, .ref (am 11), .int 0, .int 0, .int 0, .ref (am 12), .int 0, .ref (am 13), .int 0, .int 0, .int 0, .int 0, .int 0, .ref (am 14), .ref (am 15), .ref (am 16), .ref (am 17)]))]) (wr := []) (va_runV (As := []) (rest := [.int (-1)]) ⟨hx, hb, hml, hown, hts⟩ (hc9 _) (cwV 0 hts gL_law_X12_ask rfl rfl rfl (by decide +kernel) ⟨Nat.le_of_ble_eq_true rfl, Nat.le_of_ble_eq_true rfl⟩) (z_preV hP hD hK hS hA hE hO [0] [] rfl (by decide +kernel) rfl 0 11 rfl rfl rfl) rfl rfl hl.1 rfl (lv_room (Nat.le_of_ble_eq_true rfl)) dL_law_890 ⟨Nat.le_of_ble_eq_true rfl, Nat.le_of_ble_eq_true rfl⟩) hP hD hK hS hA [0] [] rfl rfl (by decide +kernel) (by decide +kernel) (fun r9 u9 H locs hw hP hD hK hS => ?_)
  obtain ⟨er9, rfl⟩ := hw
  have hP : va_P D vwCl [] H := hP
  have hD : va_D A [] := hD
  have hK : va_K D vwCl ((gFt t ++ gMt tm) ++ [(to, .long)]) s := hK
  refine W.cs (cells' := 212) (slots' := 5680) rfl rfl ?_
  obtain rfl := er9
  refine W.eq (g2 := F0 m 893 ls (.int (-1) :: [.int (-1)])) rfl ?_
  refine lv_icmp_eq (tgt := 1398) hx hb dL_law_893 (by decide) (fun _ => ?_) (fun h9 => absurd (by decide) h9)
  exact law_end G0 hS (by decide) (by decide) (lv_sub hl [0, 4] rfl)

set_option maxHeartbeats 8000000 in
set_option maxRecDepth 100000 in
theorem lc_21 {p : Program} {l : Launch} {e : Env} {s : State} {m : MethodId} {below : List Frame} {meth : Method} {c : Code} {D : va_G} {ad : Nat → Nat} {A : Nat → Prop} {b : Nat} {xs : Nat → Int32} (G : z_G p s m meth c ad A b xs) {a am : Nat → Nat} {t tm : Nat → ClassId} {qo : Nat} {to : ClassId} {H : Heap} {locs : List Loc} {ls : Array Slot} (hP : va_P D vwCl ((gF ad a t ++ gM ad am tm) ++ [(qo, .inl (to, 1, .inr (.inl (fun _ => 0))))]) H) (hD : va_D A ((gF ad a t ++ gM ad am tm) ++ [(qo, .inl (to, 1, .inr (.inl (fun _ => 0))))])) (hK : va_K D vwCl ((gFt t ++ gMt tm) ++ [(to, .long)]) s) (hS : va_S A s.heap H locs) (hl : lv_has ls 7 [(4, .int 0), (3, .ref qo), (2, .ref (am 18)), (1, .ref (a 0)), (0, .ref b)]) : W p l e room_1 s m #[Value.ref b] below meth c H locs 212 5680 (lw_Z below #[Value.ref b] s) (F0 m 898 ls []) := by
  have G0 := G
  obtain ⟨hx, hb, hr, hml, hown, hts, hX, hbl, hbA, hA, hAl, hlocks, hE, hO⟩ := G
  have hP := hP.sub (ws' := [(a 0, .inr (10, [.ref (a 4), .ref (a 5), .ref (a 6), .ref (a 7), .ref (a 8), .ref (a 9), .ref (a 10), .ref (a 11), .ref (a 12), .int 0, .ref (a 13), .ref (a 102), .ref (a 14), .ref (a 15), .int (-1), .int (-1)])), (a 4, .inr (6, [.ref (a 26), .int 0])), (am 18, .inr (11, [.int 0, .ref (am 0), .int 0, .int 0, .int 0, .int 0, .ref (am 1), .ref (am 19), .ref (am 2), .ref (am 3), .ref (am 20), .int 0, .int 0, .int 0, .int 0, .int 0, .int 0, .long 0, .int 0, .int 0, .int 0, .ref (am 4), .ref (am 5), .int 0, .int 0, .int 0, .int 0, .ref (am 6), .int (-1), .ref (am 7), .int 0, .int 0, .ref (am 8), .int (-1), .ref (am 9), .ref (am 10), .int 0, .int 0, .ref (am 11), .int 0, .int 0, .int 0, .ref (am 12), .int 0, .ref (am 13), .int 0, .int 0, .int 0, .int 0, .int 0, .ref (am 14), .ref (am 15), .ref (am 16), .ref (am 17)]))]) [0, 4, 120] rfl
  have hD := hD.sub (ws' := [(a 0, .inr (10, [.ref (a 4), .ref (a 5), .ref (a 6), .ref (a 7), .ref (a 8), .ref (a 9), .ref (a 10), .ref (a 11), .ref (a 12), .int 0, .ref (a 13), .ref (a 102), .ref (a 14), .ref (a 15), .int (-1), .int (-1)])), (a 4, .inr (6, [.ref (a 26), .int 0])), (am 18, .inr (11, [.int 0, .ref (am 0), .int 0, .int 0, .int 0, .int 0, .ref (am 1), .ref (am 19), .ref (am 2), .ref (am 3), .ref (am 20), .int 0, .int 0, .int 0, .int 0, .int 0, .int 0, .long 0, .int 0, .int 0, .int 0, .ref (am 4), .ref (am 5), .int 0, .int 0, .int 0, .int 0, .ref (am 6), .int (-1), .ref (am 7), .int 0, .int 0, .ref (am 8), .int (-1), .ref (am 9), .ref (am 10), .int 0, .int 0, .ref (am 11), .int 0, .int 0, .int 0, .ref (am 12), .int 0, .ref (am 13), .int 0, .int 0, .int 0, .int 0, .int 0, .ref (am 14), .ref (am 15), .ref (am 16), .ref (am 17)]))]) [0, 4, 120] (by decide) rfl
  refine lv_aload_n hx hb dL_law_898 rfl (lv_at hl 3 rfl) ?_
  have hc9 := (k_X11_far l D ad a )
  refine z_calli (w0 := [(a 0, .inr (10, [.ref (a 4), .ref (a 5), .ref (a 6), .ref (a 7), .ref (a 8), .ref (a 9), .ref (a 10), .ref (a 11), .ref (a 12), .int 0, .ref (a 13), .ref (a 102), .ref (a 14), .ref (a 15), .int (-1), .int (-1)])), (a 4, .inr (6, [.ref (a 26), .int 0]))]) (wr := [(am 18, .inr (11, [.int 0, .ref (am 0), .int 0, .int 0, .int 0, .int 0, .ref (am 1), .ref (am 19), .ref (am 2), .ref (am 3), .ref (am 20), .int 0, .int 0, .int 0, .int 0, .int 0, .int 0, .long 0, .int 0, .int 0, .int 0, .ref (am 4), .ref (am 5), .int 0, .int 0, .int 0, .int 0, .ref (am 6), .int (-1), .ref (am 7), .int 0, .int 0, .ref (am 8), .int (-1), .ref (am 9), .ref (am 10), .int 0, .int 0, .ref (am 11), .int 0, .int 0, .int 0, .ref (am 12), .int 0, .ref (am 13), .int 0, .int 0, .int 0, .int 0, .int 0, .ref (am 14), .ref (am 15), .ref (am 16), .ref (am 17)]))]) (va_runV (As := []) (rest := []) ⟨hx, hb, hml, hown, hts⟩ (hc9 _) (cwV 0 hts gL_law_X11_far rfl rfl rfl (by decide +kernel) ⟨Nat.le_of_ble_eq_true rfl, Nat.le_of_ble_eq_true rfl⟩) (z_preV hP hD hK hS hA hE hO [0, 1] [] rfl (by decide +kernel) rfl 0 10 rfl rfl rfl) rfl rfl hl.1 rfl (lv_room (Nat.le_of_ble_eq_true rfl)) dL_law_899 ⟨Nat.le_of_ble_eq_true rfl, Nat.le_of_ble_eq_true rfl⟩) hP hD hK hS hA [0, 1] [2] rfl rfl (by decide +kernel) (by decide +kernel) (fun r9 u9 H locs hw hP hD hK hS => ?_)
  obtain ⟨er9, rfl⟩ := hw
  have hP : va_P D vwCl [(am 18, .inr (11, [.int 0, .ref (am 0), .int 0, .int 0, .int 0, .int 0, .ref (am 1), .ref (am 19), .ref (am 2), .ref (am 3), .ref (am 20), .int 0, .int 0, .int 0, .int 0, .int 0, .int 0, .long 0, .int 0, .int 0, .int 0, .ref (am 4), .ref (am 5), .int 0, .int 0, .int 0, .int 0, .ref (am 6), .int (-1), .ref (am 7), .int 0, .int 0, .ref (am 8), .int (-1), .ref (am 9), .ref (am 10), .int 0, .int 0, .ref (am 11), .int 0, .int 0, .int 0, .ref (am 12), .int 0, .ref (am 13), .int 0, .int 0, .int 0, .int 0, .int 0, .ref (am 14), .ref (am 15), .ref (am 16), .ref (am 17)]))] H := hP
  have hD : va_D A [(am 18, .inr (11, [.int 0, .ref (am 0), .int 0, .int 0, .int 0, .int 0, .ref (am 1), .ref (am 19), .ref (am 2), .ref (am 3), .ref (am 20), .int 0, .int 0, .int 0, .int 0, .int 0, .int 0, .long 0, .int 0, .int 0, .int 0, .ref (am 4), .ref (am 5), .int 0, .int 0, .int 0, .int 0, .ref (am 6), .int (-1), .ref (am 7), .int 0, .int 0, .ref (am 8), .int (-1), .ref (am 9), .ref (am 10), .int 0, .int 0, .ref (am 11), .int 0, .int 0, .int 0, .ref (am 12), .int 0, .ref (am 13), .int 0, .int 0, .int 0, .int 0, .int 0, .ref (am 14), .ref (am 15), .ref (am 16), .ref (am 17)]))] := hD
  have hK : va_K D vwCl ((gFt t ++ gMt tm) ++ [(to, .long)]) s := hK
  refine W.cs (cells' := 212) (slots' := 5680) rfl rfl ?_
  obtain rfl := er9
  refine W.eq (g2 := F0 m 902 ls (.int (-1) :: [])) rfl ?_
  refine lv_aload_n hx hb dL_law_902 rfl (lv_at hl 2 rfl) ?_
  have hc9 := (k_X12_far l D ad am (am 0) (am 1) (am 19) (am 2) (am 3) (am 20) 0 0 0 0 0 0 0 0 0 0 (am 4) (am 5) 0 0 0 0 (am 6) (-1) (am 7) 0 0 (am 8) (-1) (am 9) (am 10) 0 0 (am 11) 0 0 0 (am 12) 0 (am 13) 0 0 0 0 0 (am 14) (am 15) (am 16) (am 17) )
  refine z_calli (w0 := [(am 18, .inr (11, [.int 0, .ref (am 0), .int 0, .int 0, .int 0, .int 0, .ref (am 1), .ref (am 19), .ref (am 2), .ref (am 3), .ref (am 20), .int 0, .int 0, .int 0, .int 0, .int 0, .int 0, .long 0, .int 0, .int 0, .int 0, .ref (am 4), .ref (am 5), .int 0, .int 0, .int 0, .int 0, .ref (am 6), .int (-1), .ref (am 7), .int 0, .int 0, .ref (am 8), .int (-1), .ref (am 9), .ref (am 10), .int 0, .int 0, .ref (am 11), .int 0, .int 0, .int 0, .ref (am 12), .int 0, .ref (am 13), .int 0, .int 0, .int 0, .int 0, .int 0, .ref (am 14), .ref (am 15), .ref (am 16), .ref (am 17)]))]) (wr := []) (va_runV (As := []) (rest := [.int (-1)]) ⟨hx, hb, hml, hown, hts⟩ (hc9 _) (cwV 0 hts gL_law_X12_far rfl rfl rfl (by decide +kernel) ⟨Nat.le_of_ble_eq_true rfl, Nat.le_of_ble_eq_true rfl⟩) (z_preV hP hD hK hS hA hE hO [0] [] rfl (by decide +kernel) rfl 0 11 rfl rfl rfl) rfl rfl hl.1 rfl (lv_room (Nat.le_of_ble_eq_true rfl)) dL_law_903 ⟨Nat.le_of_ble_eq_true rfl, Nat.le_of_ble_eq_true rfl⟩) hP hD hK hS hA [0] [] rfl rfl (by decide +kernel) (by decide +kernel) (fun r9 u9 H locs hw hP hD hK hS => ?_)
  obtain ⟨er9, rfl⟩ := hw
  have hP : va_P D vwCl [] H := hP
  have hD : va_D A [] := hD
  have hK : va_K D vwCl ((gFt t ++ gMt tm) ++ [(to, .long)]) s := hK
  refine W.cs (cells' := 212) (slots' := 5680) rfl rfl ?_
  obtain rfl := er9
  refine W.eq (g2 := F0 m 906 ls (.int (-1) :: [.int (-1)])) rfl ?_
  refine lv_icmp_eq (tgt := 1398) hx hb dL_law_906 (by decide) (fun _ => ?_) (fun h9 => absurd (by decide) h9)
  exact law_end G0 hS (by decide) (by decide) (lv_sub hl [0, 4] rfl)
