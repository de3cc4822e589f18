theorem m_0 : xme 0 = some xe_0 := rfl
theorem f_0_20 : xi 0 20 = some (.arraylength, 0, 0) := rfl
theorem f_0_24 : xi 0 24 = some (.if_icmp .gt 1426, 0, 0) := rfl
theorem f_0_29 : xi 0 29 = some (.iaload, 0, 0) := rfl
theorem f_0_33 : xi 0 33 = some (.tableswitch 1411 0 37 #[167, 190, 213, 288, 301, 324, 377, 390, 423, 476, 509, 522, 555, 598, 621, 644, 657, 691, 704, 748, 782, 826, 870, 914, 937, 960, 983, 1017, 1040, 1073, 1106, 1150, 1163, 1176, 1219, 1262, 1325, 1378], 0, 0) := rfl
theorem f_0_205 : xi 0 205 = some (.iaload, 0, 0) := rfl
theorem f_0_206 : xi 0 206 = some (.invokevirtual 13, 52, 526) := rfl
theorem f_0_214 : xi 0 214 = some (.iaload, 0, 0) := rfl
theorem f_0_215 : xi 0 215 = some (.invokevirtual 17, 118, 1043) := rfl
theorem f_0_218 : xi 0 218 = some (.if_icmp .eq 1226, 0, 0) := rfl
theorem f_0_222 : xi 0 222 = some (.ireturn, 0, 0) := rfl
set_option maxRecDepth 1000000 in
theorem f_0_228 : xi 0 228 = some (.iaload, 0, 0) := rfl
set_option maxRecDepth 1000000 in
theorem f_0_229 : xi 0 229 = some (.invokevirtual 18, 53, 530) := rfl
set_option maxRecDepth 1000000 in
theorem f_0_237 : xi 0 237 = some (.iaload, 0, 0) := rfl
set_option maxRecDepth 1000000 in
theorem f_0_238 : xi 0 238 = some (.invokevirtual 21, 119, 1047) := rfl
set_option maxRecDepth 1000000 in
theorem f_0_241 : xi 0 241 = some (.if_icmp .eq 1203, 0, 0) := rfl
set_option maxRecDepth 1000000 in
theorem f_0_245 : xi 0 245 = some (.ireturn, 0, 0) := rfl
set_option maxRecDepth 1000000 in
theorem f_0_251 : xi 0 251 = some (.iaload, 0, 0) := rfl
set_option maxRecDepth 1000000 in
theorem f_0_256 : xi 0 256 = some (.iaload, 0, 0) := rfl
set_option maxRecDepth 1000000 in
theorem f_0_261 : xi 0 261 = some (.iaload, 0, 0) := rfl
set_option maxRecDepth 1000000 in
theorem f_0_266 : xi 0 266 = some (.iaload, 0, 0) := rfl
set_option maxRecDepth 1000000 in
theorem f_0_271 : xi 0 271 = some (.iaload, 0, 0) := rfl
set_option maxRecDepth 1000000 in
theorem f_0_277 : xi 0 277 = some (.iaload, 0, 0) := rfl
set_option maxRecDepth 1000000 in
theorem f_0_278 : xi 0 278 = some (.invokevirtual 22, 54, 537) := rfl
set_option maxRecDepth 1000000 in
theorem f_0_286 : xi 0 286 = some (.iaload, 0, 0) := rfl
set_option maxRecDepth 1000000 in
theorem f_0_291 : xi 0 291 = some (.iaload, 0, 0) := rfl
set_option maxRecDepth 1000000 in
theorem f_0_296 : xi 0 296 = some (.iaload, 0, 0) := rfl
set_option maxRecDepth 1000000 in
theorem f_0_301 : xi 0 301 = some (.iaload, 0, 0) := rfl
set_option maxRecDepth 1000000 in
theorem f_0_306 : xi 0 306 = some (.iaload, 0, 0) := rfl
set_option maxRecDepth 1000000 in
theorem f_0_312 : xi 0 312 = some (.iaload, 0, 0) := rfl
set_option maxRecDepth 1000000 in
theorem f_0_313 : xi 0 313 = some (.invokevirtual 26, 121, 1051) := rfl
set_option maxRecDepth 1000000 in
theorem f_0_316 : xi 0 316 = some (.if_icmp .eq 1128, 0, 0) := rfl
set_option maxRecDepth 1000000 in
theorem f_0_320 : xi 0 320 = some (.ireturn, 0, 0) := rfl
set_option maxRecDepth 1000000 in
theorem f_0_322 : xi 0 322 = some (.invokevirtual 27, 55, 544) := rfl
set_option maxRecDepth 1000000 in
theorem f_0_326 : xi 0 326 = some (.invokevirtual 31, 132, 1058) := rfl
set_option maxRecDepth 1000000 in
theorem f_0_329 : xi 0 329 = some (.if_icmp .eq 1115, 0, 0) := rfl
set_option maxRecDepth 1000000 in
theorem f_0_333 : xi 0 333 = some (.ireturn, 0, 0) := rfl
set_option maxRecDepth 1000000 in
theorem f_0_339 : xi 0 339 = some (.iaload, 0, 0) := rfl
set_option maxRecDepth 1000000 in
theorem f_0_340 : xi 0 340 = some (.invokevirtual 32, 56, 548) := rfl
set_option maxRecDepth 1000000 in
theorem f_0_348 : xi 0 348 = some (.iaload, 0, 0) := rfl
set_option maxRecDepth 1000000 in
theorem f_0_349 : xi 0 349 = some (.invokevirtual 35, 135, 1059) := rfl
set_option maxRecDepth 1000000 in
theorem f_0_352 : xi 0 352 = some (.if_icmp .eq 1092, 0, 0) := rfl
set_option maxRecDepth 1000000 in
theorem f_0_356 : xi 0 356 = some (.ireturn, 0, 0) := rfl
set_option maxRecDepth 1000000 in
theorem f_0_362 : xi 0 362 = some (.iaload, 0, 0) := rfl
set_option maxRecDepth 1000000 in
theorem f_0_367 : xi 0 367 = some (.iaload, 0, 0) := rfl
set_option maxRecDepth 1000000 in
theorem f_0_372 : xi 0 372 = some (.iaload, 0, 0) := rfl
set_option maxRecDepth 1000000 in
theorem f_0_377 : xi 0 377 = some (.iaload, 0, 0) := rfl
set_option maxRecDepth 1000000 in
theorem f_0_378 : xi 0 378 = some (.invokevirtual 36, 57, 556) := rfl
set_option maxRecDepth 1000000 in
theorem f_0_386 : xi 0 386 = some (.iaload, 0, 0) := rfl
set_option maxRecDepth 1000000 in
theorem f_0_391 : xi 0 391 = some (.iaload, 0, 0) := rfl
set_option maxRecDepth 1000000 in
theorem f_0_396 : xi 0 396 = some (.iaload, 0, 0) := rfl
set_option maxRecDepth 1000000 in
theorem f_0_401 : xi 0 401 = some (.iaload, 0, 0) := rfl
set_option maxRecDepth 1000000 in
theorem f_0_402 : xi 0 402 = some (.invokevirtual 40, 136, 1063) := rfl
set_option maxRecDepth 1000000 in
theorem f_0_405 : xi 0 405 = some (.if_icmp .eq 1039, 0, 0) := rfl
set_option maxRecDepth 1000000 in
theorem f_0_409 : xi 0 409 = some (.ireturn, 0, 0) := rfl
set_option maxRecDepth 1000000 in
theorem f_0_411 : xi 0 411 = some (.invokevirtual 41, 58, 571) := rfl
set_option maxRecDepth 1000000 in
theorem f_0_415 : xi 0 415 = some (.invokevirtual 44, 137, 1070) := rfl
set_option maxRecDepth 1000000 in
theorem f_0_418 : xi 0 418 = some (.if_icmp .eq 1026, 0, 0) := rfl
set_option maxRecDepth 1000000 in
theorem f_0_422 : xi 0 422 = some (.ireturn, 0, 0) := rfl
set_option maxRecDepth 1000000 in
theorem f_0_428 : xi 0 428 = some (.iaload, 0, 0) := rfl
set_option maxRecDepth 1000000 in
theorem f_0_433 : xi 0 433 = some (.iaload, 0, 0) := rfl
set_option maxRecDepth 1000000 in
theorem f_0_434 : xi 0 434 = some (.invokevirtual 45, 59, 575) := rfl
set_option maxRecDepth 1000000 in
theorem f_0_442 : xi 0 442 = some (.iaload, 0, 0) := rfl
set_option maxRecDepth 1000000 in
theorem f_0_447 : xi 0 447 = some (.iaload, 0, 0) := rfl
set_option maxRecDepth 1000000 in
theorem f_0_448 : xi 0 448 = some (.invokevirtual 49, 142, 1074) := rfl
set_option maxRecDepth 1000000 in
theorem f_0_451 : xi 0 451 = some (.if_icmp .eq 993, 0, 0) := rfl
set_option maxRecDepth 1000000 in
theorem f_0_455 : xi 0 455 = some (.ireturn, 0, 0) := rfl
set_option maxRecDepth 1000000 in
theorem f_0_461 : xi 0 461 = some (.iaload, 0, 0) := rfl
set_option maxRecDepth 1000000 in
theorem f_0_466 : xi 0 466 = some (.iaload, 0, 0) := rfl
set_option maxRecDepth 1000000 in
theorem f_0_471 : xi 0 471 = some (.iaload, 0, 0) := rfl
set_option maxRecDepth 1000000 in
theorem f_0_476 : xi 0 476 = some (.iaload, 0, 0) := rfl
set_option maxRecDepth 1000000 in
theorem f_0_477 : xi 0 477 = some (.invokevirtual 50, 60, 597) := rfl
set_option maxRecDepth 1000000 in
theorem f_0_485 : xi 0 485 = some (.iaload, 0, 0) := rfl
set_option maxRecDepth 1000000 in
theorem f_0_490 : xi 0 490 = some (.iaload, 0, 0) := rfl
set_option maxRecDepth 1000000 in
theorem f_0_495 : xi 0 495 = some (.iaload, 0, 0) := rfl
set_option maxRecDepth 1000000 in
theorem f_0_500 : xi 0 500 = some (.iaload, 0, 0) := rfl
set_option maxRecDepth 1000000 in
theorem f_0_501 : xi 0 501 = some (.invokevirtual 53, 143, 1101) := rfl
set_option maxRecDepth 1000000 in
theorem f_0_504 : xi 0 504 = some (.if_icmp .eq 940, 0, 0) := rfl
set_option maxRecDepth 1000000 in
theorem f_0_508 : xi 0 508 = some (.ireturn, 0, 0) := rfl
set_option maxRecDepth 1000000 in
theorem f_0_514 : xi 0 514 = some (.iaload, 0, 0) := rfl
set_option maxRecDepth 1000000 in
theorem f_0_519 : xi 0 519 = some (.iaload, 0, 0) := rfl
set_option maxRecDepth 1000000 in
theorem f_0_520 : xi 0 520 = some (.invokevirtual 54, 61, 605) := rfl
set_option maxRecDepth 1000000 in
theorem f_0_528 : xi 0 528 = some (.iaload, 0, 0) := rfl
set_option maxRecDepth 1000000 in
theorem f_0_533 : xi 0 533 = some (.iaload, 0, 0) := rfl
set_option maxRecDepth 1000000 in
theorem f_0_534 : xi 0 534 = some (.invokevirtual 57, 144, 1105) := rfl
set_option maxRecDepth 1000000 in
theorem f_0_537 : xi 0 537 = some (.if_icmp .eq 907, 0, 0) := rfl
set_option maxRecDepth 1000000 in
theorem f_0_541 : xi 0 541 = some (.ireturn, 0, 0) := rfl
set_option maxRecDepth 1000000 in
theorem f_0_543 : xi 0 543 = some (.invokevirtual 58, 62, 609) := rfl
set_option maxRecDepth 1000000 in
theorem f_0_547 : xi 0 547 = some (.invokevirtual 61, 151, 1109) := rfl
set_option maxRecDepth 1000000 in
theorem f_0_550 : xi 0 550 = some (.if_icmp .eq 894, 0, 0) := rfl
set_option maxRecDepth 1000000 in
theorem f_0_554 : xi 0 554 = some (.ireturn, 0, 0) := rfl
set_option maxRecDepth 1000000 in
theorem f_0_560 : xi 0 560 = some (.iaload, 0, 0) := rfl
set_option maxRecDepth 1000000 in
theorem f_0_565 : xi 0 565 = some (.iaload, 0, 0) := rfl
set_option maxRecDepth 1000000 in
theorem f_0_566 : xi 0 566 = some (.invokevirtual 62, 63, 648) := rfl
set_option maxRecDepth 1000000 in
theorem f_0_574 : xi 0 574 = some (.iaload, 0, 0) := rfl
set_option maxRecDepth 1000000 in
theorem f_0_579 : xi 0 579 = some (.iaload, 0, 0) := rfl
set_option maxRecDepth 1000000 in
theorem f_0_580 : xi 0 580 = some (.invokevirtual 65, 152, 1129) := rfl
set_option maxRecDepth 1000000 in
theorem f_0_583 : xi 0 583 = some (.if_icmp .eq 861, 0, 0) := rfl
set_option maxRecDepth 1000000 in
theorem f_0_587 : xi 0 587 = some (.ireturn, 0, 0) := rfl
set_option maxRecDepth 1000000 in
theorem f_0_593 : xi 0 593 = some (.iaload, 0, 0) := rfl
set_option maxRecDepth 1000000 in
theorem f_0_598 : xi 0 598 = some (.iaload, 0, 0) := rfl
set_option maxRecDepth 1000000 in
theorem f_0_603 : xi 0 603 = some (.iaload, 0, 0) := rfl
set_option maxRecDepth 1000000 in
theorem f_0_604 : xi 0 604 = some (.invokevirtual 66, 64, 652) := rfl
set_option maxRecDepth 1000000 in
theorem f_0_612 : xi 0 612 = some (.iaload, 0, 0) := rfl
set_option maxRecDepth 1000000 in
theorem f_0_617 : xi 0 617 = some (.iaload, 0, 0) := rfl
set_option maxRecDepth 1000000 in
theorem f_0_622 : xi 0 622 = some (.iaload, 0, 0) := rfl
set_option maxRecDepth 1000000 in
theorem f_0_623 : xi 0 623 = some (.invokevirtual 70, 153, 1141) := rfl
set_option maxRecDepth 1000000 in
theorem f_0_626 : xi 0 626 = some (.if_icmp .eq 818, 0, 0) := rfl
set_option maxRecDepth 1000000 in
theorem f_0_630 : xi 0 630 = some (.ireturn, 0, 0) := rfl
set_option maxRecDepth 1000000 in
theorem f_0_636 : xi 0 636 = some (.iaload, 0, 0) := rfl
set_option maxRecDepth 1000000 in
theorem f_0_637 : xi 0 637 = some (.invokevirtual 71, 65, 661) := rfl
set_option maxRecDepth 1000000 in
theorem f_0_645 : xi 0 645 = some (.iaload, 0, 0) := rfl
set_option maxRecDepth 1000000 in
theorem f_0_646 : xi 0 646 = some (.invokevirtual 74, 155, 1146) := rfl
set_option maxRecDepth 1000000 in
theorem f_0_649 : xi 0 649 = some (.if_icmp .eq 795, 0, 0) := rfl
set_option maxRecDepth 1000000 in
theorem f_0_653 : xi 0 653 = some (.ireturn, 0, 0) := rfl
set_option maxRecDepth 1000000 in
theorem f_0_659 : xi 0 659 = some (.iaload, 0, 0) := rfl
set_option maxRecDepth 1000000 in
theorem f_0_660 : xi 0 660 = some (.invokevirtual 75, 66, 671) := rfl
set_option maxRecDepth 1000000 in
theorem f_0_668 : xi 0 668 = some (.iaload, 0, 0) := rfl
set_option maxRecDepth 1000000 in
theorem f_0_669 : xi 0 669 = some (.invokevirtual 78, 156, 1154) := rfl
set_option maxRecDepth 1000000 in
theorem f_0_672 : xi 0 672 = some (.if_icmp .eq 772, 0, 0) := rfl
set_option maxRecDepth 1000000 in
theorem f_0_676 : xi 0 676 = some (.ireturn, 0, 0) := rfl
set_option maxRecDepth 1000000 in
theorem f_0_678 : xi 0 678 = some (.invokevirtual 79, 67, 681) := rfl
set_option maxRecDepth 1000000 in
theorem f_0_682 : xi 0 682 = some (.invokevirtual 82, 157, 1161) := rfl
set_option maxRecDepth 1000000 in
theorem f_0_685 : xi 0 685 = some (.if_icmp .eq 759, 0, 0) := rfl
set_option maxRecDepth 1000000 in
theorem f_0_689 : xi 0 689 = some (.ireturn, 0, 0) := rfl
set_option maxRecDepth 1000000 in
theorem f_0_695 : xi 0 695 = some (.iaload, 0, 0) := rfl
set_option maxRecDepth 1000000 in
theorem f_0_700 : xi 0 700 = some (.iaload, 0, 0) := rfl
set_option maxRecDepth 1000000 in
theorem f_0_701 : xi 0 701 = some (.invokevirtual 83, 68, 685) := rfl
set_option maxRecDepth 1000000 in
theorem f_0_709 : xi 0 709 = some (.iaload, 0, 0) := rfl
set_option maxRecDepth 1000000 in
theorem f_0_714 : xi 0 714 = some (.iaload, 0, 0) := rfl
set_option maxRecDepth 1000000 in
theorem f_0_715 : xi 0 715 = some (.invokevirtual 87, 161, 1165) := rfl
set_option maxRecDepth 1000000 in
theorem f_0_718 : xi 0 718 = some (.lcmp, 0, 0) := rfl
set_option maxRecDepth 1000000 in
theorem f_0_719 : xi 0 719 = some (.ifCond .eq 725, 0, 0) := rfl
set_option maxRecDepth 1000000 in
theorem f_0_723 : xi 0 723 = some (.ireturn, 0, 0) := rfl
set_option maxRecDepth 1000000 in
theorem f_0_725 : xi 0 725 = some (.invokevirtual 88, 69, 710) := rfl
set_option maxRecDepth 1000000 in
theorem f_0_729 : xi 0 729 = some (.invokevirtual 91, 163, 1189) := rfl
set_option maxRecDepth 1000000 in
theorem f_0_732 : xi 0 732 = some (.if_icmp .eq 712, 0, 0) := rfl
set_option maxRecDepth 1000000 in
theorem f_0_736 : xi 0 736 = some (.ireturn, 0, 0) := rfl
set_option maxRecDepth 1000000 in
theorem f_0_742 : xi 0 742 = some (.iaload, 0, 0) := rfl
set_option maxRecDepth 1000000 in
theorem f_0_747 : xi 0 747 = some (.iaload, 0, 0) := rfl
set_option maxRecDepth 1000000 in
theorem f_0_752 : xi 0 752 = some (.iaload, 0, 0) := rfl
set_option maxRecDepth 1000000 in
theorem f_0_753 : xi 0 753 = some (.invokevirtual 92, 70, 718) := rfl
set_option maxRecDepth 1000000 in
theorem f_0_761 : xi 0 761 = some (.iaload, 0, 0) := rfl
set_option maxRecDepth 1000000 in
theorem f_0_766 : xi 0 766 = some (.iaload, 0, 0) := rfl
set_option maxRecDepth 1000000 in
theorem f_0_771 : xi 0 771 = some (.iaload, 0, 0) := rfl
set_option maxRecDepth 1000000 in
theorem f_0_772 : xi 0 772 = some (.invokevirtual 96, 167, 1197) := rfl
set_option maxRecDepth 1000000 in
theorem f_0_775 : xi 0 775 = some (.lcmp, 0, 0) := rfl
set_option maxRecDepth 1000000 in
theorem f_0_776 : xi 0 776 = some (.ifCond .eq 668, 0, 0) := rfl
set_option maxRecDepth 1000000 in
theorem f_0_780 : xi 0 780 = some (.ireturn, 0, 0) := rfl
set_option maxRecDepth 1000000 in
theorem f_0_786 : xi 0 786 = some (.iaload, 0, 0) := rfl
set_option maxRecDepth 1000000 in
theorem f_0_791 : xi 0 791 = some (.iaload, 0, 0) := rfl
set_option maxRecDepth 1000000 in
theorem f_0_792 : xi 0 792 = some (.invokevirtual 97, 71, 740) := rfl
set_option maxRecDepth 1000000 in
theorem f_0_800 : xi 0 800 = some (.iaload, 0, 0) := rfl
set_option maxRecDepth 1000000 in
theorem f_0_805 : xi 0 805 = some (.iaload, 0, 0) := rfl
set_option maxRecDepth 1000000 in
theorem f_0_806 : xi 0 806 = some (.invokevirtual 100, 168, 1217) := rfl
set_option maxRecDepth 1000000 in
theorem f_0_809 : xi 0 809 = some (.lcmp, 0, 0) := rfl
set_option maxRecDepth 1000000 in
theorem f_0_810 : xi 0 810 = some (.ifCond .eq 634, 0, 0) := rfl
set_option maxRecDepth 1000000 in
theorem f_0_814 : xi 0 814 = some (.ireturn, 0, 0) := rfl
set_option maxRecDepth 1000000 in
theorem f_0_820 : xi 0 820 = some (.iaload, 0, 0) := rfl
set_option maxRecDepth 1000000 in
theorem f_0_825 : xi 0 825 = some (.iaload, 0, 0) := rfl
set_option maxRecDepth 1000000 in
theorem f_0_830 : xi 0 830 = some (.iaload, 0, 0) := rfl
set_option maxRecDepth 1000000 in
theorem f_0_831 : xi 0 831 = some (.invokevirtual 101, 72, 744) := rfl
set_option maxRecDepth 1000000 in
theorem f_0_839 : xi 0 839 = some (.iaload, 0, 0) := rfl
set_option maxRecDepth 1000000 in
theorem f_0_844 : xi 0 844 = some (.iaload, 0, 0) := rfl
set_option maxRecDepth 1000000 in
theorem f_0_849 : xi 0 849 = some (.iaload, 0, 0) := rfl
set_option maxRecDepth 1000000 in
theorem f_0_850 : xi 0 850 = some (.invokevirtual 104, 169, 1221) := rfl
set_option maxRecDepth 1000000 in
theorem f_0_853 : xi 0 853 = some (.lcmp, 0, 0) := rfl
set_option maxRecDepth 1000000 in
theorem f_0_854 : xi 0 854 = some (.ifCond .eq 590, 0, 0) := rfl
set_option maxRecDepth 1000000 in
theorem f_0_858 : xi 0 858 = some (.ireturn, 0, 0) := rfl
set_option maxRecDepth 1000000 in
theorem f_0_864 : xi 0 864 = some (.iaload, 0, 0) := rfl
set_option maxRecDepth 1000000 in
theorem f_0_869 : xi 0 869 = some (.iaload, 0, 0) := rfl
set_option maxRecDepth 1000000 in
theorem f_0_874 : xi 0 874 = some (.iaload, 0, 0) := rfl
set_option maxRecDepth 1000000 in
theorem f_0_875 : xi 0 875 = some (.invokevirtual 105, 73, 748) := rfl
set_option maxRecDepth 1000000 in
theorem f_0_883 : xi 0 883 = some (.iaload, 0, 0) := rfl
set_option maxRecDepth 1000000 in
theorem f_0_888 : xi 0 888 = some (.iaload, 0, 0) := rfl
set_option maxRecDepth 1000000 in
theorem f_0_893 : xi 0 893 = some (.iaload, 0, 0) := rfl
set_option maxRecDepth 1000000 in
theorem f_0_894 : xi 0 894 = some (.invokevirtual 108, 171, 1225) := rfl
set_option maxRecDepth 1000000 in
theorem f_0_897 : xi 0 897 = some (.lcmp, 0, 0) := rfl
set_option maxRecDepth 1000000 in
theorem f_0_898 : xi 0 898 = some (.ifCond .eq 546, 0, 0) := rfl
set_option maxRecDepth 1000000 in
theorem f_0_902 : xi 0 902 = some (.ireturn, 0, 0) := rfl
set_option maxRecDepth 1000000 in
theorem f_0_908 : xi 0 908 = some (.iaload, 0, 0) := rfl
set_option maxRecDepth 1000000 in
theorem f_0_913 : xi 0 913 = some (.iaload, 0, 0) := rfl
set_option maxRecDepth 1000000 in
theorem f_0_918 : xi 0 918 = some (.iaload, 0, 0) := rfl
set_option maxRecDepth 1000000 in
theorem f_0_919 : xi 0 919 = some (.invokevirtual 109, 74, 755) := rfl
set_option maxRecDepth 1000000 in
theorem f_0_927 : xi 0 927 = some (.iaload, 0, 0) := rfl
set_option maxRecDepth 1000000 in
theorem f_0_932 : xi 0 932 = some (.iaload, 0, 0) := rfl
set_option maxRecDepth 1000000 in
theorem f_0_937 : xi 0 937 = some (.iaload, 0, 0) := rfl
set_option maxRecDepth 1000000 in
theorem f_0_938 : xi 0 938 = some (.invokevirtual 112, 172, 1232) := rfl
set_option maxRecDepth 1000000 in
theorem f_0_941 : xi 0 941 = some (.lcmp, 0, 0) := rfl
set_option maxRecDepth 1000000 in
theorem f_0_942 : xi 0 942 = some (.ifCond .eq 502, 0, 0) := rfl
set_option maxRecDepth 1000000 in
theorem f_0_946 : xi 0 946 = some (.ireturn, 0, 0) := rfl
set_option maxRecDepth 1000000 in
theorem f_0_952 : xi 0 952 = some (.iaload, 0, 0) := rfl
set_option maxRecDepth 1000000 in
theorem f_0_953 : xi 0 953 = some (.invokevirtual 113, 75, 763) := rfl
set_option maxRecDepth 1000000 in
theorem f_0_961 : xi 0 961 = some (.iaload, 0, 0) := rfl
set_option maxRecDepth 1000000 in
theorem f_0_962 : xi 0 962 = some (.invokevirtual 116, 174, 1236) := rfl
set_option maxRecDepth 1000000 in
theorem f_0_965 : xi 0 965 = some (.if_icmp .eq 479, 0, 0) := rfl
set_option maxRecDepth 1000000 in
theorem f_0_969 : xi 0 969 = some (.ireturn, 0, 0) := rfl
set_option maxRecDepth 1000000 in
theorem f_0_975 : xi 0 975 = some (.iaload, 0, 0) := rfl
set_option maxRecDepth 1000000 in
theorem f_0_976 : xi 0 976 = some (.invokevirtual 117, 76, 779) := rfl
set_option maxRecDepth 1000000 in
theorem f_0_984 : xi 0 984 = some (.iaload, 0, 0) := rfl
set_option maxRecDepth 1000000 in
theorem f_0_985 : xi 0 985 = some (.invokevirtual 120, 175, 1244) := rfl
set_option maxRecDepth 1000000 in
theorem f_0_988 : xi 0 988 = some (.if_icmp .eq 456, 0, 0) := rfl
set_option maxRecDepth 1000000 in
theorem f_0_992 : xi 0 992 = some (.ireturn, 0, 0) := rfl
set_option maxRecDepth 1000000 in
theorem f_0_998 : xi 0 998 = some (.iaload, 0, 0) := rfl
set_option maxRecDepth 1000000 in
theorem f_0_999 : xi 0 999 = some (.invokevirtual 121, 77, 787) := rfl
set_option maxRecDepth 1000000 in
theorem f_0_1007 : xi 0 1007 = some (.iaload, 0, 0) := rfl
set_option maxRecDepth 1000000 in
theorem f_0_1008 : xi 0 1008 = some (.invokevirtual 124, 176, 1248) := rfl
set_option maxRecDepth 1000000 in
theorem f_0_1011 : xi 0 1011 = some (.if_icmp .eq 433, 0, 0) := rfl
set_option maxRecDepth 1000000 in
theorem f_0_1015 : xi 0 1015 = some (.ireturn, 0, 0) := rfl
set_option maxRecDepth 1000000 in
theorem f_0_1021 : xi 0 1021 = some (.iaload, 0, 0) := rfl
set_option maxRecDepth 1000000 in
theorem f_0_1026 : xi 0 1026 = some (.iaload, 0, 0) := rfl
set_option maxRecDepth 1000000 in
theorem f_0_1027 : xi 0 1027 = some (.invokevirtual 125, 78, 791) := rfl
set_option maxRecDepth 1000000 in
theorem f_0_1035 : xi 0 1035 = some (.iaload, 0, 0) := rfl
set_option maxRecDepth 1000000 in
theorem f_0_1040 : xi 0 1040 = some (.iaload, 0, 0) := rfl
set_option maxRecDepth 1000000 in
theorem f_0_1041 : xi 0 1041 = some (.invokevirtual 128, 178, 1252) := rfl
set_option maxRecDepth 1000000 in
theorem f_0_1044 : xi 0 1044 = some (.lcmp, 0, 0) := rfl
set_option maxRecDepth 1000000 in
theorem f_0_1045 : xi 0 1045 = some (.ifCond .eq 399, 0, 0) := rfl
set_option maxRecDepth 1000000 in
theorem f_0_1049 : xi 0 1049 = some (.ireturn, 0, 0) := rfl
set_option maxRecDepth 1000000 in
theorem f_0_1055 : xi 0 1055 = some (.iaload, 0, 0) := rfl
set_option maxRecDepth 1000000 in
theorem f_0_1056 : xi 0 1056 = some (.invokevirtual 129, 79, 795) := rfl
set_option maxRecDepth 1000000 in
theorem f_0_1064 : xi 0 1064 = some (.iaload, 0, 0) := rfl
set_option maxRecDepth 1000000 in
theorem f_0_1065 : xi 0 1065 = some (.invokevirtual 132, 179, 1260) := rfl
set_option maxRecDepth 1000000 in
theorem f_0_1068 : xi 0 1068 = some (.if_icmp .eq 376, 0, 0) := rfl
set_option maxRecDepth 1000000 in
theorem f_0_1072 : xi 0 1072 = some (.ireturn, 0, 0) := rfl
set_option maxRecDepth 1000000 in
theorem f_0_1078 : xi 0 1078 = some (.iaload, 0, 0) := rfl
set_option maxRecDepth 1000000 in
theorem f_0_1083 : xi 0 1083 = some (.iaload, 0, 0) := rfl
set_option maxRecDepth 1000000 in
theorem f_0_1084 : xi 0 1084 = some (.invokevirtual 133, 80, 799) := rfl
set_option maxRecDepth 1000000 in
theorem f_0_1092 : xi 0 1092 = some (.iaload, 0, 0) := rfl
set_option maxRecDepth 1000000 in
theorem f_0_1097 : xi 0 1097 = some (.iaload, 0, 0) := rfl
set_option maxRecDepth 1000000 in
theorem f_0_1098 : xi 0 1098 = some (.invokevirtual 136, 180, 1264) := rfl
set_option maxRecDepth 1000000 in
theorem f_0_1101 : xi 0 1101 = some (.if_icmp .eq 343, 0, 0) := rfl
set_option maxRecDepth 1000000 in
theorem f_0_1105 : xi 0 1105 = some (.ireturn, 0, 0) := rfl
set_option maxRecDepth 1000000 in
theorem f_0_1111 : xi 0 1111 = some (.iaload, 0, 0) := rfl
set_option maxRecDepth 1000000 in
theorem f_0_1116 : xi 0 1116 = some (.iaload, 0, 0) := rfl
set_option maxRecDepth 1000000 in
theorem f_0_1117 : xi 0 1117 = some (.invokevirtual 137, 81, 812) := rfl
set_option maxRecDepth 1000000 in
theorem f_0_1125 : xi 0 1125 = some (.iaload, 0, 0) := rfl
set_option maxRecDepth 1000000 in
theorem f_0_1130 : xi 0 1130 = some (.iaload, 0, 0) := rfl
set_option maxRecDepth 1000000 in
theorem f_0_1131 : xi 0 1131 = some (.invokevirtual 140, 182, 1268) := rfl
set_option maxRecDepth 1000000 in
theorem f_0_1134 : xi 0 1134 = some (.if_icmp .eq 310, 0, 0) := rfl
set_option maxRecDepth 1000000 in
theorem f_0_1138 : xi 0 1138 = some (.ireturn, 0, 0) := rfl
set_option maxRecDepth 1000000 in
theorem f_0_1144 : xi 0 1144 = some (.iaload, 0, 0) := rfl
set_option maxRecDepth 1000000 in
theorem f_0_1149 : xi 0 1149 = some (.iaload, 0, 0) := rfl
set_option maxRecDepth 1000000 in
theorem f_0_1154 : xi 0 1154 = some (.iaload, 0, 0) := rfl
set_option maxRecDepth 1000000 in
theorem f_0_1155 : xi 0 1155 = some (.invokevirtual 141, 82, 827) := rfl
set_option maxRecDepth 1000000 in
theorem f_0_1163 : xi 0 1163 = some (.iaload, 0, 0) := rfl
set_option maxRecDepth 1000000 in
theorem f_0_1168 : xi 0 1168 = some (.iaload, 0, 0) := rfl
set_option maxRecDepth 1000000 in
theorem f_0_1173 : xi 0 1173 = some (.iaload, 0, 0) := rfl
set_option maxRecDepth 1000000 in
theorem f_0_1174 : xi 0 1174 = some (.invokevirtual 144, 183, 1279) := rfl
set_option maxRecDepth 1000000 in
theorem f_0_1177 : xi 0 1177 = some (.lcmp, 0, 0) := rfl
set_option maxRecDepth 1000000 in
theorem f_0_1178 : xi 0 1178 = some (.ifCond .eq 266, 0, 0) := rfl
set_option maxRecDepth 1000000 in
theorem f_0_1182 : xi 0 1182 = some (.ireturn, 0, 0) := rfl
set_option maxRecDepth 1000000 in
theorem f_0_1184 : xi 0 1184 = some (.invokevirtual 145, 83, 831) := rfl
set_option maxRecDepth 1000000 in
theorem f_0_1188 : xi 0 1188 = some (.invokevirtual 148, 184, 1283) := rfl
set_option maxRecDepth 1000000 in
theorem f_0_1191 : xi 0 1191 = some (.if_icmp .eq 253, 0, 0) := rfl
set_option maxRecDepth 1000000 in
theorem f_0_1195 : xi 0 1195 = some (.ireturn, 0, 0) := rfl
set_option maxRecDepth 1000000 in
theorem f_0_1197 : xi 0 1197 = some (.invokevirtual 149, 84, 840) := rfl
set_option maxRecDepth 1000000 in
theorem f_0_1201 : xi 0 1201 = some (.invokevirtual 152, 185, 1287) := rfl
set_option maxRecDepth 1000000 in
theorem f_0_1204 : xi 0 1204 = some (.if_icmp .eq 240, 0, 0) := rfl
set_option maxRecDepth 1000000 in
theorem f_0_1208 : xi 0 1208 = some (.ireturn, 0, 0) := rfl
set_option maxRecDepth 1000000 in
theorem f_0_1214 : xi 0 1214 = some (.iaload, 0, 0) := rfl
set_option maxRecDepth 1000000 in
theorem f_0_1219 : xi 0 1219 = some (.iaload, 0, 0) := rfl
set_option maxRecDepth 1000000 in
theorem f_0_1224 : xi 0 1224 = some (.iaload, 0, 0) := rfl
set_option maxRecDepth 1000000 in
theorem f_0_1225 : xi 0 1225 = some (.invokevirtual 153, 85, 844) := rfl
set_option maxRecDepth 1000000 in
theorem f_0_1233 : xi 0 1233 = some (.iaload, 0, 0) := rfl
set_option maxRecDepth 1000000 in
theorem f_0_1238 : xi 0 1238 = some (.iaload, 0, 0) := rfl
set_option maxRecDepth 1000000 in
theorem f_0_1243 : xi 0 1243 = some (.iaload, 0, 0) := rfl
set_option maxRecDepth 1000000 in
theorem f_0_1244 : xi 0 1244 = some (.invokevirtual 156, 186, 1291) := rfl
set_option maxRecDepth 1000000 in
theorem f_0_1247 : xi 0 1247 = some (.if_icmp .eq 197, 0, 0) := rfl
set_option maxRecDepth 1000000 in
theorem f_0_1251 : xi 0 1251 = some (.ireturn, 0, 0) := rfl
set_option maxRecDepth 1000000 in
theorem f_0_1257 : xi 0 1257 = some (.iaload, 0, 0) := rfl
set_option maxRecDepth 1000000 in
theorem f_0_1262 : xi 0 1262 = some (.iaload, 0, 0) := rfl
set_option maxRecDepth 1000000 in
theorem f_0_1267 : xi 0 1267 = some (.iaload, 0, 0) := rfl
set_option maxRecDepth 1000000 in
theorem f_0_1268 : xi 0 1268 = some (.invokevirtual 157, 86, 848) := rfl
set_option maxRecDepth 1000000 in
theorem f_0_1276 : xi 0 1276 = some (.iaload, 0, 0) := rfl
set_option maxRecDepth 1000000 in
theorem f_0_1281 : xi 0 1281 = some (.iaload, 0, 0) := rfl
set_option maxRecDepth 1000000 in
theorem f_0_1286 : xi 0 1286 = some (.iaload, 0, 0) := rfl
set_option maxRecDepth 1000000 in
theorem f_0_1287 : xi 0 1287 = some (.invokevirtual 160, 187, 1295) := rfl
set_option maxRecDepth 1000000 in
theorem f_0_1290 : xi 0 1290 = some (.if_icmp .eq 154, 0, 0) := rfl
set_option maxRecDepth 1000000 in
theorem f_0_1294 : xi 0 1294 = some (.ireturn, 0, 0) := rfl
set_option maxRecDepth 1000000 in
theorem f_0_1300 : xi 0 1300 = some (.iaload, 0, 0) := rfl
set_option maxRecDepth 1000000 in
theorem f_0_1305 : xi 0 1305 = some (.iaload, 0, 0) := rfl
set_option maxRecDepth 1000000 in
theorem f_0_1310 : xi 0 1310 = some (.iaload, 0, 0) := rfl
set_option maxRecDepth 1000000 in
theorem f_0_1315 : xi 0 1315 = some (.iaload, 0, 0) := rfl
set_option maxRecDepth 1000000 in
theorem f_0_1320 : xi 0 1320 = some (.iaload, 0, 0) := rfl
set_option maxRecDepth 1000000 in
theorem f_0_1321 : xi 0 1321 = some (.invokevirtual 161, 87, 852) := rfl
set_option maxRecDepth 1000000 in
theorem f_0_1329 : xi 0 1329 = some (.iaload, 0, 0) := rfl
set_option maxRecDepth 1000000 in
theorem f_0_1334 : xi 0 1334 = some (.iaload, 0, 0) := rfl
set_option maxRecDepth 1000000 in
theorem f_0_1339 : xi 0 1339 = some (.iaload, 0, 0) := rfl
set_option maxRecDepth 1000000 in
theorem f_0_1344 : xi 0 1344 = some (.iaload, 0, 0) := rfl
set_option maxRecDepth 1000000 in
theorem f_0_1349 : xi 0 1349 = some (.iaload, 0, 0) := rfl
set_option maxRecDepth 1000000 in
theorem f_0_1350 : xi 0 1350 = some (.invokevirtual 165, 188, 1299) := rfl
set_option maxRecDepth 1000000 in
theorem f_0_1353 : xi 0 1353 = some (.if_icmp .eq 91, 0, 0) := rfl
set_option maxRecDepth 1000000 in
theorem f_0_1357 : xi 0 1357 = some (.ireturn, 0, 0) := rfl
set_option maxRecDepth 1000000 in
theorem f_0_1363 : xi 0 1363 = some (.iaload, 0, 0) := rfl
set_option maxRecDepth 1000000 in
theorem f_0_1368 : xi 0 1368 = some (.iaload, 0, 0) := rfl
set_option maxRecDepth 1000000 in
theorem f_0_1373 : xi 0 1373 = some (.iaload, 0, 0) := rfl
set_option maxRecDepth 1000000 in
theorem f_0_1378 : xi 0 1378 = some (.iaload, 0, 0) := rfl
set_option maxRecDepth 1000000 in
theorem f_0_1379 : xi 0 1379 = some (.invokevirtual 166, 88, 861) := rfl
set_option maxRecDepth 1000000 in
theorem f_0_1387 : xi 0 1387 = some (.iaload, 0, 0) := rfl
set_option maxRecDepth 1000000 in
theorem f_0_1392 : xi 0 1392 = some (.iaload, 0, 0) := rfl
set_option maxRecDepth 1000000 in
theorem f_0_1397 : xi 0 1397 = some (.iaload, 0, 0) := rfl
set_option maxRecDepth 1000000 in
theorem f_0_1402 : xi 0 1402 = some (.iaload, 0, 0) := rfl
set_option maxRecDepth 1000000 in
theorem f_0_1403 : xi 0 1403 = some (.invokevirtual 169, 189, 1303) := rfl
set_option maxRecDepth 1000000 in
theorem f_0_1406 : xi 0 1406 = some (.if_icmp .eq 38, 0, 0) := rfl
set_option maxRecDepth 1000000 in
theorem f_0_1410 : xi 0 1410 = some (.ireturn, 0, 0) := rfl
set_option maxRecDepth 1000000 in
theorem f_0_1416 : xi 0 1416 = some (.iaload, 0, 0) := rfl
set_option maxRecDepth 1000000 in
theorem f_0_1421 : xi 0 1421 = some (.iaload, 0, 0) := rfl
set_option maxRecDepth 1000000 in
theorem f_0_1422 : xi 0 1422 = some (.invokevirtual 170, 89, 865) := rfl
set_option maxRecDepth 1000000 in
theorem f_0_1430 : xi 0 1430 = some (.iaload, 0, 0) := rfl
set_option maxRecDepth 1000000 in
theorem f_0_1435 : xi 0 1435 = some (.iaload, 0, 0) := rfl
set_option maxRecDepth 1000000 in
theorem f_0_1436 : xi 0 1436 = some (.invokevirtual 173, 191, 1308) := rfl
set_option maxRecDepth 1000000 in
theorem f_0_1439 : xi 0 1439 = some (.if_icmp .eq 5, 0, 0) := rfl
set_option maxRecDepth 1000000 in
theorem f_0_1443 : xi 0 1443 = some (.ireturn, 0, 0) := rfl
set_option maxRecDepth 1000000 in
theorem f_0_1451 : xi 0 1451 = some (.ireturn, 0, 0) := rfl
