/-! decode rows, part 3 -/
theorem dL_lines_424 : decode cL_lines 424 = .ok (.iload 7, 2) := by decide +kernel
theorem dL_lines_426 : decode cL_lines 426 = .ok (.iconst 1, 1) := by decide +kernel
theorem dL_lines_427 : decode cL_lines 427 = .ok (.iadd, 1) := by decide +kernel
theorem dL_lines_428 : decode cL_lines 428 = .ok (.istore 7, 2) := by decide +kernel
theorem dL_lines_430 : decode cL_lines 430 = .ok (.iload 7, 2) := by decide +kernel
theorem dL_lines_432 : decode cL_lines 432 = .ok (.iconst 2, 1) := by decide +kernel
theorem dL_lines_433 : decode cL_lines 433 = .ok (.if_icmp .ge 18, 3) := by decide +kernel
theorem dL_lines_436 : decode cL_lines 436 = .ok (.iload 8, 2) := by decide +kernel
theorem dL_lines_438 : decode cL_lines 438 = .ok (.ifCond .ne 9, 3) := by decide +kernel
theorem dL_lines_441 : decode cL_lines 441 = .ok (.iload 6, 2) := by decide +kernel
theorem dL_lines_443 : decode cL_lines 443 = .ok (.iconst 1, 1) := by decide +kernel
theorem dL_lines_444 : decode cL_lines 444 = .ok (.if_icmp .le 7, 3) := by decide +kernel
theorem dL_lines_447 : decode cL_lines 447 = .ok (.iconst 1, 1) := by decide +kernel
theorem dL_lines_448 : decode cL_lines 448 = .ok (.goto 4, 3) := by decide +kernel
theorem dL_lines_451 : decode cL_lines 451 = .ok (.iconst 0, 1) := by decide +kernel
theorem dL_lines_452 : decode cL_lines 452 = .ok (.istore 8, 2) := by decide +kernel
theorem dL_lines_454 : decode cL_lines 454 = .ok (.iload 10, 2) := by decide +kernel
theorem dL_lines_456 : decode cL_lines 456 = .ok (.iload 8, 2) := by decide +kernel
theorem dL_lines_458 : decode cL_lines 458 = .ok (.ifCond .eq 7, 3) := by decide +kernel
theorem dL_lines_461 : decode cL_lines 461 = .ok (.iconst 1, 1) := by decide +kernel
theorem dL_lines_462 : decode cL_lines 462 = .ok (.goto 4, 3) := by decide +kernel
theorem dL_lines_465 : decode cL_lines 465 = .ok (.iconst 0, 1) := by decide +kernel
theorem dL_lines_466 : decode cL_lines 466 = .ok (.iadd, 1) := by decide +kernel
theorem dL_lines_467 : decode cL_lines 467 = .ok (.istore 10, 2) := by decide +kernel
theorem dL_lines_469 : decode cL_lines 469 = .ok (.aload_n 0, 1) := by decide +kernel
theorem dL_lines_470 : decode cL_lines 470 = .ok (.iload 13, 2) := by decide +kernel
theorem dL_lines_472 : decode cL_lines 472 = .ok (.iconst 0, 1) := by decide +kernel
theorem dL_lines_473 : decode cL_lines 473 = .ok (.invokevirtual 38, 3) := by decide +kernel
theorem dL_lines_476 : decode cL_lines 476 = .ok (.iload 14, 2) := by decide +kernel
theorem dL_lines_478 : decode cL_lines 478 = .ok (.if_icmp .ne 125, 3) := by decide +kernel
theorem dL_lines_481 : decode cL_lines 481 = .ok (.aload_n 0, 1) := by decide +kernel
theorem dL_lines_482 : decode cL_lines 482 = .ok (.iload 13, 2) := by decide +kernel
theorem dL_lines_484 : decode cL_lines 484 = .ok (.iconst 1, 1) := by decide +kernel
theorem dL_lines_485 : decode cL_lines 485 = .ok (.invokevirtual 38, 3) := by decide +kernel
theorem dL_lines_488 : decode cL_lines 488 = .ok (.iload 17, 2) := by decide +kernel
theorem dL_lines_490 : decode cL_lines 490 = .ok (.if_icmp .ne 113, 3) := by decide +kernel
theorem dL_lines_493 : decode cL_lines 493 = .ok (.aload_n 0, 1) := by decide +kernel
theorem dL_lines_494 : decode cL_lines 494 = .ok (.iload 13, 2) := by decide +kernel
theorem dL_lines_496 : decode cL_lines 496 = .ok (.iconst 2, 1) := by decide +kernel
theorem dL_lines_497 : decode cL_lines 497 = .ok (.invokevirtual 38, 3) := by decide +kernel
theorem dL_lines_500 : decode cL_lines 500 = .ok (.iload 5, 2) := by decide +kernel
theorem dL_lines_502 : decode cL_lines 502 = .ok (.ifCond .eq 7, 3) := by decide +kernel
theorem dL_lines_505 : decode cL_lines 505 = .ok (.iconst 1, 1) := by decide +kernel
theorem dL_lines_506 : decode cL_lines 506 = .ok (.goto 4, 3) := by decide +kernel
theorem dL_lines_509 : decode cL_lines 509 = .ok (.iconst 0, 1) := by decide +kernel
theorem dL_lines_510 : decode cL_lines 510 = .ok (.if_icmp .ne 93, 3) := by decide +kernel
theorem dL_lines_513 : decode cL_lines 513 = .ok (.aload_n 0, 1) := by decide +kernel
theorem dL_lines_514 : decode cL_lines 514 = .ok (.iload 13, 2) := by decide +kernel
theorem dL_lines_516 : decode cL_lines 516 = .ok (.iconst 3, 1) := by decide +kernel
theorem dL_lines_517 : decode cL_lines 517 = .ok (.invokevirtual 38, 3) := by decide +kernel
theorem dL_lines_520 : decode cL_lines 520 = .ok (.iload 18, 2) := by decide +kernel
theorem dL_lines_522 : decode cL_lines 522 = .ok (.if_icmp .ne 81, 3) := by decide +kernel
theorem dL_lines_525 : decode cL_lines 525 = .ok (.aload_n 0, 1) := by decide +kernel
theorem dL_lines_526 : decode cL_lines 526 = .ok (.iload 13, 2) := by decide +kernel
theorem dL_lines_528 : decode cL_lines 528 = .ok (.iconst 4, 1) := by decide +kernel
theorem dL_lines_529 : decode cL_lines 529 = .ok (.invokevirtual 38, 3) := by decide +kernel
theorem dL_lines_532 : decode cL_lines 532 = .ok (.iload 19, 2) := by decide +kernel
theorem dL_lines_534 : decode cL_lines 534 = .ok (.if_icmp .ne 69, 3) := by decide +kernel
theorem dL_lines_537 : decode cL_lines 537 = .ok (.aload_n 0, 1) := by decide +kernel
theorem dL_lines_538 : decode cL_lines 538 = .ok (.iload 13, 2) := by decide +kernel
theorem dL_lines_540 : decode cL_lines 540 = .ok (.iconst 5, 1) := by decide +kernel
theorem dL_lines_541 : decode cL_lines 541 = .ok (.invokevirtual 38, 3) := by decide +kernel
theorem dL_lines_544 : decode cL_lines 544 = .ok (.iload 20, 2) := by decide +kernel
theorem dL_lines_546 : decode cL_lines 546 = .ok (.ifCond .eq 7, 3) := by decide +kernel
theorem dL_lines_549 : decode cL_lines 549 = .ok (.iconst 1, 1) := by decide +kernel
theorem dL_lines_550 : decode cL_lines 550 = .ok (.goto 4, 3) := by decide +kernel
theorem dL_lines_553 : decode cL_lines 553 = .ok (.iconst 0, 1) := by decide +kernel
theorem dL_lines_554 : decode cL_lines 554 = .ok (.if_icmp .ne 49, 3) := by decide +kernel
theorem dL_lines_557 : decode cL_lines 557 = .ok (.aload_n 0, 1) := by decide +kernel
theorem dL_lines_558 : decode cL_lines 558 = .ok (.iload 13, 2) := by decide +kernel
theorem dL_lines_560 : decode cL_lines 560 = .ok (.bipush 6, 2) := by decide +kernel
theorem dL_lines_562 : decode cL_lines 562 = .ok (.invokevirtual 38, 3) := by decide +kernel
theorem dL_lines_565 : decode cL_lines 565 = .ok (.iload 8, 2) := by decide +kernel
theorem dL_lines_567 : decode cL_lines 567 = .ok (.ifCond .eq 7, 3) := by decide +kernel
theorem dL_lines_570 : decode cL_lines 570 = .ok (.iconst 1, 1) := by decide +kernel
theorem dL_lines_571 : decode cL_lines 571 = .ok (.goto 4, 3) := by decide +kernel
theorem dL_lines_574 : decode cL_lines 574 = .ok (.iconst 0, 1) := by decide +kernel
theorem dL_lines_575 : decode cL_lines 575 = .ok (.if_icmp .ne 28, 3) := by decide +kernel
theorem dL_lines_578 : decode cL_lines 578 = .ok (.aload_n 0, 1) := by decide +kernel
theorem dL_lines_579 : decode cL_lines 579 = .ok (.iload 13, 2) := by decide +kernel
theorem dL_lines_581 : decode cL_lines 581 = .ok (.bipush 7, 2) := by decide +kernel
theorem dL_lines_583 : decode cL_lines 583 = .ok (.invokevirtual 38, 3) := by decide +kernel
theorem dL_lines_586 : decode cL_lines 586 = .ok (.iload_n 2, 1) := by decide +kernel
theorem dL_lines_587 : decode cL_lines 587 = .ok (.if_icmp .ne 16, 3) := by decide +kernel
theorem dL_lines_590 : decode cL_lines 590 = .ok (.aload_n 0, 1) := by decide +kernel
theorem dL_lines_591 : decode cL_lines 591 = .ok (.iload 13, 2) := by decide +kernel
theorem dL_lines_593 : decode cL_lines 593 = .ok (.bipush 8, 2) := by decide +kernel
theorem dL_lines_595 : decode cL_lines 595 = .ok (.invokevirtual 38, 3) := by decide +kernel
theorem dL_lines_598 : decode cL_lines 598 = .ok (.ldc 41, 2) := by decide +kernel
theorem dL_lines_600 : decode cL_lines 600 = .ok (.if_icmp .eq 5, 3) := by decide +kernel
theorem dL_lines_603 : decode cL_lines 603 = .ok (.iconst 0, 1) := by decide +kernel
theorem dL_lines_604 : decode cL_lines 604 = .ok (.ireturn, 1) := by decide +kernel
theorem dL_lines_605 : decode cL_lines 605 = .ok (.iload 13, 2) := by decide +kernel
theorem dL_lines_607 : decode cL_lines 607 = .ok (.ifCond .le 117, 3) := by decide +kernel
theorem dL_lines_610 : decode cL_lines 610 = .ok (.iload 20, 2) := by decide +kernel
theorem dL_lines_612 : decode cL_lines 612 = .ok (.ifCond .eq 112, 3) := by decide +kernel
theorem dL_lines_615 : decode cL_lines 615 = .ok (.aload_n 0, 1) := by decide +kernel
theorem dL_lines_616 : decode cL_lines 616 = .ok (.iload 13, 2) := by decide +kernel
theorem dL_lines_618 : decode cL_lines 618 = .ok (.iconst 1, 1) := by decide +kernel
theorem dL_lines_619 : decode cL_lines 619 = .ok (.isub, 1) := by decide +kernel
theorem dL_lines_620 : decode cL_lines 620 = .ok (.iconst 5, 1) := by decide +kernel
theorem dL_lines_621 : decode cL_lines 621 = .ok (.invokevirtual 38, 3) := by decide +kernel
theorem dL_lines_624 : decode cL_lines 624 = .ok (.iconst 1, 1) := by decide +kernel
theorem dL_lines_625 : decode cL_lines 625 = .ok (.if_icmp .ne 99, 3) := by decide +kernel
theorem dL_lines_628 : decode cL_lines 628 = .ok (.aload_n 0, 1) := by decide +kernel
theorem dL_lines_629 : decode cL_lines 629 = .ok (.iload 13, 2) := by decide +kernel
theorem dL_lines_631 : decode cL_lines 631 = .ok (.iconst 1, 1) := by decide +kernel
theorem dL_lines_632 : decode cL_lines 632 = .ok (.isub, 1) := by decide +kernel
theorem dL_lines_633 : decode cL_lines 633 = .ok (.iconst 4, 1) := by decide +kernel
theorem dL_lines_634 : decode cL_lines 634 = .ok (.invokevirtual 38, 3) := by decide +kernel
theorem dL_lines_637 : decode cL_lines 637 = .ok (.istore 21, 2) := by decide +kernel
theorem dL_lines_639 : decode cL_lines 639 = .ok (.iload 19, 2) := by decide +kernel
theorem dL_lines_641 : decode cL_lines 641 = .ok (.ifCond .ge 8, 3) := by decide +kernel
theorem dL_lines_644 : decode cL_lines 644 = .ok (.iload 21, 2) := by decide +kernel
theorem dL_lines_646 : decode cL_lines 646 = .ok (.ifCond .gt 13, 3) := by decide +kernel
theorem dL_lines_649 : decode cL_lines 649 = .ok (.iload 19, 2) := by decide +kernel
theorem dL_lines_651 : decode cL_lines 651 = .ok (.ifCond .le 40, 3) := by decide +kernel
theorem dL_lines_654 : decode cL_lines 654 = .ok (.iload 21, 2) := by decide +kernel
theorem dL_lines_656 : decode cL_lines 656 = .ok (.ifCond .ge 35, 3) := by decide +kernel
theorem dL_lines_659 : decode cL_lines 659 = .ok (.iload 19, 2) := by decide +kernel
theorem dL_lines_661 : decode cL_lines 661 = .ok (.invokestatic 32, 3) := by decide +kernel
theorem dL_lines_664 : decode cL_lines 664 = .ok (.aload_n 0, 1) := by decide +kernel
theorem dL_lines_665 : decode cL_lines 665 = .ok (.bipush 15, 2) := by decide +kernel
theorem dL_lines_667 : decode cL_lines 667 = .ok (.invokevirtual 35, 3) := by decide +kernel
theorem dL_lines_670 : decode cL_lines 670 = .ok (.if_icmp .lt 21, 3) := by decide +kernel
theorem dL_lines_673 : decode cL_lines 673 = .ok (.iload 21, 2) := by decide +kernel
theorem dL_lines_675 : decode cL_lines 675 = .ok (.invokestatic 32, 3) := by decide +kernel
theorem dL_lines_678 : decode cL_lines 678 = .ok (.aload_n 0, 1) := by decide +kernel
theorem dL_lines_679 : decode cL_lines 679 = .ok (.bipush 15, 2) := by decide +kernel
theorem dL_lines_681 : decode cL_lines 681 = .ok (.invokevirtual 35, 3) := by decide +kernel
theorem dL_lines_684 : decode cL_lines 684 = .ok (.if_icmp .lt 7, 3) := by decide +kernel
theorem dL_lines_687 : decode cL_lines 687 = .ok (.iconst 1, 1) := by decide +kernel
theorem dL_lines_688 : decode cL_lines 688 = .ok (.goto 4, 3) := by decide +kernel
theorem dL_lines_691 : decode cL_lines 691 = .ok (.iconst 0, 1) := by decide +kernel
theorem dL_lines_692 : decode cL_lines 692 = .ok (.istore 22, 2) := by decide +kernel
theorem dL_lines_694 : decode cL_lines 694 = .ok (.iload 11, 2) := by decide +kernel
theorem dL_lines_696 : decode cL_lines 696 = .ok (.iload 22, 2) := by decide +kernel
theorem dL_lines_698 : decode cL_lines 698 = .ok (.ifCond .eq 7, 3) := by decide +kernel
theorem dL_lines_701 : decode cL_lines 701 = .ok (.iconst 1, 1) := by decide +kernel
theorem dL_lines_702 : decode cL_lines 702 = .ok (.goto 4, 3) := by decide +kernel
theorem dL_lines_705 : decode cL_lines 705 = .ok (.iconst 0, 1) := by decide +kernel
theorem dL_lines_706 : decode cL_lines 706 = .ok (.iadd, 1) := by decide +kernel
theorem dL_lines_707 : decode cL_lines 707 = .ok (.istore 11, 2) := by decide +kernel
theorem dL_lines_709 : decode cL_lines 709 = .ok (.iload 12, 2) := by decide +kernel
theorem dL_lines_711 : decode cL_lines 711 = .ok (.iload 22, 2) := by decide +kernel
theorem dL_lines_713 : decode cL_lines 713 = .ok (.ifCond .eq 7, 3) := by decide +kernel
theorem dL_lines_716 : decode cL_lines 716 = .ok (.iconst 0, 1) := by decide +kernel
theorem dL_lines_717 : decode cL_lines 717 = .ok (.goto 4, 3) := by decide +kernel
theorem dL_lines_720 : decode cL_lines 720 = .ok (.iconst 1, 1) := by decide +kernel
theorem dL_lines_721 : decode cL_lines 721 = .ok (.iadd, 1) := by decide +kernel
theorem dL_lines_722 : decode cL_lines 722 = .ok (.istore 12, 2) := by decide +kernel
theorem dL_lines_724 : decode cL_lines 724 = .ok (.iinc 13 1, 3) := by decide +kernel
theorem dL_lines_727 : decode cL_lines 727 = .ok (.goto (-692), 3) := by decide +kernel
theorem dL_lines_730 : decode cL_lines 730 = .ok (.iload 9, 2) := by decide +kernel
theorem dL_lines_732 : decode cL_lines 732 = .ok (.iload_n 1, 1) := by decide +kernel
theorem dL_lines_733 : decode cL_lines 733 = .ok (.if_icmp .ne 57, 3) := by decide +kernel
theorem dL_lines_736 : decode cL_lines 736 = .ok (.aload_n 0, 1) := by decide +kernel
theorem dL_lines_737 : decode cL_lines 737 = .ok (.iconst 4, 1) := by decide +kernel
theorem dL_lines_738 : decode cL_lines 738 = .ok (.invokevirtual 35, 3) := by decide +kernel
theorem dL_lines_741 : decode cL_lines 741 = .ok (.iload 10, 2) := by decide +kernel
theorem dL_lines_743 : decode cL_lines 743 = .ok (.if_icmp .ne 47, 3) := by decide +kernel
theorem dL_lines_746 : decode cL_lines 746 = .ok (.aload_n 0, 1) := by decide +kernel
theorem dL_lines_747 : decode cL_lines 747 = .ok (.iconst 2, 1) := by decide +kernel
theorem dL_lines_748 : decode cL_lines 748 = .ok (.invokevirtual 35, 3) := by decide +kernel
theorem dL_lines_751 : decode cL_lines 751 = .ok (.iload 11, 2) := by decide +kernel
theorem dL_lines_753 : decode cL_lines 753 = .ok (.if_icmp .ne 37, 3) := by decide +kernel
theorem dL_lines_756 : decode cL_lines 756 = .ok (.aload_n 0, 1) := by decide +kernel
theorem dL_lines_757 : decode cL_lines 757 = .ok (.iconst 3, 1) := by decide +kernel
theorem dL_lines_758 : decode cL_lines 758 = .ok (.invokevirtual 35, 3) := by decide +kernel
theorem dL_lines_761 : decode cL_lines 761 = .ok (.iload 12, 2) := by decide +kernel
theorem dL_lines_763 : decode cL_lines 763 = .ok (.if_icmp .ne 27, 3) := by decide +kernel
theorem dL_lines_766 : decode cL_lines 766 = .ok (.aload_n 0, 1) := by decide +kernel
theorem dL_lines_767 : decode cL_lines 767 = .ok (.iconst 1, 1) := by decide +kernel
theorem dL_lines_768 : decode cL_lines 768 = .ok (.invokevirtual 35, 3) := by decide +kernel
theorem dL_lines_771 : decode cL_lines 771 = .ok (.iload 11, 2) := by decide +kernel
theorem dL_lines_773 : decode cL_lines 773 = .ok (.iload 12, 2) := by decide +kernel
theorem dL_lines_775 : decode cL_lines 775 = .ok (.if_icmp .le 7, 3) := by decide +kernel
theorem dL_lines_778 : decode cL_lines 778 = .ok (.iconst 1, 1) := by decide +kernel
theorem dL_lines_779 : decode cL_lines 779 = .ok (.goto 4, 3) := by decide +kernel
theorem dL_lines_782 : decode cL_lines 782 = .ok (.iconst 0, 1) := by decide +kernel
theorem dL_lines_783 : decode cL_lines 783 = .ok (.if_icmp .ne 7, 3) := by decide +kernel
theorem dL_lines_786 : decode cL_lines 786 = .ok (.iconst 1, 1) := by decide +kernel
theorem dL_lines_787 : decode cL_lines 787 = .ok (.goto 4, 3) := by decide +kernel
theorem dL_lines_790 : decode cL_lines 790 = .ok (.iconst 0, 1) := by decide +kernel
theorem dL_lines_791 : decode cL_lines 791 = .ok (.ireturn, 1) := by decide +kernel
theorem dL_sum_0 : decode cL_sum 0 = .ok (.iconst 0, 1) := by decide +kernel
theorem dL_sum_1 : decode cL_sum 1 = .ok (.istore_n 3, 1) := by decide +kernel
theorem dL_sum_2 : decode cL_sum 2 = .ok (.bipush 16, 2) := by decide +kernel
theorem dL_sum_4 : decode cL_sum 4 = .ok (.bipush 8, 2) := by decide +kernel
theorem dL_sum_6 : decode cL_sum 6 = .ok (.iload_n 2, 1) := by decide +kernel
theorem dL_sum_7 : decode cL_sum 7 = .ok (.imul, 1) := by decide +kernel
theorem dL_sum_8 : decode cL_sum 8 = .ok (.iadd, 1) := by decide +kernel
theorem dL_sum_9 : decode cL_sum 9 = .ok (.istore 4, 2) := by decide +kernel
theorem dL_sum_11 : decode cL_sum 11 = .ok (.iload 4, 2) := by decide +kernel
theorem dL_sum_13 : decode cL_sum 13 = .ok (.bipush 24, 2) := by decide +kernel
theorem dL_sum_15 : decode cL_sum 15 = .ok (.bipush 8, 2) := by decide +kernel
theorem dL_sum_17 : decode cL_sum 17 = .ok (.iload_n 2, 1) := by decide +kernel
theorem dL_sum_18 : decode cL_sum 18 = .ok (.imul, 1) := by decide +kernel
theorem dL_sum_19 : decode cL_sum 19 = .ok (.iadd, 1) := by decide +kernel
theorem dL_sum_20 : decode cL_sum 20 = .ok (.if_icmp .ge 26, 3) := by decide +kernel
theorem dL_sum_23 : decode cL_sum 23 = .ok (.iload_n 3, 1) := by decide +kernel
theorem dL_sum_24 : decode cL_sum 24 = .ok (.aload_n 0, 1) := by decide +kernel
theorem dL_sum_25 : decode cL_sum 25 = .ok (.iload_n 1, 1) := by decide +kernel
theorem dL_sum_26 : decode cL_sum 26 = .ok (.aload_n 0, 1) := by decide +kernel
theorem dL_sum_27 : decode cL_sum 27 = .ok (.iload_n 1, 1) := by decide +kernel
theorem dL_sum_28 : decode cL_sum 28 = .ok (.iconst 1, 1) := by decide +kernel
theorem dL_sum_29 : decode cL_sum 29 = .ok (.invokevirtual 38, 3) := by decide +kernel
theorem dL_sum_32 : decode cL_sum 32 = .ok (.iload 4, 2) := by decide +kernel
theorem dL_sum_34 : decode cL_sum 34 = .ok (.iadd, 1) := by decide +kernel
theorem dL_sum_35 : decode cL_sum 35 = .ok (.invokestatic 22, 3) := by decide +kernel
theorem dL_sum_38 : decode cL_sum 38 = .ok (.iadd, 1) := by decide +kernel
theorem dL_sum_39 : decode cL_sum 39 = .ok (.istore_n 3, 1) := by decide +kernel
theorem dL_sum_40 : decode cL_sum 40 = .ok (.iinc 4 1, 3) := by decide +kernel
theorem dL_sum_43 : decode cL_sum 43 = .ok (.goto (-32), 3) := by decide +kernel
theorem dL_sum_46 : decode cL_sum 46 = .ok (.iload_n 3, 1) := by decide +kernel
theorem dL_sum_47 : decode cL_sum 47 = .ok (.ireturn, 1) := by decide +kernel
theorem dL_near_0 : decode cL_near 0 = .ok (.iload_n 2, 1) := by decide +kernel
theorem dL_near_1 : decode cL_near 1 = .ok (.ifCond .lt 41, 3) := by decide +kernel
theorem dL_near_4 : decode cL_near 4 = .ok (.iload_n 2, 1) := by decide +kernel
theorem dL_near_5 : decode cL_near 5 = .ok (.bipush 8, 2) := by decide +kernel
theorem dL_near_7 : decode cL_near 7 = .ok (.if_icmp .ge 35, 3) := by decide +kernel
theorem dL_near_10 : decode cL_near 10 = .ok (.aload_n 0, 1) := by decide +kernel
theorem dL_near_11 : decode cL_near 11 = .ok (.iload_n 1, 1) := by decide +kernel
theorem dL_near_12 : decode cL_near 12 = .ok (.iload_n 3, 1) := by decide +kernel
theorem dL_near_13 : decode cL_near 13 = .ok (.invokestatic 42, 3) := by decide +kernel
theorem dL_near_16 : decode cL_near 16 = .ok (.aload_n 0, 1) := by decide +kernel
theorem dL_near_17 : decode cL_near 17 = .ok (.iload_n 2, 1) := by decide +kernel
theorem dL_near_18 : decode cL_near 18 = .ok (.iload_n 3, 1) := by decide +kernel
theorem dL_near_19 : decode cL_near 19 = .ok (.invokestatic 42, 3) := by decide +kernel
theorem dL_near_22 : decode cL_near 22 = .ok (.isub, 1) := by decide +kernel
theorem dL_near_23 : decode cL_near 23 = .ok (.invokestatic 32, 3) := by decide +kernel
theorem dL_near_26 : decode cL_near 26 = .ok (.bipush 8, 2) := by decide +kernel
theorem dL_near_28 : decode cL_near 28 = .ok (.aload_n 0, 1) := by decide +kernel
theorem dL_near_29 : decode cL_near 29 = .ok (.bipush 16, 2) := by decide +kernel
theorem dL_near_31 : decode cL_near 31 = .ok (.invokevirtual 35, 3) := by decide +kernel
theorem dL_near_34 : decode cL_near 34 = .ok (.imul, 1) := by decide +kernel
theorem dL_near_35 : decode cL_near 35 = .ok (.if_icmp .gt 7, 3) := by decide +kernel
theorem dL_near_38 : decode cL_near 38 = .ok (.iconst 1, 1) := by decide +kernel
theorem dL_near_39 : decode cL_near 39 = .ok (.goto 4, 3) := by decide +kernel
theorem dL_near_42 : decode cL_near 42 = .ok (.iconst 0, 1) := by decide +kernel
theorem dL_near_43 : decode cL_near 43 = .ok (.ireturn, 1) := by decide +kernel
theorem dL_combs_0 : decode cL_combs 0 = .ok (.aload_n 0, 1) := by decide +kernel
theorem dL_combs_1 : decode cL_combs 1 = .ok (.bipush 18, 2) := by decide +kernel
theorem dL_combs_3 : decode cL_combs 3 = .ok (.invokevirtual 35, 3) := by decide +kernel
theorem dL_combs_6 : decode cL_combs 6 = .ok (.iconst 2, 1) := by decide +kernel
theorem dL_combs_7 : decode cL_combs 7 = .ok (.if_icmp .ne 11, 3) := by decide +kernel
theorem dL_combs_10 : decode cL_combs 10 = .ok (.aload_n 0, 1) := by decide +kernel
theorem dL_combs_11 : decode cL_combs 11 = .ok (.iconst 1, 1) := by decide +kernel
theorem dL_combs_12 : decode cL_combs 12 = .ok (.invokevirtual 35, 3) := by decide +kernel
theorem dL_combs_15 : decode cL_combs 15 = .ok (.goto 9, 3) := by decide +kernel
theorem dL_combs_18 : decode cL_combs 18 = .ok (.aload_n 0, 1) := by decide +kernel
theorem dL_combs_19 : decode cL_combs 19 = .ok (.bipush 18, 2) := by decide +kernel
theorem dL_combs_21 : decode cL_combs 21 = .ok (.invokevirtual 35, 3) := by decide +kernel
theorem dL_combs_24 : decode cL_combs 24 = .ok (.istore_n 1, 1) := by decide +kernel
theorem dL_combs_25 : decode cL_combs 25 = .ok (.aload_n 0, 1) := by decide +kernel
theorem dL_combs_26 : decode cL_combs 26 = .ok (.bipush 17, 2) := by decide +kernel
theorem dL_combs_28 : decode cL_combs 28 = .ok (.invokevirtual 35, 3) := by decide +kernel
theorem dL_combs_31 : decode cL_combs 31 = .ok (.istore_n 2, 1) := by decide +kernel
theorem dL_combs_32 : decode cL_combs 32 = .ok (.iconst 4, 1) := by decide +kernel
theorem dL_combs_33 : decode cL_combs 33 = .ok (.newarray .int, 2) := by decide +kernel
theorem dL_combs_35 : decode cL_combs 35 = .ok (.astore_n 3, 1) := by decide +kernel
theorem dL_combs_36 : decode cL_combs 36 = .ok (.iconst 0, 1) := by decide +kernel
theorem dL_combs_37 : decode cL_combs 37 = .ok (.istore 4, 2) := by decide +kernel
theorem dL_combs_39 : decode cL_combs 39 = .ok (.iload 4, 2) := by decide +kernel
theorem dL_combs_41 : decode cL_combs 41 = .ok (.bipush 8, 2) := by decide +kernel
theorem dL_combs_43 : decode cL_combs 43 = .ok (.if_icmp .ge 532, 3) := by decide +kernel
theorem dL_combs_46 : decode cL_combs 46 = .ok (.iconst 0, 1) := by decide +kernel
theorem dL_combs_47 : decode cL_combs 47 = .ok (.istore 5, 2) := by decide +kernel
theorem dL_combs_49 : decode cL_combs 49 = .ok (.iload 5, 2) := by decide +kernel
theorem dL_combs_51 : decode cL_combs 51 = .ok (.bipush 10, 2) := by decide +kernel
theorem dL_combs_53 : decode cL_combs 53 = .ok (.if_icmp .ge 516, 3) := by decide +kernel
theorem dL_combs_56 : decode cL_combs 56 = .ok (.iload_n 2, 1) := by decide +kernel
theorem dL_combs_57 : decode cL_combs 57 = .ok (.iconst 3, 1) := by decide +kernel
theorem dL_combs_58 : decode cL_combs 58 = .ok (.if_icmp .ne 18, 3) := by decide +kernel
theorem dL_combs_61 : decode cL_combs 61 = .ok (.aload_n 0, 1) := by decide +kernel
theorem dL_combs_62 : decode cL_combs 62 = .ok (.iload 4, 2) := by decide +kernel
theorem dL_combs_64 : decode cL_combs 64 = .ok (.iload 4, 2) := by decide +kernel
theorem dL_combs_66 : decode cL_combs 66 = .ok (.iconst 1, 1) := by decide +kernel
theorem dL_combs_67 : decode cL_combs 67 = .ok (.isub, 1) := by decide +kernel
theorem dL_combs_68 : decode cL_combs 68 = .ok (.iload 5, 2) := by decide +kernel
theorem dL_combs_70 : decode cL_combs 70 = .ok (.invokestatic 45, 3) := by decide +kernel
theorem dL_combs_73 : decode cL_combs 73 = .ok (.goto 13, 3) := by decide +kernel
theorem dL_combs_76 : decode cL_combs 76 = .ok (.iload 4, 2) := by decide +kernel
theorem dL_combs_78 : decode cL_combs 78 = .ok (.ifCond .le 7, 3) := by decide +kernel
theorem dL_combs_81 : decode cL_combs 81 = .ok (.iconst 1, 1) := by decide +kernel
theorem dL_combs_82 : decode cL_combs 82 = .ok (.goto 4, 3) := by decide +kernel
theorem dL_combs_85 : decode cL_combs 85 = .ok (.iconst 0, 1) := by decide +kernel
theorem dL_combs_86 : decode cL_combs 86 = .ok (.istore 6, 2) := by decide +kernel
theorem dL_combs_88 : decode cL_combs 88 = .ok (.iload_n 2, 1) := by decide +kernel
theorem dL_combs_89 : decode cL_combs 89 = .ok (.iconst 3, 1) := by decide +kernel
theorem dL_combs_90 : decode cL_combs 90 = .ok (.if_icmp .ne 18, 3) := by decide +kernel
theorem dL_combs_93 : decode cL_combs 93 = .ok (.aload_n 0, 1) := by decide +kernel
theorem dL_combs_94 : decode cL_combs 94 = .ok (.iload 4, 2) := by decide +kernel
theorem dL_combs_96 : decode cL_combs 96 = .ok (.iload 4, 2) := by decide +kernel
theorem dL_combs_98 : decode cL_combs 98 = .ok (.iconst 1, 1) := by decide +kernel
theorem dL_combs_99 : decode cL_combs 99 = .ok (.iadd, 1) := by decide +kernel
theorem dL_combs_100 : decode cL_combs 100 = .ok (.iload 5, 2) := by decide +kernel
theorem dL_combs_102 : decode cL_combs 102 = .ok (.invokestatic 45, 3) := by decide +kernel
theorem dL_combs_105 : decode cL_combs 105 = .ok (.goto 15, 3) := by decide +kernel
theorem dL_combs_108 : decode cL_combs 108 = .ok (.iload 4, 2) := by decide +kernel
theorem dL_combs_110 : decode cL_combs 110 = .ok (.bipush 7, 2) := by decide +kernel
theorem dL_combs_112 : decode cL_combs 112 = .ok (.if_icmp .ge 7, 3) := by decide +kernel
theorem dL_combs_115 : decode cL_combs 115 = .ok (.iconst 1, 1) := by decide +kernel
theorem dL_combs_116 : decode cL_combs 116 = .ok (.goto 4, 3) := by decide +kernel
theorem dL_combs_119 : decode cL_combs 119 = .ok (.iconst 0, 1) := by decide +kernel
theorem dL_combs_120 : decode cL_combs 120 = .ok (.istore 7, 2) := by decide +kernel
theorem dL_combs_122 : decode cL_combs 122 = .ok (.iload_n 1, 1) := by decide +kernel
theorem dL_combs_123 : decode cL_combs 123 = .ok (.iconst 1, 1) := by decide +kernel
theorem dL_combs_124 : decode cL_combs 124 = .ok (.if_icmp .eq 7, 3) := by decide +kernel
theorem dL_combs_127 : decode cL_combs 127 = .ok (.iload_n 2, 1) := by decide +kernel
theorem dL_combs_128 : decode cL_combs 128 = .ok (.ifCond .ne 7, 3) := by decide +kernel
theorem dL_combs_131 : decode cL_combs 131 = .ok (.iconst 0, 1) := by decide +kernel
theorem dL_combs_132 : decode cL_combs 132 = .ok (.goto 42, 3) := by decide +kernel
theorem dL_combs_135 : decode cL_combs 135 = .ok (.iload_n 2, 1) := by decide +kernel
theorem dL_combs_136 : decode cL_combs 136 = .ok (.iconst 1, 1) := by decide +kernel
theorem dL_combs_137 : decode cL_combs 137 = .ok (.if_icmp .ne 16, 3) := by decide +kernel
theorem dL_combs_140 : decode cL_combs 140 = .ok (.iload 6, 2) := by decide +kernel
theorem dL_combs_142 : decode cL_combs 142 = .ok (.ifCond .eq 7, 3) := by decide +kernel
theorem dL_combs_145 : decode cL_combs 145 = .ok (.iconst 1, 1) := by decide +kernel
theorem dL_combs_146 : decode cL_combs 146 = .ok (.goto 28, 3) := by decide +kernel
theorem dL_combs_149 : decode cL_combs 149 = .ok (.iconst 2, 1) := by decide +kernel
theorem dL_combs_150 : decode cL_combs 150 = .ok (.goto 24, 3) := by decide +kernel
theorem dL_combs_153 : decode cL_combs 153 = .ok (.iload 6, 2) := by decide +kernel
theorem dL_combs_155 : decode cL_combs 155 = .ok (.ifCond .eq 7, 3) := by decide +kernel
theorem dL_combs_158 : decode cL_combs 158 = .ok (.iconst 1, 1) := by decide +kernel
theorem dL_combs_159 : decode cL_combs 159 = .ok (.goto 4, 3) := by decide +kernel
theorem dL_combs_162 : decode cL_combs 162 = .ok (.iconst 0, 1) := by decide +kernel
theorem dL_combs_163 : decode cL_combs 163 = .ok (.iload 7, 2) := by decide +kernel
theorem dL_combs_165 : decode cL_combs 165 = .ok (.ifCond .eq 7, 3) := by decide +kernel
theorem dL_combs_168 : decode cL_combs 168 = .ok (.iconst 2, 1) := by decide +kernel
theorem dL_combs_169 : decode cL_combs 169 = .ok (.goto 4, 3) := by decide +kernel
theorem dL_combs_172 : decode cL_combs 172 = .ok (.iconst 0, 1) := by decide +kernel
theorem dL_combs_173 : decode cL_combs 173 = .ok (.iadd, 1) := by decide +kernel
theorem dL_combs_174 : decode cL_combs 174 = .ok (.istore 8, 2) := by decide +kernel
theorem dL_combs_176 : decode cL_combs 176 = .ok (.iconst 4, 1) := by decide +kernel
theorem dL_combs_177 : decode cL_combs 177 = .ok (.aload_n 0, 1) := by decide +kernel
theorem dL_combs_178 : decode cL_combs 178 = .ok (.iload 4, 2) := by decide +kernel
theorem dL_combs_180 : decode cL_combs 180 = .ok (.iload 5, 2) := by decide +kernel
theorem dL_combs_182 : decode cL_combs 182 = .ok (.invokestatic 42, 3) := by decide +kernel
theorem dL_combs_185 : decode cL_combs 185 = .ok (.imul, 1) := by decide +kernel
theorem dL_combs_186 : decode cL_combs 186 = .ok (.istore 9, 2) := by decide +kernel
theorem dL_combs_188 : decode cL_combs 188 = .ok (.aload_n 0, 1) := by decide +kernel
theorem dL_combs_189 : decode cL_combs 189 = .ok (.iload 4, 2) := by decide +kernel
theorem dL_combs_191 : decode cL_combs 191 = .ok (.iconst 1, 1) := by decide +kernel
theorem dL_combs_192 : decode cL_combs 192 = .ok (.invokevirtual 38, 3) := by decide +kernel
theorem dL_combs_195 : decode cL_combs 195 = .ok (.istore 10, 2) := by decide +kernel
theorem dL_combs_197 : decode cL_combs 197 = .ok (.iconst 0, 1) := by decide +kernel
theorem dL_combs_198 : decode cL_combs 198 = .ok (.istore 11, 2) := by decide +kernel
theorem dL_combs_200 : decode cL_combs 200 = .ok (.iconst 0, 1) := by decide +kernel
theorem dL_combs_201 : decode cL_combs 201 = .ok (.istore 12, 2) := by decide +kernel
theorem dL_combs_203 : decode cL_combs 203 = .ok (.bipush 16, 2) := by decide +kernel
theorem dL_combs_205 : decode cL_combs 205 = .ok (.bipush 8, 2) := by decide +kernel
theorem dL_combs_207 : decode cL_combs 207 = .ok (.iload 5, 2) := by decide +kernel
theorem dL_combs_209 : decode cL_combs 209 = .ok (.imul, 1) := by decide +kernel
theorem dL_combs_210 : decode cL_combs 210 = .ok (.iadd, 1) := by decide +kernel
theorem dL_combs_211 : decode cL_combs 211 = .ok (.istore 13, 2) := by decide +kernel
theorem dL_combs_213 : decode cL_combs 213 = .ok (.iload 13, 2) := by decide +kernel
theorem dL_combs_215 : decode cL_combs 215 = .ok (.bipush 24, 2) := by decide +kernel
theorem dL_combs_217 : decode cL_combs 217 = .ok (.bipush 8, 2) := by decide +kernel
theorem dL_combs_219 : decode cL_combs 219 = .ok (.iload 5, 2) := by decide +kernel
theorem dL_combs_221 : decode cL_combs 221 = .ok (.imul, 1) := by decide +kernel
theorem dL_combs_222 : decode cL_combs 222 = .ok (.iadd, 1) := by decide +kernel
theorem dL_combs_223 : decode cL_combs 223 = .ok (.if_icmp .ge 221, 3) := by decide +kernel
theorem dL_combs_226 : decode cL_combs 226 = .ok (.aload_n 0, 1) := by decide +kernel
theorem dL_combs_227 : decode cL_combs 227 = .ok (.iload 4, 2) := by decide +kernel
theorem dL_combs_229 : decode cL_combs 229 = .ok (.iload 10, 2) := by decide +kernel
theorem dL_combs_231 : decode cL_combs 231 = .ok (.iload 13, 2) := by decide +kernel
theorem dL_combs_233 : decode cL_combs 233 = .ok (.iadd, 1) := by decide +kernel
theorem dL_combs_234 : decode cL_combs 234 = .ok (.invokestatic 22, 3) := by decide +kernel
theorem dL_combs_237 : decode cL_combs 237 = .ok (.istore 14, 2) := by decide +kernel
theorem dL_combs_239 : decode cL_combs 239 = .ok (.iload 8, 2) := by decide +kernel
theorem dL_combs_241 : decode cL_combs 241 = .ok (.iconst 2, 1) := by decide +kernel
theorem dL_combs_242 : decode cL_combs 242 = .ok (.irem, 1) := by decide +kernel
theorem dL_combs_243 : decode cL_combs 243 = .ok (.iconst 1, 1) := by decide +kernel
theorem dL_combs_244 : decode cL_combs 244 = .ok (.if_icmp .ne 26, 3) := by decide +kernel
theorem dL_combs_247 : decode cL_combs 247 = .ok (.aload_n 0, 1) := by decide +kernel
theorem dL_combs_248 : decode cL_combs 248 = .ok (.iload 4, 2) := by decide +kernel
theorem dL_combs_250 : decode cL_combs 250 = .ok (.iconst 1, 1) := by decide +kernel
theorem dL_combs_251 : decode cL_combs 251 = .ok (.isub, 1) := by decide +kernel
theorem dL_combs_252 : decode cL_combs 252 = .ok (.aload_n 0, 1) := by decide +kernel
theorem dL_combs_253 : decode cL_combs 253 = .ok (.iload 4, 2) := by decide +kernel
theorem dL_combs_255 : decode cL_combs 255 = .ok (.iconst 1, 1) := by decide +kernel
theorem dL_combs_256 : decode cL_combs 256 = .ok (.isub, 1) := by decide +kernel
theorem dL_combs_257 : decode cL_combs 257 = .ok (.iconst 1, 1) := by decide +kernel
theorem dL_combs_258 : decode cL_combs 258 = .ok (.invokevirtual 38, 3) := by decide +kernel
theorem dL_combs_261 : decode cL_combs 261 = .ok (.iload 13, 2) := by decide +kernel
theorem dL_combs_263 : decode cL_combs 263 = .ok (.iadd, 1) := by decide +kernel
theorem dL_combs_264 : decode cL_combs 264 = .ok (.invokestatic 22, 3) := by decide +kernel
theorem dL_combs_267 : decode cL_combs 267 = .ok (.goto 4, 3) := by decide +kernel
theorem dL_combs_270 : decode cL_combs 270 = .ok (.iconst 0, 1) := by decide +kernel
theorem dL_combs_271 : decode cL_combs 271 = .ok (.istore 15, 2) := by decide +kernel
theorem dL_combs_273 : decode cL_combs 273 = .ok (.iload 8, 2) := by decide +kernel
theorem dL_combs_275 : decode cL_combs 275 = .ok (.iconst 1, 1) := by decide +kernel
theorem dL_combs_276 : decode cL_combs 276 = .ok (.if_icmp .le 26, 3) := by decide +kernel
theorem dL_combs_279 : decode cL_combs 279 = .ok (.aload_n 0, 1) := by decide +kernel
theorem dL_combs_280 : decode cL_combs 280 = .ok (.iload 4, 2) := by decide +kernel
theorem dL_combs_282 : decode cL_combs 282 = .ok (.iconst 1, 1) := by decide +kernel
theorem dL_combs_283 : decode cL_combs 283 = .ok (.iadd, 1) := by decide +kernel
theorem dL_combs_284 : decode cL_combs 284 = .ok (.aload_n 0, 1) := by decide +kernel
theorem dL_combs_285 : decode cL_combs 285 = .ok (.iload 4, 2) := by decide +kernel
theorem dL_combs_287 : decode cL_combs 287 = .ok (.iconst 1, 1) := by decide +kernel
theorem dL_combs_288 : decode cL_combs 288 = .ok (.iadd, 1) := by decide +kernel
theorem dL_combs_289 : decode cL_combs 289 = .ok (.iconst 1, 1) := by decide +kernel
theorem dL_combs_290 : decode cL_combs 290 = .ok (.invokevirtual 38, 3) := by decide +kernel
theorem dL_combs_293 : decode cL_combs 293 = .ok (.iload 13, 2) := by decide +kernel
theorem dL_combs_295 : decode cL_combs 295 = .ok (.iadd, 1) := by decide +kernel
theorem dL_combs_296 : decode cL_combs 296 = .ok (.invokestatic 22, 3) := by decide +kernel
theorem dL_combs_299 : decode cL_combs 299 = .ok (.goto 4, 3) := by decide +kernel
theorem dL_combs_302 : decode cL_combs 302 = .ok (.iconst 0, 1) := by decide +kernel
theorem dL_combs_303 : decode cL_combs 303 = .ok (.istore 16, 2) := by decide +kernel
theorem dL_combs_305 : decode cL_combs 305 = .ok (.iload 8, 2) := by decide +kernel
theorem dL_combs_307 : decode cL_combs 307 = .ok (.ifCond .ne 38, 3) := by decide +kernel
theorem dL_combs_310 : decode cL_combs 310 = .ok (.iconst 2, 1) := by decide +kernel
theorem dL_combs_311 : decode cL_combs 311 = .ok (.iload 14, 2) := by decide +kernel
theorem dL_combs_313 : decode cL_combs 313 = .ok (.imul, 1) := by decide +kernel
theorem dL_combs_314 : decode cL_combs 314 = .ok (.aload_n 0, 1) := by decide +kernel
theorem dL_combs_315 : decode cL_combs 315 = .ok (.iload 4, 2) := by decide +kernel
theorem dL_combs_317 : decode cL_combs 317 = .ok (.iload 10, 2) := by decide +kernel
theorem dL_combs_319 : decode cL_combs 319 = .ok (.iload 13, 2) := by decide +kernel
theorem dL_combs_321 : decode cL_combs 321 = .ok (.iadd, 1) := by decide +kernel
theorem dL_combs_322 : decode cL_combs 322 = .ok (.iconst 2, 1) := by decide +kernel
theorem dL_combs_323 : decode cL_combs 323 = .ok (.isub, 1) := by decide +kernel
theorem dL_combs_324 : decode cL_combs 324 = .ok (.invokestatic 22, 3) := by decide +kernel
theorem dL_combs_327 : decode cL_combs 327 = .ok (.isub, 1) := by decide +kernel
theorem dL_combs_328 : decode cL_combs 328 = .ok (.aload_n 0, 1) := by decide +kernel
theorem dL_combs_329 : decode cL_combs 329 = .ok (.iload 4, 2) := by decide +kernel
theorem dL_combs_331 : decode cL_combs 331 = .ok (.iload 10, 2) := by decide +kernel
theorem dL_combs_333 : decode cL_combs 333 = .ok (.iload 13, 2) := by decide +kernel
theorem dL_combs_335 : decode cL_combs 335 = .ok (.iadd, 1) := by decide +kernel
theorem dL_combs_336 : decode cL_combs 336 = .ok (.iconst 2, 1) := by decide +kernel
theorem dL_combs_337 : decode cL_combs 337 = .ok (.iadd, 1) := by decide +kernel
theorem dL_combs_338 : decode cL_combs 338 = .ok (.invokestatic 22, 3) := by decide +kernel
theorem dL_combs_341 : decode cL_combs 341 = .ok (.isub, 1) := by decide +kernel
theorem dL_combs_342 : decode cL_combs 342 = .ok (.goto 45, 3) := by decide +kernel
theorem dL_combs_345 : decode cL_combs 345 = .ok (.iload 8, 2) := by decide +kernel
theorem dL_combs_347 : decode cL_combs 347 = .ok (.iconst 1, 1) := by decide +kernel
theorem dL_combs_348 : decode cL_combs 348 = .ok (.if_icmp .ne 13, 3) := by decide +kernel
theorem dL_combs_351 : decode cL_combs 351 = .ok (.iconst 2, 1) := by decide +kernel
theorem dL_combs_352 : decode cL_combs 352 = .ok (.iload 14, 2) := by decide +kernel
theorem dL_combs_354 : decode cL_combs 354 = .ok (.iload 15, 2) := by decide +kernel
theorem dL_combs_356 : decode cL_combs 356 = .ok (.isub, 1) := by decide +kernel
theorem dL_combs_357 : decode cL_combs 357 = .ok (.imul, 1) := by decide +kernel
theorem dL_combs_358 : decode cL_combs 358 = .ok (.goto 29, 3) := by decide +kernel
theorem dL_combs_361 : decode cL_combs 361 = .ok (.iload 8, 2) := by decide +kernel
theorem dL_combs_363 : decode cL_combs 363 = .ok (.iconst 2, 1) := by decide +kernel
theorem dL_combs_364 : decode cL_combs 364 = .ok (.if_icmp .ne 13, 3) := by decide +kernel
theorem dL_combs_367 : decode cL_combs 367 = .ok (.iconst 2, 1) := by decide +kernel
theorem dL_combs_368 : decode cL_combs 368 = .ok (.iload 14, 2) := by decide +kernel
theorem dL_combs_370 : decode cL_combs 370 = .ok (.iload 16, 2) := by decide +kernel
theorem dL_combs_372 : decode cL_combs 372 = .ok (.isub, 1) := by decide +kernel
theorem dL_combs_373 : decode cL_combs 373 = .ok (.imul, 1) := by decide +kernel
theorem dL_combs_374 : decode cL_combs 374 = .ok (.goto 13, 3) := by decide +kernel
theorem dL_combs_377 : decode cL_combs 377 = .ok (.iconst 2, 1) := by decide +kernel
theorem dL_combs_378 : decode cL_combs 378 = .ok (.iload 14, 2) := by decide +kernel
theorem dL_combs_380 : decode cL_combs 380 = .ok (.imul, 1) := by decide +kernel
theorem dL_combs_381 : decode cL_combs 381 = .ok (.iload 15, 2) := by decide +kernel
theorem dL_combs_383 : decode cL_combs 383 = .ok (.isub, 1) := by decide +kernel
theorem dL_combs_384 : decode cL_combs 384 = .ok (.iload 16, 2) := by decide +kernel
theorem dL_combs_386 : decode cL_combs 386 = .ok (.isub, 1) := by decide +kernel
theorem dL_combs_387 : decode cL_combs 387 = .ok (.istore 17, 2) := by decide +kernel
theorem dL_combs_389 : decode cL_combs 389 = .ok (.iload 9, 2) := by decide +kernel
theorem dL_combs_391 : decode cL_combs 391 = .ok (.iload 17, 2) := by decide +kernel
theorem dL_combs_393 : decode cL_combs 393 = .ok (.isub, 1) := by decide +kernel
theorem dL_combs_394 : decode cL_combs 394 = .ok (.istore 9, 2) := by decide +kernel
theorem dL_combs_396 : decode cL_combs 396 = .ok (.iload 11, 2) := by decide +kernel
theorem dL_combs_398 : decode cL_combs 398 = .ok (.iload 17, 2) := by decide +kernel
theorem dL_combs_400 : decode cL_combs 400 = .ok (.iload 10, 2) := by decide +kernel
theorem dL_combs_402 : decode cL_combs 402 = .ok (.iload 13, 2) := by decide +kernel
theorem dL_combs_404 : decode cL_combs 404 = .ok (.iadd, 1) := by decide +kernel
theorem dL_combs_405 : decode cL_combs 405 = .ok (.iconst 2, 1) := by decide +kernel
theorem dL_combs_406 : decode cL_combs 406 = .ok (.iload 4, 2) := by decide +kernel
theorem dL_combs_408 : decode cL_combs 408 = .ok (.imul, 1) := by decide +kernel
theorem dL_combs_409 : decode cL_combs 409 = .ok (.iadd, 1) := by decide +kernel
theorem dL_combs_410 : decode cL_combs 410 = .ok (.invokestatic 15, 3) := by decide +kernel
theorem dL_combs_413 : decode cL_combs 413 = .ok (.imul, 1) := by decide +kernel
theorem dL_combs_414 : decode cL_combs 414 = .ok (.iadd, 1) := by decide +kernel
theorem dL_combs_415 : decode cL_combs 415 = .ok (.istore 11, 2) := by decide +kernel
theorem dL_combs_417 : decode cL_combs 417 = .ok (.iload 12, 2) := by decide +kernel
theorem dL_combs_419 : decode cL_combs 419 = .ok (.iload 17, 2) := by decide +kernel
theorem dL_combs_421 : decode cL_combs 421 = .ok (.iload 10, 2) := by decide +kernel
theorem dL_combs_423 : decode cL_combs 423 = .ok (.iload 13, 2) := by decide +kernel
theorem dL_combs_425 : decode cL_combs 425 = .ok (.iadd, 1) := by decide +kernel
theorem dL_combs_426 : decode cL_combs 426 = .ok (.iconst 2, 1) := by decide +kernel
theorem dL_combs_427 : decode cL_combs 427 = .ok (.iload 4, 2) := by decide +kernel
theorem dL_combs_429 : decode cL_combs 429 = .ok (.imul, 1) := by decide +kernel
theorem dL_combs_430 : decode cL_combs 430 = .ok (.iadd, 1) := by decide +kernel
theorem dL_combs_431 : decode cL_combs 431 = .ok (.invokestatic 29, 3) := by decide +kernel
theorem dL_combs_434 : decode cL_combs 434 = .ok (.imul, 1) := by decide +kernel
theorem dL_combs_435 : decode cL_combs 435 = .ok (.iadd, 1) := by decide +kernel
theorem dL_combs_436 : decode cL_combs 436 = .ok (.istore 12, 2) := by decide +kernel
theorem dL_combs_438 : decode cL_combs 438 = .ok (.iinc 13 1, 3) := by decide +kernel
theorem dL_combs_441 : decode cL_combs 441 = .ok (.goto (-228), 3) := by decide +kernel
theorem dL_combs_444 : decode cL_combs 444 = .ok (.aload_n 3, 1) := by decide +kernel
theorem dL_combs_445 : decode cL_combs 445 = .ok (.iload 8, 2) := by decide +kernel
theorem dL_combs_447 : decode cL_combs 447 = .ok (.dup2, 1) := by decide +kernel
theorem dL_combs_448 : decode cL_combs 448 = .ok (.iaload, 1) := by decide +kernel
theorem dL_combs_449 : decode cL_combs 449 = .ok (.iconst 1, 1) := by decide +kernel
theorem dL_combs_450 : decode cL_combs 450 = .ok (.iadd, 1) := by decide +kernel
theorem dL_combs_451 : decode cL_combs 451 = .ok (.iastore, 1) := by decide +kernel
theorem dL_combs_452 : decode cL_combs 452 = .ok (.aload_n 0, 1) := by decide +kernel
theorem dL_combs_453 : decode cL_combs 453 = .ok (.iload 4, 2) := by decide +kernel
theorem dL_combs_455 : decode cL_combs 455 = .ok (.bipush 6, 2) := by decide +kernel
theorem dL_combs_457 : decode cL_combs 457 = .ok (.invokevirtual 38, 3) := by decide +kernel
theorem dL_combs_460 : decode cL_combs 460 = .ok (.ifCond .eq 13, 3) := by decide +kernel
theorem dL_combs_463 : decode cL_combs 463 = .ok (.iload 11, 2) := by decide +kernel
theorem dL_combs_465 : decode cL_combs 465 = .ok (.ifCond .ne 12, 3) := by decide +kernel
theorem dL_combs_468 : decode cL_combs 468 = .ok (.iload 12, 2) := by decide +kernel
theorem dL_combs_470 : decode cL_combs 470 = .ok (.ifCond .ne 7, 3) := by decide +kernel
theorem dL_combs_473 : decode cL_combs 473 = .ok (.iconst 1, 1) := by decide +kernel
theorem dL_combs_474 : decode cL_combs 474 = .ok (.goto 4, 3) := by decide +kernel
theorem dL_combs_477 : decode cL_combs 477 = .ok (.iconst 0, 1) := by decide +kernel
theorem dL_combs_478 : decode cL_combs 478 = .ok (.istore 13, 2) := by decide +kernel
theorem dL_combs_480 : decode cL_combs 480 = .ok (.iload_n 1, 1) := by decide +kernel
theorem dL_combs_481 : decode cL_combs 481 = .ok (.ifCond .eq 8, 3) := by decide +kernel
theorem dL_combs_484 : decode cL_combs 484 = .ok (.iload 4, 2) := by decide +kernel
theorem dL_combs_486 : decode cL_combs 486 = .ok (.ifCond .ne 7, 3) := by decide +kernel
theorem dL_combs_489 : decode cL_combs 489 = .ok (.iconst 1, 1) := by decide +kernel
theorem dL_combs_490 : decode cL_combs 490 = .ok (.goto 4, 3) := by decide +kernel
theorem dL_combs_493 : decode cL_combs 493 = .ok (.iconst 0, 1) := by decide +kernel
theorem dL_combs_494 : decode cL_combs 494 = .ok (.istore 14, 2) := by decide +kernel
theorem dL_combs_496 : decode cL_combs 496 = .ok (.aload_n 0, 1) := by decide +kernel
theorem dL_combs_497 : decode cL_combs 497 = .ok (.iload 4, 2) := by decide +kernel
theorem dL_combs_499 : decode cL_combs 499 = .ok (.iload 5, 2) := by decide +kernel
theorem dL_combs_501 : decode cL_combs 501 = .ok (.invokevirtual 49, 3) := by decide +kernel
theorem dL_combs_504 : decode cL_combs 504 = .ok (.iload 8, 2) := by decide +kernel
theorem dL_combs_506 : decode cL_combs 506 = .ok (.if_icmp .ne 55, 3) := by decide +kernel
theorem dL_combs_509 : decode cL_combs 509 = .ok (.aload_n 0, 1) := by decide +kernel
theorem dL_combs_510 : decode cL_combs 510 = .ok (.iload 4, 2) := by decide +kernel
theorem dL_combs_512 : decode cL_combs 512 = .ok (.iload 5, 2) := by decide +kernel
theorem dL_combs_514 : decode cL_combs 514 = .ok (.invokevirtual 52, 3) := by decide +kernel
theorem dL_combs_517 : decode cL_combs 517 = .ok (.iload 9, 2) := by decide +kernel
theorem dL_combs_519 : decode cL_combs 519 = .ok (.bipush 32, 2) := by decide +kernel
theorem dL_combs_521 : decode cL_combs 521 = .ok (.invokestatic 26, 3) := by decide +kernel
theorem dL_combs_524 : decode cL_combs 524 = .ok (.if_icmp .ne 37, 3) := by decide +kernel
theorem dL_combs_527 : decode cL_combs 527 = .ok (.iload 14, 2) := by decide +kernel
theorem dL_combs_529 : decode cL_combs 529 = .ok (.ifCond .eq 34, 3) := by decide +kernel
theorem dL_combs_532 : decode cL_combs 532 = .ok (.iload 13, 2) := by decide +kernel
theorem dL_combs_534 : decode cL_combs 534 = .ok (.ifCond .eq 29, 3) := by decide +kernel
theorem dL_combs_537 : decode cL_combs 537 = .ok (.aload_n 0, 1) := by decide +kernel
theorem dL_combs_538 : decode cL_combs 538 = .ok (.iload 4, 2) := by decide +kernel
theorem dL_combs_540 : decode cL_combs 540 = .ok (.iload 5, 2) := by decide +kernel
theorem dL_combs_542 : decode cL_combs 542 = .ok (.iconst 0, 1) := by decide +kernel
theorem dL_combs_543 : decode cL_combs 543 = .ok (.invokevirtual 55, 3) := by decide +kernel
theorem dL_combs_546 : decode cL_combs 546 = .ok (.ifCond .ne 15, 3) := by decide +kernel
theorem dL_combs_549 : decode cL_combs 549 = .ok (.aload_n 0, 1) := by decide +kernel
theorem dL_combs_550 : decode cL_combs 550 = .ok (.iload 4, 2) := by decide +kernel
theorem dL_combs_552 : decode cL_combs 552 = .ok (.iload 5, 2) := by decide +kernel
theorem dL_combs_554 : decode cL_combs 554 = .ok (.iconst 1, 1) := by decide +kernel
theorem dL_combs_555 : decode cL_combs 555 = .ok (.invokevirtual 55, 3) := by decide +kernel
theorem dL_combs_558 : decode cL_combs 558 = .ok (.ifCond .eq 5, 3) := by decide +kernel
theorem dL_combs_561 : decode cL_combs 561 = .ok (.iconst 0, 1) := by decide +kernel
theorem dL_combs_562 : decode cL_combs 562 = .ok (.ireturn, 1) := by decide +kernel
theorem dL_combs_563 : decode cL_combs 563 = .ok (.iinc 5 1, 3) := by decide +kernel
theorem dL_combs_566 : decode cL_combs 566 = .ok (.goto (-517), 3) := by decide +kernel
theorem dL_combs_569 : decode cL_combs 569 = .ok (.iinc 4 1, 3) := by decide +kernel
theorem dL_combs_572 : decode cL_combs 572 = .ok (.goto (-533), 3) := by decide +kernel
theorem dL_combs_575 : decode cL_combs 575 = .ok (.aload_n 0, 1) := by decide +kernel
theorem dL_combs_576 : decode cL_combs 576 = .ok (.bipush 9, 2) := by decide +kernel
theorem dL_combs_578 : decode cL_combs 578 = .ok (.invokevirtual 35, 3) := by decide +kernel
theorem dL_combs_581 : decode cL_combs 581 = .ok (.aload_n 3, 1) := by decide +kernel
theorem dL_combs_582 : decode cL_combs 582 = .ok (.iconst 0, 1) := by decide +kernel
theorem dL_combs_583 : decode cL_combs 583 = .ok (.iaload, 1) := by decide +kernel
theorem dL_combs_584 : decode cL_combs 584 = .ok (.if_icmp .ne 43, 3) := by decide +kernel
theorem dL_combs_587 : decode cL_combs 587 = .ok (.aload_n 0, 1) := by decide +kernel
theorem dL_combs_588 : decode cL_combs 588 = .ok (.bipush 10, 2) := by decide +kernel
theorem dL_combs_590 : decode cL_combs 590 = .ok (.invokevirtual 35, 3) := by decide +kernel
theorem dL_combs_593 : decode cL_combs 593 = .ok (.aload_n 3, 1) := by decide +kernel
theorem dL_combs_594 : decode cL_combs 594 = .ok (.iconst 1, 1) := by decide +kernel
theorem dL_combs_595 : decode cL_combs 595 = .ok (.iaload, 1) := by decide +kernel
theorem dL_combs_596 : decode cL_combs 596 = .ok (.if_icmp .ne 31, 3) := by decide +kernel
theorem dL_combs_599 : decode cL_combs 599 = .ok (.aload_n 0, 1) := by decide +kernel
theorem dL_combs_600 : decode cL_combs 600 = .ok (.bipush 11, 2) := by decide +kernel
theorem dL_combs_602 : decode cL_combs 602 = .ok (.invokevirtual 35, 3) := by decide +kernel
theorem dL_combs_605 : decode cL_combs 605 = .ok (.aload_n 3, 1) := by decide +kernel
theorem dL_combs_606 : decode cL_combs 606 = .ok (.iconst 2, 1) := by decide +kernel
theorem dL_combs_607 : decode cL_combs 607 = .ok (.iaload, 1) := by decide +kernel
theorem dL_combs_608 : decode cL_combs 608 = .ok (.if_icmp .ne 19, 3) := by decide +kernel
theorem dL_combs_611 : decode cL_combs 611 = .ok (.aload_n 0, 1) := by decide +kernel
theorem dL_combs_612 : decode cL_combs 612 = .ok (.bipush 12, 2) := by decide +kernel
theorem dL_combs_614 : decode cL_combs 614 = .ok (.invokevirtual 35, 3) := by decide +kernel
theorem dL_combs_617 : decode cL_combs 617 = .ok (.aload_n 3, 1) := by decide +kernel
theorem dL_combs_618 : decode cL_combs 618 = .ok (.iconst 3, 1) := by decide +kernel
theorem dL_combs_619 : decode cL_combs 619 = .ok (.iaload, 1) := by decide +kernel
theorem dL_combs_620 : decode cL_combs 620 = .ok (.if_icmp .ne 7, 3) := by decide +kernel
theorem dL_combs_623 : decode cL_combs 623 = .ok (.iconst 1, 1) := by decide +kernel
theorem dL_combs_624 : decode cL_combs 624 = .ok (.goto 4, 3) := by decide +kernel
theorem dL_combs_627 : decode cL_combs 627 = .ok (.iconst 0, 1) := by decide +kernel
theorem dL_combs_628 : decode cL_combs 628 = .ok (.ireturn, 1) := by decide +kernel
theorem dL_motion_0 : decode cL_motion 0 = .ok (.lconst 0, 1) := by decide +kernel
theorem dL_motion_1 : decode cL_motion 1 = .ok (.lstore 4, 2) := by decide +kernel
theorem dL_motion_3 : decode cL_motion 3 = .ok (.lconst 0, 1) := by decide +kernel
theorem dL_motion_4 : decode cL_motion 4 = .ok (.lstore 6, 2) := by decide +kernel
theorem dL_motion_6 : decode cL_motion 6 = .ok (.iconst 0, 1) := by decide +kernel
theorem dL_motion_7 : decode cL_motion 7 = .ok (.istore 8, 2) := by decide +kernel
theorem dL_motion_9 : decode cL_motion 9 = .ok (.iload 8, 2) := by decide +kernel
theorem dL_motion_11 : decode cL_motion 11 = .ok (.bipush 40, 2) := by decide +kernel
theorem dL_motion_13 : decode cL_motion 13 = .ok (.if_icmp .ge 89, 3) := by decide +kernel
theorem dL_motion_16 : decode cL_motion 16 = .ok (.lload 4, 2) := by decide +kernel
theorem dL_motion_18 : decode cL_motion 18 = .ok (.aload_n 1, 1) := by decide +kernel
theorem dL_motion_19 : decode cL_motion 19 = .ok (.iload 8, 2) := by decide +kernel
theorem dL_motion_21 : decode cL_motion 21 = .ok (.iaload, 1) := by decide +kernel
theorem dL_motion_22 : decode cL_motion 22 = .ok (.aload_n 0, 1) := by decide +kernel
theorem dL_motion_23 : decode cL_motion 23 = .ok (.iload 8, 2) := by decide +kernel
theorem dL_motion_25 : decode cL_motion 25 = .ok (.bipush 10, 2) := by decide +kernel
theorem dL_motion_27 : decode cL_motion 27 = .ok (.idiv, 1) := by decide +kernel
theorem dL_motion_28 : decode cL_motion 28 = .ok (.iload 8, 2) := by decide +kernel
theorem dL_motion_30 : decode cL_motion 30 = .ok (.bipush 10, 2) := by decide +kernel
theorem dL_motion_32 : decode cL_motion 32 = .ok (.irem, 1) := by decide +kernel
theorem dL_motion_33 : decode cL_motion 33 = .ok (.invokevirtual 52, 3) := by decide +kernel
theorem dL_motion_36 : decode cL_motion 36 = .ok (.isub, 1) := by decide +kernel
theorem dL_motion_37 : decode cL_motion 37 = .ok (.invokestatic 32, 3) := by decide +kernel
theorem dL_motion_40 : decode cL_motion 40 = .ok (.iload_n 3, 1) := by decide +kernel
theorem dL_motion_41 : decode cL_motion 41 = .ok (.if_icmp .le 10, 3) := by decide +kernel
theorem dL_motion_44 : decode cL_motion 44 = .ok (.lconst 1, 1) := by decide +kernel
theorem dL_motion_45 : decode cL_motion 45 = .ok (.iload 8, 2) := by decide +kernel
theorem dL_motion_47 : decode cL_motion 47 = .ok (.lshl, 1) := by decide +kernel
theorem dL_motion_48 : decode cL_motion 48 = .ok (.goto 4, 3) := by decide +kernel
theorem dL_motion_51 : decode cL_motion 51 = .ok (.lconst 0, 1) := by decide +kernel
theorem dL_motion_52 : decode cL_motion 52 = .ok (.lor, 1) := by decide +kernel
theorem dL_motion_53 : decode cL_motion 53 = .ok (.lstore 4, 2) := by decide +kernel
theorem dL_motion_55 : decode cL_motion 55 = .ok (.lload 6, 2) := by decide +kernel
theorem dL_motion_57 : decode cL_motion 57 = .ok (.aload_n 2, 1) := by decide +kernel
theorem dL_motion_58 : decode cL_motion 58 = .ok (.iload 8, 2) := by decide +kernel
theorem dL_motion_60 : decode cL_motion 60 = .ok (.iaload, 1) := by decide +kernel
theorem dL_motion_61 : decode cL_motion 61 = .ok (.aload_n 0, 1) := by decide +kernel
theorem dL_motion_62 : decode cL_motion 62 = .ok (.iconst 4, 1) := by decide +kernel
theorem dL_motion_63 : decode cL_motion 63 = .ok (.iload 8, 2) := by decide +kernel
theorem dL_motion_65 : decode cL_motion 65 = .ok (.bipush 10, 2) := by decide +kernel
theorem dL_motion_67 : decode cL_motion 67 = .ok (.idiv, 1) := by decide +kernel
theorem dL_motion_68 : decode cL_motion 68 = .ok (.iadd, 1) := by decide +kernel
theorem dL_motion_69 : decode cL_motion 69 = .ok (.iload 8, 2) := by decide +kernel
theorem dL_motion_71 : decode cL_motion 71 = .ok (.bipush 10, 2) := by decide +kernel
theorem dL_motion_73 : decode cL_motion 73 = .ok (.irem, 1) := by decide +kernel
theorem dL_motion_74 : decode cL_motion 74 = .ok (.invokevirtual 52, 3) := by decide +kernel
theorem dL_motion_77 : decode cL_motion 77 = .ok (.isub, 1) := by decide +kernel
theorem dL_motion_78 : decode cL_motion 78 = .ok (.invokestatic 32, 3) := by decide +kernel
theorem dL_motion_81 : decode cL_motion 81 = .ok (.iload_n 3, 1) := by decide +kernel
theorem dL_motion_82 : decode cL_motion 82 = .ok (.if_icmp .le 10, 3) := by decide +kernel
theorem dL_motion_85 : decode cL_motion 85 = .ok (.lconst 1, 1) := by decide +kernel
theorem dL_motion_86 : decode cL_motion 86 = .ok (.iload 8, 2) := by decide +kernel
theorem dL_motion_88 : decode cL_motion 88 = .ok (.lshl, 1) := by decide +kernel
theorem dL_motion_89 : decode cL_motion 89 = .ok (.goto 4, 3) := by decide +kernel
theorem dL_motion_92 : decode cL_motion 92 = .ok (.lconst 0, 1) := by decide +kernel
theorem dL_motion_93 : decode cL_motion 93 = .ok (.lor, 1) := by decide +kernel
theorem dL_motion_94 : decode cL_motion 94 = .ok (.lstore 6, 2) := by decide +kernel
theorem dL_motion_96 : decode cL_motion 96 = .ok (.iinc 8 1, 3) := by decide +kernel
theorem dL_motion_99 : decode cL_motion 99 = .ok (.goto (-90), 3) := by decide +kernel
theorem dL_motion_102 : decode cL_motion 102 = .ok (.iconst 0, 1) := by decide +kernel
theorem dL_motion_103 : decode cL_motion 103 = .ok (.istore 8, 2) := by decide +kernel
theorem dL_motion_105 : decode cL_motion 105 = .ok (.iconst 0, 1) := by decide +kernel
theorem dL_motion_106 : decode cL_motion 106 = .ok (.istore 9, 2) := by decide +kernel
theorem dL_motion_108 : decode cL_motion 108 = .ok (.iconst 0, 1) := by decide +kernel
theorem dL_motion_109 : decode cL_motion 109 = .ok (.istore 10, 2) := by decide +kernel
theorem dL_motion_111 : decode cL_motion 111 = .ok (.iload 10, 2) := by decide +kernel
theorem dL_motion_113 : decode cL_motion 113 = .ok (.bipush 80, 2) := by decide +kernel
theorem dL_motion_115 : decode cL_motion 115 = .ok (.if_icmp .ge 177, 3) := by decide +kernel
theorem dL_motion_118 : decode cL_motion 118 = .ok (.lload 4, 2) := by decide +kernel
theorem dL_motion_120 : decode cL_motion 120 = .ok (.lload 6, 2) := by decide +kernel
theorem dL_motion_122 : decode cL_motion 122 = .ok (.iload 10, 2) := by decide +kernel
theorem dL_motion_124 : decode cL_motion 124 = .ok (.invokestatic 59, 3) := by decide +kernel
theorem dL_motion_127 : decode cL_motion 127 = .ok (.istore 11, 2) := by decide +kernel
theorem dL_motion_129 : decode cL_motion 129 = .ok (.iload 10, 2) := by decide +kernel
theorem dL_motion_131 : decode cL_motion 131 = .ok (.bipush 10, 2) := by decide +kernel
theorem dL_motion_133 : decode cL_motion 133 = .ok (.irem, 1) := by decide +kernel
theorem dL_motion_134 : decode cL_motion 134 = .ok (.ifCond .le 17, 3) := by decide +kernel
theorem dL_motion_137 : decode cL_motion 137 = .ok (.lload 4, 2) := by decide +kernel
theorem dL_motion_139 : decode cL_motion 139 = .ok (.lload 6, 2) := by decide +kernel
theorem dL_motion_141 : decode cL_motion 141 = .ok (.iload 10, 2) := by decide +kernel
theorem dL_motion_143 : decode cL_motion 143 = .ok (.iconst 1, 1) := by decide +kernel
theorem dL_motion_144 : decode cL_motion 144 = .ok (.isub, 1) := by decide +kernel
theorem dL_motion_145 : decode cL_motion 145 = .ok (.invokestatic 59, 3) := by decide +kernel
theorem dL_motion_148 : decode cL_motion 148 = .ok (.ifCond .ne 57, 3) := by decide +kernel
theorem dL_motion_151 : decode cL_motion 151 = .ok (.iload 10, 2) := by decide +kernel
theorem dL_motion_153 : decode cL_motion 153 = .ok (.bipush 10, 2) := by decide +kernel
theorem dL_motion_155 : decode cL_motion 155 = .ok (.irem, 1) := by decide +kernel
theorem dL_motion_156 : decode cL_motion 156 = .ok (.bipush 9, 2) := by decide +kernel
theorem dL_motion_158 : decode cL_motion 158 = .ok (.if_icmp .ge 17, 3) := by decide +kernel
theorem dL_motion_161 : decode cL_motion 161 = .ok (.lload 4, 2) := by decide +kernel
theorem dL_motion_163 : decode cL_motion 163 = .ok (.lload 6, 2) := by decide +kernel
theorem dL_motion_165 : decode cL_motion 165 = .ok (.iload 10, 2) := by decide +kernel
theorem dL_motion_167 : decode cL_motion 167 = .ok (.iconst 1, 1) := by decide +kernel
theorem dL_motion_168 : decode cL_motion 168 = .ok (.iadd, 1) := by decide +kernel
theorem dL_motion_169 : decode cL_motion 169 = .ok (.invokestatic 59, 3) := by decide +kernel
theorem dL_motion_172 : decode cL_motion 172 = .ok (.ifCond .ne 33, 3) := by decide +kernel
theorem dL_motion_175 : decode cL_motion 175 = .ok (.lload 4, 2) := by decide +kernel
theorem dL_motion_177 : decode cL_motion 177 = .ok (.lload 6, 2) := by decide +kernel
theorem dL_motion_179 : decode cL_motion 179 = .ok (.iload 10, 2) := by decide +kernel
theorem dL_motion_181 : decode cL_motion 181 = .ok (.bipush 10, 2) := by decide +kernel
theorem dL_motion_183 : decode cL_motion 183 = .ok (.isub, 1) := by decide +kernel
theorem dL_motion_184 : decode cL_motion 184 = .ok (.invokestatic 59, 3) := by decide +kernel
theorem dL_motion_187 : decode cL_motion 187 = .ok (.ifCond .ne 18, 3) := by decide +kernel
theorem dL_motion_190 : decode cL_motion 190 = .ok (.lload 4, 2) := by decide +kernel
theorem dL_motion_192 : decode cL_motion 192 = .ok (.lload 6, 2) := by decide +kernel
theorem dL_motion_194 : decode cL_motion 194 = .ok (.iload 10, 2) := by decide +kernel
theorem dL_motion_196 : decode cL_motion 196 = .ok (.bipush 10, 2) := by decide +kernel
theorem dL_motion_198 : decode cL_motion 198 = .ok (.iadd, 1) := by decide +kernel
theorem dL_motion_199 : decode cL_motion 199 = .ok (.invokestatic 59, 3) := by decide +kernel
theorem dL_motion_202 : decode cL_motion 202 = .ok (.ifCond .eq 7, 3) := by decide +kernel
theorem dL_motion_205 : decode cL_motion 205 = .ok (.iconst 1, 1) := by decide +kernel
theorem dL_motion_206 : decode cL_motion 206 = .ok (.goto 4, 3) := by decide +kernel
theorem dL_motion_209 : decode cL_motion 209 = .ok (.iconst 0, 1) := by decide +kernel
theorem dL_motion_210 : decode cL_motion 210 = .ok (.istore 12, 2) := by decide +kernel
theorem dL_motion_212 : decode cL_motion 212 = .ok (.iload 11, 2) := by decide +kernel
theorem dL_motion_214 : decode cL_motion 214 = .ok (.ifCond .ne 7, 3) := by decide +kernel
theorem dL_motion_217 : decode cL_motion 217 = .ok (.iconst 0, 1) := by decide +kernel
theorem dL_motion_218 : decode cL_motion 218 = .ok (.goto 13, 3) := by decide +kernel
theorem dL_motion_221 : decode cL_motion 221 = .ok (.iload 12, 2) := by decide +kernel
theorem dL_motion_223 : decode cL_motion 223 = .ok (.ifCond .eq 7, 3) := by decide +kernel
theorem dL_motion_226 : decode cL_motion 226 = .ok (.iconst 2, 1) := by decide +kernel
theorem dL_motion_227 : decode cL_motion 227 = .ok (.goto 4, 3) := by decide +kernel
theorem dL_motion_230 : decode cL_motion 230 = .ok (.iconst 1, 1) := by decide +kernel
theorem dL_motion_231 : decode cL_motion 231 = .ok (.istore 13, 2) := by decide +kernel
theorem dL_motion_233 : decode cL_motion 233 = .ok (.iload 8, 2) := by decide +kernel
theorem dL_motion_235 : decode cL_motion 235 = .ok (.iload 13, 2) := by decide +kernel
theorem dL_motion_237 : decode cL_motion 237 = .ok (.iconst 2, 1) := by decide +kernel
theorem dL_motion_238 : decode cL_motion 238 = .ok (.if_icmp .ne 7, 3) := by decide +kernel
theorem dL_motion_241 : decode cL_motion 241 = .ok (.iconst 1, 1) := by decide +kernel
theorem dL_motion_242 : decode cL_motion 242 = .ok (.goto 4, 3) := by decide +kernel
theorem dL_motion_245 : decode cL_motion 245 = .ok (.iconst 0, 1) := by decide +kernel
theorem dL_motion_246 : decode cL_motion 246 = .ok (.iadd, 1) := by decide +kernel
theorem dL_motion_247 : decode cL_motion 247 = .ok (.istore 8, 2) := by decide +kernel
theorem dL_motion_249 : decode cL_motion 249 = .ok (.iload 9, 2) := by decide +kernel
theorem dL_motion_251 : decode cL_motion 251 = .ok (.iload 13, 2) := by decide +kernel
theorem dL_motion_253 : decode cL_motion 253 = .ok (.iconst 1, 1) := by decide +kernel
theorem dL_motion_254 : decode cL_motion 254 = .ok (.if_icmp .ne 7, 3) := by decide +kernel
theorem dL_motion_257 : decode cL_motion 257 = .ok (.iconst 1, 1) := by decide +kernel
theorem dL_motion_258 : decode cL_motion 258 = .ok (.goto 4, 3) := by decide +kernel
theorem dL_motion_261 : decode cL_motion 261 = .ok (.iconst 0, 1) := by decide +kernel
theorem dL_motion_262 : decode cL_motion 262 = .ok (.iadd, 1) := by decide +kernel
theorem dL_motion_263 : decode cL_motion 263 = .ok (.istore 9, 2) := by decide +kernel
theorem dL_motion_265 : decode cL_motion 265 = .ok (.aload_n 0, 1) := by decide +kernel
theorem dL_motion_266 : decode cL_motion 266 = .ok (.iload 10, 2) := by decide +kernel
theorem dL_motion_268 : decode cL_motion 268 = .ok (.bipush 10, 2) := by decide +kernel
theorem dL_motion_270 : decode cL_motion 270 = .ok (.idiv, 1) := by decide +kernel
theorem dL_motion_271 : decode cL_motion 271 = .ok (.iload 10, 2) := by decide +kernel
theorem dL_motion_273 : decode cL_motion 273 = .ok (.bipush 10, 2) := by decide +kernel
theorem dL_motion_275 : decode cL_motion 275 = .ok (.irem, 1) := by decide +kernel
theorem dL_motion_276 : decode cL_motion 276 = .ok (.invokevirtual 63, 3) := by decide +kernel
theorem dL_motion_279 : decode cL_motion 279 = .ok (.iload 13, 2) := by decide +kernel
theorem dL_motion_281 : decode cL_motion 281 = .ok (.if_icmp .eq 5, 3) := by decide +kernel
theorem dL_motion_284 : decode cL_motion 284 = .ok (.iconst 0, 1) := by decide +kernel
theorem dL_motion_285 : decode cL_motion 285 = .ok (.ireturn, 1) := by decide +kernel
theorem dL_motion_286 : decode cL_motion 286 = .ok (.iinc 10 1, 3) := by decide +kernel
theorem dL_motion_289 : decode cL_motion 289 = .ok (.goto (-178), 3) := by decide +kernel
theorem dL_motion_292 : decode cL_motion 292 = .ok (.aload_n 0, 1) := by decide +kernel
theorem dL_motion_293 : decode cL_motion 293 = .ok (.bipush 7, 2) := by decide +kernel
theorem dL_motion_295 : decode cL_motion 295 = .ok (.invokevirtual 35, 3) := by decide +kernel
theorem dL_motion_298 : decode cL_motion 298 = .ok (.iload 8, 2) := by decide +kernel
theorem dL_motion_300 : decode cL_motion 300 = .ok (.if_icmp .ne 18, 3) := by decide +kernel
theorem dL_motion_303 : decode cL_motion 303 = .ok (.aload_n 0, 1) := by decide +kernel
theorem dL_motion_304 : decode cL_motion 304 = .ok (.bipush 8, 2) := by decide +kernel
theorem dL_motion_306 : decode cL_motion 306 = .ok (.invokevirtual 35, 3) := by decide +kernel
theorem dL_motion_309 : decode cL_motion 309 = .ok (.iload 9, 2) := by decide +kernel
theorem dL_motion_311 : decode cL_motion 311 = .ok (.if_icmp .ne 7, 3) := by decide +kernel
theorem dL_motion_314 : decode cL_motion 314 = .ok (.iconst 1, 1) := by decide +kernel
theorem dL_motion_315 : decode cL_motion 315 = .ok (.goto 4, 3) := by decide +kernel
theorem dL_motion_318 : decode cL_motion 318 = .ok (.iconst 0, 1) := by decide +kernel
theorem dL_motion_319 : decode cL_motion 319 = .ok (.ireturn, 1) := by decide +kernel
theorem dL_is_0 : decode cL_is 0 = .ok (.iload 4, 2) := by decide +kernel
theorem dL_is_2 : decode cL_is 2 = .ok (.ifCond .lt 42, 3) := by decide +kernel
theorem dL_is_5 : decode cL_is 5 = .ok (.iload 4, 2) := by decide +kernel
theorem dL_is_7 : decode cL_is 7 = .ok (.bipush 80, 2) := by decide +kernel
theorem dL_is_9 : decode cL_is 9 = .ok (.if_icmp .ge 35, 3) := by decide +kernel
theorem dL_is_12 : decode cL_is 12 = .ok (.iload 4, 2) := by decide +kernel
theorem dL_is_14 : decode cL_is 14 = .ok (.bipush 40, 2) := by decide +kernel
theorem dL_is_16 : decode cL_is 16 = .ok (.if_icmp .ge 10, 3) := by decide +kernel
theorem dL_is_19 : decode cL_is 19 = .ok (.lload_n 0, 1) := by decide +kernel
theorem dL_is_20 : decode cL_is 20 = .ok (.iload 4, 2) := by decide +kernel
theorem dL_is_22 : decode cL_is 22 = .ok (.lshr, 1) := by decide +kernel
theorem dL_is_23 : decode cL_is 23 = .ok (.goto 10, 3) := by decide +kernel
theorem dL_is_26 : decode cL_is 26 = .ok (.lload_n 2, 1) := by decide +kernel
theorem dL_is_27 : decode cL_is 27 = .ok (.iload 4, 2) := by decide +kernel
theorem dL_is_29 : decode cL_is 29 = .ok (.bipush 40, 2) := by decide +kernel
theorem dL_is_31 : decode cL_is 31 = .ok (.isub, 1) := by decide +kernel
theorem dL_is_32 : decode cL_is 32 = .ok (.lshr, 1) := by decide +kernel
theorem dL_is_33 : decode cL_is 33 = .ok (.lconst 1, 1) := by decide +kernel
theorem dL_is_34 : decode cL_is 34 = .ok (.land, 1) := by decide +kernel
theorem dL_is_35 : decode cL_is 35 = .ok (.lconst 1, 1) := by decide +kernel
theorem dL_is_36 : decode cL_is 36 = .ok (.lcmp, 1) := by decide +kernel
theorem dL_is_37 : decode cL_is 37 = .ok (.ifCond .ne 7, 3) := by decide +kernel
theorem dL_is_40 : decode cL_is 40 = .ok (.iconst 1, 1) := by decide +kernel
theorem dL_is_41 : decode cL_is 41 = .ok (.goto 4, 3) := by decide +kernel
theorem dL_is_44 : decode cL_is 44 = .ok (.iconst 0, 1) := by decide +kernel
theorem dL_is_45 : decode cL_is 45 = .ok (.ireturn, 1) := by decide +kernel
theorem dL_keep_0 : decode cL_keep 0 = .ok (.iconst 0, 1) := by decide +kernel
theorem dL_keep_1 : decode cL_keep 1 = .ok (.istore_n 3, 1) := by decide +kernel
theorem dL_keep_2 : decode cL_keep 2 = .ok (.iload_n 3, 1) := by decide +kernel
theorem dL_keep_3 : decode cL_keep 3 = .ok (.bipush 40, 2) := by decide +kernel
theorem dL_keep_5 : decode cL_keep 5 = .ok (.if_icmp .ge 41, 3) := by decide +kernel
theorem dL_keep_8 : decode cL_keep 8 = .ok (.aload_n 1, 1) := by decide +kernel
theorem dL_keep_9 : decode cL_keep 9 = .ok (.iload_n 3, 1) := by decide +kernel
theorem dL_keep_10 : decode cL_keep 10 = .ok (.aload_n 0, 1) := by decide +kernel
theorem dL_keep_11 : decode cL_keep 11 = .ok (.iload_n 3, 1) := by decide +kernel
theorem dL_keep_12 : decode cL_keep 12 = .ok (.bipush 10, 2) := by decide +kernel
theorem dL_keep_14 : decode cL_keep 14 = .ok (.idiv, 1) := by decide +kernel
theorem dL_keep_15 : decode cL_keep 15 = .ok (.iload_n 3, 1) := by decide +kernel
theorem dL_keep_16 : decode cL_keep 16 = .ok (.bipush 10, 2) := by decide +kernel
theorem dL_keep_18 : decode cL_keep 18 = .ok (.irem, 1) := by decide +kernel
theorem dL_keep_19 : decode cL_keep 19 = .ok (.invokevirtual 52, 3) := by decide +kernel
theorem dL_keep_22 : decode cL_keep 22 = .ok (.iastore, 1) := by decide +kernel
theorem dL_keep_23 : decode cL_keep 23 = .ok (.aload_n 2, 1) := by decide +kernel
theorem dL_keep_24 : decode cL_keep 24 = .ok (.iload_n 3, 1) := by decide +kernel
theorem dL_keep_25 : decode cL_keep 25 = .ok (.aload_n 0, 1) := by decide +kernel
theorem dL_keep_26 : decode cL_keep 26 = .ok (.iconst 4, 1) := by decide +kernel
theorem dL_keep_27 : decode cL_keep 27 = .ok (.iload_n 3, 1) := by decide +kernel
theorem dL_keep_28 : decode cL_keep 28 = .ok (.bipush 10, 2) := by decide +kernel
theorem dL_keep_30 : decode cL_keep 30 = .ok (.idiv, 1) := by decide +kernel
theorem dL_keep_31 : decode cL_keep 31 = .ok (.iadd, 1) := by decide +kernel
theorem dL_keep_32 : decode cL_keep 32 = .ok (.iload_n 3, 1) := by decide +kernel
theorem dL_keep_33 : decode cL_keep 33 = .ok (.bipush 10, 2) := by decide +kernel
theorem dL_keep_35 : decode cL_keep 35 = .ok (.irem, 1) := by decide +kernel
theorem dL_keep_36 : decode cL_keep 36 = .ok (.invokevirtual 52, 3) := by decide +kernel
theorem dL_keep_39 : decode cL_keep 39 = .ok (.iastore, 1) := by decide +kernel
theorem dL_keep_40 : decode cL_keep 40 = .ok (.iinc 3 1, 3) := by decide +kernel
theorem dL_keep_43 : decode cL_keep 43 = .ok (.goto (-41), 3) := by decide +kernel
theorem dL_keep_46 : decode cL_keep 46 = .ok (.return_, 1) := by decide +kernel
theorem dL_bars_0 : decode cL_bars 0 = .ok (.aload_n 0, 1) := by decide +kernel
theorem dL_bars_1 : decode cL_bars 1 = .ok (.invokevirtual 66, 3) := by decide +kernel
theorem dL_bars_4 : decode cL_bars 4 = .ok (.pop, 1) := by decide +kernel
theorem dL_bars_5 : decode cL_bars 5 = .ok (.aload_n 0, 1) := by decide +kernel
theorem dL_bars_6 : decode cL_bars 6 = .ok (.iload_n 1, 1) := by decide +kernel
theorem dL_bars_7 : decode cL_bars 7 = .ok (.invokevirtual 70, 3) := by decide +kernel
theorem dL_bars_10 : decode cL_bars 10 = .ok (.bipush (-100), 2) := by decide +kernel
theorem dL_bars_12 : decode cL_bars 12 = .ok (.if_icmp .ne 14, 3) := by decide +kernel
theorem dL_bars_15 : decode cL_bars 15 = .ok (.aload_n 0, 1) := by decide +kernel
theorem dL_bars_16 : decode cL_bars 16 = .ok (.bipush 8, 2) := by decide +kernel
theorem dL_bars_18 : decode cL_bars 18 = .ok (.invokevirtual 70, 3) := by decide +kernel
theorem dL_bars_21 : decode cL_bars 21 = .ok (.ldc 73, 2) := by decide +kernel
theorem dL_bars_23 : decode cL_bars 23 = .ok (.if_icmp .eq 5, 3) := by decide +kernel
theorem dL_bars_26 : decode cL_bars 26 = .ok (.iconst 0, 1) := by decide +kernel
theorem dL_bars_27 : decode cL_bars 27 = .ok (.ireturn, 1) := by decide +kernel
theorem dL_bars_28 : decode cL_bars 28 = .ok (.iconst 1, 1) := by decide +kernel
theorem dL_bars_29 : decode cL_bars 29 = .ok (.iload_n 2, 1) := by decide +kernel
theorem dL_bars_30 : decode cL_bars 30 = .ok (.bipush 9, 2) := by decide +kernel
theorem dL_bars_32 : decode cL_bars 32 = .ok (.invokestatic 74, 3) := by decide +kernel
theorem dL_bars_35 : decode cL_bars 35 = .ok (.iadd, 1) := by decide +kernel
theorem dL_bars_36 : decode cL_bars 36 = .ok (.istore 4, 2) := by decide +kernel
theorem dL_bars_38 : decode cL_bars 38 = .ok (.aload_n 0, 1) := by decide +kernel
theorem dL_bars_39 : decode cL_bars 39 = .ok (.bipush 114, 2) := by decide +kernel
theorem dL_bars_41 : decode cL_bars 41 = .ok (.invokevirtual 77, 3) := by decide +kernel
theorem dL_bars_44 : decode cL_bars 44 = .ok (.pop, 1) := by decide +kernel
theorem dL_bars_45 : decode cL_bars 45 = .ok (.aload_n 0, 1) := by decide +kernel
theorem dL_bars_46 : decode cL_bars 46 = .ok (.bipush 48, 2) := by decide +kernel
theorem dL_bars_48 : decode cL_bars 48 = .ok (.iload 4, 2) := by decide +kernel
theorem dL_bars_50 : decode cL_bars 50 = .ok (.iadd, 1) := by decide +kernel
theorem dL_bars_51 : decode cL_bars 51 = .ok (.i2c, 1) := by decide +kernel
theorem dL_bars_52 : decode cL_bars 52 = .ok (.invokevirtual 77, 3) := by decide +kernel
theorem dL_bars_55 : decode cL_bars 55 = .ok (.pop, 1) := by decide +kernel
theorem dL_bars_56 : decode cL_bars 56 = .ok (.iload 4, 2) := by decide +kernel
theorem dL_bars_58 : decode cL_bars 58 = .ok (.bipush 10, 2) := by decide +kernel
theorem dL_bars_60 : decode cL_bars 60 = .ok (.if_icmp .ge 17, 3) := by decide +kernel
theorem dL_bars_63 : decode cL_bars 63 = .ok (.aload_n 0, 1) := by decide +kernel
theorem dL_bars_64 : decode cL_bars 64 = .ok (.iload_n 1, 1) := by decide +kernel
theorem dL_bars_65 : decode cL_bars 65 = .ok (.invokevirtual 70, 3) := by decide +kernel
theorem dL_bars_68 : decode cL_bars 68 = .ok (.bipush (-102), 2) := by decide +kernel
theorem dL_bars_70 : decode cL_bars 70 = .ok (.if_icmp .ne 7, 3) := by decide +kernel
theorem dL_bars_73 : decode cL_bars 73 = .ok (.iconst 1, 1) := by decide +kernel
theorem dL_bars_74 : decode cL_bars 74 = .ok (.goto 4, 3) := by decide +kernel
theorem dL_bars_77 : decode cL_bars 77 = .ok (.iconst 0, 1) := by decide +kernel
theorem dL_bars_78 : decode cL_bars 78 = .ok (.istore 5, 2) := by decide +kernel
theorem dL_bars_80 : decode cL_bars 80 = .ok (.aload_n 0, 1) := by decide +kernel
theorem dL_bars_81 : decode cL_bars 81 = .ok (.bipush 121, 2) := by decide +kernel
theorem dL_bars_83 : decode cL_bars 83 = .ok (.invokevirtual 77, 3) := by decide +kernel
theorem dL_bars_86 : decode cL_bars 86 = .ok (.pop, 1) := by decide +kernel
theorem dL_bars_87 : decode cL_bars 87 = .ok (.iconst 3, 1) := by decide +kernel
theorem dL_bars_88 : decode cL_bars 88 = .ok (.istore 6, 2) := by decide +kernel
theorem dL_bars_90 : decode cL_bars 90 = .ok (.bipush 10, 2) := by decide +kernel
theorem dL_bars_92 : decode cL_bars 92 = .ok (.iload 4, 2) := by decide +kernel
theorem dL_bars_94 : decode cL_bars 94 = .ok (.isub, 1) := by decide +kernel
theorem dL_bars_95 : decode cL_bars 95 = .ok (.iconst 1, 1) := by decide +kernel
theorem dL_bars_96 : decode cL_bars 96 = .ok (.if_icmp .le 17, 3) := by decide +kernel
theorem dL_bars_99 : decode cL_bars 99 = .ok (.aload_n 0, 1) := by decide +kernel
theorem dL_bars_100 : decode cL_bars 100 = .ok (.bipush 58, 2) := by decide +kernel
theorem dL_bars_102 : decode cL_bars 102 = .ok (.iload 4, 2) := by decide +kernel
theorem dL_bars_104 : decode cL_bars 104 = .ok (.isub, 1) := by decide +kernel
theorem dL_bars_105 : decode cL_bars 105 = .ok (.i2c, 1) := by decide +kernel
theorem dL_bars_106 : decode cL_bars 106 = .ok (.invokevirtual 77, 3) := by decide +kernel
theorem dL_bars_109 : decode cL_bars 109 = .ok (.pop, 1) := by decide +kernel
theorem dL_bars_110 : decode cL_bars 110 = .ok (.iconst 4, 1) := by decide +kernel
theorem dL_bars_111 : decode cL_bars 111 = .ok (.istore 6, 2) := by decide +kernel
theorem dL_bars_113 : decode cL_bars 113 = .ok (.iload 5, 2) := by decide +kernel
theorem dL_bars_115 : decode cL_bars 115 = .ok (.ifCond .eq 12, 3) := by decide +kernel
theorem dL_bars_118 : decode cL_bars 118 = .ok (.aload_n 0, 1) := by decide +kernel
theorem dL_bars_119 : decode cL_bars 119 = .ok (.iload_n 1, 1) := by decide +kernel
theorem dL_bars_120 : decode cL_bars 120 = .ok (.invokevirtual 70, 3) := by decide +kernel
theorem dL_bars_123 : decode cL_bars 123 = .ok (.iconst 2, 1) := by decide +kernel
theorem dL_bars_124 : decode cL_bars 124 = .ok (.if_icmp .eq 5, 3) := by decide +kernel
theorem dL_bars_127 : decode cL_bars 127 = .ok (.iconst 0, 1) := by decide +kernel
theorem dL_bars_128 : decode cL_bars 128 = .ok (.ireturn, 1) := by decide +kernel
theorem dL_bars_129 : decode cL_bars 129 = .ok (.aload_n 0, 1) := by decide +kernel
theorem dL_bars_130 : decode cL_bars 130 = .ok (.bipush 98, 2) := by decide +kernel
theorem dL_bars_132 : decode cL_bars 132 = .ok (.invokevirtual 77, 3) := by decide +kernel
theorem dL_bars_135 : decode cL_bars 135 = .ok (.pop, 1) := by decide +kernel
theorem dL_bars_136 : decode cL_bars 136 = .ok (.aload_n 0, 1) := by decide +kernel
theorem dL_bars_137 : decode cL_bars 137 = .ok (.iload_n 1, 1) := by decide +kernel
theorem dL_bars_138 : decode cL_bars 138 = .ok (.invokevirtual 70, 3) := by decide +kernel
theorem dL_bars_141 : decode cL_bars 141 = .ok (.bipush (-100), 2) := by decide +kernel
theorem dL_bars_143 : decode cL_bars 143 = .ok (.iload 6, 2) := by decide +kernel
theorem dL_bars_145 : decode cL_bars 145 = .ok (.isub, 1) := by decide +kernel
theorem dL_bars_146 : decode cL_bars 146 = .ok (.if_icmp .ne 7, 3) := by decide +kernel
theorem dL_bars_149 : decode cL_bars 149 = .ok (.iconst 1, 1) := by decide +kernel
theorem dL_bars_150 : decode cL_bars 150 = .ok (.goto 4, 3) := by decide +kernel
theorem dL_bars_153 : decode cL_bars 153 = .ok (.iconst 0, 1) := by decide +kernel
theorem dL_bars_154 : decode cL_bars 154 = .ok (.istore 7, 2) := by decide +kernel
theorem dL_bars_156 : decode cL_bars 156 = .ok (.aload_n 0, 1) := by decide +kernel
theorem dL_bars_157 : decode cL_bars 157 = .ok (.invokevirtual 66, 3) := by decide +kernel
theorem dL_bars_160 : decode cL_bars 160 = .ok (.pop, 1) := by decide +kernel
theorem dL_bars_161 : decode cL_bars 161 = .ok (.aload_n 0, 1) := by decide +kernel
theorem dL_bars_162 : decode cL_bars 162 = .ok (.bipush 107, 2) := by decide +kernel
theorem dL_bars_164 : decode cL_bars 164 = .ok (.invokevirtual 77, 3) := by decide +kernel
theorem dL_bars_167 : decode cL_bars 167 = .ok (.pop, 1) := by decide +kernel
theorem dL_bars_168 : decode cL_bars 168 = .ok (.aload_n 0, 1) := by decide +kernel
theorem dL_bars_169 : decode cL_bars 169 = .ok (.bipush 53, 2) := by decide +kernel
theorem dL_bars_171 : decode cL_bars 171 = .ok (.invokevirtual 77, 3) := by decide +kernel
theorem dL_bars_174 : decode cL_bars 174 = .ok (.pop, 1) := by decide +kernel
theorem dL_bars_175 : decode cL_bars 175 = .ok (.aload_n 0, 1) := by decide +kernel
theorem dL_bars_176 : decode cL_bars 176 = .ok (.bipush 109, 2) := by decide +kernel
theorem dL_bars_178 : decode cL_bars 178 = .ok (.invokevirtual 77, 3) := by decide +kernel
theorem dL_bars_181 : decode cL_bars 181 = .ok (.pop, 1) := by decide +kernel
theorem dL_bars_182 : decode cL_bars 182 = .ok (.aload_n 0, 1) := by decide +kernel
theorem dL_bars_183 : decode cL_bars 183 = .ok (.bipush 54, 2) := by decide +kernel
theorem dL_bars_185 : decode cL_bars 185 = .ok (.invokevirtual 77, 3) := by decide +kernel
theorem dL_bars_188 : decode cL_bars 188 = .ok (.pop, 1) := by decide +kernel
theorem dL_bars_189 : decode cL_bars 189 = .ok (.aload_n 0, 1) := by decide +kernel
theorem dL_bars_190 : decode cL_bars 190 = .ok (.iload_n 1, 1) := by decide +kernel
theorem dL_bars_191 : decode cL_bars 191 = .ok (.invokevirtual 70, 3) := by decide +kernel
theorem dL_bars_194 : decode cL_bars 194 = .ok (.bipush (-103), 2) := by decide +kernel
theorem dL_bars_196 : decode cL_bars 196 = .ok (.if_icmp .ne 7, 3) := by decide +kernel
theorem dL_bars_199 : decode cL_bars 199 = .ok (.iconst 1, 1) := by decide +kernel
theorem dL_bars_200 : decode cL_bars 200 = .ok (.goto 4, 3) := by decide +kernel
theorem dL_bars_203 : decode cL_bars 203 = .ok (.iconst 0, 1) := by decide +kernel
theorem dL_bars_204 : decode cL_bars 204 = .ok (.istore 8, 2) := by decide +kernel
theorem dL_bars_206 : decode cL_bars 206 = .ok (.aload_n 0, 1) := by decide +kernel
theorem dL_bars_207 : decode cL_bars 207 = .ok (.invokevirtual 66, 3) := by decide +kernel
theorem dL_bars_210 : decode cL_bars 210 = .ok (.pop, 1) := by decide +kernel
theorem dL_bars_211 : decode cL_bars 211 = .ok (.aload_n 0, 1) := by decide +kernel
theorem dL_bars_212 : decode cL_bars 212 = .ok (.iload_n 3, 1) := by decide +kernel
theorem dL_bars_213 : decode cL_bars 213 = .ok (.iconst 1, 1) := by decide +kernel
theorem dL_bars_214 : decode cL_bars 214 = .ok (.iand, 1) := by decide +kernel
theorem dL_bars_215 : decode cL_bars 215 = .ok (.ifCond .ne 8, 3) := by decide +kernel
theorem dL_bars_218 : decode cL_bars 218 = .ok (.bipush 51, 2) := by decide +kernel
theorem dL_bars_220 : decode cL_bars 220 = .ok (.goto 5, 3) := by decide +kernel
theorem dL_bars_223 : decode cL_bars 223 = .ok (.bipush 120, 2) := by decide +kernel
theorem dL_bars_225 : decode cL_bars 225 = .ok (.invokevirtual 77, 3) := by decide +kernel
theorem dL_bars_228 : decode cL_bars 228 = .ok (.pop, 1) := by decide +kernel
theorem dL_bars_229 : decode cL_bars 229 = .ok (.iload 7, 2) := by decide +kernel
theorem dL_bars_231 : decode cL_bars 231 = .ok (.ifCond .eq 32, 3) := by decide +kernel
theorem dL_bars_234 : decode cL_bars 234 = .ok (.iload 8, 2) := by decide +kernel
theorem dL_bars_236 : decode cL_bars 236 = .ok (.ifCond .eq 27, 3) := by decide +kernel
theorem dL_bars_239 : decode cL_bars 239 = .ok (.aload_n 0, 1) := by decide +kernel
theorem dL_bars_240 : decode cL_bars 240 = .ok (.iload_n 1, 1) := by decide +kernel
theorem dL_bars_241 : decode cL_bars 241 = .ok (.invokevirtual 70, 3) := by decide +kernel
theorem dL_bars_244 : decode cL_bars 244 = .ok (.bipush (-100), 2) := by decide +kernel
theorem dL_bars_246 : decode cL_bars 246 = .ok (.if_icmp .ne 17, 3) := by decide +kernel
theorem dL_bars_249 : decode cL_bars 249 = .ok (.aload_n 0, 1) := by decide +kernel
theorem dL_bars_250 : decode cL_bars 250 = .ok (.bipush 14, 2) := by decide +kernel
theorem dL_bars_252 : decode cL_bars 252 = .ok (.invokevirtual 35, 3) := by decide +kernel
theorem dL_bars_255 : decode cL_bars 255 = .ok (.iconst 1, 1) := by decide +kernel
theorem dL_bars_256 : decode cL_bars 256 = .ok (.if_icmp .ne 7, 3) := by decide +kernel
theorem dL_bars_259 : decode cL_bars 259 = .ok (.iconst 1, 1) := by decide +kernel
theorem dL_bars_260 : decode cL_bars 260 = .ok (.goto 4, 3) := by decide +kernel
theorem dL_bars_263 : decode cL_bars 263 = .ok (.iconst 0, 1) := by decide +kernel
theorem dL_bars_264 : decode cL_bars 264 = .ok (.ireturn, 1) := by decide +kernel
theorem dL_errors_0 : decode cL_errors 0 = .ok (.ldc 73, 2) := by decide +kernel
theorem dL_errors_2 : decode cL_errors 2 = .ok (.istore_n 1, 1) := by decide +kernel
theorem dL_errors_3 : decode cL_errors 3 = .ok (.ldc 41, 2) := by decide +kernel
theorem dL_errors_5 : decode cL_errors 5 = .ok (.istore_n 2, 1) := by decide +kernel
theorem dL_errors_6 : decode cL_errors 6 = .ok (.aload_n 0, 1) := by decide +kernel
theorem dL_errors_7 : decode cL_errors 7 = .ok (.bipush 8, 2) := by decide +kernel
theorem dL_errors_9 : decode cL_errors 9 = .ok (.iconst 0, 1) := by decide +kernel
theorem dL_errors_10 : decode cL_errors 10 = .ok (.iconst 0, 1) := by decide +kernel
theorem dL_errors_11 : decode cL_errors 11 = .ok (.iconst 0, 1) := by decide +kernel
theorem dL_errors_12 : decode cL_errors 12 = .ok (.iconst 0, 1) := by decide +kernel
theorem dL_errors_13 : decode cL_errors 13 = .ok (.invokevirtual 81, 3) := by decide +kernel
theorem dL_errors_16 : decode cL_errors 16 = .ok (.iload_n 1, 1) := by decide +kernel
theorem dL_errors_17 : decode cL_errors 17 = .ok (.if_icmp .ne 88, 3) := by decide +kernel
theorem dL_errors_20 : decode cL_errors 20 = .ok (.aload_n 0, 1) := by decide +kernel
theorem dL_errors_21 : decode cL_errors 21 = .ok (.iconst 0, 1) := by decide +kernel
theorem dL_errors_22 : decode cL_errors 22 = .ok (.bipush 10, 2) := by decide +kernel
theorem dL_errors_24 : decode cL_errors 24 = .ok (.iconst 0, 1) := by decide +kernel
theorem dL_errors_25 : decode cL_errors 25 = .ok (.iconst 0, 1) := by decide +kernel
theorem dL_errors_26 : decode cL_errors 26 = .ok (.iconst 0, 1) := by decide +kernel
theorem dL_errors_27 : decode cL_errors 27 = .ok (.invokevirtual 81, 3) := by decide +kernel
theorem dL_errors_30 : decode cL_errors 30 = .ok (.iload_n 1, 1) := by decide +kernel
theorem dL_errors_31 : decode cL_errors 31 = .ok (.if_icmp .ne 74, 3) := by decide +kernel
theorem dL_errors_34 : decode cL_errors 34 = .ok (.aload_n 0, 1) := by decide +kernel
theorem dL_errors_35 : decode cL_errors 35 = .ok (.iconst 0, 1) := by decide +kernel
theorem dL_errors_36 : decode cL_errors 36 = .ok (.iconst 0, 1) := by decide +kernel
theorem dL_errors_37 : decode cL_errors 37 = .ok (.sipush 201, 3) := by decide +kernel
theorem dL_errors_40 : decode cL_errors 40 = .ok (.iconst 0, 1) := by decide +kernel
theorem dL_errors_41 : decode cL_errors 41 = .ok (.iconst 0, 1) := by decide +kernel
theorem dL_errors_42 : decode cL_errors 42 = .ok (.invokevirtual 81, 3) := by decide +kernel
theorem dL_errors_45 : decode cL_errors 45 = .ok (.iload_n 2, 1) := by decide +kernel
theorem dL_errors_46 : decode cL_errors 46 = .ok (.if_icmp .ne 59, 3) := by decide +kernel
theorem dL_errors_49 : decode cL_errors 49 = .ok (.aload_n 0, 1) := by decide +kernel
theorem dL_errors_50 : decode cL_errors 50 = .ok (.iconst 0, 1) := by decide +kernel
theorem dL_errors_51 : decode cL_errors 51 = .ok (.iconst 0, 1) := by decide +kernel
theorem dL_errors_52 : decode cL_errors 52 = .ok (.iconst 0, 1) := by decide +kernel
theorem dL_errors_53 : decode cL_errors 53 = .ok (.bipush 61, 2) := by decide +kernel
theorem dL_errors_55 : decode cL_errors 55 = .ok (.iconst 0, 1) := by decide +kernel
theorem dL_errors_56 : decode cL_errors 56 = .ok (.invokevirtual 81, 3) := by decide +kernel
theorem dL_errors_59 : decode cL_errors 59 = .ok (.iload_n 2, 1) := by decide +kernel
theorem dL_errors_60 : decode cL_errors 60 = .ok (.if_icmp .ne 45, 3) := by decide +kernel
theorem dL_errors_63 : decode cL_errors 63 = .ok (.aload_n 0, 1) := by decide +kernel
theorem dL_errors_64 : decode cL_errors 64 = .ok (.iconst 0, 1) := by decide +kernel
theorem dL_errors_65 : decode cL_errors 65 = .ok (.iconst 0, 1) := by decide +kernel
theorem dL_errors_66 : decode cL_errors 66 = .ok (.iconst 0, 1) := by decide +kernel
theorem dL_errors_67 : decode cL_errors 67 = .ok (.iconst 0, 1) := by decide +kernel
theorem dL_errors_68 : decode cL_errors 68 = .ok (.bipush (-61), 2) := by decide +kernel
theorem dL_errors_70 : decode cL_errors 70 = .ok (.invokevirtual 81, 3) := by decide +kernel
theorem dL_errors_73 : decode cL_errors 73 = .ok (.iload_n 2, 1) := by decide +kernel
theorem dL_errors_74 : decode cL_errors 74 = .ok (.if_icmp .ne 31, 3) := by decide +kernel
theorem dL_errors_77 : decode cL_errors 77 = .ok (.aload_n 0, 1) := by decide +kernel
theorem dL_errors_78 : decode cL_errors 78 = .ok (.iconst (-1), 1) := by decide +kernel
theorem dL_errors_79 : decode cL_errors 79 = .ok (.iconst 0, 1) := by decide +kernel
theorem dL_errors_80 : decode cL_errors 80 = .ok (.iconst 0, 1) := by decide +kernel
theorem dL_errors_81 : decode cL_errors 81 = .ok (.iconst 0, 1) := by decide +kernel
theorem dL_errors_82 : decode cL_errors 82 = .ok (.invokevirtual 85, 3) := by decide +kernel
theorem dL_errors_85 : decode cL_errors 85 = .ok (.iload_n 1, 1) := by decide +kernel
theorem dL_errors_86 : decode cL_errors 86 = .ok (.if_icmp .ne 19, 3) := by decide +kernel
theorem dL_errors_89 : decode cL_errors 89 = .ok (.aload_n 0, 1) := by decide +kernel
theorem dL_errors_90 : decode cL_errors 90 = .ok (.iconst 0, 1) := by decide +kernel
theorem dL_errors_91 : decode cL_errors 91 = .ok (.iconst (-1), 1) := by decide +kernel
theorem dL_errors_92 : decode cL_errors 92 = .ok (.iconst 0, 1) := by decide +kernel
theorem dL_errors_93 : decode cL_errors 93 = .ok (.iconst 0, 1) := by decide +kernel
theorem dL_errors_94 : decode cL_errors 94 = .ok (.invokevirtual 85, 3) := by decide +kernel
theorem dL_errors_97 : decode cL_errors 97 = .ok (.iload_n 2, 1) := by decide +kernel
theorem dL_errors_98 : decode cL_errors 98 = .ok (.if_icmp .ne 7, 3) := by decide +kernel
theorem dL_errors_101 : decode cL_errors 101 = .ok (.iconst 1, 1) := by decide +kernel
theorem dL_errors_102 : decode cL_errors 102 = .ok (.goto 4, 3) := by decide +kernel
theorem dL_errors_105 : decode cL_errors 105 = .ok (.iconst 0, 1) := by decide +kernel
theorem dL_errors_106 : decode cL_errors 106 = .ok (.istore_n 3, 1) := by decide +kernel
theorem dL_errors_107 : decode cL_errors 107 = .ok (.iload_n 3, 1) := by decide +kernel
theorem dL_errors_108 : decode cL_errors 108 = .ok (.ifCond .eq 117, 3) := by decide +kernel
theorem dL_errors_111 : decode cL_errors 111 = .ok (.aload_n 0, 1) := by decide +kernel
theorem dL_errors_112 : decode cL_errors 112 = .ok (.bipush 8, 2) := by decide +kernel
theorem dL_errors_114 : decode cL_errors 114 = .ok (.iconst 0, 1) := by decide +kernel
theorem dL_errors_115 : decode cL_errors 115 = .ok (.iconst 0, 1) := by decide +kernel
theorem dL_errors_116 : decode cL_errors 116 = .ok (.iconst 0, 1) := by decide +kernel
theorem dL_errors_117 : decode cL_errors 117 = .ok (.iconst 0, 1) := by decide +kernel
theorem dL_errors_118 : decode cL_errors 118 = .ok (.invokevirtual 89, 3) := by decide +kernel
theorem dL_errors_121 : decode cL_errors 121 = .ok (.iload_n 1, 1) := by decide +kernel
theorem dL_errors_122 : decode cL_errors 122 = .ok (.if_icmp .ne 103, 3) := by decide +kernel
theorem dL_errors_125 : decode cL_errors 125 = .ok (.aload_n 0, 1) := by decide +kernel
theorem dL_errors_126 : decode cL_errors 126 = .ok (.iconst 0, 1) := by decide +kernel
theorem dL_errors_127 : decode cL_errors 127 = .ok (.iconst 5, 1) := by decide +kernel
theorem dL_errors_128 : decode cL_errors 128 = .ok (.iconst 0, 1) := by decide +kernel
theorem dL_errors_129 : decode cL_errors 129 = .ok (.iconst 0, 1) := by decide +kernel
theorem dL_errors_130 : decode cL_errors 130 = .ok (.iconst 0, 1) := by decide +kernel
theorem dL_errors_131 : decode cL_errors 131 = .ok (.invokevirtual 89, 3) := by decide +kernel
theorem dL_errors_134 : decode cL_errors 134 = .ok (.iload_n 2, 1) := by decide +kernel
theorem dL_errors_135 : decode cL_errors 135 = .ok (.if_icmp .ne 90, 3) := by decide +kernel
theorem dL_errors_138 : decode cL_errors 138 = .ok (.aload_n 0, 1) := by decide +kernel
theorem dL_errors_139 : decode cL_errors 139 = .ok (.iconst 0, 1) := by decide +kernel
theorem dL_errors_140 : decode cL_errors 140 = .ok (.iconst 0, 1) := by decide +kernel
theorem dL_errors_141 : decode cL_errors 141 = .ok (.bipush 41, 2) := by decide +kernel
theorem dL_errors_143 : decode cL_errors 143 = .ok (.iconst 0, 1) := by decide +kernel
theorem dL_errors_144 : decode cL_errors 144 = .ok (.iconst 0, 1) := by decide +kernel
theorem dL_errors_145 : decode cL_errors 145 = .ok (.invokevirtual 89, 3) := by decide +kernel
theorem dL_errors_148 : decode cL_errors 148 = .ok (.iload_n 2, 1) := by decide +kernel
theorem dL_errors_149 : decode cL_errors 149 = .ok (.if_icmp .ne 76, 3) := by decide +kernel
theorem dL_errors_152 : decode cL_errors 152 = .ok (.aload_n 0, 1) := by decide +kernel
theorem dL_errors_153 : decode cL_errors 153 = .ok (.iconst 0, 1) := by decide +kernel
theorem dL_errors_154 : decode cL_errors 154 = .ok (.iconst 0, 1) := by decide +kernel
theorem dL_errors_155 : decode cL_errors 155 = .ok (.iconst 0, 1) := by decide +kernel
theorem dL_errors_156 : decode cL_errors 156 = .ok (.iconst 4, 1) := by decide +kernel
theorem dL_errors_157 : decode cL_errors 157 = .ok (.iconst 0, 1) := by decide +kernel
theorem dL_errors_158 : decode cL_errors 158 = .ok (.invokevirtual 89, 3) := by decide +kernel
theorem dL_errors_161 : decode cL_errors 161 = .ok (.iload_n 2, 1) := by decide +kernel
theorem dL_errors_162 : decode cL_errors 162 = .ok (.if_icmp .ne 63, 3) := by decide +kernel
theorem dL_errors_165 : decode cL_errors 165 = .ok (.aload_n 0, 1) := by decide +kernel
theorem dL_errors_166 : decode cL_errors 166 = .ok (.iconst 0, 1) := by decide +kernel
theorem dL_errors_167 : decode cL_errors 167 = .ok (.iconst 0, 1) := by decide +kernel
theorem dL_errors_168 : decode cL_errors 168 = .ok (.iconst 0, 1) := by decide +kernel
theorem dL_errors_169 : decode cL_errors 169 = .ok (.iconst 0, 1) := by decide +kernel
theorem dL_errors_170 : decode cL_errors 170 = .ok (.bipush 10, 2) := by decide +kernel
theorem dL_errors_172 : decode cL_errors 172 = .ok (.invokevirtual 89, 3) := by decide +kernel
theorem dL_errors_175 : decode cL_errors 175 = .ok (.iload_n 2, 1) := by decide +kernel
theorem dL_errors_176 : decode cL_errors 176 = .ok (.if_icmp .ne 49, 3) := by decide +kernel
theorem dL_errors_179 : decode cL_errors 179 = .ok (.aload_n 0, 1) := by decide +kernel
theorem dL_errors_180 : decode cL_errors 180 = .ok (.bipush 8, 2) := by decide +kernel
theorem dL_errors_182 : decode cL_errors 182 = .ok (.iconst 1, 1) := by decide +kernel
theorem dL_errors_183 : decode cL_errors 183 = .ok (.invokevirtual 92, 3) := by decide +kernel
theorem dL_errors_186 : decode cL_errors 186 = .ok (.iload_n 1, 1) := by decide +kernel
theorem dL_errors_187 : decode cL_errors 187 = .ok (.if_icmp .ne 38, 3) := by decide +kernel
theorem dL_errors_190 : decode cL_errors 190 = .ok (.aload_n 0, 1) := by decide +kernel
theorem dL_errors_191 : decode cL_errors 191 = .ok (.iconst 2, 1) := by decide +kernel
theorem dL_errors_192 : decode cL_errors 192 = .ok (.invokevirtual 96, 3) := by decide +kernel
theorem dL_errors_195 : decode cL_errors 195 = .ok (.iload_n 2, 1) := by decide +kernel
theorem dL_errors_196 : decode cL_errors 196 = .ok (.if_icmp .ne 29, 3) := by decide +kernel
theorem dL_errors_199 : decode cL_errors 199 = .ok (.aload_n 0, 1) := by decide +kernel
theorem dL_errors_200 : decode cL_errors 200 = .ok (.bipush 8, 2) := by decide +kernel
theorem dL_errors_202 : decode cL_errors 202 = .ok (.iconst 0, 1) := by decide +kernel
theorem dL_errors_203 : decode cL_errors 203 = .ok (.invokevirtual 9, 3) := by decide +kernel
theorem dL_errors_206 : decode cL_errors 206 = .ok (.iload_n 1, 1) := by decide +kernel
theorem dL_errors_207 : decode cL_errors 207 = .ok (.if_icmp .ne 18, 3) := by decide +kernel
theorem dL_errors_210 : decode cL_errors 210 = .ok (.aload_n 0, 1) := by decide +kernel
theorem dL_errors_211 : decode cL_errors 211 = .ok (.iconst 0, 1) := by decide +kernel
theorem dL_errors_212 : decode cL_errors 212 = .ok (.bipush 112, 2) := by decide +kernel
theorem dL_errors_214 : decode cL_errors 214 = .ok (.invokevirtual 9, 3) := by decide +kernel
theorem dL_errors_217 : decode cL_errors 217 = .ok (.iload_n 2, 1) := by decide +kernel
theorem dL_errors_218 : decode cL_errors 218 = .ok (.if_icmp .ne 7, 3) := by decide +kernel
theorem dL_errors_221 : decode cL_errors 221 = .ok (.iconst 1, 1) := by decide +kernel
theorem dL_errors_222 : decode cL_errors 222 = .ok (.goto 4, 3) := by decide +kernel
theorem dL_errors_225 : decode cL_errors 225 = .ok (.iconst 0, 1) := by decide +kernel
theorem dL_errors_226 : decode cL_errors 226 = .ok (.istore_n 3, 1) := by decide +kernel
theorem dL_errors_227 : decode cL_errors 227 = .ok (.iload_n 3, 1) := by decide +kernel
theorem dL_errors_228 : decode cL_errors 228 = .ok (.ifCond .eq 101, 3) := by decide +kernel
theorem dL_errors_231 : decode cL_errors 231 = .ok (.aload_n 0, 1) := by decide +kernel
theorem dL_errors_232 : decode cL_errors 232 = .ok (.iconst 4, 1) := by decide +kernel
theorem dL_errors_233 : decode cL_errors 233 = .ok (.iconst 0, 1) := by decide +kernel
theorem dL_errors_234 : decode cL_errors 234 = .ok (.invokevirtual 99, 3) := by decide +kernel
theorem dL_errors_237 : decode cL_errors 237 = .ok (.iload_n 1, 1) := by decide +kernel
theorem dL_errors_238 : decode cL_errors 238 = .ok (.if_icmp .ne 91, 3) := by decide +kernel
theorem dL_errors_241 : decode cL_errors 241 = .ok (.aload_n 0, 1) := by decide +kernel
theorem dL_errors_242 : decode cL_errors 242 = .ok (.iconst 0, 1) := by decide +kernel
theorem dL_errors_243 : decode cL_errors 243 = .ok (.iconst 0, 1) := by decide +kernel
theorem dL_errors_244 : decode cL_errors 244 = .ok (.invokevirtual 99, 3) := by decide +kernel
theorem dL_errors_247 : decode cL_errors 247 = .ok (.iload_n 2, 1) := by decide +kernel
theorem dL_errors_248 : decode cL_errors 248 = .ok (.if_icmp .ne 81, 3) := by decide +kernel
theorem dL_errors_251 : decode cL_errors 251 = .ok (.aload_n 0, 1) := by decide +kernel
theorem dL_errors_252 : decode cL_errors 252 = .ok (.iconst 0, 1) := by decide +kernel
theorem dL_errors_253 : decode cL_errors 253 = .ok (.bipush 41, 2) := by decide +kernel
theorem dL_errors_255 : decode cL_errors 255 = .ok (.invokevirtual 99, 3) := by decide +kernel
theorem dL_errors_258 : decode cL_errors 258 = .ok (.iload_n 2, 1) := by decide +kernel
theorem dL_errors_259 : decode cL_errors 259 = .ok (.if_icmp .ne 70, 3) := by decide +kernel
theorem dL_errors_262 : decode cL_errors 262 = .ok (.aload_n 0, 1) := by decide +kernel
theorem dL_errors_263 : decode cL_errors 263 = .ok (.iconst 1, 1) := by decide +kernel
theorem dL_errors_264 : decode cL_errors 264 = .ok (.bipush 101, 2) := by decide +kernel
theorem dL_errors_266 : decode cL_errors 266 = .ok (.invokevirtual 99, 3) := by decide +kernel
theorem dL_errors_269 : decode cL_errors 269 = .ok (.iload_n 2, 1) := by decide +kernel
theorem dL_errors_270 : decode cL_errors 270 = .ok (.if_icmp .ne 59, 3) := by decide +kernel
theorem dL_errors_273 : decode cL_errors 273 = .ok (.aload_n 0, 1) := by decide +kernel
theorem dL_errors_274 : decode cL_errors 274 = .ok (.iconst 2, 1) := by decide +kernel
theorem dL_errors_275 : decode cL_errors 275 = .ok (.iconst 4, 1) := by decide +kernel
theorem dL_errors_276 : decode cL_errors 276 = .ok (.invokevirtual 99, 3) := by decide +kernel
theorem dL_errors_279 : decode cL_errors 279 = .ok (.iload_n 2, 1) := by decide +kernel
theorem dL_errors_280 : decode cL_errors 280 = .ok (.if_icmp .ne 49, 3) := by decide +kernel
theorem dL_errors_283 : decode cL_errors 283 = .ok (.aload_n 0, 1) := by decide +kernel
theorem dL_errors_284 : decode cL_errors 284 = .ok (.iconst 3, 1) := by decide +kernel
theorem dL_errors_285 : decode cL_errors 285 = .ok (.iconst 3, 1) := by decide +kernel
theorem dL_errors_286 : decode cL_errors 286 = .ok (.invokevirtual 99, 3) := by decide +kernel
theorem dL_errors_289 : decode cL_errors 289 = .ok (.iload_n 2, 1) := by decide +kernel
theorem dL_errors_290 : decode cL_errors 290 = .ok (.if_icmp .ne 39, 3) := by decide +kernel
theorem dL_errors_293 : decode cL_errors 293 = .ok (.aload_n 0, 1) := by decide +kernel
theorem dL_errors_294 : decode cL_errors 294 = .ok (.bipush 8, 2) := by decide +kernel
theorem dL_errors_296 : decode cL_errors 296 = .ok (.iconst 0, 1) := by decide +kernel
theorem dL_errors_297 : decode cL_errors 297 = .ok (.invokevirtual 38, 3) := by decide +kernel
theorem dL_errors_300 : decode cL_errors 300 = .ok (.iload_n 1, 1) := by decide +kernel
theorem dL_errors_301 : decode cL_errors 301 = .ok (.if_icmp .ne 28, 3) := by decide +kernel
theorem dL_errors_304 : decode cL_errors 304 = .ok (.aload_n 0, 1) := by decide +kernel
theorem dL_errors_305 : decode cL_errors 305 = .ok (.iconst 0, 1) := by decide +kernel
theorem dL_errors_306 : decode cL_errors 306 = .ok (.bipush 10, 2) := by decide +kernel
theorem dL_errors_308 : decode cL_errors 308 = .ok (.invokevirtual 52, 3) := by decide +kernel
theorem dL_errors_311 : decode cL_errors 311 = .ok (.iload_n 1, 1) := by decide +kernel
theorem dL_errors_312 : decode cL_errors 312 = .ok (.if_icmp .ne 17, 3) := by decide +kernel
theorem dL_errors_315 : decode cL_errors 315 = .ok (.aload_n 0, 1) := by decide +kernel
theorem dL_errors_316 : decode cL_errors 316 = .ok (.iconst (-1), 1) := by decide +kernel
theorem dL_errors_317 : decode cL_errors 317 = .ok (.iconst 0, 1) := by decide +kernel
theorem dL_errors_318 : decode cL_errors 318 = .ok (.invokevirtual 49, 3) := by decide +kernel
theorem dL_errors_321 : decode cL_errors 321 = .ok (.iload_n 1, 1) := by decide +kernel
theorem dL_errors_322 : decode cL_errors 322 = .ok (.if_icmp .ne 7, 3) := by decide +kernel
theorem dL_errors_325 : decode cL_errors 325 = .ok (.iconst 1, 1) := by decide +kernel
theorem dL_errors_326 : decode cL_errors 326 = .ok (.goto 4, 3) := by decide +kernel
theorem dL_errors_329 : decode cL_errors 329 = .ok (.iconst 0, 1) := by decide +kernel
theorem dL_errors_330 : decode cL_errors 330 = .ok (.istore_n 3, 1) := by decide +kernel
theorem dL_errors_331 : decode cL_errors 331 = .ok (.iload_n 3, 1) := by decide +kernel
theorem dL_errors_332 : decode cL_errors 332 = .ok (.ifCond .eq 51, 3) := by decide +kernel
theorem dL_errors_335 : decode cL_errors 335 = .ok (.aload_n 0, 1) := by decide +kernel
theorem dL_errors_336 : decode cL_errors 336 = .ok (.iconst 0, 1) := by decide +kernel
theorem dL_errors_337 : decode cL_errors 337 = .ok (.bipush 10, 2) := by decide +kernel
theorem dL_errors_339 : decode cL_errors 339 = .ok (.iconst 0, 1) := by decide +kernel
theorem dL_errors_340 : decode cL_errors 340 = .ok (.invokevirtual 55, 3) := by decide +kernel
theorem dL_errors_343 : decode cL_errors 343 = .ok (.iload_n 1, 1) := by decide +kernel
theorem dL_errors_344 : decode cL_errors 344 = .ok (.if_icmp .ne 39, 3) := by decide +kernel
theorem dL_errors_347 : decode cL_errors 347 = .ok (.aload_n 0, 1) := by decide +kernel
theorem dL_errors_348 : decode cL_errors 348 = .ok (.iconst 0, 1) := by decide +kernel
theorem dL_errors_349 : decode cL_errors 349 = .ok (.iconst 0, 1) := by decide +kernel
theorem dL_errors_350 : decode cL_errors 350 = .ok (.iconst 2, 1) := by decide +kernel
theorem dL_errors_351 : decode cL_errors 351 = .ok (.invokevirtual 55, 3) := by decide +kernel
theorem dL_errors_354 : decode cL_errors 354 = .ok (.iload_n 2, 1) := by decide +kernel
theorem dL_errors_355 : decode cL_errors 355 = .ok (.if_icmp .ne 28, 3) := by decide +kernel
theorem dL_errors_358 : decode cL_errors 358 = .ok (.aload_n 0, 1) := by decide +kernel
theorem dL_errors_359 : decode cL_errors 359 = .ok (.bipush 8, 2) := by decide +kernel
theorem dL_errors_361 : decode cL_errors 361 = .ok (.iconst 0, 1) := by decide +kernel
theorem dL_errors_362 : decode cL_errors 362 = .ok (.invokevirtual 63, 3) := by decide +kernel
theorem dL_errors_365 : decode cL_errors 365 = .ok (.iload_n 1, 1) := by decide +kernel
theorem dL_errors_366 : decode cL_errors 366 = .ok (.if_icmp .ne 17, 3) := by decide +kernel
theorem dL_errors_369 : decode cL_errors 369 = .ok (.aload_n 0, 1) := by decide +kernel
theorem dL_errors_370 : decode cL_errors 370 = .ok (.bipush 19, 2) := by decide +kernel
theorem dL_errors_372 : decode cL_errors 372 = .ok (.invokevirtual 35, 3) := by decide +kernel
theorem dL_errors_375 : decode cL_errors 375 = .ok (.iload_n 2, 1) := by decide +kernel
theorem dL_errors_376 : decode cL_errors 376 = .ok (.if_icmp .ne 7, 3) := by decide +kernel
theorem dL_errors_379 : decode cL_errors 379 = .ok (.iconst 1, 1) := by decide +kernel
theorem dL_errors_380 : decode cL_errors 380 = .ok (.goto 4, 3) := by decide +kernel
theorem dL_errors_383 : decode cL_errors 383 = .ok (.iconst 0, 1) := by decide +kernel
theorem dL_errors_384 : decode cL_errors 384 = .ok (.ireturn, 1) := by decide +kernel
theorem dL_law_0 : decode cL_law 0 = .ok (.new 10, 3) := by decide +kernel
theorem dL_law_3 : decode cL_law 3 = .ok (.dup, 1) := by decide +kernel
theorem dL_law_4 : decode cL_law 4 = .ok (.invokespecial 102, 3) := by decide +kernel
theorem dL_law_7 : decode cL_law 7 = .ok (.astore_n 1, 1) := by decide +kernel
theorem dL_law_8 : decode cL_law 8 = .ok (.bipush 40, 2) := by decide +kernel
theorem dL_law_10 : decode cL_law 10 = .ok (.newarray .int, 2) := by decide +kernel
theorem dL_law_12 : decode cL_law 12 = .ok (.astore_n 2, 1) := by decide +kernel
theorem dL_law_13 : decode cL_law 13 = .ok (.bipush 40, 2) := by decide +kernel
theorem dL_law_15 : decode cL_law 15 = .ok (.newarray .int, 2) := by decide +kernel
theorem dL_law_17 : decode cL_law 17 = .ok (.astore_n 3, 1) := by decide +kernel
theorem dL_law_18 : decode cL_law 18 = .ok (.aload_n 1, 1) := by decide +kernel
theorem dL_law_19 : decode cL_law 19 = .ok (.iconst 0, 1) := by decide +kernel
theorem dL_law_20 : decode cL_law 20 = .ok (.iconst 0, 1) := by decide +kernel
theorem dL_law_21 : decode cL_law 21 = .ok (.invokevirtual 38, 3) := by decide +kernel
theorem dL_law_24 : decode cL_law 24 = .ok (.ldc 21, 2) := by decide +kernel
theorem dL_law_26 : decode cL_law 26 = .ok (.if_icmp .ne 65, 3) := by decide +kernel
theorem dL_law_29 : decode cL_law 29 = .ok (.aload_n 1, 1) := by decide +kernel
theorem dL_law_30 : decode cL_law 30 = .ok (.iconst 0, 1) := by decide +kernel
theorem dL_law_31 : decode cL_law 31 = .ok (.iconst 0, 1) := by decide +kernel
theorem dL_law_32 : decode cL_law 32 = .ok (.invokevirtual 52, 3) := by decide +kernel
theorem dL_law_35 : decode cL_law 35 = .ok (.ldc 21, 2) := by decide +kernel
theorem dL_law_37 : decode cL_law 37 = .ok (.if_icmp .ne 54, 3) := by decide +kernel
theorem dL_law_40 : decode cL_law 40 = .ok (.aload_n 1, 1) := by decide +kernel
theorem dL_law_41 : decode cL_law 41 = .ok (.iconst 0, 1) := by decide +kernel
theorem dL_law_42 : decode cL_law 42 = .ok (.iconst 0, 1) := by decide +kernel
theorem dL_law_43 : decode cL_law 43 = .ok (.invokevirtual 49, 3) := by decide +kernel
theorem dL_law_46 : decode cL_law 46 = .ok (.ldc 21, 2) := by decide +kernel
theorem dL_law_48 : decode cL_law 48 = .ok (.if_icmp .ne 43, 3) := by decide +kernel
theorem dL_law_51 : decode cL_law 51 = .ok (.aload_n 1, 1) := by decide +kernel
theorem dL_law_52 : decode cL_law 52 = .ok (.iconst 0, 1) := by decide +kernel
theorem dL_law_53 : decode cL_law 53 = .ok (.iconst 0, 1) := by decide +kernel
theorem dL_law_54 : decode cL_law 54 = .ok (.invokevirtual 63, 3) := by decide +kernel
theorem dL_law_57 : decode cL_law 57 = .ok (.ldc 21, 2) := by decide +kernel
theorem dL_law_59 : decode cL_law 59 = .ok (.if_icmp .ne 32, 3) := by decide +kernel
theorem dL_law_62 : decode cL_law 62 = .ok (.aload_n 1, 1) := by decide +kernel
theorem dL_law_63 : decode cL_law 63 = .ok (.iconst 1, 1) := by decide +kernel
theorem dL_law_64 : decode cL_law 64 = .ok (.invokevirtual 35, 3) := by decide +kernel
theorem dL_law_67 : decode cL_law 67 = .ok (.ldc 21, 2) := by decide +kernel
theorem dL_law_69 : decode cL_law 69 = .ok (.if_icmp .ne 22, 3) := by decide +kernel
theorem dL_law_72 : decode cL_law 72 = .ok (.aload_n 1, 1) := by decide +kernel
theorem dL_law_73 : decode cL_law 73 = .ok (.bipush 8, 2) := by decide +kernel
theorem dL_law_75 : decode cL_law 75 = .ok (.invokevirtual 35, 3) := by decide +kernel
theorem dL_law_78 : decode cL_law 78 = .ok (.ldc 21, 2) := by decide +kernel
theorem dL_law_80 : decode cL_law 80 = .ok (.if_icmp .ne 11, 3) := by decide +kernel
theorem dL_law_83 : decode cL_law 83 = .ok (.aload_n 1, 1) := by decide +kernel
theorem dL_law_84 : decode cL_law 84 = .ok (.iconst 0, 1) := by decide +kernel
theorem dL_law_85 : decode cL_law 85 = .ok (.invokevirtual 35, 3) := by decide +kernel
theorem dL_law_88 : decode cL_law 88 = .ok (.ifCond .eq 5, 3) := by decide +kernel
theorem dL_law_91 : decode cL_law 91 = .ok (.iconst 0, 1) := by decide +kernel
theorem dL_law_92 : decode cL_law 92 = .ok (.ireturn, 1) := by decide +kernel
theorem dL_law_93 : decode cL_law 93 = .ok (.iconst 0, 1) := by decide +kernel
theorem dL_law_94 : decode cL_law 94 = .ok (.istore 4, 2) := by decide +kernel
theorem dL_law_96 : decode cL_law 96 = .ok (.iconst 0, 1) := by decide +kernel
theorem dL_law_97 : decode cL_law 97 = .ok (.istore 5, 2) := by decide +kernel
theorem dL_law_99 : decode cL_law 99 = .ok (.iload 5, 2) := by decide +kernel
theorem dL_law_101 : decode cL_law 101 = .ok (.bipush 40, 2) := by decide +kernel
theorem dL_law_103 : decode cL_law 103 = .ok (.if_icmp .ge 562, 3) := by decide +kernel
theorem dL_law_106 : decode cL_law 106 = .ok (.aload_n 0, 1) := by decide +kernel
theorem dL_law_107 : decode cL_law 107 = .ok (.iconst 2, 1) := by decide +kernel
theorem dL_law_108 : decode cL_law 108 = .ok (.iload 5, 2) := by decide +kernel
theorem dL_law_110 : decode cL_law 110 = .ok (.imul, 1) := by decide +kernel
theorem dL_law_111 : decode cL_law 111 = .ok (.invokestatic 103, 3) := by decide +kernel
theorem dL_law_114 : decode cL_law 114 = .ok (.istore 6, 2) := by decide +kernel
theorem dL_law_116 : decode cL_law 116 = .ok (.aload_n 0, 1) := by decide +kernel
theorem dL_law_117 : decode cL_law 117 = .ok (.iconst 2, 1) := by decide +kernel
theorem dL_law_118 : decode cL_law 118 = .ok (.iload 5, 2) := by decide +kernel
theorem dL_law_120 : decode cL_law 120 = .ok (.imul, 1) := by decide +kernel
theorem dL_law_121 : decode cL_law 121 = .ok (.iconst 1, 1) := by decide +kernel
theorem dL_law_122 : decode cL_law 122 = .ok (.iadd, 1) := by decide +kernel
theorem dL_law_123 : decode cL_law 123 = .ok (.invokestatic 103, 3) := by decide +kernel
theorem dL_law_126 : decode cL_law 126 = .ok (.istore 7, 2) := by decide +kernel
theorem dL_law_128 : decode cL_law 128 = .ok (.iload 6, 2) := by decide +kernel
theorem dL_law_130 : decode cL_law 130 = .ok (.bipush 12, 2) := by decide +kernel
theorem dL_law_132 : decode cL_law 132 = .ok (.invokestatic 74, 3) := by decide +kernel
theorem dL_law_135 : decode cL_law 135 = .ok (.istore 8, 2) := by decide +kernel
theorem dL_law_137 : decode cL_law 137 = .ok (.iload 6, 2) := by decide +kernel
theorem dL_law_139 : decode cL_law 139 = .ok (.iconst 4, 1) := by decide +kernel
theorem dL_law_140 : decode cL_law 140 = .ok (.ishr, 1) := by decide +kernel
theorem dL_law_141 : decode cL_law 141 = .ok (.istore 6, 2) := by decide +kernel
theorem dL_law_143 : decode cL_law 143 = .ok (.iload 6, 2) := by decide +kernel
theorem dL_law_145 : decode cL_law 145 = .ok (.bipush 8, 2) := by decide +kernel
theorem dL_law_147 : decode cL_law 147 = .ok (.invokestatic 74, 3) := by decide +kernel
theorem dL_law_150 : decode cL_law 150 = .ok (.istore 9, 2) := by decide +kernel
theorem dL_law_152 : decode cL_law 152 = .ok (.iload 8, 2) := by decide +kernel
theorem dL_law_154 : decode cL_law 154 = .ok (.iconst 3, 1) := by decide +kernel
theorem dL_law_155 : decode cL_law 155 = .ok (.if_icmp .ge 57, 3) := by decide +kernel
theorem dL_law_158 : decode cL_law 158 = .ok (.aload_n 1, 1) := by decide +kernel
theorem dL_law_159 : decode cL_law 159 = .ok (.iload 9, 2) := by decide +kernel
theorem dL_law_161 : decode cL_law 161 = .ok (.iload 6, 2) := by decide +kernel
theorem dL_law_163 : decode cL_law 163 = .ok (.iconst 3, 1) := by decide +kernel
theorem dL_law_164 : decode cL_law 164 = .ok (.ishr, 1) := by decide +kernel
theorem dL_law_165 : decode cL_law 165 = .ok (.bipush 10, 2) := by decide +kernel
theorem dL_law_167 : decode cL_law 167 = .ok (.invokestatic 74, 3) := by decide +kernel
theorem dL_law_170 : decode cL_law 170 = .ok (.iload 7, 2) := by decide +kernel
theorem dL_law_172 : decode cL_law 172 = .ok (.sipush 201, 3) := by decide +kernel
theorem dL_law_175 : decode cL_law 175 = .ok (.invokestatic 74, 3) := by decide +kernel
theorem dL_law_178 : decode cL_law 178 = .ok (.iload 7, 2) := by decide +kernel
theorem dL_law_180 : decode cL_law 180 = .ok (.bipush 8, 2) := by decide +kernel
theorem dL_law_182 : decode cL_law 182 = .ok (.ishr, 1) := by decide +kernel
theorem dL_law_183 : decode cL_law 183 = .ok (.bipush 121, 2) := by decide +kernel
theorem dL_law_185 : decode cL_law 185 = .ok (.invokestatic 74, 3) := by decide +kernel
theorem dL_law_188 : decode cL_law 188 = .ok (.bipush 60, 2) := by decide +kernel
theorem dL_law_190 : decode cL_law 190 = .ok (.isub, 1) := by decide +kernel
theorem dL_law_191 : decode cL_law 191 = .ok (.iload 7, 2) := by decide +kernel
theorem dL_law_193 : decode cL_law 193 = .ok (.bipush 15, 2) := by decide +kernel
theorem dL_law_195 : decode cL_law 195 = .ok (.ishr, 1) := by decide +kernel
theorem dL_law_196 : decode cL_law 196 = .ok (.bipush 121, 2) := by decide +kernel
theorem dL_law_198 : decode cL_law 198 = .ok (.invokestatic 74, 3) := by decide +kernel
theorem dL_law_201 : decode cL_law 201 = .ok (.bipush 60, 2) := by decide +kernel
theorem dL_law_203 : decode cL_law 203 = .ok (.isub, 1) := by decide +kernel
theorem dL_law_204 : decode cL_law 204 = .ok (.invokevirtual 81, 3) := by decide +kernel
theorem dL_law_207 : decode cL_law 207 = .ok (.ifCond .ge 452, 3) := by decide +kernel
theorem dL_law_210 : decode cL_law 210 = .ok (.iconst 0, 1) := by decide +kernel
theorem dL_law_211 : decode cL_law 211 = .ok (.ireturn, 1) := by decide +kernel
theorem dL_law_212 : decode cL_law 212 = .ok (.iload 8, 2) := by decide +kernel
theorem dL_law_214 : decode cL_law 214 = .ok (.iconst 5, 1) := by decide +kernel
theorem dL_law_215 : decode cL_law 215 = .ok (.if_icmp .ge 72, 3) := by decide +kernel
theorem dL_law_218 : decode cL_law 218 = .ok (.iload 7, 2) := by decide +kernel
theorem dL_law_220 : decode cL_law 220 = .ok (.sipush 201, 3) := by decide +kernel
theorem dL_law_223 : decode cL_law 223 = .ok (.invokestatic 74, 3) := by decide +kernel
theorem dL_law_226 : decode cL_law 226 = .ok (.istore 10, 2) := by decide +kernel
theorem dL_law_228 : decode cL_law 228 = .ok (.iload 7, 2) := by decide +kernel
theorem dL_law_230 : decode cL_law 230 = .ok (.bipush 8, 2) := by decide +kernel
theorem dL_law_232 : decode cL_law 232 = .ok (.ishr, 1) := by decide +kernel
theorem dL_law_233 : decode cL_law 233 = .ok (.bipush 121, 2) := by decide +kernel
theorem dL_law_235 : decode cL_law 235 = .ok (.invokestatic 74, 3) := by decide +kernel
theorem dL_law_238 : decode cL_law 238 = .ok (.bipush 60, 2) := by decide +kernel
theorem dL_law_240 : decode cL_law 240 = .ok (.isub, 1) := by decide +kernel
theorem dL_law_241 : decode cL_law 241 = .ok (.istore 11, 2) := by decide +kernel
theorem dL_law_243 : decode cL_law 243 = .ok (.aload_n 1, 1) := by decide +kernel
theorem dL_law_244 : decode cL_law 244 = .ok (.iload 9, 2) := by decide +kernel
theorem dL_law_246 : decode cL_law 246 = .ok (.iload 10, 2) := by decide +kernel
theorem dL_law_248 : decode cL_law 248 = .ok (.iload 11, 2) := by decide +kernel
theorem dL_law_250 : decode cL_law 250 = .ok (.iconst 5, 1) := by decide +kernel
theorem dL_law_251 : decode cL_law 251 = .ok (.invokevirtual 85, 3) := by decide +kernel
theorem dL_law_254 : decode cL_law 254 = .ok (.istore 12, 2) := by decide +kernel
theorem dL_law_256 : decode cL_law 256 = .ok (.iload 12, 2) := by decide +kernel
theorem dL_law_258 : decode cL_law 258 = .ok (.ifCond .lt 24, 3) := by decide +kernel
theorem dL_law_261 : decode cL_law 261 = .ok (.iload 12, 2) := by decide +kernel
theorem dL_law_263 : decode cL_law 263 = .ok (.bipush 10, 2) := by decide +kernel
theorem dL_law_265 : decode cL_law 265 = .ok (.if_icmp .gt 17, 3) := by decide +kernel
theorem dL_law_268 : decode cL_law 268 = .ok (.aload_n 1, 1) := by decide +kernel
theorem dL_law_269 : decode cL_law 269 = .ok (.iload 9, 2) := by decide +kernel
theorem dL_law_271 : decode cL_law 271 = .ok (.iload 10, 2) := by decide +kernel
theorem dL_law_273 : decode cL_law 273 = .ok (.iload 11, 2) := by decide +kernel
theorem dL_law_275 : decode cL_law 275 = .ok (.iconst 5, 1) := by decide +kernel
theorem dL_law_276 : decode cL_law 276 = .ok (.invokevirtual 85, 3) := by decide +kernel
theorem dL_law_279 : decode cL_law 279 = .ok (.ifCond .eq 5, 3) := by decide +kernel
theorem dL_law_282 : decode cL_law 282 = .ok (.iconst 0, 1) := by decide +kernel
theorem dL_law_283 : decode cL_law 283 = .ok (.ireturn, 1) := by decide +kernel
theorem dL_law_284 : decode cL_law 284 = .ok (.goto 375, 3) := by decide +kernel
theorem dL_law_287 : decode cL_law 287 = .ok (.iload 8, 2) := by decide +kernel
theorem dL_law_289 : decode cL_law 289 = .ok (.bipush 7, 2) := by decide +kernel
theorem dL_law_291 : decode cL_law 291 = .ok (.if_icmp .ge 120, 3) := by decide +kernel
theorem dL_law_294 : decode cL_law 294 = .ok (.aload_n 1, 1) := by decide +kernel
theorem dL_law_295 : decode cL_law 295 = .ok (.iload 9, 2) := by decide +kernel
theorem dL_law_297 : decode cL_law 297 = .ok (.iconst 0, 1) := by decide +kernel
theorem dL_law_298 : decode cL_law 298 = .ok (.invokevirtual 92, 3) := by decide +kernel
theorem dL_law_301 : decode cL_law 301 = .ok (.iconst 1, 1) := by decide +kernel
theorem dL_law_302 : decode cL_law 302 = .ok (.if_icmp .ne 7, 3) := by decide +kernel
theorem dL_law_305 : decode cL_law 305 = .ok (.iconst 1, 1) := by decide +kernel
theorem dL_law_306 : decode cL_law 306 = .ok (.goto 4, 3) := by decide +kernel
theorem dL_law_309 : decode cL_law 309 = .ok (.iconst 0, 1) := by decide +kernel
theorem dL_law_310 : decode cL_law 310 = .ok (.istore 10, 2) := by decide +kernel
theorem dL_law_312 : decode cL_law 312 = .ok (.aload_n 1, 1) := by decide +kernel
theorem dL_law_313 : decode cL_law 313 = .ok (.iload 9, 2) := by decide +kernel
theorem dL_law_315 : decode cL_law 315 = .ok (.iload 10, 2) := by decide +kernel
theorem dL_law_317 : decode cL_law 317 = .ok (.invokevirtual 92, 3) := by decide +kernel
theorem dL_law_320 : decode cL_law 320 = .ok (.ifCond .ne 86, 3) := by decide +kernel
theorem dL_law_323 : decode cL_law 323 = .ok (.aload_n 1, 1) := by decide +kernel
theorem dL_law_324 : decode cL_law 324 = .ok (.iload 9, 2) := by decide +kernel
theorem dL_law_326 : decode cL_law 326 = .ok (.iload 7, 2) := by decide +kernel
theorem dL_law_328 : decode cL_law 328 = .ok (.bipush 9, 2) := by decide +kernel
theorem dL_law_330 : decode cL_law 330 = .ok (.invokestatic 74, 3) := by decide +kernel
theorem dL_law_333 : decode cL_law 333 = .ok (.iconst 4, 1) := by decide +kernel
theorem dL_law_334 : decode cL_law 334 = .ok (.isub, 1) := by decide +kernel
theorem dL_law_335 : decode cL_law 335 = .ok (.iload 7, 2) := by decide +kernel
theorem dL_law_337 : decode cL_law 337 = .ok (.iconst 4, 1) := by decide +kernel
theorem dL_law_338 : decode cL_law 338 = .ok (.ishr, 1) := by decide +kernel
theorem dL_law_339 : decode cL_law 339 = .ok (.bipush 41, 2) := by decide +kernel
theorem dL_law_341 : decode cL_law 341 = .ok (.invokestatic 74, 3) := by decide +kernel
theorem dL_law_344 : decode cL_law 344 = .ok (.iload 7, 2) := by decide +kernel
theorem dL_law_346 : decode cL_law 346 = .ok (.bipush 10, 2) := by decide +kernel
theorem dL_law_348 : decode cL_law 348 = .ok (.ishr, 1) := by decide +kernel
theorem dL_law_349 : decode cL_law 349 = .ok (.iconst 4, 1) := by decide +kernel
theorem dL_law_350 : decode cL_law 350 = .ok (.invokestatic 74, 3) := by decide +kernel
theorem dL_law_353 : decode cL_law 353 = .ok (.iload 6, 2) := by decide +kernel
theorem dL_law_355 : decode cL_law 355 = .ok (.bipush 64, 2) := by decide +kernel
theorem dL_law_357 : decode cL_law 357 = .ok (.iand, 1) := by decide +kernel
theorem dL_law_358 : decode cL_law 358 = .ok (.ifCond .ne 7, 3) := by decide +kernel
theorem dL_law_361 : decode cL_law 361 = .ok (.iconst 0, 1) := by decide +kernel
theorem dL_law_362 : decode cL_law 362 = .ok (.goto 13, 3) := by decide +kernel
theorem dL_law_365 : decode cL_law 365 = .ok (.iload 7, 2) := by decide +kernel
theorem dL_law_367 : decode cL_law 367 = .ok (.bipush 12, 2) := by decide +kernel
theorem dL_law_369 : decode cL_law 369 = .ok (.ishr, 1) := by decide +kernel
theorem dL_law_370 : decode cL_law 370 = .ok (.bipush 10, 2) := by decide +kernel
theorem dL_law_372 : decode cL_law 372 = .ok (.invokestatic 74, 3) := by decide +kernel
theorem dL_law_375 : decode cL_law 375 = .ok (.invokevirtual 89, 3) := by decide +kernel
theorem dL_law_378 : decode cL_law 378 = .ok (.bipush (-4), 2) := by decide +kernel
theorem dL_law_380 : decode cL_law 380 = .ok (.if_icmp .lt 26, 3) := by decide +kernel
theorem dL_law_383 : decode cL_law 383 = .ok (.aload_n 1, 1) := by decide +kernel
theorem dL_law_384 : decode cL_law 384 = .ok (.iload 9, 2) := by decide +kernel
theorem dL_law_386 : decode cL_law 386 = .ok (.iload 6, 2) := by decide +kernel
theorem dL_law_388 : decode cL_law 388 = .ok (.sipush 896, 3) := by decide +kernel
theorem dL_law_391 : decode cL_law 391 = .ok (.iand, 1) := by decide +kernel
theorem dL_law_392 : decode cL_law 392 = .ok (.ifCond .ne 7, 3) := by decide +kernel
theorem dL_law_395 : decode cL_law 395 = .ok (.iconst 1, 1) := by decide +kernel
theorem dL_law_396 : decode cL_law 396 = .ok (.goto 4, 3) := by decide +kernel
theorem dL_law_399 : decode cL_law 399 = .ok (.iconst 0, 1) := by decide +kernel
theorem dL_law_400 : decode cL_law 400 = .ok (.invokevirtual 92, 3) := by decide +kernel
theorem dL_law_403 : decode cL_law 403 = .ok (.ifCond .eq 5, 3) := by decide +kernel
theorem dL_law_406 : decode cL_law 406 = .ok (.iconst 0, 1) := by decide +kernel
theorem dL_law_407 : decode cL_law 407 = .ok (.ireturn, 1) := by decide +kernel
theorem dL_law_408 : decode cL_law 408 = .ok (.goto 251, 3) := by decide +kernel
theorem dL_law_411 : decode cL_law 411 = .ok (.iload 8, 2) := by decide +kernel
theorem dL_law_413 : decode cL_law 413 = .ok (.bipush 7, 2) := by decide +kernel
theorem dL_law_415 : decode cL_law 415 = .ok (.if_icmp .ne 42, 3) := by decide +kernel
theorem dL_law_418 : decode cL_law 418 = .ok (.aload_n 1, 1) := by decide +kernel
theorem dL_law_419 : decode cL_law 419 = .ok (.bipush 13, 2) := by decide +kernel
theorem dL_law_421 : decode cL_law 421 = .ok (.invokevirtual 35, 3) := by decide +kernel
theorem dL_law_424 : decode cL_law 424 = .ok (.istore 10, 2) := by decide +kernel
theorem dL_law_426 : decode cL_law 426 = .ok (.aload_n 1, 1) := by decide +kernel
theorem dL_law_427 : decode cL_law 427 = .ok (.iload 7, 2) := by decide +kernel
theorem dL_law_429 : decode cL_law 429 = .ok (.iconst 1, 1) := by decide +kernel
theorem dL_law_430 : decode cL_law 430 = .ok (.iand, 1) := by decide +kernel
theorem dL_law_431 : decode cL_law 431 = .ok (.invokevirtual 96, 3) := by decide +kernel
theorem dL_law_434 : decode cL_law 434 = .ok (.iload 10, 2) := by decide +kernel
theorem dL_law_436 : decode cL_law 436 = .ok (.if_icmp .ne 16, 3) := by decide +kernel
theorem dL_law_439 : decode cL_law 439 = .ok (.aload_n 1, 1) := by decide +kernel
theorem dL_law_440 : decode cL_law 440 = .ok (.bipush 13, 2) := by decide +kernel
theorem dL_law_442 : decode cL_law 442 = .ok (.invokevirtual 35, 3) := by decide +kernel
theorem dL_law_445 : decode cL_law 445 = .ok (.iload 7, 2) := by decide +kernel
theorem dL_law_447 : decode cL_law 447 = .ok (.iconst 1, 1) := by decide +kernel
theorem dL_law_448 : decode cL_law 448 = .ok (.iand, 1) := by decide +kernel
theorem dL_law_449 : decode cL_law 449 = .ok (.if_icmp .eq 5, 3) := by decide +kernel
theorem dL_law_452 : decode cL_law 452 = .ok (.iconst 0, 1) := by decide +kernel
theorem dL_law_453 : decode cL_law 453 = .ok (.ireturn, 1) := by decide +kernel
theorem dL_law_454 : decode cL_law 454 = .ok (.goto 205, 3) := by decide +kernel
theorem dL_law_457 : decode cL_law 457 = .ok (.iload 8, 2) := by decide +kernel
theorem dL_law_459 : decode cL_law 459 = .ok (.bipush 8, 2) := by decide +kernel
theorem dL_law_461 : decode cL_law 461 = .ok (.if_icmp .ne 110, 3) := by decide +kernel
theorem dL_law_464 : decode cL_law 464 = .ok (.iload 6, 2) := by decide +kernel
theorem dL_law_466 : decode cL_law 466 = .ok (.iconst 4, 1) := by decide +kernel
theorem dL_law_467 : decode cL_law 467 = .ok (.invokestatic 74, 3) := by decide +kernel
theorem dL_law_470 : decode cL_law 470 = .ok (.istore 10, 2) := by decide +kernel
theorem dL_law_472 : decode cL_law 472 = .ok (.aload_n 1, 1) := by decide +kernel
theorem dL_law_473 : decode cL_law 473 = .ok (.bipush 15, 2) := by decide +kernel
theorem dL_law_475 : decode cL_law 475 = .ok (.iload 10, 2) := by decide +kernel
theorem dL_law_477 : decode cL_law 477 = .ok (.iadd, 1) := by decide +kernel
theorem dL_law_478 : decode cL_law 478 = .ok (.invokevirtual 35, 3) := by decide +kernel
theorem dL_law_481 : decode cL_law 481 = .ok (.istore 11, 2) := by decide +kernel
theorem dL_law_483 : decode cL_law 483 = .ok (.iload 10, 2) := by decide +kernel
theorem dL_law_485 : decode cL_law 485 = .ok (.ifCond .ne 15, 3) := by decide +kernel
theorem dL_law_488 : decode cL_law 488 = .ok (.iconst 1, 1) := by decide +kernel
theorem dL_law_489 : decode cL_law 489 = .ok (.iload 7, 2) := by decide +kernel
theorem dL_law_491 : decode cL_law 491 = .ok (.bipush 40, 2) := by decide +kernel
theorem dL_law_493 : decode cL_law 493 = .ok (.invokestatic 74, 3) := by decide +kernel
theorem dL_law_496 : decode cL_law 496 = .ok (.iadd, 1) := by decide +kernel
theorem dL_law_497 : decode cL_law 497 = .ok (.goto 40, 3) := by decide +kernel
theorem dL_law_500 : decode cL_law 500 = .ok (.iload 10, 2) := by decide +kernel
theorem dL_law_502 : decode cL_law 502 = .ok (.iconst 1, 1) := by decide +kernel
theorem dL_law_503 : decode cL_law 503 = .ok (.if_icmp .ne 13, 3) := by decide +kernel
theorem dL_law_506 : decode cL_law 506 = .ok (.iload 7, 2) := by decide +kernel
theorem dL_law_508 : decode cL_law 508 = .ok (.bipush 101, 2) := by decide +kernel
theorem dL_law_510 : decode cL_law 510 = .ok (.invokestatic 74, 3) := by decide +kernel
theorem dL_law_513 : decode cL_law 513 = .ok (.goto 24, 3) := by decide +kernel
theorem dL_law_516 : decode cL_law 516 = .ok (.iload 10, 2) := by decide +kernel
theorem dL_law_518 : decode cL_law 518 = .ok (.iconst 2, 1) := by decide +kernel
theorem dL_law_519 : decode cL_law 519 = .ok (.if_icmp .ne 12, 3) := by decide +kernel
theorem dL_law_522 : decode cL_law 522 = .ok (.iload 7, 2) := by decide +kernel
theorem dL_law_524 : decode cL_law 524 = .ok (.iconst 4, 1) := by decide +kernel
theorem dL_law_525 : decode cL_law 525 = .ok (.invokestatic 74, 3) := by decide +kernel
theorem dL_law_528 : decode cL_law 528 = .ok (.goto 9, 3) := by decide +kernel
theorem dL_law_531 : decode cL_law 531 = .ok (.iload 7, 2) := by decide +kernel
theorem dL_law_533 : decode cL_law 533 = .ok (.iconst 3, 1) := by decide +kernel
theorem dL_law_534 : decode cL_law 534 = .ok (.invokestatic 74, 3) := by decide +kernel
theorem dL_law_537 : decode cL_law 537 = .ok (.istore 12, 2) := by decide +kernel
theorem dL_law_539 : decode cL_law 539 = .ok (.aload_n 1, 1) := by decide +kernel
theorem dL_law_540 : decode cL_law 540 = .ok (.iload 10, 2) := by decide +kernel
theorem dL_law_542 : decode cL_law 542 = .ok (.iload 12, 2) := by decide +kernel
theorem dL_law_544 : decode cL_law 544 = .ok (.invokevirtual 99, 3) := by decide +kernel
theorem dL_law_547 : decode cL_law 547 = .ok (.iload 11, 2) := by decide +kernel
theorem dL_law_549 : decode cL_law 549 = .ok (.if_icmp .ne 17, 3) := by decide +kernel
theorem dL_law_552 : decode cL_law 552 = .ok (.aload_n 1, 1) := by decide +kernel
theorem dL_law_553 : decode cL_law 553 = .ok (.bipush 15, 2) := by decide +kernel
theorem dL_law_555 : decode cL_law 555 = .ok (.iload 10, 2) := by decide +kernel
theorem dL_law_557 : decode cL_law 557 = .ok (.iadd, 1) := by decide +kernel
theorem dL_law_558 : decode cL_law 558 = .ok (.invokevirtual 35, 3) := by decide +kernel
theorem dL_law_561 : decode cL_law 561 = .ok (.iload 12, 2) := by decide +kernel
theorem dL_law_563 : decode cL_law 563 = .ok (.if_icmp .eq 5, 3) := by decide +kernel
theorem dL_law_566 : decode cL_law 566 = .ok (.iconst 0, 1) := by decide +kernel
theorem dL_law_567 : decode cL_law 567 = .ok (.ireturn, 1) := by decide +kernel
theorem dL_law_568 : decode cL_law 568 = .ok (.goto 91, 3) := by decide +kernel
theorem dL_law_571 : decode cL_law 571 = .ok (.iload 8, 2) := by decide +kernel
theorem dL_law_573 : decode cL_law 573 = .ok (.bipush 9, 2) := by decide +kernel
theorem dL_law_575 : decode cL_law 575 = .ok (.if_icmp .ne 20, 3) := by decide +kernel
theorem dL_law_578 : decode cL_law 578 = .ok (.aload_n 1, 1) := by decide +kernel
theorem dL_law_579 : decode cL_law 579 = .ok (.iload 9, 2) := by decide +kernel
theorem dL_law_581 : decode cL_law 581 = .ok (.iload 6, 2) := by decide +kernel
theorem dL_law_583 : decode cL_law 583 = .ok (.iconst 3, 1) := by decide +kernel
theorem dL_law_584 : decode cL_law 584 = .ok (.ishr, 1) := by decide +kernel
theorem dL_law_585 : decode cL_law 585 = .ok (.iload 7, 2) := by decide +kernel
theorem dL_law_587 : decode cL_law 587 = .ok (.invokestatic 107, 3) := by decide +kernel
