theorem dL_same_439 : decode cL_same 439 = .ok (.iconst 0, 1) := by decide +kernel
theorem dL_same_440 : decode cL_same 440 = .ok (.istore 13, 2) := by decide +kernel
theorem dL_same_442 : decode cL_same 442 = .ok (.iload 13, 2) := by decide +kernel
theorem dL_same_444 : decode cL_same 444 = .ok (.aload 6, 2) := by decide +kernel
theorem dL_same_446 : decode cL_same 446 = .ok (.iconst 1, 1) := by decide +kernel
theorem dL_same_447 : decode cL_same 447 = .ok (.iaload, 1) := by decide +kernel
theorem dL_same_448 : decode cL_same 448 = .ok (.if_icmp .ge 60, 3) := by decide +kernel
theorem dL_same_451 : decode cL_same 451 = .ok (.iconst 4, 1) := by decide +kernel
theorem dL_same_452 : decode cL_same 452 = .ok (.iload 12, 2) := by decide +kernel
theorem dL_same_454 : decode cL_same 454 = .ok (.iinc 12 1, 3) := by decide +kernel
theorem dL_same_457 : decode cL_same 457 = .ok (.imul, 1) := by decide +kernel
theorem dL_same_458 : decode cL_same 458 = .ok (.istore 14, 2) := by decide +kernel
theorem dL_same_460 : decode cL_same 460 = .ok (.aload 8, 2) := by decide +kernel
theorem dL_same_462 : decode cL_same 462 = .ok (.iload 14, 2) := by decide +kernel
theorem dL_same_464 : decode cL_same 464 = .ok (.iconst 1, 1) := by decide +kernel
theorem dL_same_465 : decode cL_same 465 = .ok (.iastore, 1) := by decide +kernel
theorem dL_same_466 : decode cL_same 466 = .ok (.aload 8, 2) := by decide +kernel
theorem dL_same_468 : decode cL_same 468 = .ok (.iload 14, 2) := by decide +kernel
theorem dL_same_470 : decode cL_same 470 = .ok (.iconst 1, 1) := by decide +kernel
theorem dL_same_471 : decode cL_same 471 = .ok (.iadd, 1) := by decide +kernel
theorem dL_same_472 : decode cL_same 472 = .ok (.aload 4, 2) := by decide +kernel
theorem dL_same_474 : decode cL_same 474 = .ok (.iload 13, 2) := by decide +kernel
theorem dL_same_476 : decode cL_same 476 = .ok (.iaload, 1) := by decide +kernel
theorem dL_same_477 : decode cL_same 477 = .ok (.iastore, 1) := by decide +kernel
theorem dL_same_478 : decode cL_same 478 = .ok (.aload 8, 2) := by decide +kernel
theorem dL_same_480 : decode cL_same 480 = .ok (.iload 14, 2) := by decide +kernel
theorem dL_same_482 : decode cL_same 482 = .ok (.iconst 2, 1) := by decide +kernel
theorem dL_same_483 : decode cL_same 483 = .ok (.iadd, 1) := by decide +kernel
theorem dL_same_484 : decode cL_same 484 = .ok (.aload 4, 2) := by decide +kernel
theorem dL_same_486 : decode cL_same 486 = .ok (.iload 13, 2) := by decide +kernel
theorem dL_same_488 : decode cL_same 488 = .ok (.iaload, 1) := by decide +kernel
theorem dL_same_489 : decode cL_same 489 = .ok (.iastore, 1) := by decide +kernel
theorem dL_same_490 : decode cL_same 490 = .ok (.aload 8, 2) := by decide +kernel
theorem dL_same_492 : decode cL_same 492 = .ok (.iload 14, 2) := by decide +kernel
theorem dL_same_494 : decode cL_same 494 = .ok (.iconst 3, 1) := by decide +kernel
theorem dL_same_495 : decode cL_same 495 = .ok (.iadd, 1) := by decide +kernel
theorem dL_same_496 : decode cL_same 496 = .ok (.aload 4, 2) := by decide +kernel
theorem dL_same_498 : decode cL_same 498 = .ok (.iload 13, 2) := by decide +kernel
theorem dL_same_500 : decode cL_same 500 = .ok (.iaload, 1) := by decide +kernel
theorem dL_same_501 : decode cL_same 501 = .ok (.iastore, 1) := by decide +kernel
theorem dL_same_502 : decode cL_same 502 = .ok (.iinc 13 1, 3) := by decide +kernel
theorem dL_same_505 : decode cL_same 505 = .ok (.goto (-63), 3) := by decide +kernel
theorem dL_same_508 : decode cL_same 508 = .ok (.aload 8, 2) := by decide +kernel
theorem dL_same_510 : decode cL_same 510 = .ok (.iload 12, 2) := by decide +kernel
theorem dL_same_512 : decode cL_same 512 = .ok (.aload 7, 2) := by decide +kernel
theorem dL_same_514 : decode cL_same 514 = .ok (.iconst 0, 1) := by decide +kernel
theorem dL_same_515 : decode cL_same 515 = .ok (.iaload, 1) := by decide +kernel
theorem dL_same_516 : decode cL_same 516 = .ok (.invokestatic 20, 3) := by decide +kernel
theorem dL_same_519 : decode cL_same 519 = .ok (.istore 12, 2) := by decide +kernel
theorem dL_same_521 : decode cL_same 521 = .ok (.iconst 0, 1) := by decide +kernel
theorem dL_same_522 : decode cL_same 522 = .ok (.aload 5, 2) := by decide +kernel
theorem dL_same_524 : decode cL_same 524 = .ok (.aload 6, 2) := by decide +kernel
theorem dL_same_526 : decode cL_same 526 = .ok (.iconst 2, 1) := by decide +kernel
theorem dL_same_527 : decode cL_same 527 = .ok (.iaload, 1) := by decide +kernel
theorem dL_same_528 : decode cL_same 528 = .ok (.invokestatic 66, 3) := by decide +kernel
theorem dL_same_531 : decode cL_same 531 = .ok (.istore 13, 2) := by decide +kernel
theorem dL_same_533 : decode cL_same 533 = .ok (.aload 6, 2) := by decide +kernel
theorem dL_same_535 : decode cL_same 535 = .ok (.iconst 2, 1) := by decide +kernel
theorem dL_same_536 : decode cL_same 536 = .ok (.iaload, 1) := by decide +kernel
theorem dL_same_537 : decode cL_same 537 = .ok (.iconst 1, 1) := by decide +kernel
theorem dL_same_538 : decode cL_same 538 = .ok (.isub, 1) := by decide +kernel
theorem dL_same_539 : decode cL_same 539 = .ok (.aload 5, 2) := by decide +kernel
theorem dL_same_541 : decode cL_same 541 = .ok (.aload 6, 2) := by decide +kernel
theorem dL_same_543 : decode cL_same 543 = .ok (.iconst 2, 1) := by decide +kernel
theorem dL_same_544 : decode cL_same 544 = .ok (.iaload, 1) := by decide +kernel
theorem dL_same_545 : decode cL_same 545 = .ok (.invokestatic 66, 3) := by decide +kernel
theorem dL_same_548 : decode cL_same 548 = .ok (.istore 14, 2) := by decide +kernel
theorem dL_same_550 : decode cL_same 550 = .ok (.iconst (-1), 1) := by decide +kernel
theorem dL_same_551 : decode cL_same 551 = .ok (.istore 15, 2) := by decide +kernel
theorem dL_same_553 : decode cL_same 553 = .ok (.iconst (-1), 1) := by decide +kernel
theorem dL_same_554 : decode cL_same 554 = .ok (.istore 16, 2) := by decide +kernel
theorem dL_same_556 : decode cL_same 556 = .ok (.iconst 0, 1) := by decide +kernel
theorem dL_same_557 : decode cL_same 557 = .ok (.istore 17, 2) := by decide +kernel
theorem dL_same_559 : decode cL_same 559 = .ok (.iload 17, 2) := by decide +kernel
theorem dL_same_561 : decode cL_same 561 = .ok (.sipush 1000, 3) := by decide +kernel
theorem dL_same_564 : decode cL_same 564 = .ok (.if_icmp .gt 137, 3) := by decide +kernel
theorem dL_same_567 : decode cL_same 567 = .ok (.aload_n 0, 1) := by decide +kernel
theorem dL_same_568 : decode cL_same 568 = .ok (.iload_n 1, 1) := by decide +kernel
theorem dL_same_569 : decode cL_same 569 = .ok (.iload 17, 2) := by decide +kernel
theorem dL_same_571 : decode cL_same 571 = .ok (.invokevirtual 56, 3) := by decide +kernel
theorem dL_same_574 : decode cL_same 574 = .ok (.istore 18, 2) := by decide +kernel
theorem dL_same_576 : decode cL_same 576 = .ok (.iload 17, 2) := by decide +kernel
theorem dL_same_578 : decode cL_same 578 = .ok (.aload 6, 2) := by decide +kernel
theorem dL_same_580 : decode cL_same 580 = .ok (.iconst 2, 1) := by decide +kernel
theorem dL_same_581 : decode cL_same 581 = .ok (.iaload, 1) := by decide +kernel
theorem dL_same_582 : decode cL_same 582 = .ok (.iconst 1, 1) := by decide +kernel
theorem dL_same_583 : decode cL_same 583 = .ok (.isub, 1) := by decide +kernel
theorem dL_same_584 : decode cL_same 584 = .ok (.imul, 1) := by decide +kernel
theorem dL_same_585 : decode cL_same 585 = .ok (.sipush 1000, 3) := by decide +kernel
theorem dL_same_588 : decode cL_same 588 = .ok (.idiv, 1) := by decide +kernel
theorem dL_same_589 : decode cL_same 589 = .ok (.aload 5, 2) := by decide +kernel
theorem dL_same_591 : decode cL_same 591 = .ok (.aload 6, 2) := by decide +kernel
theorem dL_same_593 : decode cL_same 593 = .ok (.iconst 2, 1) := by decide +kernel
theorem dL_same_594 : decode cL_same 594 = .ok (.iaload, 1) := by decide +kernel
theorem dL_same_595 : decode cL_same 595 = .ok (.invokestatic 66, 3) := by decide +kernel
theorem dL_same_598 : decode cL_same 598 = .ok (.istore 19, 2) := by decide +kernel
theorem dL_same_600 : decode cL_same 600 = .ok (.iload 18, 2) := by decide +kernel
theorem dL_same_602 : decode cL_same 602 = .ok (.iload 19, 2) := by decide +kernel
theorem dL_same_604 : decode cL_same 604 = .ok (.if_icmp .le 11, 3) := by decide +kernel
theorem dL_same_607 : decode cL_same 607 = .ok (.iload 18, 2) := by decide +kernel
theorem dL_same_609 : decode cL_same 609 = .ok (.iload 19, 2) := by decide +kernel
theorem dL_same_611 : decode cL_same 611 = .ok (.isub, 1) := by decide +kernel
theorem dL_same_612 : decode cL_same 612 = .ok (.goto 8, 3) := by decide +kernel
theorem dL_same_615 : decode cL_same 615 = .ok (.iload 19, 2) := by decide +kernel
theorem dL_same_617 : decode cL_same 617 = .ok (.iload 18, 2) := by decide +kernel
theorem dL_same_619 : decode cL_same 619 = .ok (.isub, 1) := by decide +kernel
theorem dL_same_620 : decode cL_same 620 = .ok (.istore 20, 2) := by decide +kernel
theorem dL_same_622 : decode cL_same 622 = .ok (.iload 18, 2) := by decide +kernel
theorem dL_same_624 : decode cL_same 624 = .ok (.iload 17, 2) := by decide +kernel
theorem dL_same_626 : decode cL_same 626 = .ok (.aload 6, 2) := by decide +kernel
theorem dL_same_628 : decode cL_same 628 = .ok (.iconst 2, 1) := by decide +kernel
theorem dL_same_629 : decode cL_same 629 = .ok (.iaload, 1) := by decide +kernel
theorem dL_same_630 : decode cL_same 630 = .ok (.imul, 1) := by decide +kernel
theorem dL_same_631 : decode cL_same 631 = .ok (.aload 8, 2) := by decide +kernel
theorem dL_same_633 : decode cL_same 633 = .ok (.iload 12, 2) := by decide +kernel
theorem dL_same_635 : decode cL_same 635 = .ok (.iload 13, 2) := by decide +kernel
theorem dL_same_637 : decode cL_same 637 = .ok (.iload 14, 2) := by decide +kernel
theorem dL_same_639 : decode cL_same 639 = .ok (.aload 6, 2) := by decide +kernel
theorem dL_same_641 : decode cL_same 641 = .ok (.iconst 2, 1) := by decide +kernel
theorem dL_same_642 : decode cL_same 642 = .ok (.iaload, 1) := by decide +kernel
theorem dL_same_643 : decode cL_same 643 = .ok (.invokestatic 70, 3) := by decide +kernel
theorem dL_same_646 : decode cL_same 646 = .ok (.ifCond .eq 15, 3) := by decide +kernel
theorem dL_same_649 : decode cL_same 649 = .ok (.aload_n 0, 1) := by decide +kernel
theorem dL_same_650 : decode cL_same 650 = .ok (.iload_n 1, 1) := by decide +kernel
theorem dL_same_651 : decode cL_same 651 = .ok (.iload 17, 2) := by decide +kernel
theorem dL_same_653 : decode cL_same 653 = .ok (.invokevirtual 60, 3) := by decide +kernel
theorem dL_same_656 : decode cL_same 656 = .ok (.iload 19, 2) := by decide +kernel
theorem dL_same_658 : decode cL_same 658 = .ok (.if_icmp .eq 5, 3) := by decide +kernel
theorem dL_same_661 : decode cL_same 661 = .ok (.iconst 0, 1) := by decide +kernel
theorem dL_same_662 : decode cL_same 662 = .ok (.ireturn, 1) := by decide +kernel
theorem dL_same_663 : decode cL_same 663 = .ok (.iload 20, 2) := by decide +kernel
theorem dL_same_665 : decode cL_same 665 = .ok (.iload 16, 2) := by decide +kernel
theorem dL_same_667 : decode cL_same 667 = .ok (.if_icmp .le 8, 3) := by decide +kernel
theorem dL_same_670 : decode cL_same 670 = .ok (.iload 17, 2) := by decide +kernel
theorem dL_same_672 : decode cL_same 672 = .ok (.goto 5, 3) := by decide +kernel
theorem dL_same_675 : decode cL_same 675 = .ok (.iload 15, 2) := by decide +kernel
theorem dL_same_677 : decode cL_same 677 = .ok (.istore 15, 2) := by decide +kernel
theorem dL_same_679 : decode cL_same 679 = .ok (.iload 20, 2) := by decide +kernel
theorem dL_same_681 : decode cL_same 681 = .ok (.iload 16, 2) := by decide +kernel
theorem dL_same_683 : decode cL_same 683 = .ok (.if_icmp .le 8, 3) := by decide +kernel
theorem dL_same_686 : decode cL_same 686 = .ok (.iload 20, 2) := by decide +kernel
theorem dL_same_688 : decode cL_same 688 = .ok (.goto 5, 3) := by decide +kernel
theorem dL_same_691 : decode cL_same 691 = .ok (.iload 16, 2) := by decide +kernel
theorem dL_same_693 : decode cL_same 693 = .ok (.istore 16, 2) := by decide +kernel
theorem dL_same_695 : decode cL_same 695 = .ok (.iinc 17 100, 3) := by decide +kernel
theorem dL_same_698 : decode cL_same 698 = .ok (.goto (-139), 3) := by decide +kernel
theorem dL_same_701 : decode cL_same 701 = .ok (.iload_n 2, 1) := by decide +kernel
theorem dL_same_702 : decode cL_same 702 = .ok (.sipush 1001, 3) := by decide +kernel
theorem dL_same_705 : decode cL_same 705 = .ok (.invokestatic 73, 3) := by decide +kernel
theorem dL_same_708 : decode cL_same 708 = .ok (.istore 17, 2) := by decide +kernel
theorem dL_same_710 : decode cL_same 710 = .ok (.iload 17, 2) := by decide +kernel
theorem dL_same_712 : decode cL_same 712 = .ok (.aload 6, 2) := by decide +kernel
theorem dL_same_714 : decode cL_same 714 = .ok (.iconst 2, 1) := by decide +kernel
theorem dL_same_715 : decode cL_same 715 = .ok (.iaload, 1) := by decide +kernel
theorem dL_same_716 : decode cL_same 716 = .ok (.iconst 1, 1) := by decide +kernel
theorem dL_same_717 : decode cL_same 717 = .ok (.isub, 1) := by decide +kernel
theorem dL_same_718 : decode cL_same 718 = .ok (.imul, 1) := by decide +kernel
theorem dL_same_719 : decode cL_same 719 = .ok (.sipush 1000, 3) := by decide +kernel
theorem dL_same_722 : decode cL_same 722 = .ok (.idiv, 1) := by decide +kernel
theorem dL_same_723 : decode cL_same 723 = .ok (.istore 18, 2) := by decide +kernel
theorem dL_same_725 : decode cL_same 725 = .ok (.iconst 0, 1) := by decide +kernel
theorem dL_same_726 : decode cL_same 726 = .ok (.istore 19, 2) := by decide +kernel
theorem dL_same_728 : decode cL_same 728 = .ok (.aload 8, 2) := by decide +kernel
theorem dL_same_730 : decode cL_same 730 = .ok (.iconst 0, 1) := by decide +kernel
theorem dL_same_731 : decode cL_same 731 = .ok (.iaload, 1) := by decide +kernel
theorem dL_same_732 : decode cL_same 732 = .ok (.istore 20, 2) := by decide +kernel
theorem dL_same_734 : decode cL_same 734 = .ok (.iload 20, 2) := by decide +kernel
theorem dL_same_736 : decode cL_same 736 = .ok (.iload 18, 2) := by decide +kernel
theorem dL_same_738 : decode cL_same 738 = .ok (.if_icmp .gt 21, 3) := by decide +kernel
theorem dL_same_741 : decode cL_same 741 = .ok (.iinc 19 1, 3) := by decide +kernel
theorem dL_same_744 : decode cL_same 744 = .ok (.iload 20, 2) := by decide +kernel
theorem dL_same_746 : decode cL_same 746 = .ok (.aload 8, 2) := by decide +kernel
theorem dL_same_748 : decode cL_same 748 = .ok (.iconst 4, 1) := by decide +kernel
theorem dL_same_749 : decode cL_same 749 = .ok (.iload 19, 2) := by decide +kernel
theorem dL_same_751 : decode cL_same 751 = .ok (.imul, 1) := by decide +kernel
theorem dL_same_752 : decode cL_same 752 = .ok (.iaload, 1) := by decide +kernel
theorem dL_same_753 : decode cL_same 753 = .ok (.iadd, 1) := by decide +kernel
theorem dL_same_754 : decode cL_same 754 = .ok (.istore 20, 2) := by decide +kernel
theorem dL_same_756 : decode cL_same 756 = .ok (.goto (-22), 3) := by decide +kernel
theorem dL_same_759 : decode cL_same 759 = .ok (.iload_n 2, 1) := by decide +kernel
theorem dL_same_760 : decode cL_same 760 = .ok (.iconst 3, 1) := by decide +kernel
theorem dL_same_761 : decode cL_same 761 = .ok (.ishr, 1) := by decide +kernel
theorem dL_same_762 : decode cL_same 762 = .ok (.bipush 40, 2) := by decide +kernel
theorem dL_same_764 : decode cL_same 764 = .ok (.invokestatic 73, 3) := by decide +kernel
theorem dL_same_767 : decode cL_same 767 = .ok (.istore 20, 2) := by decide +kernel
theorem dL_same_769 : decode cL_same 769 = .ok (.aload_n 0, 1) := by decide +kernel
theorem dL_same_770 : decode cL_same 770 = .ok (.iload_n 1, 1) := by decide +kernel
theorem dL_same_771 : decode cL_same 771 = .ok (.iload 20, 2) := by decide +kernel
theorem dL_same_773 : decode cL_same 773 = .ok (.invokevirtual 76, 3) := by decide +kernel
theorem dL_same_776 : decode cL_same 776 = .ok (.istore 21, 2) := by decide +kernel
theorem dL_same_778 : decode cL_same 778 = .ok (.iload 21, 2) := by decide +kernel
theorem dL_same_780 : decode cL_same 780 = .ok (.iconst (-1), 1) := by decide +kernel
theorem dL_same_781 : decode cL_same 781 = .ok (.if_icmp .lt 50, 3) := by decide +kernel
theorem dL_same_784 : decode cL_same 784 = .ok (.iload 21, 2) := by decide +kernel
theorem dL_same_786 : decode cL_same 786 = .ok (.sipush 1000, 3) := by decide +kernel
theorem dL_same_789 : decode cL_same 789 = .ok (.if_icmp .gt 42, 3) := by decide +kernel
theorem dL_same_792 : decode cL_same 792 = .ok (.iload 21, 2) := by decide +kernel
theorem dL_same_794 : decode cL_same 794 = .ok (.ifCond .lt 15, 3) := by decide +kernel
theorem dL_same_797 : decode cL_same 797 = .ok (.aload_n 0, 1) := by decide +kernel
theorem dL_same_798 : decode cL_same 798 = .ok (.iload_n 1, 1) := by decide +kernel
theorem dL_same_799 : decode cL_same 799 = .ok (.iload 21, 2) := by decide +kernel
theorem dL_same_801 : decode cL_same 801 = .ok (.invokevirtual 56, 3) := by decide +kernel
theorem dL_same_804 : decode cL_same 804 = .ok (.iload 20, 2) := by decide +kernel
theorem dL_same_806 : decode cL_same 806 = .ok (.if_icmp .gt 25, 3) := by decide +kernel
theorem dL_same_809 : decode cL_same 809 = .ok (.iload 21, 2) := by decide +kernel
theorem dL_same_811 : decode cL_same 811 = .ok (.sipush 1000, 3) := by decide +kernel
theorem dL_same_814 : decode cL_same 814 = .ok (.if_icmp .ge 19, 3) := by decide +kernel
theorem dL_same_817 : decode cL_same 817 = .ok (.aload_n 0, 1) := by decide +kernel
theorem dL_same_818 : decode cL_same 818 = .ok (.iload_n 1, 1) := by decide +kernel
theorem dL_same_819 : decode cL_same 819 = .ok (.iload 21, 2) := by decide +kernel
theorem dL_same_821 : decode cL_same 821 = .ok (.iconst 1, 1) := by decide +kernel
theorem dL_same_822 : decode cL_same 822 = .ok (.iadd, 1) := by decide +kernel
theorem dL_same_823 : decode cL_same 823 = .ok (.invokevirtual 56, 3) := by decide +kernel
theorem dL_same_826 : decode cL_same 826 = .ok (.iload 20, 2) := by decide +kernel
theorem dL_same_828 : decode cL_same 828 = .ok (.if_icmp .gt 5, 3) := by decide +kernel
theorem dL_same_831 : decode cL_same 831 = .ok (.iconst 0, 1) := by decide +kernel
theorem dL_same_832 : decode cL_same 832 = .ok (.ireturn, 1) := by decide +kernel
theorem dL_same_833 : decode cL_same 833 = .ok (.aload_n 0, 1) := by decide +kernel
theorem dL_same_834 : decode cL_same 834 = .ok (.iload_n 1, 1) := by decide +kernel
theorem dL_same_835 : decode cL_same 835 = .ok (.iconst 3, 1) := by decide +kernel
theorem dL_same_836 : decode cL_same 836 = .ok (.invokevirtual 53, 3) := by decide +kernel
theorem dL_same_839 : decode cL_same 839 = .ok (.iload 13, 2) := by decide +kernel
theorem dL_same_841 : decode cL_same 841 = .ok (.if_icmp .ne 113, 3) := by decide +kernel
theorem dL_same_844 : decode cL_same 844 = .ok (.aload_n 0, 1) := by decide +kernel
theorem dL_same_845 : decode cL_same 845 = .ok (.iload_n 1, 1) := by decide +kernel
theorem dL_same_846 : decode cL_same 846 = .ok (.iconst 4, 1) := by decide +kernel
theorem dL_same_847 : decode cL_same 847 = .ok (.invokevirtual 53, 3) := by decide +kernel
theorem dL_same_850 : decode cL_same 850 = .ok (.iload 14, 2) := by decide +kernel
theorem dL_same_852 : decode cL_same 852 = .ok (.if_icmp .ne 102, 3) := by decide +kernel
theorem dL_same_855 : decode cL_same 855 = .ok (.aload_n 0, 1) := by decide +kernel
theorem dL_same_856 : decode cL_same 856 = .ok (.iload_n 1, 1) := by decide +kernel
theorem dL_same_857 : decode cL_same 857 = .ok (.bipush 6, 2) := by decide +kernel
theorem dL_same_859 : decode cL_same 859 = .ok (.invokevirtual 53, 3) := by decide +kernel
theorem dL_same_862 : decode cL_same 862 = .ok (.iload 12, 2) := by decide +kernel
theorem dL_same_864 : decode cL_same 864 = .ok (.if_icmp .ne 90, 3) := by decide +kernel
theorem dL_same_867 : decode cL_same 867 = .ok (.aload_n 0, 1) := by decide +kernel
theorem dL_same_868 : decode cL_same 868 = .ok (.iload_n 1, 1) := by decide +kernel
theorem dL_same_869 : decode cL_same 869 = .ok (.iconst 0, 1) := by decide +kernel
theorem dL_same_870 : decode cL_same 870 = .ok (.invokevirtual 63, 3) := by decide +kernel
theorem dL_same_873 : decode cL_same 873 = .ok (.iload 15, 2) := by decide +kernel
theorem dL_same_875 : decode cL_same 875 = .ok (.if_icmp .ne 79, 3) := by decide +kernel
theorem dL_same_878 : decode cL_same 878 = .ok (.aload_n 0, 1) := by decide +kernel
theorem dL_same_879 : decode cL_same 879 = .ok (.iload_n 1, 1) := by decide +kernel
theorem dL_same_880 : decode cL_same 880 = .ok (.iconst 1, 1) := by decide +kernel
theorem dL_same_881 : decode cL_same 881 = .ok (.invokevirtual 63, 3) := by decide +kernel
theorem dL_same_884 : decode cL_same 884 = .ok (.iload 16, 2) := by decide +kernel
theorem dL_same_886 : decode cL_same 886 = .ok (.if_icmp .ne 68, 3) := by decide +kernel
theorem dL_same_889 : decode cL_same 889 = .ok (.aload_n 0, 1) := by decide +kernel
theorem dL_same_890 : decode cL_same 890 = .ok (.iload_n 1, 1) := by decide +kernel
theorem dL_same_891 : decode cL_same 891 = .ok (.iload 17, 2) := by decide +kernel
theorem dL_same_893 : decode cL_same 893 = .ok (.invokevirtual 79, 3) := by decide +kernel
theorem dL_same_896 : decode cL_same 896 = .ok (.aload 8, 2) := by decide +kernel
theorem dL_same_898 : decode cL_same 898 = .ok (.iconst 4, 1) := by decide +kernel
theorem dL_same_899 : decode cL_same 899 = .ok (.iload 19, 2) := by decide +kernel
theorem dL_same_901 : decode cL_same 901 = .ok (.imul, 1) := by decide +kernel
theorem dL_same_902 : decode cL_same 902 = .ok (.iconst 3, 1) := by decide +kernel
theorem dL_same_903 : decode cL_same 903 = .ok (.iadd, 1) := by decide +kernel
theorem dL_same_904 : decode cL_same 904 = .ok (.iaload, 1) := by decide +kernel
theorem dL_same_905 : decode cL_same 905 = .ok (.aload 8, 2) := by decide +kernel
theorem dL_same_907 : decode cL_same 907 = .ok (.iconst 4, 1) := by decide +kernel
theorem dL_same_908 : decode cL_same 908 = .ok (.iload 19, 2) := by decide +kernel
theorem dL_same_910 : decode cL_same 910 = .ok (.imul, 1) := by decide +kernel
theorem dL_same_911 : decode cL_same 911 = .ok (.iconst 2, 1) := by decide +kernel
theorem dL_same_912 : decode cL_same 912 = .ok (.iadd, 1) := by decide +kernel
theorem dL_same_913 : decode cL_same 913 = .ok (.iaload, 1) := by decide +kernel
theorem dL_same_914 : decode cL_same 914 = .ok (.isub, 1) := by decide +kernel
theorem dL_same_915 : decode cL_same 915 = .ok (.if_icmp .ne 39, 3) := by decide +kernel
theorem dL_same_918 : decode cL_same 918 = .ok (.aload_n 0, 1) := by decide +kernel
theorem dL_same_919 : decode cL_same 919 = .ok (.iload_n 1, 1) := by decide +kernel
theorem dL_same_920 : decode cL_same 920 = .ok (.iload 17, 2) := by decide +kernel
theorem dL_same_922 : decode cL_same 922 = .ok (.invokevirtual 56, 3) := by decide +kernel
theorem dL_same_925 : decode cL_same 925 = .ok (.iload 17, 2) := by decide +kernel
theorem dL_same_927 : decode cL_same 927 = .ok (.aload 6, 2) := by decide +kernel
theorem dL_same_929 : decode cL_same 929 = .ok (.iconst 2, 1) := by decide +kernel
theorem dL_same_930 : decode cL_same 930 = .ok (.iaload, 1) := by decide +kernel
theorem dL_same_931 : decode cL_same 931 = .ok (.imul, 1) := by decide +kernel
theorem dL_same_932 : decode cL_same 932 = .ok (.aload 8, 2) := by decide +kernel
theorem dL_same_934 : decode cL_same 934 = .ok (.iload 12, 2) := by decide +kernel
theorem dL_same_936 : decode cL_same 936 = .ok (.iload 13, 2) := by decide +kernel
theorem dL_same_938 : decode cL_same 938 = .ok (.iload 14, 2) := by decide +kernel
theorem dL_same_940 : decode cL_same 940 = .ok (.aload 6, 2) := by decide +kernel
theorem dL_same_942 : decode cL_same 942 = .ok (.iconst 2, 1) := by decide +kernel
theorem dL_same_943 : decode cL_same 943 = .ok (.iaload, 1) := by decide +kernel
theorem dL_same_944 : decode cL_same 944 = .ok (.invokestatic 70, 3) := by decide +kernel
theorem dL_same_947 : decode cL_same 947 = .ok (.ifCond .eq 7, 3) := by decide +kernel
theorem dL_same_950 : decode cL_same 950 = .ok (.iconst 1, 1) := by decide +kernel
theorem dL_same_951 : decode cL_same 951 = .ok (.goto 4, 3) := by decide +kernel
theorem dL_same_954 : decode cL_same 954 = .ok (.iconst 0, 1) := by decide +kernel
theorem dL_same_955 : decode cL_same 955 = .ok (.ireturn, 1) := by decide +kernel
theorem dL_law_0 : decode cL_law 0 = .ok (.new 40, 3) := by decide +kernel
theorem dL_law_3 : decode cL_law 3 = .ok (.dup, 1) := by decide +kernel
theorem dL_law_4 : decode cL_law 4 = .ok (.invokespecial 82, 3) := by decide +kernel
theorem dL_law_7 : decode cL_law 7 = .ok (.astore_n 1, 1) := by decide +kernel
theorem dL_law_8 : decode cL_law 8 = .ok (.iconst 2, 1) := by decide +kernel
theorem dL_law_9 : decode cL_law 9 = .ok (.newarray .int, 2) := by decide +kernel
theorem dL_law_11 : decode cL_law 11 = .ok (.astore_n 2, 1) := by decide +kernel
theorem dL_law_12 : decode cL_law 12 = .ok (.bipush 64, 2) := by decide +kernel
theorem dL_law_14 : decode cL_law 14 = .ok (.newarray .int, 2) := by decide +kernel
theorem dL_law_16 : decode cL_law 16 = .ok (.astore_n 3, 1) := by decide +kernel
theorem dL_law_17 : decode cL_law 17 = .ok (.bipush 64, 2) := by decide +kernel
theorem dL_law_19 : decode cL_law 19 = .ok (.newarray .int, 2) := by decide +kernel
theorem dL_law_21 : decode cL_law 21 = .ok (.astore 4, 2) := by decide +kernel
theorem dL_law_23 : decode cL_law 23 = .ok (.bipush 20, 2) := by decide +kernel
theorem dL_law_25 : decode cL_law 25 = .ok (.newarray .int, 2) := by decide +kernel
theorem dL_law_27 : decode cL_law 27 = .ok (.astore 5, 2) := by decide +kernel
theorem dL_law_29 : decode cL_law 29 = .ok (.bipush 20, 2) := by decide +kernel
theorem dL_law_31 : decode cL_law 31 = .ok (.newarray .int, 2) := by decide +kernel
theorem dL_law_33 : decode cL_law 33 = .ok (.astore 6, 2) := by decide +kernel
theorem dL_law_35 : decode cL_law 35 = .ok (.bipush 40, 2) := by decide +kernel
theorem dL_law_37 : decode cL_law 37 = .ok (.newarray .int, 2) := by decide +kernel
theorem dL_law_39 : decode cL_law 39 = .ok (.astore 7, 2) := by decide +kernel
theorem dL_law_41 : decode cL_law 41 = .ok (.bipush 40, 2) := by decide +kernel
theorem dL_law_43 : decode cL_law 43 = .ok (.newarray .int, 2) := by decide +kernel
theorem dL_law_45 : decode cL_law 45 = .ok (.astore 8, 2) := by decide +kernel
theorem dL_law_47 : decode cL_law 47 = .ok (.iconst 4, 1) := by decide +kernel
theorem dL_law_48 : decode cL_law 48 = .ok (.newarray .int, 2) := by decide +kernel
theorem dL_law_50 : decode cL_law 50 = .ok (.astore 9, 2) := by decide +kernel
theorem dL_law_52 : decode cL_law 52 = .ok (.iconst 4, 1) := by decide +kernel
theorem dL_law_53 : decode cL_law 53 = .ok (.newarray .int, 2) := by decide +kernel
theorem dL_law_55 : decode cL_law 55 = .ok (.astore 10, 2) := by decide +kernel
theorem dL_law_57 : decode cL_law 57 = .ok (.bipush 64, 2) := by decide +kernel
theorem dL_law_59 : decode cL_law 59 = .ok (.newarray .int, 2) := by decide +kernel
theorem dL_law_61 : decode cL_law 61 = .ok (.astore 11, 2) := by decide +kernel
theorem dL_law_63 : decode cL_law 63 = .ok (.aload_n 2, 1) := by decide +kernel
theorem dL_law_64 : decode cL_law 64 = .ok (.iconst 0, 1) := by decide +kernel
theorem dL_law_65 : decode cL_law 65 = .ok (.bipush 10, 2) := by decide +kernel
theorem dL_law_67 : decode cL_law 67 = .ok (.iastore, 1) := by decide +kernel
theorem dL_law_68 : decode cL_law 68 = .ok (.aload_n 2, 1) := by decide +kernel
theorem dL_law_69 : decode cL_law 69 = .ok (.iconst 1, 1) := by decide +kernel
theorem dL_law_70 : decode cL_law 70 = .ok (.iconst 5, 1) := by decide +kernel
theorem dL_law_71 : decode cL_law 71 = .ok (.iastore, 1) := by decide +kernel
theorem dL_law_72 : decode cL_law 72 = .ok (.iconst 0, 1) := by decide +kernel
theorem dL_law_73 : decode cL_law 73 = .ok (.istore 12, 2) := by decide +kernel
theorem dL_law_75 : decode cL_law 75 = .ok (.iload 12, 2) := by decide +kernel
theorem dL_law_77 : decode cL_law 77 = .ok (.bipush 16, 2) := by decide +kernel
theorem dL_law_79 : decode cL_law 79 = .ok (.if_icmp .ge 673, 3) := by decide +kernel
theorem dL_law_82 : decode cL_law 82 = .ok (.aload_n 0, 1) := by decide +kernel
theorem dL_law_83 : decode cL_law 83 = .ok (.iload 12, 2) := by decide +kernel
theorem dL_law_85 : decode cL_law 85 = .ok (.invokestatic 83, 3) := by decide +kernel
theorem dL_law_88 : decode cL_law 88 = .ok (.istore 13, 2) := by decide +kernel
theorem dL_law_90 : decode cL_law 90 = .ok (.iload 13, 2) := by decide +kernel
theorem dL_law_92 : decode cL_law 92 = .ok (.bipush 9, 2) := by decide +kernel
theorem dL_law_94 : decode cL_law 94 = .ok (.invokestatic 73, 3) := by decide +kernel
theorem dL_law_97 : decode cL_law 97 = .ok (.istore 14, 2) := by decide +kernel
theorem dL_law_99 : decode cL_law 99 = .ok (.iload 13, 2) := by decide +kernel
theorem dL_law_101 : decode cL_law 101 = .ok (.iconst 4, 1) := by decide +kernel
theorem dL_law_102 : decode cL_law 102 = .ok (.ishr, 1) := by decide +kernel
theorem dL_law_103 : decode cL_law 103 = .ok (.iconst 2, 1) := by decide +kernel
theorem dL_law_104 : decode cL_law 104 = .ok (.invokestatic 73, 3) := by decide +kernel
theorem dL_law_107 : decode cL_law 107 = .ok (.istore 15, 2) := by decide +kernel
theorem dL_law_109 : decode cL_law 109 = .ok (.iload 15, 2) := by decide +kernel
theorem dL_law_111 : decode cL_law 111 = .ok (.ifCond .ne 7, 3) := by decide +kernel
theorem dL_law_114 : decode cL_law 114 = .ok (.aload_n 3, 1) := by decide +kernel
theorem dL_law_115 : decode cL_law 115 = .ok (.goto 5, 3) := by decide +kernel
theorem dL_law_118 : decode cL_law 118 = .ok (.aload 4, 2) := by decide +kernel
theorem dL_law_120 : decode cL_law 120 = .ok (.astore 16, 2) := by decide +kernel
theorem dL_law_122 : decode cL_law 122 = .ok (.iload 15, 2) := by decide +kernel
theorem dL_law_124 : decode cL_law 124 = .ok (.ifCond .ne 8, 3) := by decide +kernel
theorem dL_law_127 : decode cL_law 127 = .ok (.aload 5, 2) := by decide +kernel
theorem dL_law_129 : decode cL_law 129 = .ok (.goto 5, 3) := by decide +kernel
theorem dL_law_132 : decode cL_law 132 = .ok (.aload 6, 2) := by decide +kernel
theorem dL_law_134 : decode cL_law 134 = .ok (.astore 17, 2) := by decide +kernel
theorem dL_law_136 : decode cL_law 136 = .ok (.iload 15, 2) := by decide +kernel
theorem dL_law_138 : decode cL_law 138 = .ok (.ifCond .ne 8, 3) := by decide +kernel
theorem dL_law_141 : decode cL_law 141 = .ok (.aload 7, 2) := by decide +kernel
theorem dL_law_143 : decode cL_law 143 = .ok (.goto 5, 3) := by decide +kernel
theorem dL_law_146 : decode cL_law 146 = .ok (.aload 8, 2) := by decide +kernel
theorem dL_law_148 : decode cL_law 148 = .ok (.astore 18, 2) := by decide +kernel
theorem dL_law_150 : decode cL_law 150 = .ok (.iload 15, 2) := by decide +kernel
theorem dL_law_152 : decode cL_law 152 = .ok (.ifCond .ne 8, 3) := by decide +kernel
theorem dL_law_155 : decode cL_law 155 = .ok (.aload 9, 2) := by decide +kernel
theorem dL_law_157 : decode cL_law 157 = .ok (.goto 5, 3) := by decide +kernel
theorem dL_law_160 : decode cL_law 160 = .ok (.aload 10, 2) := by decide +kernel
theorem dL_law_162 : decode cL_law 162 = .ok (.astore 19, 2) := by decide +kernel
theorem dL_law_164 : decode cL_law 164 = .ok (.aload 9, 2) := by decide +kernel
theorem dL_law_166 : decode cL_law 166 = .ok (.iconst 0, 1) := by decide +kernel
theorem dL_law_167 : decode cL_law 167 = .ok (.iaload, 1) := by decide +kernel
theorem dL_law_168 : decode cL_law 168 = .ok (.aload 9, 2) := by decide +kernel
theorem dL_law_170 : decode cL_law 170 = .ok (.iconst 1, 1) := by decide +kernel
theorem dL_law_171 : decode cL_law 171 = .ok (.iaload, 1) := by decide +kernel
theorem dL_law_172 : decode cL_law 172 = .ok (.iadd, 1) := by decide +kernel
theorem dL_law_173 : decode cL_law 173 = .ok (.bipush 13, 2) := by decide +kernel
theorem dL_law_175 : decode cL_law 175 = .ok (.if_icmp .gt 577, 3) := by decide +kernel
theorem dL_law_178 : decode cL_law 178 = .ok (.aload 10, 2) := by decide +kernel
theorem dL_law_180 : decode cL_law 180 = .ok (.iconst 0, 1) := by decide +kernel
theorem dL_law_181 : decode cL_law 181 = .ok (.iaload, 1) := by decide +kernel
theorem dL_law_182 : decode cL_law 182 = .ok (.aload 10, 2) := by decide +kernel
theorem dL_law_184 : decode cL_law 184 = .ok (.iconst 1, 1) := by decide +kernel
theorem dL_law_185 : decode cL_law 185 = .ok (.iaload, 1) := by decide +kernel
theorem dL_law_186 : decode cL_law 186 = .ok (.iadd, 1) := by decide +kernel
theorem dL_law_187 : decode cL_law 187 = .ok (.bipush 13, 2) := by decide +kernel
theorem dL_law_189 : decode cL_law 189 = .ok (.if_icmp .gt 563, 3) := by decide +kernel
theorem dL_law_192 : decode cL_law 192 = .ok (.aload 9, 2) := by decide +kernel
theorem dL_law_194 : decode cL_law 194 = .ok (.iconst 2, 1) := by decide +kernel
theorem dL_law_195 : decode cL_law 195 = .ok (.iaload, 1) := by decide +kernel
theorem dL_law_196 : decode cL_law 196 = .ok (.aload 10, 2) := by decide +kernel
theorem dL_law_198 : decode cL_law 198 = .ok (.iconst 2, 1) := by decide +kernel
theorem dL_law_199 : decode cL_law 199 = .ok (.iaload, 1) := by decide +kernel
theorem dL_law_200 : decode cL_law 200 = .ok (.iadd, 1) := by decide +kernel
theorem dL_law_201 : decode cL_law 201 = .ok (.bipush 34, 2) := by decide +kernel
theorem dL_law_203 : decode cL_law 203 = .ok (.if_icmp .le 6, 3) := by decide +kernel
theorem dL_law_206 : decode cL_law 206 = .ok (.goto 546, 3) := by decide +kernel
theorem dL_law_209 : decode cL_law 209 = .ok (.iload 14, 2) := by decide +kernel
theorem dL_law_211 : decode cL_law 211 = .ok (.bipush 6, 2) := by decide +kernel
theorem dL_law_213 : decode cL_law 213 = .ok (.if_icmp .ge 120, 3) := by decide +kernel
theorem dL_law_216 : decode cL_law 216 = .ok (.iload 13, 2) := by decide +kernel
theorem dL_law_218 : decode cL_law 218 = .ok (.bipush 9, 2) := by decide +kernel
theorem dL_law_220 : decode cL_law 220 = .ok (.ishr, 1) := by decide +kernel
theorem dL_law_221 : decode cL_law 221 = .ok (.iconst 3, 1) := by decide +kernel
theorem dL_law_222 : decode cL_law 222 = .ok (.invokestatic 73, 3) := by decide +kernel
theorem dL_law_225 : decode cL_law 225 = .ok (.ifCond .ne 16, 3) := by decide +kernel
theorem dL_law_228 : decode cL_law 228 = .ok (.iload 13, 2) := by decide +kernel
theorem dL_law_230 : decode cL_law 230 = .ok (.iconst 5, 1) := by decide +kernel
theorem dL_law_231 : decode cL_law 231 = .ok (.ishr, 1) := by decide +kernel
theorem dL_law_232 : decode cL_law 232 = .ok (.sipush 10000, 3) := by decide +kernel
theorem dL_law_235 : decode cL_law 235 = .ok (.invokestatic 73, 3) := by decide +kernel
theorem dL_law_238 : decode cL_law 238 = .ok (.goto 12, 3) := by decide +kernel
theorem dL_law_241 : decode cL_law 241 = .ok (.iload 13, 2) := by decide +kernel
theorem dL_law_243 : decode cL_law 243 = .ok (.iconst 5, 1) := by decide +kernel
theorem dL_law_244 : decode cL_law 244 = .ok (.ishr, 1) := by decide +kernel
theorem dL_law_245 : decode cL_law 245 = .ok (.bipush 40, 2) := by decide +kernel
theorem dL_law_247 : decode cL_law 247 = .ok (.invokestatic 73, 3) := by decide +kernel
theorem dL_law_250 : decode cL_law 250 = .ok (.istore 20, 2) := by decide +kernel
theorem dL_law_252 : decode cL_law 252 = .ok (.iload 13, 2) := by decide +kernel
theorem dL_law_254 : decode cL_law 254 = .ok (.bipush 11, 2) := by decide +kernel
theorem dL_law_256 : decode cL_law 256 = .ok (.ishr, 1) := by decide +kernel
theorem dL_law_257 : decode cL_law 257 = .ok (.iconst 4, 1) := by decide +kernel
theorem dL_law_258 : decode cL_law 258 = .ok (.invokestatic 73, 3) := by decide +kernel
theorem dL_law_261 : decode cL_law 261 = .ok (.ifCond .ne 17, 3) := by decide +kernel
theorem dL_law_264 : decode cL_law 264 = .ok (.iconst 2, 1) := by decide +kernel
theorem dL_law_265 : decode cL_law 265 = .ok (.iload 13, 2) := by decide +kernel
theorem dL_law_267 : decode cL_law 267 = .ok (.bipush 13, 2) := by decide +kernel
theorem dL_law_269 : decode cL_law 269 = .ok (.ishr, 1) := by decide +kernel
theorem dL_law_270 : decode cL_law 270 = .ok (.iconst 2, 1) := by decide +kernel
theorem dL_law_271 : decode cL_law 271 = .ok (.invokestatic 73, 3) := by decide +kernel
theorem dL_law_274 : decode cL_law 274 = .ok (.iadd, 1) := by decide +kernel
theorem dL_law_275 : decode cL_law 275 = .ok (.goto 4, 3) := by decide +kernel
theorem dL_law_278 : decode cL_law 278 = .ok (.iconst 1, 1) := by decide +kernel
theorem dL_law_279 : decode cL_law 279 = .ok (.istore 21, 2) := by decide +kernel
theorem dL_law_281 : decode cL_law 281 = .ok (.iconst 0, 1) := by decide +kernel
theorem dL_law_282 : decode cL_law 282 = .ok (.istore 22, 2) := by decide +kernel
theorem dL_law_284 : decode cL_law 284 = .ok (.iload 22, 2) := by decide +kernel
theorem dL_law_286 : decode cL_law 286 = .ok (.iload 21, 2) := by decide +kernel
theorem dL_law_288 : decode cL_law 288 = .ok (.if_icmp .ge 23, 3) := by decide +kernel
theorem dL_law_291 : decode cL_law 291 = .ok (.iload 20, 2) := by decide +kernel
theorem dL_law_293 : decode cL_law 293 = .ok (.aload 16, 2) := by decide +kernel
theorem dL_law_295 : decode cL_law 295 = .ok (.aload 17, 2) := by decide +kernel
theorem dL_law_297 : decode cL_law 297 = .ok (.aload 18, 2) := by decide +kernel
theorem dL_law_299 : decode cL_law 299 = .ok (.aload 19, 2) := by decide +kernel
theorem dL_law_301 : decode cL_law 301 = .ok (.aload_n 2, 1) := by decide +kernel
theorem dL_law_302 : decode cL_law 302 = .ok (.invokestatic 87, 3) := by decide +kernel
theorem dL_law_305 : decode cL_law 305 = .ok (.iinc 22 1, 3) := by decide +kernel
theorem dL_law_308 : decode cL_law 308 = .ok (.goto (-24), 3) := by decide +kernel
theorem dL_law_311 : decode cL_law 311 = .ok (.aload_n 1, 1) := by decide +kernel
theorem dL_law_312 : decode cL_law 312 = .ok (.iload 15, 2) := by decide +kernel
theorem dL_law_314 : decode cL_law 314 = .ok (.iload 20, 2) := by decide +kernel
theorem dL_law_316 : decode cL_law 316 = .ok (.iload 21, 2) := by decide +kernel
theorem dL_law_318 : decode cL_law 318 = .ok (.invokevirtual 91, 3) := by decide +kernel
theorem dL_law_321 : decode cL_law 321 = .ok (.aload 19, 2) := by decide +kernel
theorem dL_law_323 : decode cL_law 323 = .ok (.iconst 2, 1) := by decide +kernel
theorem dL_law_324 : decode cL_law 324 = .ok (.iaload, 1) := by decide +kernel
theorem dL_law_325 : decode cL_law 325 = .ok (.if_icmp .eq 5, 3) := by decide +kernel
theorem dL_law_328 : decode cL_law 328 = .ok (.iconst 0, 1) := by decide +kernel
theorem dL_law_329 : decode cL_law 329 = .ok (.ireturn, 1) := by decide +kernel
theorem dL_law_330 : decode cL_law 330 = .ok (.goto 309, 3) := by decide +kernel
theorem dL_law_333 : decode cL_law 333 = .ok (.iload 14, 2) := by decide +kernel
theorem dL_law_335 : decode cL_law 335 = .ok (.bipush 6, 2) := by decide +kernel
theorem dL_law_337 : decode cL_law 337 = .ok (.if_icmp .ne 28, 3) := by decide +kernel
theorem dL_law_340 : decode cL_law 340 = .ok (.aload 16, 2) := by decide +kernel
theorem dL_law_342 : decode cL_law 342 = .ok (.aload 17, 2) := by decide +kernel
theorem dL_law_344 : decode cL_law 344 = .ok (.aload 19, 2) := by decide +kernel
theorem dL_law_346 : decode cL_law 346 = .ok (.aload_n 2, 1) := by decide +kernel
theorem dL_law_347 : decode cL_law 347 = .ok (.invokestatic 24, 3) := by decide +kernel
theorem dL_law_350 : decode cL_law 350 = .ok (.aload_n 1, 1) := by decide +kernel
theorem dL_law_351 : decode cL_law 351 = .ok (.iload 15, 2) := by decide +kernel
theorem dL_law_353 : decode cL_law 353 = .ok (.invokevirtual 94, 3) := by decide +kernel
theorem dL_law_356 : decode cL_law 356 = .ok (.aload 19, 2) := by decide +kernel
theorem dL_law_358 : decode cL_law 358 = .ok (.iconst 0, 1) := by decide +kernel
theorem dL_law_359 : decode cL_law 359 = .ok (.iaload, 1) := by decide +kernel
theorem dL_law_360 : decode cL_law 360 = .ok (.if_icmp .eq 279, 3) := by decide +kernel
theorem dL_law_363 : decode cL_law 363 = .ok (.iconst 0, 1) := by decide +kernel
theorem dL_law_364 : decode cL_law 364 = .ok (.ireturn, 1) := by decide +kernel
theorem dL_law_365 : decode cL_law 365 = .ok (.iload 14, 2) := by decide +kernel
theorem dL_law_367 : decode cL_law 367 = .ok (.bipush 7, 2) := by decide +kernel
theorem dL_law_369 : decode cL_law 369 = .ok (.if_icmp .ne 73, 3) := by decide +kernel
theorem dL_law_372 : decode cL_law 372 = .ok (.iload 13, 2) := by decide +kernel
theorem dL_law_374 : decode cL_law 374 = .ok (.iconst 5, 1) := by decide +kernel
theorem dL_law_375 : decode cL_law 375 = .ok (.ishr, 1) := by decide +kernel
theorem dL_law_376 : decode cL_law 376 = .ok (.iconst 2, 1) := by decide +kernel
theorem dL_law_377 : decode cL_law 377 = .ok (.invokestatic 73, 3) := by decide +kernel
theorem dL_law_380 : decode cL_law 380 = .ok (.istore 20, 2) := by decide +kernel
theorem dL_law_382 : decode cL_law 382 = .ok (.iload 20, 2) := by decide +kernel
theorem dL_law_384 : decode cL_law 384 = .ok (.ifCond .ne 18, 3) := by decide +kernel
theorem dL_law_387 : decode cL_law 387 = .ok (.iconst 1, 1) := by decide +kernel
theorem dL_law_388 : decode cL_law 388 = .ok (.iload 13, 2) := by decide +kernel
theorem dL_law_390 : decode cL_law 390 = .ok (.bipush 7, 2) := by decide +kernel
theorem dL_law_392 : decode cL_law 392 = .ok (.ishr, 1) := by decide +kernel
theorem dL_law_393 : decode cL_law 393 = .ok (.bipush 12, 2) := by decide +kernel
theorem dL_law_395 : decode cL_law 395 = .ok (.invokestatic 73, 3) := by decide +kernel
theorem dL_law_398 : decode cL_law 398 = .ok (.iadd, 1) := by decide +kernel
theorem dL_law_399 : decode cL_law 399 = .ok (.goto 15, 3) := by decide +kernel
theorem dL_law_402 : decode cL_law 402 = .ok (.iconst 1, 1) := by decide +kernel
theorem dL_law_403 : decode cL_law 403 = .ok (.iload 13, 2) := by decide +kernel
theorem dL_law_405 : decode cL_law 405 = .ok (.bipush 7, 2) := by decide +kernel
theorem dL_law_407 : decode cL_law 407 = .ok (.ishr, 1) := by decide +kernel
theorem dL_law_408 : decode cL_law 408 = .ok (.bipush 8, 2) := by decide +kernel
theorem dL_law_410 : decode cL_law 410 = .ok (.invokestatic 73, 3) := by decide +kernel
theorem dL_law_413 : decode cL_law 413 = .ok (.iadd, 1) := by decide +kernel
theorem dL_law_414 : decode cL_law 414 = .ok (.istore 21, 2) := by decide +kernel
theorem dL_law_416 : decode cL_law 416 = .ok (.aload_n 1, 1) := by decide +kernel
theorem dL_law_417 : decode cL_law 417 = .ok (.iload 20, 2) := by decide +kernel
theorem dL_law_419 : decode cL_law 419 = .ok (.iload 21, 2) := by decide +kernel
theorem dL_law_421 : decode cL_law 421 = .ok (.invokevirtual 97, 3) := by decide +kernel
theorem dL_law_424 : decode cL_law 424 = .ok (.aload_n 2, 1) := by decide +kernel
theorem dL_law_425 : decode cL_law 425 = .ok (.iload 20, 2) := by decide +kernel
theorem dL_law_427 : decode cL_law 427 = .ok (.iaload, 1) := by decide +kernel
theorem dL_law_428 : decode cL_law 428 = .ok (.if_icmp .eq 5, 3) := by decide +kernel
theorem dL_law_431 : decode cL_law 431 = .ok (.iconst 0, 1) := by decide +kernel
theorem dL_law_432 : decode cL_law 432 = .ok (.ireturn, 1) := by decide +kernel
theorem dL_law_433 : decode cL_law 433 = .ok (.aload_n 2, 1) := by decide +kernel
theorem dL_law_434 : decode cL_law 434 = .ok (.iload 20, 2) := by decide +kernel
theorem dL_law_436 : decode cL_law 436 = .ok (.iload 21, 2) := by decide +kernel
theorem dL_law_438 : decode cL_law 438 = .ok (.iastore, 1) := by decide +kernel
theorem dL_law_439 : decode cL_law 439 = .ok (.goto 200, 3) := by decide +kernel
theorem dL_law_442 : decode cL_law 442 = .ok (.aload_n 3, 1) := by decide +kernel
theorem dL_law_443 : decode cL_law 443 = .ok (.aload 5, 2) := by decide +kernel
theorem dL_law_445 : decode cL_law 445 = .ok (.aload 9, 2) := by decide +kernel
theorem dL_law_447 : decode cL_law 447 = .ok (.aload_n 2, 1) := by decide +kernel
theorem dL_law_448 : decode cL_law 448 = .ok (.invokestatic 24, 3) := by decide +kernel
theorem dL_law_451 : decode cL_law 451 = .ok (.aload 4, 2) := by decide +kernel
theorem dL_law_453 : decode cL_law 453 = .ok (.aload 6, 2) := by decide +kernel
theorem dL_law_455 : decode cL_law 455 = .ok (.aload 10, 2) := by decide +kernel
theorem dL_law_457 : decode cL_law 457 = .ok (.aload_n 2, 1) := by decide +kernel
theorem dL_law_458 : decode cL_law 458 = .ok (.invokestatic 24, 3) := by decide +kernel
theorem dL_law_461 : decode cL_law 461 = .ok (.aload 9, 2) := by decide +kernel
theorem dL_law_463 : decode cL_law 463 = .ok (.iconst 0, 1) := by decide +kernel
theorem dL_law_464 : decode cL_law 464 = .ok (.iaload, 1) := by decide +kernel
theorem dL_law_465 : decode cL_law 465 = .ok (.aload 10, 2) := by decide +kernel
theorem dL_law_467 : decode cL_law 467 = .ok (.iconst 0, 1) := by decide +kernel
theorem dL_law_468 : decode cL_law 468 = .ok (.iaload, 1) := by decide +kernel
theorem dL_law_469 : decode cL_law 469 = .ok (.iadd, 1) := by decide +kernel
theorem dL_law_470 : decode cL_law 470 = .ok (.bipush 16, 2) := by decide +kernel
theorem dL_law_472 : decode cL_law 472 = .ok (.if_icmp .le 6, 3) := by decide +kernel
theorem dL_law_475 : decode cL_law 475 = .ok (.goto 277, 3) := by decide +kernel
theorem dL_law_478 : decode cL_law 478 = .ok (.iload 15, 2) := by decide +kernel
theorem dL_law_480 : decode cL_law 480 = .ok (.ifCond .ne 8, 3) := by decide +kernel
theorem dL_law_483 : decode cL_law 483 = .ok (.aload 4, 2) := by decide +kernel
theorem dL_law_485 : decode cL_law 485 = .ok (.goto 4, 3) := by decide +kernel
theorem dL_law_488 : decode cL_law 488 = .ok (.aload_n 3, 1) := by decide +kernel
theorem dL_law_489 : decode cL_law 489 = .ok (.astore 20, 2) := by decide +kernel
theorem dL_law_491 : decode cL_law 491 = .ok (.iload 15, 2) := by decide +kernel
theorem dL_law_493 : decode cL_law 493 = .ok (.ifCond .ne 8, 3) := by decide +kernel
theorem dL_law_496 : decode cL_law 496 = .ok (.aload 10, 2) := by decide +kernel
theorem dL_law_498 : decode cL_law 498 = .ok (.goto 5, 3) := by decide +kernel
theorem dL_law_501 : decode cL_law 501 = .ok (.aload 9, 2) := by decide +kernel
theorem dL_law_503 : decode cL_law 503 = .ok (.astore 21, 2) := by decide +kernel
theorem dL_law_505 : decode cL_law 505 = .ok (.iload 15, 2) := by decide +kernel
theorem dL_law_507 : decode cL_law 507 = .ok (.ifCond .ne 8, 3) := by decide +kernel
theorem dL_law_510 : decode cL_law 510 = .ok (.aload 8, 2) := by decide +kernel
theorem dL_law_512 : decode cL_law 512 = .ok (.goto 5, 3) := by decide +kernel
theorem dL_law_515 : decode cL_law 515 = .ok (.aload 7, 2) := by decide +kernel
theorem dL_law_517 : decode cL_law 517 = .ok (.astore 22, 2) := by decide +kernel
theorem dL_law_519 : decode cL_law 519 = .ok (.iconst 0, 1) := by decide +kernel
theorem dL_law_520 : decode cL_law 520 = .ok (.istore 23, 2) := by decide +kernel
theorem dL_law_522 : decode cL_law 522 = .ok (.iload 23, 2) := by decide +kernel
theorem dL_law_524 : decode cL_law 524 = .ok (.iconst 4, 1) := by decide +kernel
theorem dL_law_525 : decode cL_law 525 = .ok (.aload 21, 2) := by decide +kernel
theorem dL_law_527 : decode cL_law 527 = .ok (.iconst 0, 1) := by decide +kernel
theorem dL_law_528 : decode cL_law 528 = .ok (.iaload, 1) := by decide +kernel
theorem dL_law_529 : decode cL_law 529 = .ok (.imul, 1) := by decide +kernel
theorem dL_law_530 : decode cL_law 530 = .ok (.if_icmp .ge 26, 3) := by decide +kernel
theorem dL_law_533 : decode cL_law 533 = .ok (.aload 16, 2) := by decide +kernel
theorem dL_law_535 : decode cL_law 535 = .ok (.iconst 4, 1) := by decide +kernel
theorem dL_law_536 : decode cL_law 536 = .ok (.aload 19, 2) := by decide +kernel
theorem dL_law_538 : decode cL_law 538 = .ok (.iconst 0, 1) := by decide +kernel
theorem dL_law_539 : decode cL_law 539 = .ok (.iaload, 1) := by decide +kernel
theorem dL_law_540 : decode cL_law 540 = .ok (.imul, 1) := by decide +kernel
theorem dL_law_541 : decode cL_law 541 = .ok (.iload 23, 2) := by decide +kernel
theorem dL_law_543 : decode cL_law 543 = .ok (.iadd, 1) := by decide +kernel
theorem dL_law_544 : decode cL_law 544 = .ok (.aload 20, 2) := by decide +kernel
theorem dL_law_546 : decode cL_law 546 = .ok (.iload 23, 2) := by decide +kernel
theorem dL_law_548 : decode cL_law 548 = .ok (.iaload, 1) := by decide +kernel
theorem dL_law_549 : decode cL_law 549 = .ok (.iastore, 1) := by decide +kernel
theorem dL_law_550 : decode cL_law 550 = .ok (.iinc 23 1, 3) := by decide +kernel
theorem dL_law_553 : decode cL_law 553 = .ok (.goto (-31), 3) := by decide +kernel
theorem dL_law_556 : decode cL_law 556 = .ok (.aload 19, 2) := by decide +kernel
theorem dL_law_558 : decode cL_law 558 = .ok (.iconst 0, 1) := by decide +kernel
theorem dL_law_559 : decode cL_law 559 = .ok (.aload 16, 2) := by decide +kernel
theorem dL_law_561 : decode cL_law 561 = .ok (.aload 19, 2) := by decide +kernel
theorem dL_law_563 : decode cL_law 563 = .ok (.iconst 0, 1) := by decide +kernel
theorem dL_law_564 : decode cL_law 564 = .ok (.iaload, 1) := by decide +kernel
theorem dL_law_565 : decode cL_law 565 = .ok (.aload 21, 2) := by decide +kernel
theorem dL_law_567 : decode cL_law 567 = .ok (.iconst 0, 1) := by decide +kernel
theorem dL_law_568 : decode cL_law 568 = .ok (.iaload, 1) := by decide +kernel
theorem dL_law_569 : decode cL_law 569 = .ok (.iadd, 1) := by decide +kernel
theorem dL_law_570 : decode cL_law 570 = .ok (.aload_n 2, 1) := by decide +kernel
theorem dL_law_571 : decode cL_law 571 = .ok (.iconst 0, 1) := by decide +kernel
theorem dL_law_572 : decode cL_law 572 = .ok (.iaload, 1) := by decide +kernel
theorem dL_law_573 : decode cL_law 573 = .ok (.invokestatic 20, 3) := by decide +kernel
theorem dL_law_576 : decode cL_law 576 = .ok (.iastore, 1) := by decide +kernel
theorem dL_law_577 : decode cL_law 577 = .ok (.aload 19, 2) := by decide +kernel
theorem dL_law_579 : decode cL_law 579 = .ok (.iconst 3, 1) := by decide +kernel
theorem dL_law_580 : decode cL_law 580 = .ok (.dup2, 1) := by decide +kernel
theorem dL_law_581 : decode cL_law 581 = .ok (.iaload, 1) := by decide +kernel
theorem dL_law_582 : decode cL_law 582 = .ok (.iconst 1, 1) := by decide +kernel
theorem dL_law_583 : decode cL_law 583 = .ok (.iadd, 1) := by decide +kernel
theorem dL_law_584 : decode cL_law 584 = .ok (.iastore, 1) := by decide +kernel
theorem dL_law_585 : decode cL_law 585 = .ok (.iconst 0, 1) := by decide +kernel
theorem dL_law_586 : decode cL_law 586 = .ok (.istore 23, 2) := by decide +kernel
theorem dL_law_588 : decode cL_law 588 = .ok (.iload 23, 2) := by decide +kernel
theorem dL_law_590 : decode cL_law 590 = .ok (.aload 21, 2) := by decide +kernel
theorem dL_law_592 : decode cL_law 592 = .ok (.iconst 2, 1) := by decide +kernel
theorem dL_law_593 : decode cL_law 593 = .ok (.iaload, 1) := by decide +kernel
theorem dL_law_594 : decode cL_law 594 = .ok (.if_icmp .ge 26, 3) := by decide +kernel
theorem dL_law_597 : decode cL_law 597 = .ok (.aload 18, 2) := by decide +kernel
theorem dL_law_599 : decode cL_law 599 = .ok (.aload 19, 2) := by decide +kernel
theorem dL_law_601 : decode cL_law 601 = .ok (.iconst 2, 1) := by decide +kernel
theorem dL_law_602 : decode cL_law 602 = .ok (.dup2, 1) := by decide +kernel
theorem dL_law_603 : decode cL_law 603 = .ok (.iaload, 1) := by decide +kernel
theorem dL_law_604 : decode cL_law 604 = .ok (.dup_x2, 1) := by decide +kernel
theorem dL_law_605 : decode cL_law 605 = .ok (.iconst 1, 1) := by decide +kernel
theorem dL_law_606 : decode cL_law 606 = .ok (.iadd, 1) := by decide +kernel
theorem dL_law_607 : decode cL_law 607 = .ok (.iastore, 1) := by decide +kernel
theorem dL_law_608 : decode cL_law 608 = .ok (.aload 22, 2) := by decide +kernel
theorem dL_law_610 : decode cL_law 610 = .ok (.iload 23, 2) := by decide +kernel
theorem dL_law_612 : decode cL_law 612 = .ok (.iaload, 1) := by decide +kernel
theorem dL_law_613 : decode cL_law 613 = .ok (.iastore, 1) := by decide +kernel
theorem dL_law_614 : decode cL_law 614 = .ok (.iinc 23 1, 3) := by decide +kernel
theorem dL_law_617 : decode cL_law 617 = .ok (.goto (-29), 3) := by decide +kernel
theorem dL_law_620 : decode cL_law 620 = .ok (.aload_n 1, 1) := by decide +kernel
theorem dL_law_621 : decode cL_law 621 = .ok (.iconst 1, 1) := by decide +kernel
theorem dL_law_622 : decode cL_law 622 = .ok (.iload 15, 2) := by decide +kernel
theorem dL_law_624 : decode cL_law 624 = .ok (.isub, 1) := by decide +kernel
theorem dL_law_625 : decode cL_law 625 = .ok (.iload 15, 2) := by decide +kernel
theorem dL_law_627 : decode cL_law 627 = .ok (.invokevirtual 100, 3) := by decide +kernel
theorem dL_law_630 : decode cL_law 630 = .ok (.aload 19, 2) := by decide +kernel
theorem dL_law_632 : decode cL_law 632 = .ok (.iconst 2, 1) := by decide +kernel
theorem dL_law_633 : decode cL_law 633 = .ok (.iaload, 1) := by decide +kernel
theorem dL_law_634 : decode cL_law 634 = .ok (.if_icmp .eq 5, 3) := by decide +kernel
theorem dL_law_637 : decode cL_law 637 = .ok (.iconst 0, 1) := by decide +kernel
theorem dL_law_638 : decode cL_law 638 = .ok (.ireturn, 1) := by decide +kernel
theorem dL_law_639 : decode cL_law 639 = .ok (.aload_n 1, 1) := by decide +kernel
theorem dL_law_640 : decode cL_law 640 = .ok (.iconst 0, 1) := by decide +kernel
theorem dL_law_641 : decode cL_law 641 = .ok (.iload 13, 2) := by decide +kernel
theorem dL_law_643 : decode cL_law 643 = .ok (.iconst 2, 1) := by decide +kernel
theorem dL_law_644 : decode cL_law 644 = .ok (.ishr, 1) := by decide +kernel
theorem dL_law_645 : decode cL_law 645 = .ok (.aload_n 3, 1) := by decide +kernel
theorem dL_law_646 : decode cL_law 646 = .ok (.aload 5, 2) := by decide +kernel
theorem dL_law_648 : decode cL_law 648 = .ok (.aload 7, 2) := by decide +kernel
theorem dL_law_650 : decode cL_law 650 = .ok (.aload 9, 2) := by decide +kernel
theorem dL_law_652 : decode cL_law 652 = .ok (.aload_n 2, 1) := by decide +kernel
theorem dL_law_653 : decode cL_law 653 = .ok (.aload 11, 2) := by decide +kernel
theorem dL_law_655 : decode cL_law 655 = .ok (.invokestatic 103, 3) := by decide +kernel
theorem dL_law_658 : decode cL_law 658 = .ok (.ifCond .eq 26, 3) := by decide +kernel
theorem dL_law_661 : decode cL_law 661 = .ok (.aload_n 1, 1) := by decide +kernel
theorem dL_law_662 : decode cL_law 662 = .ok (.iconst 1, 1) := by decide +kernel
theorem dL_law_663 : decode cL_law 663 = .ok (.iload 13, 2) := by decide +kernel
theorem dL_law_665 : decode cL_law 665 = .ok (.iconst 3, 1) := by decide +kernel
theorem dL_law_666 : decode cL_law 666 = .ok (.ishr, 1) := by decide +kernel
theorem dL_law_667 : decode cL_law 667 = .ok (.aload 4, 2) := by decide +kernel
theorem dL_law_669 : decode cL_law 669 = .ok (.aload 6, 2) := by decide +kernel
theorem dL_law_671 : decode cL_law 671 = .ok (.aload 8, 2) := by decide +kernel
theorem dL_law_673 : decode cL_law 673 = .ok (.aload 10, 2) := by decide +kernel
theorem dL_law_675 : decode cL_law 675 = .ok (.aload_n 2, 1) := by decide +kernel
theorem dL_law_676 : decode cL_law 676 = .ok (.aload 11, 2) := by decide +kernel
theorem dL_law_678 : decode cL_law 678 = .ok (.invokestatic 103, 3) := by decide +kernel
theorem dL_law_681 : decode cL_law 681 = .ok (.ifCond .ne 5, 3) := by decide +kernel
theorem dL_law_684 : decode cL_law 684 = .ok (.iconst 0, 1) := by decide +kernel
theorem dL_law_685 : decode cL_law 685 = .ok (.ireturn, 1) := by decide +kernel
theorem dL_law_686 : decode cL_law 686 = .ok (.aload_n 1, 1) := by decide +kernel
theorem dL_law_687 : decode cL_law 687 = .ok (.iconst 0, 1) := by decide +kernel
theorem dL_law_688 : decode cL_law 688 = .ok (.invokevirtual 107, 3) := by decide +kernel
theorem dL_law_691 : decode cL_law 691 = .ok (.aload 9, 2) := by decide +kernel
theorem dL_law_693 : decode cL_law 693 = .ok (.iconst 2, 1) := by decide +kernel
theorem dL_law_694 : decode cL_law 694 = .ok (.iaload, 1) := by decide +kernel
theorem dL_law_695 : decode cL_law 695 = .ok (.aload 10, 2) := by decide +kernel
theorem dL_law_697 : decode cL_law 697 = .ok (.iconst 2, 1) := by decide +kernel
theorem dL_law_698 : decode cL_law 698 = .ok (.iaload, 1) := by decide +kernel
theorem dL_law_699 : decode cL_law 699 = .ok (.iadd, 1) := by decide +kernel
theorem dL_law_700 : decode cL_law 700 = .ok (.if_icmp .ne 44, 3) := by decide +kernel
theorem dL_law_703 : decode cL_law 703 = .ok (.aload_n 1, 1) := by decide +kernel
theorem dL_law_704 : decode cL_law 704 = .ok (.iconst 1, 1) := by decide +kernel
theorem dL_law_705 : decode cL_law 705 = .ok (.invokevirtual 107, 3) := by decide +kernel
theorem dL_law_708 : decode cL_law 708 = .ok (.aload 9, 2) := by decide +kernel
theorem dL_law_710 : decode cL_law 710 = .ok (.iconst 0, 1) := by decide +kernel
theorem dL_law_711 : decode cL_law 711 = .ok (.iaload, 1) := by decide +kernel
theorem dL_law_712 : decode cL_law 712 = .ok (.aload 10, 2) := by decide +kernel
theorem dL_law_714 : decode cL_law 714 = .ok (.iconst 0, 1) := by decide +kernel
theorem dL_law_715 : decode cL_law 715 = .ok (.iaload, 1) := by decide +kernel
theorem dL_law_716 : decode cL_law 716 = .ok (.iadd, 1) := by decide +kernel
theorem dL_law_717 : decode cL_law 717 = .ok (.if_icmp .ne 27, 3) := by decide +kernel
theorem dL_law_720 : decode cL_law 720 = .ok (.aload_n 1, 1) := by decide +kernel
theorem dL_law_721 : decode cL_law 721 = .ok (.bipush 20, 2) := by decide +kernel
theorem dL_law_723 : decode cL_law 723 = .ok (.invokevirtual 107, 3) := by decide +kernel
theorem dL_law_726 : decode cL_law 726 = .ok (.aload_n 2, 1) := by decide +kernel
theorem dL_law_727 : decode cL_law 727 = .ok (.iconst 0, 1) := by decide +kernel
theorem dL_law_728 : decode cL_law 728 = .ok (.iaload, 1) := by decide +kernel
theorem dL_law_729 : decode cL_law 729 = .ok (.if_icmp .ne 15, 3) := by decide +kernel
theorem dL_law_732 : decode cL_law 732 = .ok (.aload_n 1, 1) := by decide +kernel
theorem dL_law_733 : decode cL_law 733 = .ok (.bipush 21, 2) := by decide +kernel
