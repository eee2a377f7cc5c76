theorem dX12_init_451 : decode cX12_init 451 = .ok (.dup, 1) := by decide +kernel
theorem dX12_init_452 : decode cX12_init 452 = .ok (.iconst 1, 1) := by decide +kernel
theorem dX12_init_453 : decode cX12_init 453 = .ok (.ldc2_w 172, 3) := by decide +kernel
theorem dX12_init_456 : decode cX12_init 456 = .ok (.lastore, 1) := by decide +kernel
theorem dX12_init_457 : decode cX12_init 457 = .ok (.dup, 1) := by decide +kernel
theorem dX12_init_458 : decode cX12_init 458 = .ok (.iconst 2, 1) := by decide +kernel
theorem dX12_init_459 : decode cX12_init 459 = .ok (.ldc2_w 172, 3) := by decide +kernel
theorem dX12_init_462 : decode cX12_init 462 = .ok (.lastore, 1) := by decide +kernel
theorem dX12_init_463 : decode cX12_init 463 = .ok (.dup, 1) := by decide +kernel
theorem dX12_init_464 : decode cX12_init 464 = .ok (.iconst 3, 1) := by decide +kernel
theorem dX12_init_465 : decode cX12_init 465 = .ok (.ldc2_w 172, 3) := by decide +kernel
theorem dX12_init_468 : decode cX12_init 468 = .ok (.lastore, 1) := by decide +kernel
theorem dX12_init_469 : decode cX12_init 469 = .ok (.dup, 1) := by decide +kernel
theorem dX12_init_470 : decode cX12_init 470 = .ok (.iconst 4, 1) := by decide +kernel
theorem dX12_init_471 : decode cX12_init 471 = .ok (.ldc2_w 172, 3) := by decide +kernel
theorem dX12_init_474 : decode cX12_init 474 = .ok (.lastore, 1) := by decide +kernel
theorem dX12_init_475 : decode cX12_init 475 = .ok (.dup, 1) := by decide +kernel
theorem dX12_init_476 : decode cX12_init 476 = .ok (.iconst 5, 1) := by decide +kernel
theorem dX12_init_477 : decode cX12_init 477 = .ok (.ldc2_w 172, 3) := by decide +kernel
theorem dX12_init_480 : decode cX12_init 480 = .ok (.lastore, 1) := by decide +kernel
theorem dX12_init_481 : decode cX12_init 481 = .ok (.dup, 1) := by decide +kernel
theorem dX12_init_482 : decode cX12_init 482 = .ok (.bipush 6, 2) := by decide +kernel
theorem dX12_init_484 : decode cX12_init 484 = .ok (.ldc2_w 172, 3) := by decide +kernel
theorem dX12_init_487 : decode cX12_init 487 = .ok (.lastore, 1) := by decide +kernel
theorem dX12_init_488 : decode cX12_init 488 = .ok (.dup, 1) := by decide +kernel
theorem dX12_init_489 : decode cX12_init 489 = .ok (.bipush 7, 2) := by decide +kernel
theorem dX12_init_491 : decode cX12_init 491 = .ok (.ldc2_w 172, 3) := by decide +kernel
theorem dX12_init_494 : decode cX12_init 494 = .ok (.lastore, 1) := by decide +kernel
theorem dX12_init_495 : decode cX12_init 495 = .ok (.dup, 1) := by decide +kernel
theorem dX12_init_496 : decode cX12_init 496 = .ok (.bipush 8, 2) := by decide +kernel
theorem dX12_init_498 : decode cX12_init 498 = .ok (.ldc2_w 172, 3) := by decide +kernel
theorem dX12_init_501 : decode cX12_init 501 = .ok (.lastore, 1) := by decide +kernel
theorem dX12_init_502 : decode cX12_init 502 = .ok (.putfield 174, 3) := by decide +kernel
theorem dX12_init_505 : decode cX12_init 505 = .ok (.aload_n 0, 1) := by decide +kernel
theorem dX12_init_506 : decode cX12_init 506 = .ok (.bipush 9, 2) := by decide +kernel
theorem dX12_init_508 : decode cX12_init 508 = .ok (.newarray .long, 2) := by decide +kernel
theorem dX12_init_510 : decode cX12_init 510 = .ok (.putfield 177, 3) := by decide +kernel
theorem dX12_init_513 : decode cX12_init 513 = .ok (.aload_n 0, 1) := by decide +kernel
theorem dX12_init_514 : decode cX12_init 514 = .ok (.bipush 9, 2) := by decide +kernel
theorem dX12_init_516 : decode cX12_init 516 = .ok (.newarray .boolean, 2) := by decide +kernel
theorem dX12_init_518 : decode cX12_init 518 = .ok (.putfield 180, 3) := by decide +kernel
theorem dX12_init_521 : decode cX12_init 521 = .ok (.aload_n 0, 1) := by decide +kernel
theorem dX12_init_522 : decode cX12_init 522 = .ok (.bipush 9, 2) := by decide +kernel
theorem dX12_init_524 : decode cX12_init 524 = .ok (.newarray .int, 2) := by decide +kernel
theorem dX12_init_526 : decode cX12_init 526 = .ok (.putfield 183, 3) := by decide +kernel
theorem dX12_init_529 : decode cX12_init 529 = .ok (.aload_n 0, 1) := by decide +kernel
theorem dX12_init_530 : decode cX12_init 530 = .ok (.bipush 9, 2) := by decide +kernel
theorem dX12_init_532 : decode cX12_init 532 = .ok (.newarray .int, 2) := by decide +kernel
theorem dX12_init_534 : decode cX12_init 534 = .ok (.putfield 186, 3) := by decide +kernel
theorem dX12_init_537 : decode cX12_init 537 = .ok (.aload_n 0, 1) := by decide +kernel
theorem dX12_init_538 : decode cX12_init 538 = .ok (.bipush 9, 2) := by decide +kernel
theorem dX12_init_540 : decode cX12_init 540 = .ok (.newarray .int, 2) := by decide +kernel
theorem dX12_init_542 : decode cX12_init 542 = .ok (.putfield 189, 3) := by decide +kernel
theorem dX12_init_545 : decode cX12_init 545 = .ok (.aload_n 0, 1) := by decide +kernel
theorem dX12_init_546 : decode cX12_init 546 = .ok (.bipush 9, 2) := by decide +kernel
theorem dX12_init_548 : decode cX12_init 548 = .ok (.newarray .int, 2) := by decide +kernel
theorem dX12_init_550 : decode cX12_init 550 = .ok (.putfield 192, 3) := by decide +kernel
theorem dX12_init_553 : decode cX12_init 553 = .ok (.aload_n 0, 1) := by decide +kernel
theorem dX12_init_554 : decode cX12_init 554 = .ok (.bipush 9, 2) := by decide +kernel
theorem dX12_init_556 : decode cX12_init 556 = .ok (.newarray .boolean, 2) := by decide +kernel
theorem dX12_init_558 : decode cX12_init 558 = .ok (.putfield 195, 3) := by decide +kernel
theorem dX12_init_561 : decode cX12_init 561 = .ok (.aload_n 0, 1) := by decide +kernel
theorem dX12_init_562 : decode cX12_init 562 = .ok (.ldc2_w 198, 3) := by decide +kernel
theorem dX12_init_565 : decode cX12_init 565 = .ok (.putfield 200, 3) := by decide +kernel
theorem dX12_init_568 : decode cX12_init 568 = .ok (.aload_n 0, 1) := by decide +kernel
theorem dX12_init_569 : decode cX12_init 569 = .ok (.iconst 3, 1) := by decide +kernel
theorem dX12_init_570 : decode cX12_init 570 = .ok (.newarray .long, 2) := by decide +kernel
theorem dX12_init_572 : decode cX12_init 572 = .ok (.dup, 1) := by decide +kernel
theorem dX12_init_573 : decode cX12_init 573 = .ok (.iconst 0, 1) := by decide +kernel
theorem dX12_init_574 : decode cX12_init 574 = .ok (.ldc2_w 172, 3) := by decide +kernel
theorem dX12_init_577 : decode cX12_init 577 = .ok (.lastore, 1) := by decide +kernel
theorem dX12_init_578 : decode cX12_init 578 = .ok (.dup, 1) := by decide +kernel
theorem dX12_init_579 : decode cX12_init 579 = .ok (.iconst 1, 1) := by decide +kernel
theorem dX12_init_580 : decode cX12_init 580 = .ok (.ldc2_w 172, 3) := by decide +kernel
theorem dX12_init_583 : decode cX12_init 583 = .ok (.lastore, 1) := by decide +kernel
theorem dX12_init_584 : decode cX12_init 584 = .ok (.dup, 1) := by decide +kernel
theorem dX12_init_585 : decode cX12_init 585 = .ok (.iconst 2, 1) := by decide +kernel
theorem dX12_init_586 : decode cX12_init 586 = .ok (.ldc2_w 172, 3) := by decide +kernel
theorem dX12_init_589 : decode cX12_init 589 = .ok (.lastore, 1) := by decide +kernel
theorem dX12_init_590 : decode cX12_init 590 = .ok (.putfield 204, 3) := by decide +kernel
theorem dX12_init_593 : decode cX12_init 593 = .ok (.aload_n 0, 1) := by decide +kernel
theorem dX12_init_594 : decode cX12_init 594 = .ok (.iconst 5, 1) := by decide +kernel
theorem dX12_init_595 : decode cX12_init 595 = .ok (.newarray .int, 2) := by decide +kernel
theorem dX12_init_597 : decode cX12_init 597 = .ok (.dup, 1) := by decide +kernel
theorem dX12_init_598 : decode cX12_init 598 = .ok (.iconst 0, 1) := by decide +kernel
theorem dX12_init_599 : decode cX12_init 599 = .ok (.iconst 0, 1) := by decide +kernel
theorem dX12_init_600 : decode cX12_init 600 = .ok (.iastore, 1) := by decide +kernel
theorem dX12_init_601 : decode cX12_init 601 = .ok (.dup, 1) := by decide +kernel
theorem dX12_init_602 : decode cX12_init 602 = .ok (.iconst 1, 1) := by decide +kernel
theorem dX12_init_603 : decode cX12_init 603 = .ok (.sipush 10000, 3) := by decide +kernel
theorem dX12_init_606 : decode cX12_init 606 = .ok (.iastore, 1) := by decide +kernel
theorem dX12_init_607 : decode cX12_init 607 = .ok (.dup, 1) := by decide +kernel
theorem dX12_init_608 : decode cX12_init 608 = .ok (.iconst 2, 1) := by decide +kernel
theorem dX12_init_609 : decode cX12_init 609 = .ok (.sipush 5000, 3) := by decide +kernel
theorem dX12_init_612 : decode cX12_init 612 = .ok (.iastore, 1) := by decide +kernel
theorem dX12_init_613 : decode cX12_init 613 = .ok (.dup, 1) := by decide +kernel
theorem dX12_init_614 : decode cX12_init 614 = .ok (.iconst 3, 1) := by decide +kernel
theorem dX12_init_615 : decode cX12_init 615 = .ok (.iconst 0, 1) := by decide +kernel
theorem dX12_init_616 : decode cX12_init 616 = .ok (.iastore, 1) := by decide +kernel
theorem dX12_init_617 : decode cX12_init 617 = .ok (.dup, 1) := by decide +kernel
theorem dX12_init_618 : decode cX12_init 618 = .ok (.iconst 4, 1) := by decide +kernel
theorem dX12_init_619 : decode cX12_init 619 = .ok (.iconst 0, 1) := by decide +kernel
theorem dX12_init_620 : decode cX12_init 620 = .ok (.iastore, 1) := by decide +kernel
theorem dX12_init_621 : decode cX12_init 621 = .ok (.putfield 207, 3) := by decide +kernel
theorem dX12_init_624 : decode cX12_init 624 = .ok (.aload_n 0, 1) := by decide +kernel
theorem dX12_init_625 : decode cX12_init 625 = .ok (.iconst 3, 1) := by decide +kernel
theorem dX12_init_626 : decode cX12_init 626 = .ok (.newarray .long, 2) := by decide +kernel
theorem dX12_init_628 : decode cX12_init 628 = .ok (.dup, 1) := by decide +kernel
theorem dX12_init_629 : decode cX12_init 629 = .ok (.iconst 0, 1) := by decide +kernel
theorem dX12_init_630 : decode cX12_init 630 = .ok (.ldc2_w 210, 3) := by decide +kernel
theorem dX12_init_633 : decode cX12_init 633 = .ok (.lastore, 1) := by decide +kernel
theorem dX12_init_634 : decode cX12_init 634 = .ok (.dup, 1) := by decide +kernel
theorem dX12_init_635 : decode cX12_init 635 = .ok (.iconst 1, 1) := by decide +kernel
theorem dX12_init_636 : decode cX12_init 636 = .ok (.ldc2_w 210, 3) := by decide +kernel
theorem dX12_init_639 : decode cX12_init 639 = .ok (.lastore, 1) := by decide +kernel
theorem dX12_init_640 : decode cX12_init 640 = .ok (.dup, 1) := by decide +kernel
theorem dX12_init_641 : decode cX12_init 641 = .ok (.iconst 2, 1) := by decide +kernel
theorem dX12_init_642 : decode cX12_init 642 = .ok (.ldc2_w 210, 3) := by decide +kernel
theorem dX12_init_645 : decode cX12_init 645 = .ok (.lastore, 1) := by decide +kernel
theorem dX12_init_646 : decode cX12_init 646 = .ok (.putfield 212, 3) := by decide +kernel
theorem dX12_init_649 : decode cX12_init 649 = .ok (.aload_n 0, 1) := by decide +kernel
theorem dX12_init_650 : decode cX12_init 650 = .ok (.iconst 3, 1) := by decide +kernel
theorem dX12_init_651 : decode cX12_init 651 = .ok (.newarray .long, 2) := by decide +kernel
theorem dX12_init_653 : decode cX12_init 653 = .ok (.dup, 1) := by decide +kernel
theorem dX12_init_654 : decode cX12_init 654 = .ok (.iconst 0, 1) := by decide +kernel
theorem dX12_init_655 : decode cX12_init 655 = .ok (.ldc2_w 215, 3) := by decide +kernel
theorem dX12_init_658 : decode cX12_init 658 = .ok (.lastore, 1) := by decide +kernel
theorem dX12_init_659 : decode cX12_init 659 = .ok (.dup, 1) := by decide +kernel
theorem dX12_init_660 : decode cX12_init 660 = .ok (.iconst 1, 1) := by decide +kernel
theorem dX12_init_661 : decode cX12_init 661 = .ok (.ldc2_w 215, 3) := by decide +kernel
theorem dX12_init_664 : decode cX12_init 664 = .ok (.lastore, 1) := by decide +kernel
theorem dX12_init_665 : decode cX12_init 665 = .ok (.dup, 1) := by decide +kernel
theorem dX12_init_666 : decode cX12_init 666 = .ok (.iconst 2, 1) := by decide +kernel
theorem dX12_init_667 : decode cX12_init 667 = .ok (.ldc2_w 215, 3) := by decide +kernel
theorem dX12_init_670 : decode cX12_init 670 = .ok (.lastore, 1) := by decide +kernel
theorem dX12_init_671 : decode cX12_init 671 = .ok (.putfield 217, 3) := by decide +kernel
theorem dX12_init_674 : decode cX12_init 674 = .ok (.aload_n 0, 1) := by decide +kernel
theorem dX12_init_675 : decode cX12_init 675 = .ok (.iconst 3, 1) := by decide +kernel
theorem dX12_init_676 : decode cX12_init 676 = .ok (.newarray .int, 2) := by decide +kernel
theorem dX12_init_678 : decode cX12_init 678 = .ok (.putfield 220, 3) := by decide +kernel
theorem dX12_init_681 : decode cX12_init 681 = .ok (.aload_n 0, 1) := by decide +kernel
theorem dX12_init_682 : decode cX12_init 682 = .ok (.iconst 3, 1) := by decide +kernel
theorem dX12_init_683 : decode cX12_init 683 = .ok (.newarray .int, 2) := by decide +kernel
theorem dX12_init_685 : decode cX12_init 685 = .ok (.putfield 223, 3) := by decide +kernel
theorem dX12_init_688 : decode cX12_init 688 = .ok (.aload_n 0, 1) := by decide +kernel
theorem dX12_init_689 : decode cX12_init 689 = .ok (.iconst 3, 1) := by decide +kernel
theorem dX12_init_690 : decode cX12_init 690 = .ok (.newarray .int, 2) := by decide +kernel
theorem dX12_init_692 : decode cX12_init 692 = .ok (.putfield 226, 3) := by decide +kernel
theorem dX12_init_695 : decode cX12_init 695 = .ok (.aload_n 0, 1) := by decide +kernel
theorem dX12_init_696 : decode cX12_init 696 = .ok (.bipush 18, 2) := by decide +kernel
theorem dX12_init_698 : decode cX12_init 698 = .ok (.newarray .long, 2) := by decide +kernel
theorem dX12_init_700 : decode cX12_init 700 = .ok (.putfield 229, 3) := by decide +kernel
theorem dX12_init_703 : decode cX12_init 703 = .ok (.aload_n 0, 1) := by decide +kernel
theorem dX12_init_704 : decode cX12_init 704 = .ok (.iconst 3, 1) := by decide +kernel
theorem dX12_init_705 : decode cX12_init 705 = .ok (.newarray .int, 2) := by decide +kernel
theorem dX12_init_707 : decode cX12_init 707 = .ok (.putfield 232, 3) := by decide +kernel
theorem dX12_init_710 : decode cX12_init 710 = .ok (.aload_n 0, 1) := by decide +kernel
theorem dX12_init_711 : decode cX12_init 711 = .ok (.bipush 18, 2) := by decide +kernel
theorem dX12_init_713 : decode cX12_init 713 = .ok (.newarray .int, 2) := by decide +kernel
theorem dX12_init_715 : decode cX12_init 715 = .ok (.putfield 235, 3) := by decide +kernel
theorem dX12_init_718 : decode cX12_init 718 = .ok (.aload_n 0, 1) := by decide +kernel
theorem dX12_init_719 : decode cX12_init 719 = .ok (.bipush 18, 2) := by decide +kernel
theorem dX12_init_721 : decode cX12_init 721 = .ok (.newarray .int, 2) := by decide +kernel
theorem dX12_init_723 : decode cX12_init 723 = .ok (.putfield 238, 3) := by decide +kernel
theorem dX12_init_726 : decode cX12_init 726 = .ok (.aload_n 0, 1) := by decide +kernel
theorem dX12_init_727 : decode cX12_init 727 = .ok (.bipush 40, 2) := by decide +kernel
theorem dX12_init_729 : decode cX12_init 729 = .ok (.newarray .long, 2) := by decide +kernel
theorem dX12_init_731 : decode cX12_init 731 = .ok (.putfield 241, 3) := by decide +kernel
theorem dX12_init_734 : decode cX12_init 734 = .ok (.aload_n 0, 1) := by decide +kernel
theorem dX12_init_735 : decode cX12_init 735 = .ok (.bipush 40, 2) := by decide +kernel
theorem dX12_init_737 : decode cX12_init 737 = .ok (.newarray .long, 2) := by decide +kernel
theorem dX12_init_739 : decode cX12_init 739 = .ok (.putfield 244, 3) := by decide +kernel
theorem dX12_init_742 : decode cX12_init 742 = .ok (.aload_n 0, 1) := by decide +kernel
theorem dX12_init_743 : decode cX12_init 743 = .ok (.bipush 40, 2) := by decide +kernel
theorem dX12_init_745 : decode cX12_init 745 = .ok (.newarray .long, 2) := by decide +kernel
theorem dX12_init_747 : decode cX12_init 747 = .ok (.putfield 247, 3) := by decide +kernel
theorem dX12_init_750 : decode cX12_init 750 = .ok (.aload_n 0, 1) := by decide +kernel
theorem dX12_init_751 : decode cX12_init 751 = .ok (.bipush 40, 2) := by decide +kernel
theorem dX12_init_753 : decode cX12_init 753 = .ok (.newarray .double, 2) := by decide +kernel
theorem dX12_init_755 : decode cX12_init 755 = .ok (.putfield 250, 3) := by decide +kernel
theorem dX12_init_758 : decode cX12_init 758 = .ok (.aload_n 0, 1) := by decide +kernel
theorem dX12_init_759 : decode cX12_init 759 = .ok (.bipush 18, 2) := by decide +kernel
theorem dX12_init_761 : decode cX12_init 761 = .ok (.newarray .int, 2) := by decide +kernel
theorem dX12_init_763 : decode cX12_init 763 = .ok (.putfield 254, 3) := by decide +kernel
theorem dX12_init_766 : decode cX12_init 766 = .ok (.aload_n 0, 1) := by decide +kernel
theorem dX12_init_767 : decode cX12_init 767 = .ok (.bipush 24, 2) := by decide +kernel
theorem dX12_init_769 : decode cX12_init 769 = .ok (.newarray .long, 2) := by decide +kernel
theorem dX12_init_771 : decode cX12_init 771 = .ok (.putfield 257, 3) := by decide +kernel
theorem dX12_init_774 : decode cX12_init 774 = .ok (.aload_n 0, 1) := by decide +kernel
theorem dX12_init_775 : decode cX12_init 775 = .ok (.bipush 24, 2) := by decide +kernel
theorem dX12_init_777 : decode cX12_init 777 = .ok (.newarray .long, 2) := by decide +kernel
theorem dX12_init_779 : decode cX12_init 779 = .ok (.putfield 260, 3) := by decide +kernel
theorem dX12_init_782 : decode cX12_init 782 = .ok (.aload_n 0, 1) := by decide +kernel
theorem dX12_init_783 : decode cX12_init 783 = .ok (.iconst 3, 1) := by decide +kernel
theorem dX12_init_784 : decode cX12_init 784 = .ok (.newarray .int, 2) := by decide +kernel
theorem dX12_init_786 : decode cX12_init 786 = .ok (.putfield 263, 3) := by decide +kernel
theorem dX12_init_789 : decode cX12_init 789 = .ok (.aload_n 0, 1) := by decide +kernel
theorem dX12_init_790 : decode cX12_init 790 = .ok (.iconst 4, 1) := by decide +kernel
theorem dX12_init_791 : decode cX12_init 791 = .ok (.newarray .long, 2) := by decide +kernel
theorem dX12_init_793 : decode cX12_init 793 = .ok (.putfield 266, 3) := by decide +kernel
theorem dX12_init_796 : decode cX12_init 796 = .ok (.aload_n 0, 1) := by decide +kernel
theorem dX12_init_797 : decode cX12_init 797 = .ok (.iconst 4, 1) := by decide +kernel
theorem dX12_init_798 : decode cX12_init 798 = .ok (.newarray .long, 2) := by decide +kernel
theorem dX12_init_800 : decode cX12_init 800 = .ok (.putfield 269, 3) := by decide +kernel
theorem dX12_init_803 : decode cX12_init 803 = .ok (.aload_n 0, 1) := by decide +kernel
theorem dX12_init_804 : decode cX12_init 804 = .ok (.iconst 3, 1) := by decide +kernel
theorem dX12_init_805 : decode cX12_init 805 = .ok (.newarray .long, 2) := by decide +kernel
theorem dX12_init_807 : decode cX12_init 807 = .ok (.putfield 272, 3) := by decide +kernel
theorem dX12_init_810 : decode cX12_init 810 = .ok (.aload_n 0, 1) := by decide +kernel
theorem dX12_init_811 : decode cX12_init 811 = .ok (.bipush 8, 2) := by decide +kernel
theorem dX12_init_813 : decode cX12_init 813 = .ok (.newarray .long, 2) := by decide +kernel
theorem dX12_init_815 : decode cX12_init 815 = .ok (.putfield 275, 3) := by decide +kernel
theorem dX12_init_818 : decode cX12_init 818 = .ok (.aload_n 0, 1) := by decide +kernel
theorem dX12_init_819 : decode cX12_init 819 = .ok (.bipush 8, 2) := by decide +kernel
theorem dX12_init_821 : decode cX12_init 821 = .ok (.newarray .int, 2) := by decide +kernel
theorem dX12_init_823 : decode cX12_init 823 = .ok (.putfield 278, 3) := by decide +kernel
theorem dX12_init_826 : decode cX12_init 826 = .ok (.aload_n 0, 1) := by decide +kernel
theorem dX12_init_827 : decode cX12_init 827 = .ok (.bipush 8, 2) := by decide +kernel
theorem dX12_init_829 : decode cX12_init 829 = .ok (.newarray .int, 2) := by decide +kernel
theorem dX12_init_831 : decode cX12_init 831 = .ok (.putfield 281, 3) := by decide +kernel
theorem dX12_init_834 : decode cX12_init 834 = .ok (.aload_n 0, 1) := by decide +kernel
theorem dX12_init_835 : decode cX12_init 835 = .ok (.bipush 8, 2) := by decide +kernel
theorem dX12_init_837 : decode cX12_init 837 = .ok (.newarray .int, 2) := by decide +kernel
theorem dX12_init_839 : decode cX12_init 839 = .ok (.putfield 284, 3) := by decide +kernel
theorem dX12_init_842 : decode cX12_init 842 = .ok (.aload_n 0, 1) := by decide +kernel
theorem dX12_init_843 : decode cX12_init 843 = .ok (.bipush 8, 2) := by decide +kernel
theorem dX12_init_845 : decode cX12_init 845 = .ok (.newarray .long, 2) := by decide +kernel
theorem dX12_init_847 : decode cX12_init 847 = .ok (.putfield 287, 3) := by decide +kernel
theorem dX12_init_850 : decode cX12_init 850 = .ok (.aload_n 0, 1) := by decide +kernel
theorem dX12_init_851 : decode cX12_init 851 = .ok (.sipush 1280, 3) := by decide +kernel
theorem dX12_init_854 : decode cX12_init 854 = .ok (.newarray .int, 2) := by decide +kernel
theorem dX12_init_856 : decode cX12_init 856 = .ok (.putfield 290, 3) := by decide +kernel
theorem dX12_init_859 : decode cX12_init 859 = .ok (.aload_n 0, 1) := by decide +kernel
theorem dX12_init_860 : decode cX12_init 860 = .ok (.bipush 64, 2) := by decide +kernel
theorem dX12_init_862 : decode cX12_init 862 = .ok (.newarray .int, 2) := by decide +kernel
theorem dX12_init_864 : decode cX12_init 864 = .ok (.putfield 293, 3) := by decide +kernel
theorem dX12_init_867 : decode cX12_init 867 = .ok (.aload_n 0, 1) := by decide +kernel
theorem dX12_init_868 : decode cX12_init 868 = .ok (.iconst (-1), 1) := by decide +kernel
theorem dX12_init_869 : decode cX12_init 869 = .ok (.putfield 296, 3) := by decide +kernel
theorem dX12_init_872 : decode cX12_init 872 = .ok (.return_, 1) := by decide +kernel
theorem dX12_in_0 : decode cX12_in 0 = .ok (.iload_n 0, 1) := by decide +kernel
theorem dX12_in_1 : decode cX12_in 1 = .ok (.iload_n 1, 1) := by decide +kernel
theorem dX12_in_2 : decode cX12_in 2 = .ok (.if_icmp .lt 12, 3) := by decide +kernel
theorem dX12_in_5 : decode cX12_in 5 = .ok (.iload_n 0, 1) := by decide +kernel
theorem dX12_in_6 : decode cX12_in 6 = .ok (.iload_n 2, 1) := by decide +kernel
theorem dX12_in_7 : decode cX12_in 7 = .ok (.if_icmp .gt 7, 3) := by decide +kernel
theorem dX12_in_10 : decode cX12_in 10 = .ok (.iconst 1, 1) := by decide +kernel
theorem dX12_in_11 : decode cX12_in 11 = .ok (.goto 4, 3) := by decide +kernel
theorem dX12_in_14 : decode cX12_in 14 = .ok (.iconst 0, 1) := by decide +kernel
theorem dX12_in_15 : decode cX12_in 15 = .ok (.ireturn, 1) := by decide +kernel
theorem dX12_isBin_0 : decode cX12_isBin 0 = .ok (.iload_n 0, 1) := by decide +kernel
theorem dX12_isBin_1 : decode cX12_isBin 1 = .ok (.ifCond .lt 13, 3) := by decide +kernel
theorem dX12_isBin_4 : decode cX12_isBin 4 = .ok (.iload_n 0, 1) := by decide +kernel
theorem dX12_isBin_5 : decode cX12_isBin 5 = .ok (.bipush 15, 2) := by decide +kernel
theorem dX12_isBin_7 : decode cX12_isBin 7 = .ok (.if_icmp .gt 7, 3) := by decide +kernel
theorem dX12_isBin_10 : decode cX12_isBin 10 = .ok (.iconst 1, 1) := by decide +kernel
theorem dX12_isBin_11 : decode cX12_isBin 11 = .ok (.goto 4, 3) := by decide +kernel
theorem dX12_isBin_14 : decode cX12_isBin 14 = .ok (.iconst 0, 1) := by decide +kernel
theorem dX12_isBin_15 : decode cX12_isBin 15 = .ok (.ireturn, 1) := by decide +kernel
theorem dX12_isFull_0 : decode cX12_isFull 0 = .ok (.aload_n 0, 1) := by decide +kernel
theorem dX12_isFull_1 : decode cX12_isFull 1 = .ok (.getfield 299, 3) := by decide +kernel
theorem dX12_isFull_4 : decode cX12_isFull 4 = .ok (.sipush 3000, 3) := by decide +kernel
theorem dX12_isFull_7 : decode cX12_isFull 7 = .ok (.if_icmp .ge 13, 3) := by decide +kernel
theorem dX12_isFull_10 : decode cX12_isFull 10 = .ok (.aload_n 0, 1) := by decide +kernel
theorem dX12_isFull_11 : decode cX12_isFull 11 = .ok (.getfield 302, 3) := by decide +kernel
theorem dX12_isFull_14 : decode cX12_isFull 14 = .ok (.sipush 4000, 3) := by decide +kernel
theorem dX12_isFull_17 : decode cX12_isFull 17 = .ok (.if_icmp .lt 7, 3) := by decide +kernel
theorem dX12_isFull_20 : decode cX12_isFull 20 = .ok (.iconst 1, 1) := by decide +kernel
theorem dX12_isFull_21 : decode cX12_isFull 21 = .ok (.goto 4, 3) := by decide +kernel
theorem dX12_isFull_24 : decode cX12_isFull 24 = .ok (.iconst 0, 1) := by decide +kernel
theorem dX12_isFull_25 : decode cX12_isFull 25 = .ok (.ireturn, 1) := by decide +kernel
theorem dX12_no_0 : decode cX12_no 0 = .ok (.aload_n 0, 1) := by decide +kernel
theorem dX12_no_1 : decode cX12_no 1 = .ok (.dup, 1) := by decide +kernel
theorem dX12_no_2 : decode cX12_no 2 = .ok (.getfield 299, 3) := by decide +kernel
theorem dX12_no_5 : decode cX12_no 5 = .ok (.iconst 1, 1) := by decide +kernel
theorem dX12_no_6 : decode cX12_no 6 = .ok (.iadd, 1) := by decide +kernel
theorem dX12_no_7 : decode cX12_no 7 = .ok (.putfield 299, 3) := by decide +kernel
theorem dX12_no_10 : decode cX12_no 10 = .ok (.aload_n 0, 1) := by decide +kernel
theorem dX12_no_11 : decode cX12_no 11 = .ok (.iload_n 1, 1) := by decide +kernel
theorem dX12_no_12 : decode cX12_no 12 = .ok (.putfield 305, 3) := by decide +kernel
theorem dX12_no_15 : decode cX12_no 15 = .ok (.bipush (-10), 2) := by decide +kernel
theorem dX12_no_17 : decode cX12_no 17 = .ok (.iload_n 1, 1) := by decide +kernel
theorem dX12_no_18 : decode cX12_no 18 = .ok (.isub, 1) := by decide +kernel
theorem dX12_no_19 : decode cX12_no 19 = .ok (.ireturn, 1) := by decide +kernel
theorem dX12_noBits_0 : decode cX12_noBits 0 = .ok (.aload_n 0, 1) := by decide +kernel
theorem dX12_noBits_1 : decode cX12_noBits 1 = .ok (.iload_n 1, 1) := by decide +kernel
theorem dX12_noBits_2 : decode cX12_noBits 2 = .ok (.invokevirtual 308, 3) := by decide +kernel
theorem dX12_noBits_5 : decode cX12_noBits 5 = .ok (.istore_n 2, 1) := by decide +kernel
theorem dX12_noBits_6 : decode cX12_noBits 6 = .ok (.lconst 0, 1) := by decide +kernel
theorem dX12_noBits_7 : decode cX12_noBits 7 = .ok (.lreturn, 1) := by decide +kernel
theorem dX12_thing_0 : decode cX12_thing 0 = .ok (.aload_n 0, 1) := by decide +kernel
theorem dX12_thing_1 : decode cX12_thing 1 = .ok (.dup, 1) := by decide +kernel
theorem dX12_thing_2 : decode cX12_thing 2 = .ok (.getfield 302, 3) := by decide +kernel
theorem dX12_thing_5 : decode cX12_thing 5 = .ok (.iconst 1, 1) := by decide +kernel
theorem dX12_thing_6 : decode cX12_thing 6 = .ok (.iadd, 1) := by decide +kernel
theorem dX12_thing_7 : decode cX12_thing 7 = .ok (.putfield 302, 3) := by decide +kernel
theorem dX12_thing_10 : decode cX12_thing 10 = .ok (.aload_n 0, 1) := by decide +kernel
theorem dX12_thing_11 : decode cX12_thing 11 = .ok (.getfield 15, 3) := by decide +kernel
theorem dX12_thing_14 : decode cX12_thing 14 = .ok (.aload_n 0, 1) := by decide +kernel
theorem dX12_thing_15 : decode cX12_thing 15 = .ok (.getfield 302, 3) := by decide +kernel
theorem dX12_thing_18 : decode cX12_thing 18 = .ok (.iload_n 1, 1) := by decide +kernel
theorem dX12_thing_19 : decode cX12_thing 19 = .ok (.i2b, 1) := by decide +kernel
theorem dX12_thing_20 : decode cX12_thing 20 = .ok (.bastore, 1) := by decide +kernel
theorem dX12_thing_21 : decode cX12_thing 21 = .ok (.aload_n 0, 1) := by decide +kernel
theorem dX12_thing_22 : decode cX12_thing 22 = .ok (.getfield 19, 3) := by decide +kernel
theorem dX12_thing_25 : decode cX12_thing 25 = .ok (.aload_n 0, 1) := by decide +kernel
theorem dX12_thing_26 : decode cX12_thing 26 = .ok (.getfield 302, 3) := by decide +kernel
theorem dX12_thing_29 : decode cX12_thing 29 = .ok (.iload_n 2, 1) := by decide +kernel
theorem dX12_thing_30 : decode cX12_thing 30 = .ok (.i2b, 1) := by decide +kernel
theorem dX12_thing_31 : decode cX12_thing 31 = .ok (.bastore, 1) := by decide +kernel
theorem dX12_thing_32 : decode cX12_thing 32 = .ok (.aload_n 0, 1) := by decide +kernel
theorem dX12_thing_33 : decode cX12_thing 33 = .ok (.getfield 302, 3) := by decide +kernel
theorem dX12_thing_36 : decode cX12_thing 36 = .ok (.ireturn, 1) := by decide +kernel
theorem dX12_newRow_0 : decode cX12_newRow 0 = .ok (.aload_n 0, 1) := by decide +kernel
theorem dX12_newRow_1 : decode cX12_newRow 1 = .ok (.iload_n 1, 1) := by decide +kernel
theorem dX12_newRow_2 : decode cX12_newRow 2 = .ok (.iload_n 2, 1) := by decide +kernel
theorem dX12_newRow_3 : decode cX12_newRow 3 = .ok (.invokevirtual 312, 3) := by decide +kernel
theorem dX12_newRow_6 : decode cX12_newRow 6 = .ok (.istore_n 3, 1) := by decide +kernel
theorem dX12_newRow_7 : decode cX12_newRow 7 = .ok (.aload_n 0, 1) := by decide +kernel
theorem dX12_newRow_8 : decode cX12_newRow 8 = .ok (.getfield 22, 3) := by decide +kernel
theorem dX12_newRow_11 : decode cX12_newRow 11 = .ok (.iload_n 3, 1) := by decide +kernel
theorem dX12_newRow_12 : decode cX12_newRow 12 = .ok (.aload_n 0, 1) := by decide +kernel
theorem dX12_newRow_13 : decode cX12_newRow 13 = .ok (.getfield 316, 3) := by decide +kernel
theorem dX12_newRow_16 : decode cX12_newRow 16 = .ok (.iastore, 1) := by decide +kernel
theorem dX12_newRow_17 : decode cX12_newRow 17 = .ok (.aload_n 0, 1) := by decide +kernel
theorem dX12_newRow_18 : decode cX12_newRow 18 = .ok (.dup, 1) := by decide +kernel
theorem dX12_newRow_19 : decode cX12_newRow 19 = .ok (.getfield 316, 3) := by decide +kernel
theorem dX12_newRow_22 : decode cX12_newRow 22 = .ok (.iload_n 2, 1) := by decide +kernel
theorem dX12_newRow_23 : decode cX12_newRow 23 = .ok (.iadd, 1) := by decide +kernel
theorem dX12_newRow_24 : decode cX12_newRow 24 = .ok (.putfield 316, 3) := by decide +kernel
theorem dX12_newRow_27 : decode cX12_newRow 27 = .ok (.iload_n 3, 1) := by decide +kernel
theorem dX12_newRow_28 : decode cX12_newRow 28 = .ok (.ireturn, 1) := by decide +kernel
theorem dX12_newPlaces_0 : decode cX12_newPlaces 0 = .ok (.aload_n 0, 1) := by decide +kernel
theorem dX12_newPlaces_1 : decode cX12_newPlaces 1 = .ok (.iload_n 1, 1) := by decide +kernel
theorem dX12_newPlaces_2 : decode cX12_newPlaces 2 = .ok (.iload_n 2, 1) := by decide +kernel
theorem dX12_newPlaces_3 : decode cX12_newPlaces 3 = .ok (.invokevirtual 312, 3) := by decide +kernel
theorem dX12_newPlaces_6 : decode cX12_newPlaces 6 = .ok (.istore_n 3, 1) := by decide +kernel
theorem dX12_newPlaces_7 : decode cX12_newPlaces 7 = .ok (.aload_n 0, 1) := by decide +kernel
theorem dX12_newPlaces_8 : decode cX12_newPlaces 8 = .ok (.getfield 22, 3) := by decide +kernel
theorem dX12_newPlaces_11 : decode cX12_newPlaces 11 = .ok (.iload_n 3, 1) := by decide +kernel
theorem dX12_newPlaces_12 : decode cX12_newPlaces 12 = .ok (.aload_n 0, 1) := by decide +kernel
theorem dX12_newPlaces_13 : decode cX12_newPlaces 13 = .ok (.getfield 319, 3) := by decide +kernel
theorem dX12_newPlaces_16 : decode cX12_newPlaces 16 = .ok (.iastore, 1) := by decide +kernel
theorem dX12_newPlaces_17 : decode cX12_newPlaces 17 = .ok (.aload_n 0, 1) := by decide +kernel
theorem dX12_newPlaces_18 : decode cX12_newPlaces 18 = .ok (.dup, 1) := by decide +kernel
theorem dX12_newPlaces_19 : decode cX12_newPlaces 19 = .ok (.getfield 319, 3) := by decide +kernel
theorem dX12_newPlaces_22 : decode cX12_newPlaces 22 = .ok (.iload_n 2, 1) := by decide +kernel
theorem dX12_newPlaces_23 : decode cX12_newPlaces 23 = .ok (.iadd, 1) := by decide +kernel
theorem dX12_newPlaces_24 : decode cX12_newPlaces 24 = .ok (.putfield 319, 3) := by decide +kernel
theorem dX12_newPlaces_27 : decode cX12_newPlaces 27 = .ok (.iload_n 3, 1) := by decide +kernel
theorem dX12_newPlaces_28 : decode cX12_newPlaces 28 = .ok (.ireturn, 1) := by decide +kernel
theorem dX12_isRow_0 : decode cX12_isRow 0 = .ok (.aload_n 0, 1) := by decide +kernel
theorem dX12_isRow_1 : decode cX12_isRow 1 = .ok (.getfield 15, 3) := by decide +kernel
theorem dX12_isRow_4 : decode cX12_isRow 4 = .ok (.iload_n 1, 1) := by decide +kernel
theorem dX12_isRow_5 : decode cX12_isRow 5 = .ok (.baload, 1) := by decide +kernel
theorem dX12_isRow_6 : decode cX12_isRow 6 = .ok (.bipush 8, 2) := by decide +kernel
theorem dX12_isRow_8 : decode cX12_isRow 8 = .ok (.if_icmp .ge 7, 3) := by decide +kernel
theorem dX12_isRow_11 : decode cX12_isRow 11 = .ok (.iconst 1, 1) := by decide +kernel
theorem dX12_isRow_12 : decode cX12_isRow 12 = .ok (.goto 4, 3) := by decide +kernel
theorem dX12_isRow_15 : decode cX12_isRow 15 = .ok (.iconst 0, 1) := by decide +kernel
theorem dX12_isRow_16 : decode cX12_isRow 16 = .ok (.ireturn, 1) := by decide +kernel
theorem dX12_hasPlaces_0 : decode cX12_hasPlaces 0 = .ok (.aload_n 0, 1) := by decide +kernel
theorem dX12_hasPlaces_1 : decode cX12_hasPlaces 1 = .ok (.getfield 15, 3) := by decide +kernel
theorem dX12_hasPlaces_4 : decode cX12_hasPlaces 4 = .ok (.iload_n 1, 1) := by decide +kernel
theorem dX12_hasPlaces_5 : decode cX12_hasPlaces 5 = .ok (.baload, 1) := by decide +kernel
theorem dX12_hasPlaces_6 : decode cX12_hasPlaces 6 = .ok (.bipush 8, 2) := by decide +kernel
theorem dX12_hasPlaces_8 : decode cX12_hasPlaces 8 = .ok (.if_icmp .lt 18, 3) := by decide +kernel
theorem dX12_hasPlaces_11 : decode cX12_hasPlaces 11 = .ok (.aload_n 0, 1) := by decide +kernel
theorem dX12_hasPlaces_12 : decode cX12_hasPlaces 12 = .ok (.getfield 15, 3) := by decide +kernel
theorem dX12_hasPlaces_15 : decode cX12_hasPlaces 15 = .ok (.iload_n 1, 1) := by decide +kernel
theorem dX12_hasPlaces_16 : decode cX12_hasPlaces 16 = .ok (.baload, 1) := by decide +kernel
theorem dX12_hasPlaces_17 : decode cX12_hasPlaces 17 = .ok (.bipush 15, 2) := by decide +kernel
theorem dX12_hasPlaces_19 : decode cX12_hasPlaces 19 = .ok (.if_icmp .gt 7, 3) := by decide +kernel
theorem dX12_hasPlaces_22 : decode cX12_hasPlaces 22 = .ok (.iconst 1, 1) := by decide +kernel
theorem dX12_hasPlaces_23 : decode cX12_hasPlaces 23 = .ok (.goto 4, 3) := by decide +kernel
theorem dX12_hasPlaces_26 : decode cX12_hasPlaces 26 = .ok (.iconst 0, 1) := by decide +kernel
theorem dX12_hasPlaces_27 : decode cX12_hasPlaces 27 = .ok (.ireturn, 1) := by decide +kernel
theorem dX12_isOf_0 : decode cX12_isOf 0 = .ok (.iload_n 1, 1) := by decide +kernel
theorem dX12_isOf_1 : decode cX12_isOf 1 = .ok (.ifCond .eq 13, 3) := by decide +kernel
theorem dX12_isOf_4 : decode cX12_isOf 4 = .ok (.aload_n 0, 1) := by decide +kernel
theorem dX12_isOf_5 : decode cX12_isOf 5 = .ok (.getfield 15, 3) := by decide +kernel
theorem dX12_isOf_8 : decode cX12_isOf 8 = .ok (.iload_n 1, 1) := by decide +kernel
theorem dX12_isOf_9 : decode cX12_isOf 9 = .ok (.baload, 1) := by decide +kernel
theorem dX12_isOf_10 : decode cX12_isOf 10 = .ok (.iload_n 2, 1) := by decide +kernel
theorem dX12_isOf_11 : decode cX12_isOf 11 = .ok (.if_icmp .ne 7, 3) := by decide +kernel
theorem dX12_isOf_14 : decode cX12_isOf 14 = .ok (.iconst 1, 1) := by decide +kernel
theorem dX12_isOf_15 : decode cX12_isOf 15 = .ok (.goto 4, 3) := by decide +kernel
theorem dX12_isOf_18 : decode cX12_isOf 18 = .ok (.iconst 0, 1) := by decide +kernel
theorem dX12_isOf_19 : decode cX12_isOf 19 = .ok (.ireturn, 1) := by decide +kernel
theorem dX12_looked_0 : decode cX12_looked 0 = .ok (.iload_n 1, 1) := by decide +kernel
theorem dX12_looked_1 : decode cX12_looked 1 = .ok (.ifCond .ne 7, 3) := by decide +kernel
theorem dX12_looked_4 : decode cX12_looked 4 = .ok (.iconst 1, 1) := by decide +kernel
theorem dX12_looked_5 : decode cX12_looked 5 = .ok (.goto 24, 3) := by decide +kernel
theorem dX12_looked_8 : decode cX12_looked 8 = .ok (.iload_n 2, 1) := by decide +kernel
theorem dX12_looked_9 : decode cX12_looked 9 = .ok (.iconst 0, 1) := by decide +kernel
theorem dX12_looked_10 : decode cX12_looked 10 = .ok (.aload_n 0, 1) := by decide +kernel
theorem dX12_looked_11 : decode cX12_looked 11 = .ok (.getfield 19, 3) := by decide +kernel
theorem dX12_looked_14 : decode cX12_looked 14 = .ok (.iload_n 1, 1) := by decide +kernel
theorem dX12_looked_15 : decode cX12_looked 15 = .ok (.baload, 1) := by decide +kernel
theorem dX12_looked_16 : decode cX12_looked 16 = .ok (.iconst 1, 1) := by decide +kernel
theorem dX12_looked_17 : decode cX12_looked 17 = .ok (.isub, 1) := by decide +kernel
theorem dX12_looked_18 : decode cX12_looked 18 = .ok (.invokestatic 322, 3) := by decide +kernel
theorem dX12_looked_21 : decode cX12_looked 21 = .ok (.ifCond .eq 7, 3) := by decide +kernel
theorem dX12_looked_24 : decode cX12_looked 24 = .ok (.iconst 0, 1) := by decide +kernel
theorem dX12_looked_25 : decode cX12_looked 25 = .ok (.goto 4, 3) := by decide +kernel
theorem dX12_looked_28 : decode cX12_looked 28 = .ok (.iconst 2, 1) := by decide +kernel
theorem dX12_looked_29 : decode cX12_looked 29 = .ok (.ireturn, 1) := by decide +kernel
theorem dX12_laneOf_0 : decode cX12_laneOf 0 = .ok (.iload_n 0, 1) := by decide +kernel
theorem dX12_laneOf_1 : decode cX12_laneOf 1 = .ok (.bipush 8, 2) := by decide +kernel
theorem dX12_laneOf_3 : decode cX12_laneOf 3 = .ok (.if_icmp .ne 7, 3) := by decide +kernel
theorem dX12_laneOf_6 : decode cX12_laneOf 6 = .ok (.iconst 3, 1) := by decide +kernel
theorem dX12_laneOf_7 : decode cX12_laneOf 7 = .ok (.goto 15, 3) := by decide +kernel
theorem dX12_laneOf_10 : decode cX12_laneOf 10 = .ok (.iload_n 0, 1) := by decide +kernel
theorem dX12_laneOf_11 : decode cX12_laneOf 11 = .ok (.bipush 9, 2) := by decide +kernel
theorem dX12_laneOf_13 : decode cX12_laneOf 13 = .ok (.if_icmp .ne 7, 3) := by decide +kernel
theorem dX12_laneOf_16 : decode cX12_laneOf 16 = .ok (.iconst 4, 1) := by decide +kernel
theorem dX12_laneOf_17 : decode cX12_laneOf 17 = .ok (.goto 5, 3) := by decide +kernel
theorem dX12_laneOf_20 : decode cX12_laneOf 20 = .ok (.bipush 7, 2) := by decide +kernel
theorem dX12_laneOf_22 : decode cX12_laneOf 22 = .ok (.ireturn, 1) := by decide +kernel
theorem dX12_isFor_0 : decode cX12_isFor 0 = .ok (.iload_n 2, 1) := by decide +kernel
theorem dX12_isFor_1 : decode cX12_isFor 1 = .ok (.ifCond .ne 5, 3) := by decide +kernel
theorem dX12_isFor_4 : decode cX12_isFor 4 = .ok (.iconst 1, 1) := by decide +kernel
theorem dX12_isFor_5 : decode cX12_isFor 5 = .ok (.ireturn, 1) := by decide +kernel
theorem dX12_isFor_6 : decode cX12_isFor 6 = .ok (.iload_n 1, 1) := by decide +kernel
theorem dX12_isFor_7 : decode cX12_isFor 7 = .ok (.bipush 11, 2) := by decide +kernel
theorem dX12_isFor_9 : decode cX12_isFor 9 = .ok (.if_icmp .ge 22, 3) := by decide +kernel
theorem dX12_isFor_12 : decode cX12_isFor 12 = .ok (.aload_n 0, 1) := by decide +kernel
theorem dX12_isFor_13 : decode cX12_isFor 13 = .ok (.getfield 15, 3) := by decide +kernel
theorem dX12_isFor_16 : decode cX12_isFor 16 = .ok (.iload_n 2, 1) := by decide +kernel
theorem dX12_isFor_17 : decode cX12_isFor 17 = .ok (.baload, 1) := by decide +kernel
theorem dX12_isFor_18 : decode cX12_isFor 18 = .ok (.iload_n 1, 1) := by decide +kernel
theorem dX12_isFor_19 : decode cX12_isFor 19 = .ok (.invokestatic 326, 3) := by decide +kernel
theorem dX12_isFor_22 : decode cX12_isFor 22 = .ok (.if_icmp .ne 7, 3) := by decide +kernel
theorem dX12_isFor_25 : decode cX12_isFor 25 = .ok (.iconst 1, 1) := by decide +kernel
theorem dX12_isFor_26 : decode cX12_isFor 26 = .ok (.goto 4, 3) := by decide +kernel
theorem dX12_isFor_29 : decode cX12_isFor 29 = .ok (.iconst 0, 1) := by decide +kernel
theorem dX12_isFor_30 : decode cX12_isFor 30 = .ok (.ireturn, 1) := by decide +kernel
theorem dX12_isFor_31 : decode cX12_isFor 31 = .ok (.iload_n 1, 1) := by decide +kernel
theorem dX12_isFor_32 : decode cX12_isFor 32 = .ok (.bipush 11, 2) := by decide +kernel
theorem dX12_isFor_34 : decode cX12_isFor 34 = .ok (.if_icmp .ne 22, 3) := by decide +kernel
theorem dX12_isFor_37 : decode cX12_isFor 37 = .ok (.aload_n 0, 1) := by decide +kernel
theorem dX12_isFor_38 : decode cX12_isFor 38 = .ok (.getfield 15, 3) := by decide +kernel
theorem dX12_isFor_41 : decode cX12_isFor 41 = .ok (.iload_n 2, 1) := by decide +kernel
theorem dX12_isFor_42 : decode cX12_isFor 42 = .ok (.baload, 1) := by decide +kernel
theorem dX12_isFor_43 : decode cX12_isFor 43 = .ok (.bipush 9, 2) := by decide +kernel
theorem dX12_isFor_45 : decode cX12_isFor 45 = .ok (.if_icmp .ne 7, 3) := by decide +kernel
theorem dX12_isFor_48 : decode cX12_isFor 48 = .ok (.iconst 1, 1) := by decide +kernel
theorem dX12_isFor_49 : decode cX12_isFor 49 = .ok (.goto 36, 3) := by decide +kernel
theorem dX12_isFor_52 : decode cX12_isFor 52 = .ok (.iconst 0, 1) := by decide +kernel
theorem dX12_isFor_53 : decode cX12_isFor 53 = .ok (.goto 32, 3) := by decide +kernel
theorem dX12_isFor_56 : decode cX12_isFor 56 = .ok (.aload_n 0, 1) := by decide +kernel
theorem dX12_isFor_57 : decode cX12_isFor 57 = .ok (.getfield 15, 3) := by decide +kernel
theorem dX12_isFor_60 : decode cX12_isFor 60 = .ok (.iload_n 2, 1) := by decide +kernel
theorem dX12_isFor_61 : decode cX12_isFor 61 = .ok (.baload, 1) := by decide +kernel
theorem dX12_isFor_62 : decode cX12_isFor 62 = .ok (.bipush 16, 2) := by decide +kernel
theorem dX12_isFor_64 : decode cX12_isFor 64 = .ok (.if_icmp .ne 20, 3) := by decide +kernel
theorem dX12_isFor_67 : decode cX12_isFor 67 = .ok (.iload_n 1, 1) := by decide +kernel
theorem dX12_isFor_68 : decode cX12_isFor 68 = .ok (.aload_n 0, 1) := by decide +kernel
theorem dX12_isFor_69 : decode cX12_isFor 69 = .ok (.getfield 38, 3) := by decide +kernel
theorem dX12_isFor_72 : decode cX12_isFor 72 = .ok (.iload_n 2, 1) := by decide +kernel
theorem dX12_isFor_73 : decode cX12_isFor 73 = .ok (.baload, 1) := by decide +kernel
theorem dX12_isFor_74 : decode cX12_isFor 74 = .ok (.invokestatic 329, 3) := by decide +kernel
theorem dX12_isFor_77 : decode cX12_isFor 77 = .ok (.ifCond .eq 7, 3) := by decide +kernel
theorem dX12_isFor_80 : decode cX12_isFor 80 = .ok (.iconst 1, 1) := by decide +kernel
theorem dX12_isFor_81 : decode cX12_isFor 81 = .ok (.goto 4, 3) := by decide +kernel
theorem dX12_isFor_84 : decode cX12_isFor 84 = .ok (.iconst 0, 1) := by decide +kernel
theorem dX12_isFor_85 : decode cX12_isFor 85 = .ok (.ireturn, 1) := by decide +kernel
theorem dX12_isTrayFor_0 : decode cX12_isTrayFor 0 = .ok (.iload_n 0, 1) := by decide +kernel
theorem dX12_isTrayFor_1 : decode cX12_isTrayFor 1 = .ok (.tableswitch 69 12 14 #[27, 38, 54], 27) := by decide +kernel
theorem dX12_isTrayFor_28 : decode cX12_isTrayFor 28 = .ok (.iload_n 1, 1) := by decide +kernel
theorem dX12_isTrayFor_29 : decode cX12_isTrayFor 29 = .ok (.iconst 3, 1) := by decide +kernel
theorem dX12_isTrayFor_30 : decode cX12_isTrayFor 30 = .ok (.if_icmp .gt 7, 3) := by decide +kernel
theorem dX12_isTrayFor_33 : decode cX12_isTrayFor 33 = .ok (.iconst 1, 1) := by decide +kernel
theorem dX12_isTrayFor_34 : decode cX12_isTrayFor 34 = .ok (.goto 4, 3) := by decide +kernel
theorem dX12_isTrayFor_37 : decode cX12_isTrayFor 37 = .ok (.iconst 0, 1) := by decide +kernel
theorem dX12_isTrayFor_38 : decode cX12_isTrayFor 38 = .ok (.ireturn, 1) := by decide +kernel
theorem dX12_isTrayFor_39 : decode cX12_isTrayFor 39 = .ok (.iload_n 1, 1) := by decide +kernel
theorem dX12_isTrayFor_40 : decode cX12_isTrayFor 40 = .ok (.iconst 1, 1) := by decide +kernel
theorem dX12_isTrayFor_41 : decode cX12_isTrayFor 41 = .ok (.if_icmp .eq 8, 3) := by decide +kernel
theorem dX12_isTrayFor_44 : decode cX12_isTrayFor 44 = .ok (.iload_n 1, 1) := by decide +kernel
theorem dX12_isTrayFor_45 : decode cX12_isTrayFor 45 = .ok (.iconst 2, 1) := by decide +kernel
theorem dX12_isTrayFor_46 : decode cX12_isTrayFor 46 = .ok (.if_icmp .ne 7, 3) := by decide +kernel
theorem dX12_isTrayFor_49 : decode cX12_isTrayFor 49 = .ok (.iconst 1, 1) := by decide +kernel
theorem dX12_isTrayFor_50 : decode cX12_isTrayFor 50 = .ok (.goto 4, 3) := by decide +kernel
theorem dX12_isTrayFor_53 : decode cX12_isTrayFor 53 = .ok (.iconst 0, 1) := by decide +kernel
theorem dX12_isTrayFor_54 : decode cX12_isTrayFor 54 = .ok (.ireturn, 1) := by decide +kernel
theorem dX12_isTrayFor_55 : decode cX12_isTrayFor 55 = .ok (.iload_n 1, 1) := by decide +kernel
theorem dX12_isTrayFor_56 : decode cX12_isTrayFor 56 = .ok (.ifCond .eq 8, 3) := by decide +kernel
theorem dX12_isTrayFor_59 : decode cX12_isTrayFor 59 = .ok (.iload_n 1, 1) := by decide +kernel
theorem dX12_isTrayFor_60 : decode cX12_isTrayFor 60 = .ok (.iconst 3, 1) := by decide +kernel
theorem dX12_isTrayFor_61 : decode cX12_isTrayFor 61 = .ok (.if_icmp .ne 7, 3) := by decide +kernel
theorem dX12_isTrayFor_64 : decode cX12_isTrayFor 64 = .ok (.iconst 1, 1) := by decide +kernel
theorem dX12_isTrayFor_65 : decode cX12_isTrayFor 65 = .ok (.goto 4, 3) := by decide +kernel
theorem dX12_isTrayFor_68 : decode cX12_isTrayFor 68 = .ok (.iconst 0, 1) := by decide +kernel
theorem dX12_isTrayFor_69 : decode cX12_isTrayFor 69 = .ok (.ireturn, 1) := by decide +kernel
theorem dX12_isTrayFor_70 : decode cX12_isTrayFor 70 = .ok (.iload_n 1, 1) := by decide +kernel
theorem dX12_isTrayFor_71 : decode cX12_isTrayFor 71 = .ok (.iconst 1, 1) := by decide +kernel
theorem dX12_isTrayFor_72 : decode cX12_isTrayFor 72 = .ok (.if_icmp .eq 18, 3) := by decide +kernel
theorem dX12_isTrayFor_75 : decode cX12_isTrayFor 75 = .ok (.iload_n 1, 1) := by decide +kernel
theorem dX12_isTrayFor_76 : decode cX12_isTrayFor 76 = .ok (.iconst 2, 1) := by decide +kernel
theorem dX12_isTrayFor_77 : decode cX12_isTrayFor 77 = .ok (.if_icmp .eq 13, 3) := by decide +kernel
theorem dX12_isTrayFor_80 : decode cX12_isTrayFor 80 = .ok (.iload_n 1, 1) := by decide +kernel
theorem dX12_isTrayFor_81 : decode cX12_isTrayFor 81 = .ok (.iconst 3, 1) := by decide +kernel
theorem dX12_isTrayFor_82 : decode cX12_isTrayFor 82 = .ok (.if_icmp .eq 8, 3) := by decide +kernel
theorem dX12_isTrayFor_85 : decode cX12_isTrayFor 85 = .ok (.iload_n 1, 1) := by decide +kernel
theorem dX12_isTrayFor_86 : decode cX12_isTrayFor 86 = .ok (.iconst 5, 1) := by decide +kernel
theorem dX12_isTrayFor_87 : decode cX12_isTrayFor 87 = .ok (.if_icmp .ne 7, 3) := by decide +kernel
theorem dX12_isTrayFor_90 : decode cX12_isTrayFor 90 = .ok (.iconst 1, 1) := by decide +kernel
theorem dX12_isTrayFor_91 : decode cX12_isTrayFor 91 = .ok (.goto 4, 3) := by decide +kernel
theorem dX12_isTrayFor_94 : decode cX12_isTrayFor 94 = .ok (.iconst 0, 1) := by decide +kernel
theorem dX12_isTrayFor_95 : decode cX12_isTrayFor 95 = .ok (.ireturn, 1) := by decide +kernel
theorem dX12_fitted_0 : decode cX12_fitted 0 = .ok (.iload_n 0, 1) := by decide +kernel
theorem dX12_fitted_1 : decode cX12_fitted 1 = .ok (.tableswitch 113 0 7 #[47, 51, 56, 62, 67, 113, 71, 93], 47) := by decide +kernel
theorem dX12_fitted_48 : decode cX12_fitted 48 = .ok (.lload_n 1, 1) := by decide +kernel
theorem dX12_fitted_49 : decode cX12_fitted 49 = .ok (.lconst 1, 1) := by decide +kernel
theorem dX12_fitted_50 : decode cX12_fitted 50 = .ok (.land, 1) := by decide +kernel
theorem dX12_fitted_51 : decode cX12_fitted 51 = .ok (.lreturn, 1) := by decide +kernel
theorem dX12_fitted_52 : decode cX12_fitted 52 = .ok (.lload_n 1, 1) := by decide +kernel
theorem dX12_fitted_53 : decode cX12_fitted 53 = .ok (.l2i, 1) := by decide +kernel
theorem dX12_fitted_54 : decode cX12_fitted 54 = .ok (.i2b, 1) := by decide +kernel
theorem dX12_fitted_55 : decode cX12_fitted 55 = .ok (.i2l, 1) := by decide +kernel
theorem dX12_fitted_56 : decode cX12_fitted 56 = .ok (.lreturn, 1) := by decide +kernel
theorem dX12_fitted_57 : decode cX12_fitted 57 = .ok (.lload_n 1, 1) := by decide +kernel
theorem dX12_fitted_58 : decode cX12_fitted 58 = .ok (.ldc2_w 333, 3) := by decide +kernel
theorem dX12_fitted_61 : decode cX12_fitted 61 = .ok (.land, 1) := by decide +kernel
theorem dX12_fitted_62 : decode cX12_fitted 62 = .ok (.lreturn, 1) := by decide +kernel
theorem dX12_fitted_63 : decode cX12_fitted 63 = .ok (.lload_n 1, 1) := by decide +kernel
theorem dX12_fitted_64 : decode cX12_fitted 64 = .ok (.l2i, 1) := by decide +kernel
theorem dX12_fitted_65 : decode cX12_fitted 65 = .ok (.i2s, 1) := by decide +kernel
theorem dX12_fitted_66 : decode cX12_fitted 66 = .ok (.i2l, 1) := by decide +kernel
theorem dX12_fitted_67 : decode cX12_fitted 67 = .ok (.lreturn, 1) := by decide +kernel
theorem dX12_fitted_68 : decode cX12_fitted 68 = .ok (.lload_n 1, 1) := by decide +kernel
theorem dX12_fitted_69 : decode cX12_fitted 69 = .ok (.l2i, 1) := by decide +kernel
theorem dX12_fitted_70 : decode cX12_fitted 70 = .ok (.i2l, 1) := by decide +kernel
theorem dX12_fitted_71 : decode cX12_fitted 71 = .ok (.lreturn, 1) := by decide +kernel
theorem dX12_fitted_72 : decode cX12_fitted 72 = .ok (.lload_n 1, 1) := by decide +kernel
theorem dX12_fitted_73 : decode cX12_fitted 73 = .ok (.ldc2_w 335, 3) := by decide +kernel
theorem dX12_fitted_76 : decode cX12_fitted 76 = .ok (.land, 1) := by decide +kernel
theorem dX12_fitted_77 : decode cX12_fitted 77 = .ok (.ldc2_w 337, 3) := by decide +kernel
theorem dX12_fitted_80 : decode cX12_fitted 80 = .ok (.lcmp, 1) := by decide +kernel
theorem dX12_fitted_81 : decode cX12_fitted 81 = .ok (.ifCond .le 9, 3) := by decide +kernel
theorem dX12_fitted_84 : decode cX12_fitted 84 = .ok (.ldc2_w 339, 3) := by decide +kernel
theorem dX12_fitted_87 : decode cX12_fitted 87 = .ok (.goto 6, 3) := by decide +kernel
theorem dX12_fitted_90 : decode cX12_fitted 90 = .ok (.lload_n 1, 1) := by decide +kernel
theorem dX12_fitted_91 : decode cX12_fitted 91 = .ok (.l2i, 1) := by decide +kernel
theorem dX12_fitted_92 : decode cX12_fitted 92 = .ok (.i2l, 1) := by decide +kernel
theorem dX12_fitted_93 : decode cX12_fitted 93 = .ok (.lreturn, 1) := by decide +kernel
theorem dX12_fitted_94 : decode cX12_fitted 94 = .ok (.lload_n 1, 1) := by decide +kernel
theorem dX12_fitted_95 : decode cX12_fitted 95 = .ok (.ldc2_w 341, 3) := by decide +kernel
theorem dX12_fitted_98 : decode cX12_fitted 98 = .ok (.land, 1) := by decide +kernel
theorem dX12_fitted_99 : decode cX12_fitted 99 = .ok (.ldc2_w 343, 3) := by decide +kernel
theorem dX12_fitted_102 : decode cX12_fitted 102 = .ok (.lcmp, 1) := by decide +kernel
theorem dX12_fitted_103 : decode cX12_fitted 103 = .ok (.ifCond .le 9, 3) := by decide +kernel
theorem dX12_fitted_106 : decode cX12_fitted 106 = .ok (.ldc2_w 172, 3) := by decide +kernel
theorem dX12_fitted_109 : decode cX12_fitted 109 = .ok (.goto 4, 3) := by decide +kernel
theorem dX12_fitted_112 : decode cX12_fitted 112 = .ok (.lload_n 1, 1) := by decide +kernel
theorem dX12_fitted_113 : decode cX12_fitted 113 = .ok (.lreturn, 1) := by decide +kernel
theorem dX12_fitted_114 : decode cX12_fitted 114 = .ok (.lload_n 1, 1) := by decide +kernel
theorem dX12_fitted_115 : decode cX12_fitted 115 = .ok (.lreturn, 1) := by decide +kernel
theorem dX12_row_0 : decode cX12_row 0 = .ok (.iload_n 1, 1) := by decide +kernel
theorem dX12_row_1 : decode cX12_row 1 = .ok (.invokestatic 345, 3) := by decide +kernel
theorem dX12_row_4 : decode cX12_row 4 = .ok (.ifCond .eq 19, 3) := by decide +kernel
theorem dX12_row_7 : decode cX12_row 7 = .ok (.iload_n 2, 1) := by decide +kernel
theorem dX12_row_8 : decode cX12_row 8 = .ok (.iconst 0, 1) := by decide +kernel
theorem dX12_row_9 : decode cX12_row 9 = .ok (.bipush 7, 2) := by decide +kernel
theorem dX12_row_11 : decode cX12_row 11 = .ok (.invokestatic 322, 3) := by decide +kernel
theorem dX12_row_14 : decode cX12_row 14 = .ok (.ifCond .eq 9, 3) := by decide +kernel
theorem dX12_row_17 : decode cX12_row 17 = .ok (.iload_n 3, 1) := by decide +kernel
theorem dX12_row_18 : decode cX12_row 18 = .ok (.bipush 40, 2) := by decide +kernel
theorem dX12_row_20 : decode cX12_row 20 = .ok (.if_icmp .le 6, 3) := by decide +kernel
theorem dX12_row_23 : decode cX12_row 23 = .ok (.bipush (-2), 2) := by decide +kernel
theorem dX12_row_25 : decode cX12_row 25 = .ok (.ireturn, 1) := by decide +kernel
theorem dX12_row_26 : decode cX12_row 26 = .ok (.aload_n 0, 1) := by decide +kernel
theorem dX12_row_27 : decode cX12_row 27 = .ok (.invokevirtual 349, 3) := by decide +kernel
theorem dX12_row_30 : decode cX12_row 30 = .ok (.ifCond .eq 6, 3) := by decide +kernel
theorem dX12_row_33 : decode cX12_row 33 = .ok (.bipush (-4), 2) := by decide +kernel
theorem dX12_row_35 : decode cX12_row 35 = .ok (.ireturn, 1) := by decide +kernel
theorem dX12_row_36 : decode cX12_row 36 = .ok (.iload_n 3, 1) := by decide +kernel
theorem dX12_row_37 : decode cX12_row 37 = .ok (.ifCond .ge 9, 3) := by decide +kernel
theorem dX12_row_40 : decode cX12_row 40 = .ok (.aload_n 0, 1) := by decide +kernel
theorem dX12_row_41 : decode cX12_row 41 = .ok (.iconst 3, 1) := by decide +kernel
theorem dX12_row_42 : decode cX12_row 42 = .ok (.invokevirtual 308, 3) := by decide +kernel
theorem dX12_row_45 : decode cX12_row 45 = .ok (.ireturn, 1) := by decide +kernel
theorem dX12_row_46 : decode cX12_row 46 = .ok (.aload_n 0, 1) := by decide +kernel
theorem dX12_row_47 : decode cX12_row 47 = .ok (.getfield 9, 3) := by decide +kernel
theorem dX12_row_50 : decode cX12_row 50 = .ok (.iload_n 1, 1) := by decide +kernel
theorem dX12_row_51 : decode cX12_row 51 = .ok (.aload_n 0, 1) := by decide +kernel
theorem dX12_row_52 : decode cX12_row 52 = .ok (.iload_n 2, 1) := by decide +kernel
theorem dX12_row_53 : decode cX12_row 53 = .ok (.iload_n 3, 1) := by decide +kernel
theorem dX12_row_54 : decode cX12_row 54 = .ok (.invokevirtual 353, 3) := by decide +kernel
theorem dX12_row_57 : decode cX12_row 57 = .ok (.iastore, 1) := by decide +kernel
theorem dX12_row_58 : decode cX12_row 58 = .ok (.iconst 1, 1) := by decide +kernel
theorem dX12_row_59 : decode cX12_row 59 = .ok (.ireturn, 1) := by decide +kernel
theorem dX12_grid_0 : decode cX12_grid 0 = .ok (.iload_n 1, 1) := by decide +kernel
theorem dX12_grid_1 : decode cX12_grid 1 = .ok (.invokestatic 345, 3) := by decide +kernel
theorem dX12_grid_4 : decode cX12_grid 4 = .ok (.ifCond .eq 27, 3) := by decide +kernel
theorem dX12_grid_7 : decode cX12_grid 7 = .ok (.iload_n 2, 1) := by decide +kernel
theorem dX12_grid_8 : decode cX12_grid 8 = .ok (.bipush 8, 2) := by decide +kernel
theorem dX12_grid_10 : decode cX12_grid 10 = .ok (.bipush 10, 2) := by decide +kernel
theorem dX12_grid_12 : decode cX12_grid 12 = .ok (.invokestatic 322, 3) := by decide +kernel
theorem dX12_grid_15 : decode cX12_grid 15 = .ok (.ifCond .eq 16, 3) := by decide +kernel
theorem dX12_grid_18 : decode cX12_grid 18 = .ok (.iload_n 3, 1) := by decide +kernel
theorem dX12_grid_19 : decode cX12_grid 19 = .ok (.bipush 10, 2) := by decide +kernel
theorem dX12_grid_21 : decode cX12_grid 21 = .ok (.if_icmp .gt 10, 3) := by decide +kernel
theorem dX12_grid_24 : decode cX12_grid 24 = .ok (.iload 4, 2) := by decide +kernel
theorem dX12_grid_26 : decode cX12_grid 26 = .ok (.bipush 40, 2) := by decide +kernel
theorem dX12_grid_28 : decode cX12_grid 28 = .ok (.if_icmp .le 6, 3) := by decide +kernel
theorem dX12_grid_31 : decode cX12_grid 31 = .ok (.bipush (-2), 2) := by decide +kernel
theorem dX12_grid_33 : decode cX12_grid 33 = .ok (.ireturn, 1) := by decide +kernel
theorem dX12_grid_34 : decode cX12_grid 34 = .ok (.aload_n 0, 1) := by decide +kernel
theorem dX12_grid_35 : decode cX12_grid 35 = .ok (.invokevirtual 349, 3) := by decide +kernel
theorem dX12_grid_38 : decode cX12_grid 38 = .ok (.ifCond .eq 6, 3) := by decide +kernel
theorem dX12_grid_41 : decode cX12_grid 41 = .ok (.bipush (-4), 2) := by decide +kernel
theorem dX12_grid_43 : decode cX12_grid 43 = .ok (.ireturn, 1) := by decide +kernel
theorem dX12_grid_44 : decode cX12_grid 44 = .ok (.iload_n 3, 1) := by decide +kernel
theorem dX12_grid_45 : decode cX12_grid 45 = .ok (.ifCond .lt 13, 3) := by decide +kernel
theorem dX12_grid_48 : decode cX12_grid 48 = .ok (.iload 5, 2) := by decide +kernel
theorem dX12_grid_50 : decode cX12_grid 50 = .ok (.ifCond .ne 14, 3) := by decide +kernel
theorem dX12_grid_53 : decode cX12_grid 53 = .ok (.iload 4, 2) := by decide +kernel
theorem dX12_grid_55 : decode cX12_grid 55 = .ok (.ifCond .ge 9, 3) := by decide +kernel
theorem dX12_grid_58 : decode cX12_grid 58 = .ok (.aload_n 0, 1) := by decide +kernel
theorem dX12_grid_59 : decode cX12_grid 59 = .ok (.iconst 3, 1) := by decide +kernel
theorem dX12_grid_60 : decode cX12_grid 60 = .ok (.invokevirtual 308, 3) := by decide +kernel
theorem dX12_grid_63 : decode cX12_grid 63 = .ok (.ireturn, 1) := by decide +kernel
theorem dX12_grid_64 : decode cX12_grid 64 = .ok (.aload_n 0, 1) := by decide +kernel
theorem dX12_grid_65 : decode cX12_grid 65 = .ok (.iload_n 2, 1) := by decide +kernel
theorem dX12_grid_66 : decode cX12_grid 66 = .ok (.iload_n 3, 1) := by decide +kernel
theorem dX12_grid_67 : decode cX12_grid 67 = .ok (.invokevirtual 356, 3) := by decide +kernel
theorem dX12_grid_70 : decode cX12_grid 70 = .ok (.istore 6, 2) := by decide +kernel
theorem dX12_grid_72 : decode cX12_grid 72 = .ok (.iconst 0, 1) := by decide +kernel
theorem dX12_grid_73 : decode cX12_grid 73 = .ok (.istore 7, 2) := by decide +kernel
theorem dX12_grid_75 : decode cX12_grid 75 = .ok (.iload 7, 2) := by decide +kernel
theorem dX12_grid_77 : decode cX12_grid 77 = .ok (.iload_n 3, 1) := by decide +kernel
theorem dX12_grid_78 : decode cX12_grid 78 = .ok (.if_icmp .ge 40, 3) := by decide +kernel
theorem dX12_grid_81 : decode cX12_grid 81 = .ok (.iload 5, 2) := by decide +kernel
theorem dX12_grid_83 : decode cX12_grid 83 = .ok (.ifCond .ne 35, 3) := by decide +kernel
theorem dX12_grid_86 : decode cX12_grid 86 = .ok (.aload_n 0, 1) := by decide +kernel
theorem dX12_grid_87 : decode cX12_grid 87 = .ok (.getfield 31, 3) := by decide +kernel
theorem dX12_grid_90 : decode cX12_grid 90 = .ok (.aload_n 0, 1) := by decide +kernel
theorem dX12_grid_91 : decode cX12_grid 91 = .ok (.getfield 22, 3) := by decide +kernel
theorem dX12_grid_94 : decode cX12_grid 94 = .ok (.iload 6, 2) := by decide +kernel
theorem dX12_grid_96 : decode cX12_grid 96 = .ok (.iaload, 1) := by decide +kernel
theorem dX12_grid_97 : decode cX12_grid 97 = .ok (.iload 7, 2) := by decide +kernel
theorem dX12_grid_99 : decode cX12_grid 99 = .ok (.iadd, 1) := by decide +kernel
theorem dX12_grid_100 : decode cX12_grid 100 = .ok (.aload_n 0, 1) := by decide +kernel
theorem dX12_grid_101 : decode cX12_grid 101 = .ok (.iload_n 2, 1) := by decide +kernel
theorem dX12_grid_102 : decode cX12_grid 102 = .ok (.invokestatic 326, 3) := by decide +kernel
theorem dX12_grid_105 : decode cX12_grid 105 = .ok (.iload 4, 2) := by decide +kernel
theorem dX12_grid_107 : decode cX12_grid 107 = .ok (.invokevirtual 353, 3) := by decide +kernel
theorem dX12_grid_110 : decode cX12_grid 110 = .ok (.i2s, 1) := by decide +kernel
theorem dX12_grid_111 : decode cX12_grid 111 = .ok (.sastore, 1) := by decide +kernel
theorem dX12_grid_112 : decode cX12_grid 112 = .ok (.iinc 7 1, 3) := by decide +kernel
theorem dX12_grid_115 : decode cX12_grid 115 = .ok (.goto (-40), 3) := by decide +kernel
theorem dX12_grid_118 : decode cX12_grid 118 = .ok (.aload_n 0, 1) := by decide +kernel
theorem dX12_grid_119 : decode cX12_grid 119 = .ok (.getfield 9, 3) := by decide +kernel
theorem dX12_grid_122 : decode cX12_grid 122 = .ok (.iload_n 1, 1) := by decide +kernel
theorem dX12_grid_123 : decode cX12_grid 123 = .ok (.iload 6, 2) := by decide +kernel
theorem dX12_grid_125 : decode cX12_grid 125 = .ok (.iastore, 1) := by decide +kernel
theorem dX12_grid_126 : decode cX12_grid 126 = .ok (.iconst 1, 1) := by decide +kernel
theorem dX12_grid_127 : decode cX12_grid 127 = .ok (.ireturn, 1) := by decide +kernel
theorem dX12_hollow_0 : decode cX12_hollow 0 = .ok (.iload_n 1, 1) := by decide +kernel
theorem dX12_hollow_1 : decode cX12_hollow 1 = .ok (.invokestatic 345, 3) := by decide +kernel
theorem dX12_hollow_4 : decode cX12_hollow 4 = .ok (.ifCond .eq 9, 3) := by decide +kernel
theorem dX12_hollow_7 : decode cX12_hollow 7 = .ok (.iload_n 3, 1) := by decide +kernel
theorem dX12_hollow_8 : decode cX12_hollow 8 = .ok (.iload 4, 2) := by decide +kernel
theorem dX12_hollow_10 : decode cX12_hollow 10 = .ok (.if_icmp .le 6, 3) := by decide +kernel
theorem dX12_hollow_13 : decode cX12_hollow 13 = .ok (.bipush (-2), 2) := by decide +kernel
theorem dX12_hollow_15 : decode cX12_hollow 15 = .ok (.ireturn, 1) := by decide +kernel
theorem dX12_hollow_16 : decode cX12_hollow 16 = .ok (.aload_n 0, 1) := by decide +kernel
theorem dX12_hollow_17 : decode cX12_hollow 17 = .ok (.invokevirtual 349, 3) := by decide +kernel
theorem dX12_hollow_20 : decode cX12_hollow 20 = .ok (.ifCond .eq 6, 3) := by decide +kernel
theorem dX12_hollow_23 : decode cX12_hollow 23 = .ok (.bipush (-4), 2) := by decide +kernel
theorem dX12_hollow_25 : decode cX12_hollow 25 = .ok (.ireturn, 1) := by decide +kernel
theorem dX12_hollow_26 : decode cX12_hollow 26 = .ok (.iload_n 3, 1) := by decide +kernel
theorem dX12_hollow_27 : decode cX12_hollow 27 = .ok (.ifCond .ge 9, 3) := by decide +kernel
theorem dX12_hollow_30 : decode cX12_hollow 30 = .ok (.aload_n 0, 1) := by decide +kernel
theorem dX12_hollow_31 : decode cX12_hollow 31 = .ok (.iconst 3, 1) := by decide +kernel
theorem dX12_hollow_32 : decode cX12_hollow 32 = .ok (.invokevirtual 308, 3) := by decide +kernel
theorem dX12_hollow_35 : decode cX12_hollow 35 = .ok (.ireturn, 1) := by decide +kernel
theorem dX12_hollow_36 : decode cX12_hollow 36 = .ok (.aload_n 0, 1) := by decide +kernel
theorem dX12_hollow_37 : decode cX12_hollow 37 = .ok (.getfield 9, 3) := by decide +kernel
theorem dX12_hollow_40 : decode cX12_hollow 40 = .ok (.iload_n 1, 1) := by decide +kernel
theorem dX12_hollow_41 : decode cX12_hollow 41 = .ok (.aload_n 0, 1) := by decide +kernel
theorem dX12_hollow_42 : decode cX12_hollow 42 = .ok (.iload_n 2, 1) := by decide +kernel
theorem dX12_hollow_43 : decode cX12_hollow 43 = .ok (.iload_n 3, 1) := by decide +kernel
theorem dX12_hollow_44 : decode cX12_hollow 44 = .ok (.invokevirtual 356, 3) := by decide +kernel
theorem dX12_hollow_47 : decode cX12_hollow 47 = .ok (.iastore, 1) := by decide +kernel
theorem dX12_hollow_48 : decode cX12_hollow 48 = .ok (.iconst 1, 1) := by decide +kernel
theorem dX12_hollow_49 : decode cX12_hollow 49 = .ok (.ireturn, 1) := by decide +kernel
theorem dX12_storeys_0 : decode cX12_storeys 0 = .ok (.aload_n 0, 1) := by decide +kernel
theorem dX12_storeys_1 : decode cX12_storeys 1 = .ok (.iload_n 1, 1) := by decide +kernel
theorem dX12_storeys_2 : decode cX12_storeys 2 = .ok (.bipush 11, 2) := by decide +kernel
theorem dX12_storeys_4 : decode cX12_storeys 4 = .ok (.iload_n 2, 1) := by decide +kernel
theorem dX12_storeys_5 : decode cX12_storeys 5 = .ok (.iconst 4, 1) := by decide +kernel
theorem dX12_storeys_6 : decode cX12_storeys 6 = .ok (.invokevirtual 359, 3) := by decide +kernel
theorem dX12_storeys_9 : decode cX12_storeys 9 = .ok (.ireturn, 1) := by decide +kernel
theorem dX12_tray_0 : decode cX12_tray 0 = .ok (.iload_n 2, 1) := by decide +kernel
theorem dX12_tray_1 : decode cX12_tray 1 = .ok (.bipush 12, 2) := by decide +kernel
theorem dX12_tray_3 : decode cX12_tray 3 = .ok (.bipush 15, 2) := by decide +kernel
theorem dX12_tray_5 : decode cX12_tray 5 = .ok (.invokestatic 322, 3) := by decide +kernel
theorem dX12_tray_8 : decode cX12_tray 8 = .ok (.ifCond .eq 15, 3) := by decide +kernel
theorem dX12_tray_11 : decode cX12_tray 11 = .ok (.aload_n 0, 1) := by decide +kernel
theorem dX12_tray_12 : decode cX12_tray 12 = .ok (.iload_n 1, 1) := by decide +kernel
theorem dX12_tray_13 : decode cX12_tray 13 = .ok (.iload_n 2, 1) := by decide +kernel
theorem dX12_tray_14 : decode cX12_tray 14 = .ok (.iload_n 3, 1) := by decide +kernel
theorem dX12_tray_15 : decode cX12_tray 15 = .ok (.bipush 8, 2) := by decide +kernel
theorem dX12_tray_17 : decode cX12_tray 17 = .ok (.invokevirtual 359, 3) := by decide +kernel
theorem dX12_tray_20 : decode cX12_tray 20 = .ok (.goto 5, 3) := by decide +kernel
theorem dX12_tray_23 : decode cX12_tray 23 = .ok (.bipush (-2), 2) := by decide +kernel
theorem dX12_tray_25 : decode cX12_tray 25 = .ok (.ireturn, 1) := by decide +kernel
theorem dX12_share_0 : decode cX12_share 0 = .ok (.iload_n 1, 1) := by decide +kernel
theorem dX12_share_1 : decode cX12_share 1 = .ok (.invokestatic 345, 3) := by decide +kernel
theorem dX12_share_4 : decode cX12_share 4 = .ok (.ifCond .eq 15, 3) := by decide +kernel
theorem dX12_share_7 : decode cX12_share 7 = .ok (.iload_n 2, 1) := by decide +kernel
theorem dX12_share_8 : decode cX12_share 8 = .ok (.iconst (-1), 1) := by decide +kernel
theorem dX12_share_9 : decode cX12_share 9 = .ok (.if_icmp .eq 13, 3) := by decide +kernel
theorem dX12_share_12 : decode cX12_share 12 = .ok (.iload_n 2, 1) := by decide +kernel
theorem dX12_share_13 : decode cX12_share 13 = .ok (.invokestatic 345, 3) := by decide +kernel
theorem dX12_share_16 : decode cX12_share 16 = .ok (.ifCond .ne 6, 3) := by decide +kernel
theorem dX12_share_19 : decode cX12_share 19 = .ok (.bipush (-2), 2) := by decide +kernel
theorem dX12_share_21 : decode cX12_share 21 = .ok (.ireturn, 1) := by decide +kernel
theorem dX12_share_22 : decode cX12_share 22 = .ok (.aload_n 0, 1) := by decide +kernel
theorem dX12_share_23 : decode cX12_share 23 = .ok (.getfield 9, 3) := by decide +kernel
theorem dX12_share_26 : decode cX12_share 26 = .ok (.iload_n 1, 1) := by decide +kernel
theorem dX12_share_27 : decode cX12_share 27 = .ok (.iload_n 2, 1) := by decide +kernel
theorem dX12_share_28 : decode cX12_share 28 = .ok (.iconst (-1), 1) := by decide +kernel
theorem dX12_share_29 : decode cX12_share 29 = .ok (.if_icmp .ne 7, 3) := by decide +kernel
theorem dX12_share_32 : decode cX12_share 32 = .ok (.iconst 0, 1) := by decide +kernel
theorem dX12_share_33 : decode cX12_share 33 = .ok (.goto 9, 3) := by decide +kernel
theorem dX12_share_36 : decode cX12_share 36 = .ok (.aload_n 0, 1) := by decide +kernel
theorem dX12_share_37 : decode cX12_share 37 = .ok (.getfield 9, 3) := by decide +kernel
theorem dX12_share_40 : decode cX12_share 40 = .ok (.iload_n 2, 1) := by decide +kernel
theorem dX12_share_41 : decode cX12_share 41 = .ok (.iaload, 1) := by decide +kernel
theorem dX12_share_42 : decode cX12_share 42 = .ok (.iastore, 1) := by decide +kernel
theorem dX12_share_43 : decode cX12_share 43 = .ok (.iconst 1, 1) := by decide +kernel
theorem dX12_share_44 : decode cX12_share 44 = .ok (.ireturn, 1) := by decide +kernel
theorem dX12_form_0 : decode cX12_form 0 = .ok (.iload_n 1, 1) := by decide +kernel
theorem dX12_form_1 : decode cX12_form 1 = .ok (.invokestatic 345, 3) := by decide +kernel
theorem dX12_form_4 : decode cX12_form 4 = .ok (.ifCond .ne 8, 3) := by decide +kernel
theorem dX12_form_7 : decode cX12_form 7 = .ok (.bipush (-2), 2) := by decide +kernel
theorem dX12_form_9 : decode cX12_form 9 = .ok (.goto 27, 3) := by decide +kernel
theorem dX12_form_12 : decode cX12_form 12 = .ok (.aload_n 0, 1) := by decide +kernel
theorem dX12_form_13 : decode cX12_form 13 = .ok (.getfield 9, 3) := by decide +kernel
theorem dX12_form_16 : decode cX12_form 16 = .ok (.iload_n 1, 1) := by decide +kernel
theorem dX12_form_17 : decode cX12_form 17 = .ok (.iaload, 1) := by decide +kernel
theorem dX12_form_18 : decode cX12_form 18 = .ok (.ifCond .ne 7, 3) := by decide +kernel
theorem dX12_form_21 : decode cX12_form 21 = .ok (.iconst (-1), 1) := by decide +kernel
theorem dX12_form_22 : decode cX12_form 22 = .ok (.goto 14, 3) := by decide +kernel
theorem dX12_form_25 : decode cX12_form 25 = .ok (.aload_n 0, 1) := by decide +kernel
theorem dX12_form_26 : decode cX12_form 26 = .ok (.getfield 15, 3) := by decide +kernel
theorem dX12_form_29 : decode cX12_form 29 = .ok (.aload_n 0, 1) := by decide +kernel
theorem dX12_form_30 : decode cX12_form 30 = .ok (.getfield 9, 3) := by decide +kernel
theorem dX12_form_33 : decode cX12_form 33 = .ok (.iload_n 1, 1) := by decide +kernel
theorem dX12_form_34 : decode cX12_form 34 = .ok (.iaload, 1) := by decide +kernel
theorem dX12_form_35 : decode cX12_form 35 = .ok (.baload, 1) := by decide +kernel
theorem dX12_form_36 : decode cX12_form 36 = .ok (.ireturn, 1) := by decide +kernel
theorem dX12_is_0 : decode cX12_is 0 = .ok (.iload_n 1, 1) := by decide +kernel
theorem dX12_is_1 : decode cX12_is 1 = .ok (.invokestatic 345, 3) := by decide +kernel
theorem dX12_is_4 : decode cX12_is 4 = .ok (.ifCond .eq 13, 3) := by decide +kernel
theorem dX12_is_7 : decode cX12_is 7 = .ok (.iload_n 2, 1) := by decide +kernel
theorem dX12_is_8 : decode cX12_is 8 = .ok (.iconst 0, 1) := by decide +kernel
theorem dX12_is_9 : decode cX12_is 9 = .ok (.bipush 17, 2) := by decide +kernel
theorem dX12_is_11 : decode cX12_is 11 = .ok (.invokestatic 322, 3) := by decide +kernel
theorem dX12_is_14 : decode cX12_is 14 = .ok (.ifCond .ne 6, 3) := by decide +kernel
theorem dX12_is_17 : decode cX12_is 17 = .ok (.bipush (-2), 2) := by decide +kernel
theorem dX12_is_19 : decode cX12_is 19 = .ok (.ireturn, 1) := by decide +kernel
theorem dX12_is_20 : decode cX12_is 20 = .ok (.aload_n 0, 1) := by decide +kernel
theorem dX12_is_21 : decode cX12_is 21 = .ok (.getfield 9, 3) := by decide +kernel
theorem dX12_is_24 : decode cX12_is 24 = .ok (.iload_n 1, 1) := by decide +kernel
theorem dX12_is_25 : decode cX12_is 25 = .ok (.iaload, 1) := by decide +kernel
theorem dX12_is_26 : decode cX12_is 26 = .ok (.istore_n 3, 1) := by decide +kernel
theorem dX12_is_27 : decode cX12_is 27 = .ok (.iload_n 3, 1) := by decide +kernel
theorem dX12_is_28 : decode cX12_is 28 = .ok (.ifCond .ne 5, 3) := by decide +kernel
theorem dX12_is_31 : decode cX12_is 31 = .ok (.iconst 0, 1) := by decide +kernel
theorem dX12_is_32 : decode cX12_is 32 = .ok (.ireturn, 1) := by decide +kernel
theorem dX12_is_33 : decode cX12_is 33 = .ok (.aload_n 0, 1) := by decide +kernel
theorem dX12_is_34 : decode cX12_is 34 = .ok (.getfield 15, 3) := by decide +kernel
theorem dX12_is_37 : decode cX12_is 37 = .ok (.iload_n 3, 1) := by decide +kernel
theorem dX12_is_38 : decode cX12_is 38 = .ok (.baload, 1) := by decide +kernel
theorem dX12_is_39 : decode cX12_is 39 = .ok (.bipush 16, 2) := by decide +kernel
theorem dX12_is_41 : decode cX12_is 41 = .ok (.if_icmp .ne 27, 3) := by decide +kernel
theorem dX12_is_44 : decode cX12_is 44 = .ok (.iload_n 2, 1) := by decide +kernel
theorem dX12_is_45 : decode cX12_is 45 = .ok (.bipush 12, 2) := by decide +kernel
theorem dX12_is_47 : decode cX12_is 47 = .ok (.bipush 15, 2) := by decide +kernel
theorem dX12_is_49 : decode cX12_is 49 = .ok (.invokestatic 322, 3) := by decide +kernel
theorem dX12_is_52 : decode cX12_is 52 = .ok (.ifCond .eq 16, 3) := by decide +kernel
theorem dX12_is_55 : decode cX12_is 55 = .ok (.iload_n 2, 1) := by decide +kernel
theorem dX12_is_56 : decode cX12_is 56 = .ok (.aload_n 0, 1) := by decide +kernel
theorem dX12_is_57 : decode cX12_is 57 = .ok (.getfield 38, 3) := by decide +kernel
theorem dX12_is_60 : decode cX12_is 60 = .ok (.iload_n 3, 1) := by decide +kernel
theorem dX12_is_61 : decode cX12_is 61 = .ok (.baload, 1) := by decide +kernel
theorem dX12_is_62 : decode cX12_is 62 = .ok (.invokestatic 329, 3) := by decide +kernel
theorem dX12_is_65 : decode cX12_is 65 = .ok (.goto 18, 3) := by decide +kernel
theorem dX12_is_68 : decode cX12_is 68 = .ok (.aload_n 0, 1) := by decide +kernel
theorem dX12_is_69 : decode cX12_is 69 = .ok (.getfield 15, 3) := by decide +kernel
theorem dX12_is_72 : decode cX12_is 72 = .ok (.iload_n 3, 1) := by decide +kernel
theorem dX12_is_73 : decode cX12_is 73 = .ok (.baload, 1) := by decide +kernel
theorem dX12_is_74 : decode cX12_is 74 = .ok (.iload_n 2, 1) := by decide +kernel
theorem dX12_is_75 : decode cX12_is 75 = .ok (.if_icmp .ne 7, 3) := by decide +kernel
theorem dX12_is_78 : decode cX12_is 78 = .ok (.iconst 1, 1) := by decide +kernel
theorem dX12_is_79 : decode cX12_is 79 = .ok (.goto 4, 3) := by decide +kernel
theorem dX12_is_82 : decode cX12_is 82 = .ok (.iconst 0, 1) := by decide +kernel
theorem dX12_is_83 : decode cX12_is 83 = .ok (.istore 4, 2) := by decide +kernel
theorem dX12_is_85 : decode cX12_is 85 = .ok (.iload 4, 2) := by decide +kernel
theorem dX12_is_87 : decode cX12_is 87 = .ok (.ifCond .eq 7, 3) := by decide +kernel
theorem dX12_is_90 : decode cX12_is 90 = .ok (.iconst 1, 1) := by decide +kernel
theorem dX12_is_91 : decode cX12_is 91 = .ok (.goto 4, 3) := by decide +kernel
theorem dX12_is_94 : decode cX12_is 94 = .ok (.iconst 0, 1) := by decide +kernel
theorem dX12_is_95 : decode cX12_is 95 = .ok (.ireturn, 1) := by decide +kernel
theorem dX12_against_0 : decode cX12_against 0 = .ok (.aload_n 0, 1) := by decide +kernel
theorem dX12_against_1 : decode cX12_against 1 = .ok (.iload_n 1, 1) := by decide +kernel
theorem dX12_against_2 : decode cX12_against 2 = .ok (.iload_n 2, 1) := by decide +kernel
theorem dX12_against_3 : decode cX12_against 3 = .ok (.invokevirtual 363, 3) := by decide +kernel
theorem dX12_against_6 : decode cX12_against 6 = .ok (.ifCond .eq 12, 3) := by decide +kernel
theorem dX12_against_9 : decode cX12_against 9 = .ok (.aload_n 0, 1) := by decide +kernel
theorem dX12_against_10 : decode cX12_against 10 = .ok (.iload_n 1, 1) := by decide +kernel
theorem dX12_against_11 : decode cX12_against 11 = .ok (.iload_n 3, 1) := by decide +kernel
theorem dX12_against_12 : decode cX12_against 12 = .ok (.invokevirtual 366, 3) := by decide +kernel
theorem dX12_against_15 : decode cX12_against 15 = .ok (.goto 4, 3) := by decide +kernel
theorem dX12_against_18 : decode cX12_against 18 = .ok (.iconst 4, 1) := by decide +kernel
theorem dX12_against_19 : decode cX12_against 19 = .ok (.ireturn, 1) := by decide +kernel
theorem dX12_get_0 : decode cX12_get 0 = .ok (.iload_n 1, 1) := by decide +kernel
theorem dX12_get_1 : decode cX12_get 1 = .ok (.invokestatic 345, 3) := by decide +kernel
theorem dX12_get_4 : decode cX12_get 4 = .ok (.ifCond .eq 13, 3) := by decide +kernel
theorem dX12_get_7 : decode cX12_get 7 = .ok (.iload_n 2, 1) := by decide +kernel
theorem dX12_get_8 : decode cX12_get 8 = .ok (.iconst 0, 1) := by decide +kernel
theorem dX12_get_9 : decode cX12_get 9 = .ok (.bipush 7, 2) := by decide +kernel
theorem dX12_get_11 : decode cX12_get 11 = .ok (.invokestatic 322, 3) := by decide +kernel
theorem dX12_get_14 : decode cX12_get 14 = .ok (.ifCond .ne 5, 3) := by decide +kernel
theorem dX12_get_17 : decode cX12_get 17 = .ok (.lconst 0, 1) := by decide +kernel
theorem dX12_get_18 : decode cX12_get 18 = .ok (.lreturn, 1) := by decide +kernel
theorem dX12_get_19 : decode cX12_get 19 = .ok (.aload_n 0, 1) := by decide +kernel
theorem dX12_get_20 : decode cX12_get 20 = .ok (.getfield 9, 3) := by decide +kernel
theorem dX12_get_23 : decode cX12_get 23 = .ok (.iload_n 1, 1) := by decide +kernel
theorem dX12_get_24 : decode cX12_get 24 = .ok (.iaload, 1) := by decide +kernel
theorem dX12_get_25 : decode cX12_get 25 = .ok (.istore 4, 2) := by decide +kernel
theorem dX12_get_27 : decode cX12_get 27 = .ok (.aload_n 0, 1) := by decide +kernel
theorem dX12_get_28 : decode cX12_get 28 = .ok (.iload 4, 2) := by decide +kernel
theorem dX12_get_30 : decode cX12_get 30 = .ok (.iload_n 2, 1) := by decide +kernel
theorem dX12_get_31 : decode cX12_get 31 = .ok (.iload_n 3, 1) := by decide +kernel
theorem dX12_get_32 : decode cX12_get 32 = .ok (.invokevirtual 369, 3) := by decide +kernel
theorem dX12_get_35 : decode cX12_get 35 = .ok (.istore 5, 2) := by decide +kernel
theorem dX12_get_37 : decode cX12_get 37 = .ok (.iload 5, 2) := by decide +kernel
theorem dX12_get_39 : decode cX12_get 39 = .ok (.ifCond .eq 12, 3) := by decide +kernel
theorem dX12_get_42 : decode cX12_get 42 = .ok (.aload_n 0, 1) := by decide +kernel
theorem dX12_get_43 : decode cX12_get 43 = .ok (.iload 5, 2) := by decide +kernel
theorem dX12_get_45 : decode cX12_get 45 = .ok (.invokevirtual 373, 3) := by decide +kernel
theorem dX12_get_48 : decode cX12_get 48 = .ok (.goto 17, 3) := by decide +kernel
theorem dX12_get_51 : decode cX12_get 51 = .ok (.aload_n 0, 1) := by decide +kernel
theorem dX12_get_52 : decode cX12_get 52 = .ok (.getfield 26, 3) := by decide +kernel
theorem dX12_get_55 : decode cX12_get 55 = .ok (.aload_n 0, 1) := by decide +kernel
theorem dX12_get_56 : decode cX12_get 56 = .ok (.getfield 22, 3) := by decide +kernel
theorem dX12_get_59 : decode cX12_get 59 = .ok (.iload 4, 2) := by decide +kernel
theorem dX12_get_61 : decode cX12_get 61 = .ok (.iaload, 1) := by decide +kernel
theorem dX12_get_62 : decode cX12_get 62 = .ok (.iload_n 3, 1) := by decide +kernel
theorem dX12_get_63 : decode cX12_get 63 = .ok (.iadd, 1) := by decide +kernel
theorem dX12_get_64 : decode cX12_get 64 = .ok (.laload, 1) := by decide +kernel
theorem dX12_get_65 : decode cX12_get 65 = .ok (.lreturn, 1) := by decide +kernel
theorem dX12_put_0 : decode cX12_put 0 = .ok (.iload_n 1, 1) := by decide +kernel
theorem dX12_put_1 : decode cX12_put 1 = .ok (.invokestatic 345, 3) := by decide +kernel
theorem dX12_put_4 : decode cX12_put 4 = .ok (.ifCond .eq 13, 3) := by decide +kernel
theorem dX12_put_7 : decode cX12_put 7 = .ok (.iload_n 2, 1) := by decide +kernel
theorem dX12_put_8 : decode cX12_put 8 = .ok (.iconst 0, 1) := by decide +kernel
theorem dX12_put_9 : decode cX12_put 9 = .ok (.bipush 7, 2) := by decide +kernel
theorem dX12_put_11 : decode cX12_put 11 = .ok (.invokestatic 322, 3) := by decide +kernel
theorem dX12_put_14 : decode cX12_put 14 = .ok (.ifCond .ne 6, 3) := by decide +kernel
theorem dX12_put_17 : decode cX12_put 17 = .ok (.bipush (-2), 2) := by decide +kernel
theorem dX12_put_19 : decode cX12_put 19 = .ok (.ireturn, 1) := by decide +kernel
theorem dX12_put_20 : decode cX12_put 20 = .ok (.aload_n 0, 1) := by decide +kernel
theorem dX12_put_21 : decode cX12_put 21 = .ok (.getfield 9, 3) := by decide +kernel
theorem dX12_put_24 : decode cX12_put 24 = .ok (.iload_n 1, 1) := by decide +kernel
theorem dX12_put_25 : decode cX12_put 25 = .ok (.iaload, 1) := by decide +kernel
theorem dX12_put_26 : decode cX12_put 26 = .ok (.istore 6, 2) := by decide +kernel
theorem dX12_put_28 : decode cX12_put 28 = .ok (.aload_n 0, 1) := by decide +kernel
theorem dX12_put_29 : decode cX12_put 29 = .ok (.iload 6, 2) := by decide +kernel
theorem dX12_put_31 : decode cX12_put 31 = .ok (.iload_n 2, 1) := by decide +kernel
theorem dX12_put_32 : decode cX12_put 32 = .ok (.iload_n 3, 1) := by decide +kernel
theorem dX12_put_33 : decode cX12_put 33 = .ok (.invokevirtual 369, 3) := by decide +kernel
theorem dX12_put_36 : decode cX12_put 36 = .ok (.istore 7, 2) := by decide +kernel
theorem dX12_put_38 : decode cX12_put 38 = .ok (.iload 7, 2) := by decide +kernel
theorem dX12_put_40 : decode cX12_put 40 = .ok (.ifCond .eq 10, 3) := by decide +kernel
theorem dX12_put_43 : decode cX12_put 43 = .ok (.aload_n 0, 1) := by decide +kernel
theorem dX12_put_44 : decode cX12_put 44 = .ok (.iload 7, 2) := by decide +kernel
theorem dX12_put_46 : decode cX12_put 46 = .ok (.invokevirtual 308, 3) := by decide +kernel
theorem dX12_put_49 : decode cX12_put 49 = .ok (.ireturn, 1) := by decide +kernel
theorem dX12_put_50 : decode cX12_put 50 = .ok (.aload_n 0, 1) := by decide +kernel
theorem dX12_put_51 : decode cX12_put 51 = .ok (.getfield 26, 3) := by decide +kernel
theorem dX12_put_54 : decode cX12_put 54 = .ok (.aload_n 0, 1) := by decide +kernel
theorem dX12_put_55 : decode cX12_put 55 = .ok (.getfield 22, 3) := by decide +kernel
theorem dX12_put_58 : decode cX12_put 58 = .ok (.iload 6, 2) := by decide +kernel
theorem dX12_put_60 : decode cX12_put 60 = .ok (.iaload, 1) := by decide +kernel
theorem dX12_put_61 : decode cX12_put 61 = .ok (.iload_n 3, 1) := by decide +kernel
theorem dX12_put_62 : decode cX12_put 62 = .ok (.iadd, 1) := by decide +kernel
theorem dX12_put_63 : decode cX12_put 63 = .ok (.iload_n 2, 1) := by decide +kernel
theorem dX12_put_64 : decode cX12_put 64 = .ok (.lload 4, 2) := by decide +kernel
theorem dX12_put_66 : decode cX12_put 66 = .ok (.invokestatic 377, 3) := by decide +kernel
theorem dX12_put_69 : decode cX12_put 69 = .ok (.lastore, 1) := by decide +kernel
theorem dX12_put_70 : decode cX12_put 70 = .ok (.iconst 1, 1) := by decide +kernel
theorem dX12_put_71 : decode cX12_put 71 = .ok (.ireturn, 1) := by decide +kernel
theorem dX12_againstBed_0 : decode cX12_againstBed 0 = .ok (.aload_n 0, 1) := by decide +kernel
theorem dX12_againstBed_1 : decode cX12_againstBed 1 = .ok (.iload_n 1, 1) := by decide +kernel
theorem dX12_againstBed_2 : decode cX12_againstBed 2 = .ok (.iload_n 2, 1) := by decide +kernel
theorem dX12_againstBed_3 : decode cX12_againstBed 3 = .ok (.iload_n 3, 1) := by decide +kernel
theorem dX12_againstBed_4 : decode cX12_againstBed 4 = .ok (.invokevirtual 369, 3) := by decide +kernel
theorem dX12_againstBed_7 : decode cX12_againstBed 7 = .ok (.istore 5, 2) := by decide +kernel
theorem dX12_againstBed_9 : decode cX12_againstBed 9 = .ok (.iload 5, 2) := by decide +kernel
theorem dX12_againstBed_11 : decode cX12_againstBed 11 = .ok (.ifCond .eq 6, 3) := by decide +kernel
theorem dX12_againstBed_14 : decode cX12_againstBed 14 = .ok (.iload 5, 2) := by decide +kernel
theorem dX12_againstBed_16 : decode cX12_againstBed 16 = .ok (.ireturn, 1) := by decide +kernel
theorem dX12_againstBed_17 : decode cX12_againstBed 17 = .ok (.aload_n 0, 1) := by decide +kernel
theorem dX12_againstBed_18 : decode cX12_againstBed 18 = .ok (.getfield 31, 3) := by decide +kernel
theorem dX12_againstBed_21 : decode cX12_againstBed 21 = .ok (.aload_n 0, 1) := by decide +kernel
theorem dX12_againstBed_22 : decode cX12_againstBed 22 = .ok (.getfield 22, 3) := by decide +kernel
theorem dX12_againstBed_25 : decode cX12_againstBed 25 = .ok (.iload_n 1, 1) := by decide +kernel
theorem dX12_againstBed_26 : decode cX12_againstBed 26 = .ok (.iaload, 1) := by decide +kernel
theorem dX12_againstBed_27 : decode cX12_againstBed 27 = .ok (.iload_n 3, 1) := by decide +kernel
theorem dX12_againstBed_28 : decode cX12_againstBed 28 = .ok (.iadd, 1) := by decide +kernel
theorem dX12_againstBed_29 : decode cX12_againstBed 29 = .ok (.saload, 1) := by decide +kernel
theorem dX12_againstBed_30 : decode cX12_againstBed 30 = .ok (.istore 6, 2) := by decide +kernel
theorem dX12_againstBed_32 : decode cX12_againstBed 32 = .ok (.aload_n 0, 1) := by decide +kernel
theorem dX12_againstBed_33 : decode cX12_againstBed 33 = .ok (.iload 6, 2) := by decide +kernel
theorem dX12_againstBed_35 : decode cX12_againstBed 35 = .ok (.iload 4, 2) := by decide +kernel
theorem dX12_againstBed_37 : decode cX12_againstBed 37 = .ok (.invokevirtual 366, 3) := by decide +kernel
theorem dX12_againstBed_40 : decode cX12_againstBed 40 = .ok (.istore 5, 2) := by decide +kernel
theorem dX12_againstBed_42 : decode cX12_againstBed 42 = .ok (.aload_n 0, 1) := by decide +kernel
theorem dX12_againstBed_43 : decode cX12_againstBed 43 = .ok (.aload_n 0, 1) := by decide +kernel
theorem dX12_againstBed_44 : decode cX12_againstBed 44 = .ok (.getfield 22, 3) := by decide +kernel
theorem dX12_againstBed_47 : decode cX12_againstBed 47 = .ok (.iload 6, 2) := by decide +kernel
theorem dX12_againstBed_49 : decode cX12_againstBed 49 = .ok (.iaload, 1) := by decide +kernel
theorem dX12_againstBed_50 : decode cX12_againstBed 50 = .ok (.iload 4, 2) := by decide +kernel
theorem dX12_againstBed_52 : decode cX12_againstBed 52 = .ok (.iadd, 1) := by decide +kernel
theorem dX12_againstBed_53 : decode cX12_againstBed 53 = .ok (.putfield 381, 3) := by decide +kernel
theorem dX12_againstBed_56 : decode cX12_againstBed 56 = .ok (.iload 5, 2) := by decide +kernel
theorem dX12_againstBed_58 : decode cX12_againstBed 58 = .ok (.ireturn, 1) := by decide +kernel
theorem dX12_bed_0 : decode cX12_bed 0 = .ok (.iload_n 1, 1) := by decide +kernel
theorem dX12_bed_1 : decode cX12_bed 1 = .ok (.invokestatic 345, 3) := by decide +kernel
theorem dX12_bed_4 : decode cX12_bed 4 = .ok (.ifCond .eq 14, 3) := by decide +kernel
theorem dX12_bed_7 : decode cX12_bed 7 = .ok (.iload_n 2, 1) := by decide +kernel
theorem dX12_bed_8 : decode cX12_bed 8 = .ok (.bipush 8, 2) := by decide +kernel
theorem dX12_bed_10 : decode cX12_bed 10 = .ok (.bipush 10, 2) := by decide +kernel
theorem dX12_bed_12 : decode cX12_bed 12 = .ok (.invokestatic 322, 3) := by decide +kernel
theorem dX12_bed_15 : decode cX12_bed 15 = .ok (.ifCond .ne 5, 3) := by decide +kernel
theorem dX12_bed_18 : decode cX12_bed 18 = .ok (.lconst 0, 1) := by decide +kernel
theorem dX12_bed_19 : decode cX12_bed 19 = .ok (.lreturn, 1) := by decide +kernel
theorem dX12_bed_20 : decode cX12_bed 20 = .ok (.aload_n 0, 1) := by decide +kernel
theorem dX12_bed_21 : decode cX12_bed 21 = .ok (.aload_n 0, 1) := by decide +kernel
theorem dX12_bed_22 : decode cX12_bed 22 = .ok (.getfield 9, 3) := by decide +kernel
theorem dX12_bed_25 : decode cX12_bed 25 = .ok (.iload_n 1, 1) := by decide +kernel
theorem dX12_bed_26 : decode cX12_bed 26 = .ok (.iaload, 1) := by decide +kernel
theorem dX12_bed_27 : decode cX12_bed 27 = .ok (.iload_n 2, 1) := by decide +kernel
theorem dX12_bed_28 : decode cX12_bed 28 = .ok (.iload_n 3, 1) := by decide +kernel
theorem dX12_bed_29 : decode cX12_bed 29 = .ok (.iload 4, 2) := by decide +kernel
theorem dX12_bed_31 : decode cX12_bed 31 = .ok (.invokevirtual 384, 3) := by decide +kernel
theorem dX12_bed_34 : decode cX12_bed 34 = .ok (.istore 5, 2) := by decide +kernel
theorem dX12_bed_36 : decode cX12_bed 36 = .ok (.iload 5, 2) := by decide +kernel
theorem dX12_bed_38 : decode cX12_bed 38 = .ok (.ifCond .eq 12, 3) := by decide +kernel
theorem dX12_bed_41 : decode cX12_bed 41 = .ok (.aload_n 0, 1) := by decide +kernel
theorem dX12_bed_42 : decode cX12_bed 42 = .ok (.iload 5, 2) := by decide +kernel
theorem dX12_bed_44 : decode cX12_bed 44 = .ok (.invokevirtual 373, 3) := by decide +kernel
theorem dX12_bed_47 : decode cX12_bed 47 = .ok (.goto 12, 3) := by decide +kernel
theorem dX12_bed_50 : decode cX12_bed 50 = .ok (.aload_n 0, 1) := by decide +kernel
theorem dX12_bed_51 : decode cX12_bed 51 = .ok (.getfield 26, 3) := by decide +kernel
theorem dX12_bed_54 : decode cX12_bed 54 = .ok (.aload_n 0, 1) := by decide +kernel
theorem dX12_bed_55 : decode cX12_bed 55 = .ok (.getfield 381, 3) := by decide +kernel
theorem dX12_bed_58 : decode cX12_bed 58 = .ok (.laload, 1) := by decide +kernel
theorem dX12_bed_59 : decode cX12_bed 59 = .ok (.lreturn, 1) := by decide +kernel
theorem dX12_setBed_0 : decode cX12_setBed 0 = .ok (.iload_n 1, 1) := by decide +kernel
theorem dX12_setBed_1 : decode cX12_setBed 1 = .ok (.invokestatic 345, 3) := by decide +kernel
theorem dX12_setBed_4 : decode cX12_setBed 4 = .ok (.ifCond .eq 14, 3) := by decide +kernel
theorem dX12_setBed_7 : decode cX12_setBed 7 = .ok (.iload_n 2, 1) := by decide +kernel
theorem dX12_setBed_8 : decode cX12_setBed 8 = .ok (.bipush 8, 2) := by decide +kernel
theorem dX12_setBed_10 : decode cX12_setBed 10 = .ok (.bipush 10, 2) := by decide +kernel
theorem dX12_setBed_12 : decode cX12_setBed 12 = .ok (.invokestatic 322, 3) := by decide +kernel
theorem dX12_setBed_15 : decode cX12_setBed 15 = .ok (.ifCond .ne 6, 3) := by decide +kernel
theorem dX12_setBed_18 : decode cX12_setBed 18 = .ok (.bipush (-2), 2) := by decide +kernel
theorem dX12_setBed_20 : decode cX12_setBed 20 = .ok (.ireturn, 1) := by decide +kernel
theorem dX12_setBed_21 : decode cX12_setBed 21 = .ok (.aload_n 0, 1) := by decide +kernel
theorem dX12_setBed_22 : decode cX12_setBed 22 = .ok (.aload_n 0, 1) := by decide +kernel
theorem dX12_setBed_23 : decode cX12_setBed 23 = .ok (.getfield 9, 3) := by decide +kernel
theorem dX12_setBed_26 : decode cX12_setBed 26 = .ok (.iload_n 1, 1) := by decide +kernel
theorem dX12_setBed_27 : decode cX12_setBed 27 = .ok (.iaload, 1) := by decide +kernel
theorem dX12_setBed_28 : decode cX12_setBed 28 = .ok (.iload_n 2, 1) := by decide +kernel
theorem dX12_setBed_29 : decode cX12_setBed 29 = .ok (.iload_n 3, 1) := by decide +kernel
theorem dX12_setBed_30 : decode cX12_setBed 30 = .ok (.iload 4, 2) := by decide +kernel
theorem dX12_setBed_32 : decode cX12_setBed 32 = .ok (.invokevirtual 384, 3) := by decide +kernel
theorem dX12_setBed_35 : decode cX12_setBed 35 = .ok (.istore 7, 2) := by decide +kernel
theorem dX12_setBed_37 : decode cX12_setBed 37 = .ok (.iload 7, 2) := by decide +kernel
theorem dX12_setBed_39 : decode cX12_setBed 39 = .ok (.ifCond .eq 10, 3) := by decide +kernel
theorem dX12_setBed_42 : decode cX12_setBed 42 = .ok (.aload_n 0, 1) := by decide +kernel
theorem dX12_setBed_43 : decode cX12_setBed 43 = .ok (.iload 7, 2) := by decide +kernel
theorem dX12_setBed_45 : decode cX12_setBed 45 = .ok (.invokevirtual 308, 3) := by decide +kernel
theorem dX12_setBed_48 : decode cX12_setBed 48 = .ok (.ireturn, 1) := by decide +kernel
theorem dX12_setBed_49 : decode cX12_setBed 49 = .ok (.aload_n 0, 1) := by decide +kernel
theorem dX12_setBed_50 : decode cX12_setBed 50 = .ok (.getfield 26, 3) := by decide +kernel
theorem dX12_setBed_53 : decode cX12_setBed 53 = .ok (.aload_n 0, 1) := by decide +kernel
theorem dX12_setBed_54 : decode cX12_setBed 54 = .ok (.getfield 381, 3) := by decide +kernel
theorem dX12_setBed_57 : decode cX12_setBed 57 = .ok (.iload_n 2, 1) := by decide +kernel
theorem dX12_setBed_58 : decode cX12_setBed 58 = .ok (.invokestatic 326, 3) := by decide +kernel
theorem dX12_setBed_61 : decode cX12_setBed 61 = .ok (.lload 5, 2) := by decide +kernel
theorem dX12_setBed_63 : decode cX12_setBed 63 = .ok (.invokestatic 377, 3) := by decide +kernel
theorem dX12_setBed_66 : decode cX12_setBed 66 = .ok (.lastore, 1) := by decide +kernel
theorem dX12_setBed_67 : decode cX12_setBed 67 = .ok (.iconst 1, 1) := by decide +kernel
theorem dX12_setBed_68 : decode cX12_setBed 68 = .ok (.ireturn, 1) := by decide +kernel
theorem dX12_countUp_0 : decode cX12_countUp 0 = .ok (.iload_n 1, 1) := by decide +kernel
theorem dX12_countUp_1 : decode cX12_countUp 1 = .ok (.invokestatic 345, 3) := by decide +kernel
theorem dX12_countUp_4 : decode cX12_countUp 4 = .ok (.ifCond .ne 5, 3) := by decide +kernel
theorem dX12_countUp_7 : decode cX12_countUp 7 = .ok (.iconst 0, 1) := by decide +kernel
theorem dX12_countUp_8 : decode cX12_countUp 8 = .ok (.ireturn, 1) := by decide +kernel
theorem dX12_countUp_9 : decode cX12_countUp 9 = .ok (.aload_n 0, 1) := by decide +kernel
theorem dX12_countUp_10 : decode cX12_countUp 10 = .ok (.getfield 9, 3) := by decide +kernel
theorem dX12_countUp_13 : decode cX12_countUp 13 = .ok (.iload_n 1, 1) := by decide +kernel
theorem dX12_countUp_14 : decode cX12_countUp 14 = .ok (.iaload, 1) := by decide +kernel
theorem dX12_countUp_15 : decode cX12_countUp 15 = .ok (.istore 6, 2) := by decide +kernel
theorem dX12_countUp_17 : decode cX12_countUp 17 = .ok (.aload_n 0, 1) := by decide +kernel
theorem dX12_countUp_18 : decode cX12_countUp 18 = .ok (.iload 6, 2) := by decide +kernel
theorem dX12_countUp_20 : decode cX12_countUp 20 = .ok (.bipush 11, 2) := by decide +kernel
theorem dX12_countUp_22 : decode cX12_countUp 22 = .ok (.iload_n 2, 1) := by decide +kernel
theorem dX12_countUp_23 : decode cX12_countUp 23 = .ok (.invokevirtual 369, 3) := by decide +kernel
theorem dX12_countUp_26 : decode cX12_countUp 26 = .ok (.istore 7, 2) := by decide +kernel
theorem dX12_countUp_28 : decode cX12_countUp 28 = .ok (.iload 7, 2) := by decide +kernel
theorem dX12_countUp_30 : decode cX12_countUp 30 = .ok (.ifCond .ne 28, 3) := by decide +kernel
theorem dX12_countUp_33 : decode cX12_countUp 33 = .ok (.aload_n 0, 1) := by decide +kernel
theorem dX12_countUp_34 : decode cX12_countUp 34 = .ok (.aload_n 0, 1) := by decide +kernel
theorem dX12_countUp_35 : decode cX12_countUp 35 = .ok (.getfield 31, 3) := by decide +kernel
theorem dX12_countUp_38 : decode cX12_countUp 38 = .ok (.aload_n 0, 1) := by decide +kernel
theorem dX12_countUp_39 : decode cX12_countUp 39 = .ok (.getfield 22, 3) := by decide +kernel
theorem dX12_countUp_42 : decode cX12_countUp 42 = .ok (.iload 6, 2) := by decide +kernel
theorem dX12_countUp_44 : decode cX12_countUp 44 = .ok (.iaload, 1) := by decide +kernel
theorem dX12_countUp_45 : decode cX12_countUp 45 = .ok (.iload_n 2, 1) := by decide +kernel
theorem dX12_countUp_46 : decode cX12_countUp 46 = .ok (.iadd, 1) := by decide +kernel
theorem dX12_countUp_47 : decode cX12_countUp 47 = .ok (.saload, 1) := by decide +kernel
theorem dX12_countUp_48 : decode cX12_countUp 48 = .ok (.bipush 9, 2) := by decide +kernel
theorem dX12_countUp_50 : decode cX12_countUp 50 = .ok (.iload_n 3, 1) := by decide +kernel
theorem dX12_countUp_51 : decode cX12_countUp 51 = .ok (.iload 4, 2) := by decide +kernel
theorem dX12_countUp_53 : decode cX12_countUp 53 = .ok (.invokevirtual 384, 3) := by decide +kernel
theorem dX12_countUp_56 : decode cX12_countUp 56 = .ok (.istore 7, 2) := by decide +kernel
theorem dX12_countUp_58 : decode cX12_countUp 58 = .ok (.iload 7, 2) := by decide +kernel
theorem dX12_countUp_60 : decode cX12_countUp 60 = .ok (.ifCond .eq 13, 3) := by decide +kernel
theorem dX12_countUp_63 : decode cX12_countUp 63 = .ok (.aload_n 0, 1) := by decide +kernel
theorem dX12_countUp_64 : decode cX12_countUp 64 = .ok (.iload 7, 2) := by decide +kernel
theorem dX12_countUp_66 : decode cX12_countUp 66 = .ok (.invokevirtual 308, 3) := by decide +kernel
theorem dX12_countUp_69 : decode cX12_countUp 69 = .ok (.istore 8, 2) := by decide +kernel
theorem dX12_countUp_71 : decode cX12_countUp 71 = .ok (.iconst 0, 1) := by decide +kernel
theorem dX12_countUp_72 : decode cX12_countUp 72 = .ok (.ireturn, 1) := by decide +kernel
theorem dX12_countUp_73 : decode cX12_countUp 73 = .ok (.aload_n 0, 1) := by decide +kernel
theorem dX12_countUp_74 : decode cX12_countUp 74 = .ok (.getfield 26, 3) := by decide +kernel
theorem dX12_countUp_77 : decode cX12_countUp 77 = .ok (.aload_n 0, 1) := by decide +kernel
theorem dX12_countUp_78 : decode cX12_countUp 78 = .ok (.getfield 381, 3) := by decide +kernel
theorem dX12_countUp_81 : decode cX12_countUp 81 = .ok (.laload, 1) := by decide +kernel
theorem dX12_countUp_82 : decode cX12_countUp 82 = .ok (.l2i, 1) := by decide +kernel
theorem dX12_countUp_83 : decode cX12_countUp 83 = .ok (.istore 8, 2) := by decide +kernel
theorem dX12_countUp_85 : decode cX12_countUp 85 = .ok (.aload_n 0, 1) := by decide +kernel
theorem dX12_countUp_86 : decode cX12_countUp 86 = .ok (.getfield 26, 3) := by decide +kernel
theorem dX12_countUp_89 : decode cX12_countUp 89 = .ok (.aload_n 0, 1) := by decide +kernel
theorem dX12_countUp_90 : decode cX12_countUp 90 = .ok (.getfield 381, 3) := by decide +kernel
theorem dX12_countUp_93 : decode cX12_countUp 93 = .ok (.iload 8, 2) := by decide +kernel
theorem dX12_countUp_95 : decode cX12_countUp 95 = .ok (.iconst 1, 1) := by decide +kernel
theorem dX12_countUp_96 : decode cX12_countUp 96 = .ok (.iadd, 1) := by decide +kernel
theorem dX12_countUp_97 : decode cX12_countUp 97 = .ok (.i2l, 1) := by decide +kernel
theorem dX12_countUp_98 : decode cX12_countUp 98 = .ok (.lastore, 1) := by decide +kernel
theorem dX12_countUp_99 : decode cX12_countUp 99 = .ok (.iload 5, 2) := by decide +kernel
theorem dX12_countUp_101 : decode cX12_countUp 101 = .ok (.ifCond .eq 10, 3) := by decide +kernel
theorem dX12_countUp_104 : decode cX12_countUp 104 = .ok (.iload 8, 2) := by decide +kernel
theorem dX12_countUp_106 : decode cX12_countUp 106 = .ok (.iconst 1, 1) := by decide +kernel
theorem dX12_countUp_107 : decode cX12_countUp 107 = .ok (.iadd, 1) := by decide +kernel
theorem dX12_countUp_108 : decode cX12_countUp 108 = .ok (.goto 5, 3) := by decide +kernel
theorem dX12_countUp_111 : decode cX12_countUp 111 = .ok (.iload 8, 2) := by decide +kernel
theorem dX12_countUp_113 : decode cX12_countUp 113 = .ok (.ireturn, 1) := by decide +kernel
theorem dX12_againstPlace_0 : decode cX12_againstPlace 0 = .ok (.iload_n 1, 1) := by decide +kernel
theorem dX12_againstPlace_1 : decode cX12_againstPlace 1 = .ok (.ifCond .eq 11, 3) := by decide +kernel
theorem dX12_againstPlace_4 : decode cX12_againstPlace 4 = .ok (.aload_n 0, 1) := by decide +kernel
theorem dX12_againstPlace_5 : decode cX12_againstPlace 5 = .ok (.iload_n 1, 1) := by decide +kernel
theorem dX12_againstPlace_6 : decode cX12_againstPlace 6 = .ok (.invokevirtual 387, 3) := by decide +kernel
theorem dX12_againstPlace_9 : decode cX12_againstPlace 9 = .ok (.ifCond .eq 12, 3) := by decide +kernel
theorem dX12_againstPlace_12 : decode cX12_againstPlace 12 = .ok (.aload_n 0, 1) := by decide +kernel
theorem dX12_againstPlace_13 : decode cX12_againstPlace 13 = .ok (.iload_n 1, 1) := by decide +kernel
theorem dX12_againstPlace_14 : decode cX12_againstPlace 14 = .ok (.iload_n 2, 1) := by decide +kernel
theorem dX12_againstPlace_15 : decode cX12_againstPlace 15 = .ok (.invokevirtual 366, 3) := by decide +kernel
theorem dX12_againstPlace_18 : decode cX12_againstPlace 18 = .ok (.goto 4, 3) := by decide +kernel
theorem dX12_againstPlace_21 : decode cX12_againstPlace 21 = .ok (.iconst 4, 1) := by decide +kernel
theorem dX12_againstPlace_22 : decode cX12_againstPlace 22 = .ok (.ireturn, 1) := by decide +kernel
theorem dX12_set_0 : decode cX12_set 0 = .ok (.iload_n 1, 1) := by decide +kernel
theorem dX12_set_1 : decode cX12_set 1 = .ok (.invokestatic 345, 3) := by decide +kernel
theorem dX12_set_4 : decode cX12_set 4 = .ok (.ifCond .eq 10, 3) := by decide +kernel
theorem dX12_set_7 : decode cX12_set 7 = .ok (.iload_n 3, 1) := by decide +kernel
theorem dX12_set_8 : decode cX12_set 8 = .ok (.invokestatic 345, 3) := by decide +kernel
theorem dX12_set_11 : decode cX12_set 11 = .ok (.ifCond .ne 6, 3) := by decide +kernel
theorem dX12_set_14 : decode cX12_set 14 = .ok (.bipush (-2), 2) := by decide +kernel
theorem dX12_set_16 : decode cX12_set 16 = .ok (.ireturn, 1) := by decide +kernel
theorem dX12_set_17 : decode cX12_set 17 = .ok (.aload_n 0, 1) := by decide +kernel
theorem dX12_set_18 : decode cX12_set 18 = .ok (.getfield 9, 3) := by decide +kernel
theorem dX12_set_21 : decode cX12_set 21 = .ok (.iload_n 1, 1) := by decide +kernel
theorem dX12_set_22 : decode cX12_set 22 = .ok (.iaload, 1) := by decide +kernel
theorem dX12_set_23 : decode cX12_set 23 = .ok (.istore 4, 2) := by decide +kernel
theorem dX12_set_25 : decode cX12_set 25 = .ok (.aload_n 0, 1) := by decide +kernel
theorem dX12_set_26 : decode cX12_set 26 = .ok (.iload 4, 2) := by decide +kernel
theorem dX12_set_28 : decode cX12_set 28 = .ok (.iload_n 2, 1) := by decide +kernel
theorem dX12_set_29 : decode cX12_set 29 = .ok (.invokevirtual 390, 3) := by decide +kernel
theorem dX12_set_32 : decode cX12_set 32 = .ok (.istore 5, 2) := by decide +kernel
theorem dX12_set_34 : decode cX12_set 34 = .ok (.iload 5, 2) := by decide +kernel
theorem dX12_set_36 : decode cX12_set 36 = .ok (.ifCond .ne 27, 3) := by decide +kernel
theorem dX12_set_39 : decode cX12_set 39 = .ok (.aload_n 0, 1) := by decide +kernel
theorem dX12_set_40 : decode cX12_set 40 = .ok (.aload_n 0, 1) := by decide +kernel
theorem dX12_set_41 : decode cX12_set 41 = .ok (.getfield 15, 3) := by decide +kernel
theorem dX12_set_44 : decode cX12_set 44 = .ok (.iload 4, 2) := by decide +kernel
theorem dX12_set_46 : decode cX12_set 46 = .ok (.baload, 1) := by decide +kernel
theorem dX12_set_47 : decode cX12_set 47 = .ok (.aload_n 0, 1) := by decide +kernel
theorem dX12_set_48 : decode cX12_set 48 = .ok (.getfield 9, 3) := by decide +kernel
theorem dX12_set_51 : decode cX12_set 51 = .ok (.iload_n 3, 1) := by decide +kernel
theorem dX12_set_52 : decode cX12_set 52 = .ok (.iaload, 1) := by decide +kernel
theorem dX12_set_53 : decode cX12_set 53 = .ok (.invokevirtual 393, 3) := by decide +kernel
theorem dX12_set_56 : decode cX12_set 56 = .ok (.ifCond .ne 7, 3) := by decide +kernel
theorem dX12_set_59 : decode cX12_set 59 = .ok (.iconst 5, 1) := by decide +kernel
theorem dX12_set_60 : decode cX12_set 60 = .ok (.goto 5, 3) := by decide +kernel
theorem dX12_set_63 : decode cX12_set 63 = .ok (.iload 5, 2) := by decide +kernel
theorem dX12_set_65 : decode cX12_set 65 = .ok (.istore 5, 2) := by decide +kernel
theorem dX12_set_67 : decode cX12_set 67 = .ok (.iload 5, 2) := by decide +kernel
theorem dX12_set_69 : decode cX12_set 69 = .ok (.ifCond .eq 10, 3) := by decide +kernel
theorem dX12_set_72 : decode cX12_set 72 = .ok (.aload_n 0, 1) := by decide +kernel
theorem dX12_set_73 : decode cX12_set 73 = .ok (.iload 5, 2) := by decide +kernel
theorem dX12_set_75 : decode cX12_set 75 = .ok (.invokevirtual 308, 3) := by decide +kernel
theorem dX12_set_78 : decode cX12_set 78 = .ok (.ireturn, 1) := by decide +kernel
theorem dX12_set_79 : decode cX12_set 79 = .ok (.aload_n 0, 1) := by decide +kernel
theorem dX12_set_80 : decode cX12_set 80 = .ok (.getfield 31, 3) := by decide +kernel
theorem dX12_set_83 : decode cX12_set 83 = .ok (.aload_n 0, 1) := by decide +kernel
theorem dX12_set_84 : decode cX12_set 84 = .ok (.getfield 22, 3) := by decide +kernel
theorem dX12_set_87 : decode cX12_set 87 = .ok (.iload 4, 2) := by decide +kernel
theorem dX12_set_89 : decode cX12_set 89 = .ok (.iaload, 1) := by decide +kernel
theorem dX12_set_90 : decode cX12_set 90 = .ok (.iload_n 2, 1) := by decide +kernel
theorem dX12_set_91 : decode cX12_set 91 = .ok (.iadd, 1) := by decide +kernel
theorem dX12_set_92 : decode cX12_set 92 = .ok (.aload_n 0, 1) := by decide +kernel
theorem dX12_set_93 : decode cX12_set 93 = .ok (.getfield 9, 3) := by decide +kernel
theorem dX12_set_96 : decode cX12_set 96 = .ok (.iload_n 3, 1) := by decide +kernel
theorem dX12_set_97 : decode cX12_set 97 = .ok (.iaload, 1) := by decide +kernel
theorem dX12_set_98 : decode cX12_set 98 = .ok (.i2s, 1) := by decide +kernel
theorem dX12_set_99 : decode cX12_set 99 = .ok (.sastore, 1) := by decide +kernel
theorem dX12_set_100 : decode cX12_set 100 = .ok (.iconst 1, 1) := by decide +kernel
theorem dX12_set_101 : decode cX12_set 101 = .ok (.ireturn, 1) := by decide +kernel
theorem dX12_lift_0 : decode cX12_lift 0 = .ok (.iload_n 1, 1) := by decide +kernel
theorem dX12_lift_1 : decode cX12_lift 1 = .ok (.invokestatic 345, 3) := by decide +kernel
theorem dX12_lift_4 : decode cX12_lift 4 = .ok (.ifCond .eq 10, 3) := by decide +kernel
theorem dX12_lift_7 : decode cX12_lift 7 = .ok (.iload_n 2, 1) := by decide +kernel
theorem dX12_lift_8 : decode cX12_lift 8 = .ok (.invokestatic 345, 3) := by decide +kernel
theorem dX12_lift_11 : decode cX12_lift 11 = .ok (.ifCond .ne 6, 3) := by decide +kernel
theorem dX12_lift_14 : decode cX12_lift 14 = .ok (.bipush (-2), 2) := by decide +kernel
theorem dX12_lift_16 : decode cX12_lift 16 = .ok (.ireturn, 1) := by decide +kernel
theorem dX12_lift_17 : decode cX12_lift 17 = .ok (.aload_n 0, 1) := by decide +kernel
theorem dX12_lift_18 : decode cX12_lift 18 = .ok (.getfield 9, 3) := by decide +kernel
theorem dX12_lift_21 : decode cX12_lift 21 = .ok (.iload_n 2, 1) := by decide +kernel
theorem dX12_lift_22 : decode cX12_lift 22 = .ok (.iaload, 1) := by decide +kernel
theorem dX12_lift_23 : decode cX12_lift 23 = .ok (.istore 4, 2) := by decide +kernel
theorem dX12_lift_25 : decode cX12_lift 25 = .ok (.aload_n 0, 1) := by decide +kernel
theorem dX12_lift_26 : decode cX12_lift 26 = .ok (.iload 4, 2) := by decide +kernel
theorem dX12_lift_28 : decode cX12_lift 28 = .ok (.iload_n 3, 1) := by decide +kernel
theorem dX12_lift_29 : decode cX12_lift 29 = .ok (.invokevirtual 390, 3) := by decide +kernel
theorem dX12_lift_32 : decode cX12_lift 32 = .ok (.istore 5, 2) := by decide +kernel
theorem dX12_lift_34 : decode cX12_lift 34 = .ok (.iload 5, 2) := by decide +kernel
theorem dX12_lift_36 : decode cX12_lift 36 = .ok (.ifCond .eq 10, 3) := by decide +kernel
theorem dX12_lift_39 : decode cX12_lift 39 = .ok (.aload_n 0, 1) := by decide +kernel
theorem dX12_lift_40 : decode cX12_lift 40 = .ok (.iload 5, 2) := by decide +kernel
theorem dX12_lift_42 : decode cX12_lift 42 = .ok (.invokevirtual 308, 3) := by decide +kernel
theorem dX12_lift_45 : decode cX12_lift 45 = .ok (.ireturn, 1) := by decide +kernel
theorem dX12_lift_46 : decode cX12_lift 46 = .ok (.aload_n 0, 1) := by decide +kernel
theorem dX12_lift_47 : decode cX12_lift 47 = .ok (.getfield 9, 3) := by decide +kernel
theorem dX12_lift_50 : decode cX12_lift 50 = .ok (.iload_n 1, 1) := by decide +kernel
theorem dX12_lift_51 : decode cX12_lift 51 = .ok (.aload_n 0, 1) := by decide +kernel
theorem dX12_lift_52 : decode cX12_lift 52 = .ok (.getfield 31, 3) := by decide +kernel
theorem dX12_lift_55 : decode cX12_lift 55 = .ok (.aload_n 0, 1) := by decide +kernel
theorem dX12_lift_56 : decode cX12_lift 56 = .ok (.getfield 22, 3) := by decide +kernel
theorem dX12_lift_59 : decode cX12_lift 59 = .ok (.iload 4, 2) := by decide +kernel
theorem dX12_lift_61 : decode cX12_lift 61 = .ok (.iaload, 1) := by decide +kernel
theorem dX12_lift_62 : decode cX12_lift 62 = .ok (.iload_n 3, 1) := by decide +kernel
theorem dX12_lift_63 : decode cX12_lift 63 = .ok (.iadd, 1) := by decide +kernel
theorem dX12_lift_64 : decode cX12_lift 64 = .ok (.saload, 1) := by decide +kernel
theorem dX12_lift_65 : decode cX12_lift 65 = .ok (.iastore, 1) := by decide +kernel
theorem dX12_lift_66 : decode cX12_lift 66 = .ok (.iconst 1, 1) := by decide +kernel
theorem dX12_lift_67 : decode cX12_lift 67 = .ok (.ireturn, 1) := by decide +kernel
theorem dX12_liftAs_0 : decode cX12_liftAs 0 = .ok (.iload_n 1, 1) := by decide +kernel
theorem dX12_liftAs_1 : decode cX12_liftAs 1 = .ok (.invokestatic 345, 3) := by decide +kernel
theorem dX12_liftAs_4 : decode cX12_liftAs 4 = .ok (.ifCond .eq 21, 3) := by decide +kernel
theorem dX12_liftAs_7 : decode cX12_liftAs 7 = .ok (.iload_n 2, 1) := by decide +kernel
theorem dX12_liftAs_8 : decode cX12_liftAs 8 = .ok (.invokestatic 345, 3) := by decide +kernel
theorem dX12_liftAs_11 : decode cX12_liftAs 11 = .ok (.ifCond .eq 14, 3) := by decide +kernel
theorem dX12_liftAs_14 : decode cX12_liftAs 14 = .ok (.iload 4, 2) := by decide +kernel
theorem dX12_liftAs_16 : decode cX12_liftAs 16 = .ok (.iconst 0, 1) := by decide +kernel
theorem dX12_liftAs_17 : decode cX12_liftAs 17 = .ok (.bipush 17, 2) := by decide +kernel
theorem dX12_liftAs_19 : decode cX12_liftAs 19 = .ok (.invokestatic 322, 3) := by decide +kernel
theorem dX12_liftAs_22 : decode cX12_liftAs 22 = .ok (.ifCond .ne 6, 3) := by decide +kernel
theorem dX12_liftAs_25 : decode cX12_liftAs 25 = .ok (.bipush (-2), 2) := by decide +kernel
theorem dX12_liftAs_27 : decode cX12_liftAs 27 = .ok (.ireturn, 1) := by decide +kernel
theorem dX12_liftAs_28 : decode cX12_liftAs 28 = .ok (.aload_n 0, 1) := by decide +kernel
theorem dX12_liftAs_29 : decode cX12_liftAs 29 = .ok (.getfield 9, 3) := by decide +kernel
theorem dX12_liftAs_32 : decode cX12_liftAs 32 = .ok (.iload_n 2, 1) := by decide +kernel
theorem dX12_liftAs_33 : decode cX12_liftAs 33 = .ok (.iaload, 1) := by decide +kernel
theorem dX12_liftAs_34 : decode cX12_liftAs 34 = .ok (.istore 5, 2) := by decide +kernel
theorem dX12_liftAs_36 : decode cX12_liftAs 36 = .ok (.aload_n 0, 1) := by decide +kernel
theorem dX12_liftAs_37 : decode cX12_liftAs 37 = .ok (.iload 5, 2) := by decide +kernel
theorem dX12_liftAs_39 : decode cX12_liftAs 39 = .ok (.iload_n 3, 1) := by decide +kernel
theorem dX12_liftAs_40 : decode cX12_liftAs 40 = .ok (.invokevirtual 390, 3) := by decide +kernel
theorem dX12_liftAs_43 : decode cX12_liftAs 43 = .ok (.istore 6, 2) := by decide +kernel
theorem dX12_liftAs_45 : decode cX12_liftAs 45 = .ok (.iload 6, 2) := by decide +kernel
theorem dX12_liftAs_47 : decode cX12_liftAs 47 = .ok (.ifCond .ne 30, 3) := by decide +kernel
theorem dX12_liftAs_50 : decode cX12_liftAs 50 = .ok (.aload_n 0, 1) := by decide +kernel
theorem dX12_liftAs_51 : decode cX12_liftAs 51 = .ok (.aload_n 0, 1) := by decide +kernel
theorem dX12_liftAs_52 : decode cX12_liftAs 52 = .ok (.getfield 31, 3) := by decide +kernel
theorem dX12_liftAs_55 : decode cX12_liftAs 55 = .ok (.aload_n 0, 1) := by decide +kernel
theorem dX12_liftAs_56 : decode cX12_liftAs 56 = .ok (.getfield 22, 3) := by decide +kernel
theorem dX12_liftAs_59 : decode cX12_liftAs 59 = .ok (.iload 5, 2) := by decide +kernel
theorem dX12_liftAs_61 : decode cX12_liftAs 61 = .ok (.iaload, 1) := by decide +kernel
theorem dX12_liftAs_62 : decode cX12_liftAs 62 = .ok (.iload_n 3, 1) := by decide +kernel
theorem dX12_liftAs_63 : decode cX12_liftAs 63 = .ok (.iadd, 1) := by decide +kernel
theorem dX12_liftAs_64 : decode cX12_liftAs 64 = .ok (.saload, 1) := by decide +kernel
theorem dX12_liftAs_65 : decode cX12_liftAs 65 = .ok (.iload 4, 2) := by decide +kernel
theorem dX12_liftAs_67 : decode cX12_liftAs 67 = .ok (.invokevirtual 363, 3) := by decide +kernel
theorem dX12_liftAs_70 : decode cX12_liftAs 70 = .ok (.ifCond .ne 7, 3) := by decide +kernel
theorem dX12_liftAs_73 : decode cX12_liftAs 73 = .ok (.iconst 4, 1) := by decide +kernel
theorem dX12_liftAs_74 : decode cX12_liftAs 74 = .ok (.goto 5, 3) := by decide +kernel
theorem dX12_liftAs_77 : decode cX12_liftAs 77 = .ok (.iload 6, 2) := by decide +kernel
theorem dX12_liftAs_79 : decode cX12_liftAs 79 = .ok (.istore 6, 2) := by decide +kernel
theorem dX12_liftAs_81 : decode cX12_liftAs 81 = .ok (.iload 6, 2) := by decide +kernel
theorem dX12_liftAs_83 : decode cX12_liftAs 83 = .ok (.ifCond .eq 10, 3) := by decide +kernel
theorem dX12_liftAs_86 : decode cX12_liftAs 86 = .ok (.aload_n 0, 1) := by decide +kernel
theorem dX12_liftAs_87 : decode cX12_liftAs 87 = .ok (.iload 6, 2) := by decide +kernel
theorem dX12_liftAs_89 : decode cX12_liftAs 89 = .ok (.invokevirtual 308, 3) := by decide +kernel
theorem dX12_liftAs_92 : decode cX12_liftAs 92 = .ok (.ireturn, 1) := by decide +kernel
theorem dX12_liftAs_93 : decode cX12_liftAs 93 = .ok (.aload_n 0, 1) := by decide +kernel
theorem dX12_liftAs_94 : decode cX12_liftAs 94 = .ok (.getfield 9, 3) := by decide +kernel
theorem dX12_liftAs_97 : decode cX12_liftAs 97 = .ok (.iload_n 1, 1) := by decide +kernel
theorem dX12_liftAs_98 : decode cX12_liftAs 98 = .ok (.aload_n 0, 1) := by decide +kernel
theorem dX12_liftAs_99 : decode cX12_liftAs 99 = .ok (.getfield 31, 3) := by decide +kernel
theorem dX12_liftAs_102 : decode cX12_liftAs 102 = .ok (.aload_n 0, 1) := by decide +kernel
theorem dX12_liftAs_103 : decode cX12_liftAs 103 = .ok (.getfield 22, 3) := by decide +kernel
theorem dX12_liftAs_106 : decode cX12_liftAs 106 = .ok (.iload 5, 2) := by decide +kernel
theorem dX12_liftAs_108 : decode cX12_liftAs 108 = .ok (.iaload, 1) := by decide +kernel
theorem dX12_liftAs_109 : decode cX12_liftAs 109 = .ok (.iload_n 3, 1) := by decide +kernel
theorem dX12_liftAs_110 : decode cX12_liftAs 110 = .ok (.iadd, 1) := by decide +kernel
theorem dX12_liftAs_111 : decode cX12_liftAs 111 = .ok (.saload, 1) := by decide +kernel
theorem dX12_liftAs_112 : decode cX12_liftAs 112 = .ok (.iastore, 1) := by decide +kernel
theorem dX12_liftAs_113 : decode cX12_liftAs 113 = .ok (.iconst 1, 1) := by decide +kernel
theorem dX12_liftAs_114 : decode cX12_liftAs 114 = .ok (.ireturn, 1) := by decide +kernel
theorem dX12_againstShift_0 : decode cX12_againstShift 0 = .ok (.iload_n 1, 1) := by decide +kernel
theorem dX12_againstShift_1 : decode cX12_againstShift 1 = .ok (.ifCond .eq 7, 3) := by decide +kernel
theorem dX12_againstShift_4 : decode cX12_againstShift 4 = .ok (.iload_n 3, 1) := by decide +kernel
theorem dX12_againstShift_5 : decode cX12_againstShift 5 = .ok (.ifCond .ne 5, 3) := by decide +kernel
theorem dX12_againstShift_8 : decode cX12_againstShift 8 = .ok (.iconst 1, 1) := by decide +kernel
theorem dX12_againstShift_9 : decode cX12_againstShift 9 = .ok (.ireturn, 1) := by decide +kernel
theorem dX12_againstShift_10 : decode cX12_againstShift 10 = .ok (.aload_n 0, 1) := by decide +kernel
theorem dX12_againstShift_11 : decode cX12_againstShift 11 = .ok (.iload_n 1, 1) := by decide +kernel
theorem dX12_againstShift_12 : decode cX12_againstShift 12 = .ok (.invokevirtual 396, 3) := by decide +kernel
theorem dX12_againstShift_15 : decode cX12_againstShift 15 = .ok (.ifCond .eq 30, 3) := by decide +kernel
theorem dX12_againstShift_18 : decode cX12_againstShift 18 = .ok (.aload_n 0, 1) := by decide +kernel
theorem dX12_againstShift_19 : decode cX12_againstShift 19 = .ok (.iload_n 3, 1) := by decide +kernel
theorem dX12_againstShift_20 : decode cX12_againstShift 20 = .ok (.invokevirtual 396, 3) := by decide +kernel
theorem dX12_againstShift_23 : decode cX12_againstShift 23 = .ok (.ifCond .eq 22, 3) := by decide +kernel
theorem dX12_againstShift_26 : decode cX12_againstShift 26 = .ok (.aload_n 0, 1) := by decide +kernel
theorem dX12_againstShift_27 : decode cX12_againstShift 27 = .ok (.getfield 15, 3) := by decide +kernel
theorem dX12_againstShift_30 : decode cX12_againstShift 30 = .ok (.iload_n 1, 1) := by decide +kernel
theorem dX12_againstShift_31 : decode cX12_againstShift 31 = .ok (.baload, 1) := by decide +kernel
theorem dX12_againstShift_32 : decode cX12_againstShift 32 = .ok (.aload_n 0, 1) := by decide +kernel
theorem dX12_againstShift_33 : decode cX12_againstShift 33 = .ok (.getfield 15, 3) := by decide +kernel
theorem dX12_againstShift_36 : decode cX12_againstShift 36 = .ok (.iload_n 3, 1) := by decide +kernel
theorem dX12_againstShift_37 : decode cX12_againstShift 37 = .ok (.baload, 1) := by decide +kernel
theorem dX12_againstShift_38 : decode cX12_againstShift 38 = .ok (.if_icmp .ne 7, 3) := by decide +kernel
theorem dX12_againstShift_41 : decode cX12_againstShift 41 = .ok (.iconst 1, 1) := by decide +kernel
theorem dX12_againstShift_42 : decode cX12_againstShift 42 = .ok (.goto 4, 3) := by decide +kernel
theorem dX12_againstShift_45 : decode cX12_againstShift 45 = .ok (.iconst 0, 1) := by decide +kernel
theorem dX12_againstShift_46 : decode cX12_againstShift 46 = .ok (.istore 6, 2) := by decide +kernel
theorem dX12_againstShift_48 : decode cX12_againstShift 48 = .ok (.iload 6, 2) := by decide +kernel
theorem dX12_againstShift_50 : decode cX12_againstShift 50 = .ok (.ifCond .ne 21, 3) := by decide +kernel
theorem dX12_againstShift_53 : decode cX12_againstShift 53 = .ok (.aload_n 0, 1) := by decide +kernel
theorem dX12_againstShift_54 : decode cX12_againstShift 54 = .ok (.iload_n 1, 1) := by decide +kernel
theorem dX12_againstShift_55 : decode cX12_againstShift 55 = .ok (.invokevirtual 387, 3) := by decide +kernel
theorem dX12_againstShift_58 : decode cX12_againstShift 58 = .ok (.ifCond .eq 11, 3) := by decide +kernel
theorem dX12_againstShift_61 : decode cX12_againstShift 61 = .ok (.aload_n 0, 1) := by decide +kernel
theorem dX12_againstShift_62 : decode cX12_againstShift 62 = .ok (.iload_n 3, 1) := by decide +kernel
theorem dX12_againstShift_63 : decode cX12_againstShift 63 = .ok (.invokevirtual 387, 3) := by decide +kernel
theorem dX12_againstShift_66 : decode cX12_againstShift 66 = .ok (.ifCond .ne 5, 3) := by decide +kernel
theorem dX12_againstShift_69 : decode cX12_againstShift 69 = .ok (.iconst 5, 1) := by decide +kernel
theorem dX12_againstShift_70 : decode cX12_againstShift 70 = .ok (.ireturn, 1) := by decide +kernel
theorem dX12_againstShift_71 : decode cX12_againstShift 71 = .ok (.iload_n 2, 1) := by decide +kernel
theorem dX12_againstShift_72 : decode cX12_againstShift 72 = .ok (.ifCond .lt 40, 3) := by decide +kernel
theorem dX12_againstShift_75 : decode cX12_againstShift 75 = .ok (.iload 4, 2) := by decide +kernel
theorem dX12_againstShift_77 : decode cX12_againstShift 77 = .ok (.ifCond .lt 35, 3) := by decide +kernel
theorem dX12_againstShift_80 : decode cX12_againstShift 80 = .ok (.iload 5, 2) := by decide +kernel
theorem dX12_againstShift_82 : decode cX12_againstShift 82 = .ok (.ifCond .lt 30, 3) := by decide +kernel
theorem dX12_againstShift_85 : decode cX12_againstShift 85 = .ok (.iload_n 2, 1) := by decide +kernel
theorem dX12_againstShift_86 : decode cX12_againstShift 86 = .ok (.aload_n 0, 1) := by decide +kernel
theorem dX12_againstShift_87 : decode cX12_againstShift 87 = .ok (.getfield 19, 3) := by decide +kernel
theorem dX12_againstShift_90 : decode cX12_againstShift 90 = .ok (.iload_n 1, 1) := by decide +kernel
theorem dX12_againstShift_91 : decode cX12_againstShift 91 = .ok (.baload, 1) := by decide +kernel
theorem dX12_againstShift_92 : decode cX12_againstShift 92 = .ok (.iload 5, 2) := by decide +kernel
theorem dX12_againstShift_94 : decode cX12_againstShift 94 = .ok (.isub, 1) := by decide +kernel
theorem dX12_againstShift_95 : decode cX12_againstShift 95 = .ok (.if_icmp .gt 17, 3) := by decide +kernel
theorem dX12_againstShift_98 : decode cX12_againstShift 98 = .ok (.iload 4, 2) := by decide +kernel
theorem dX12_againstShift_100 : decode cX12_againstShift 100 = .ok (.aload_n 0, 1) := by decide +kernel
theorem dX12_againstShift_101 : decode cX12_againstShift 101 = .ok (.getfield 19, 3) := by decide +kernel
theorem dX12_againstShift_104 : decode cX12_againstShift 104 = .ok (.iload_n 3, 1) := by decide +kernel
theorem dX12_againstShift_105 : decode cX12_againstShift 105 = .ok (.baload, 1) := by decide +kernel
theorem dX12_againstShift_106 : decode cX12_againstShift 106 = .ok (.iload 5, 2) := by decide +kernel
theorem dX12_againstShift_108 : decode cX12_againstShift 108 = .ok (.isub, 1) := by decide +kernel
theorem dX12_againstShift_109 : decode cX12_againstShift 109 = .ok (.if_icmp .le 7, 3) := by decide +kernel
theorem dX12_againstShift_112 : decode cX12_againstShift 112 = .ok (.iconst 2, 1) := by decide +kernel
theorem dX12_againstShift_113 : decode cX12_againstShift 113 = .ok (.goto 4, 3) := by decide +kernel
theorem dX12_againstShift_116 : decode cX12_againstShift 116 = .ok (.iconst 0, 1) := by decide +kernel
theorem dX12_againstShift_117 : decode cX12_againstShift 117 = .ok (.ireturn, 1) := by decide +kernel
theorem dX12_shift_0 : decode cX12_shift 0 = .ok (.iload_n 1, 1) := by decide +kernel
theorem dX12_shift_1 : decode cX12_shift 1 = .ok (.invokestatic 345, 3) := by decide +kernel
theorem dX12_shift_4 : decode cX12_shift 4 = .ok (.ifCond .eq 10, 3) := by decide +kernel
theorem dX12_shift_7 : decode cX12_shift 7 = .ok (.iload_n 3, 1) := by decide +kernel
theorem dX12_shift_8 : decode cX12_shift 8 = .ok (.invokestatic 345, 3) := by decide +kernel
theorem dX12_shift_11 : decode cX12_shift 11 = .ok (.ifCond .ne 6, 3) := by decide +kernel
theorem dX12_shift_14 : decode cX12_shift 14 = .ok (.bipush (-2), 2) := by decide +kernel
theorem dX12_shift_16 : decode cX12_shift 16 = .ok (.ireturn, 1) := by decide +kernel
theorem dX12_shift_17 : decode cX12_shift 17 = .ok (.aload_n 0, 1) := by decide +kernel
theorem dX12_shift_18 : decode cX12_shift 18 = .ok (.iconst 0, 1) := by decide +kernel
theorem dX12_shift_19 : decode cX12_shift 19 = .ok (.putfield 399, 3) := by decide +kernel
theorem dX12_shift_22 : decode cX12_shift 22 = .ok (.aload_n 0, 1) := by decide +kernel
theorem dX12_shift_23 : decode cX12_shift 23 = .ok (.getfield 9, 3) := by decide +kernel
theorem dX12_shift_26 : decode cX12_shift 26 = .ok (.iload_n 1, 1) := by decide +kernel
theorem dX12_shift_27 : decode cX12_shift 27 = .ok (.iaload, 1) := by decide +kernel
theorem dX12_shift_28 : decode cX12_shift 28 = .ok (.istore 6, 2) := by decide +kernel
theorem dX12_shift_30 : decode cX12_shift 30 = .ok (.aload_n 0, 1) := by decide +kernel
theorem dX12_shift_31 : decode cX12_shift 31 = .ok (.getfield 9, 3) := by decide +kernel
theorem dX12_shift_34 : decode cX12_shift 34 = .ok (.iload_n 3, 1) := by decide +kernel
theorem dX12_shift_35 : decode cX12_shift 35 = .ok (.iaload, 1) := by decide +kernel
theorem dX12_shift_36 : decode cX12_shift 36 = .ok (.istore 7, 2) := by decide +kernel
theorem dX12_shift_38 : decode cX12_shift 38 = .ok (.aload_n 0, 1) := by decide +kernel
theorem dX12_shift_39 : decode cX12_shift 39 = .ok (.iload 6, 2) := by decide +kernel
theorem dX12_shift_41 : decode cX12_shift 41 = .ok (.iload_n 2, 1) := by decide +kernel
theorem dX12_shift_42 : decode cX12_shift 42 = .ok (.iload 7, 2) := by decide +kernel
theorem dX12_shift_44 : decode cX12_shift 44 = .ok (.iload 4, 2) := by decide +kernel
theorem dX12_shift_46 : decode cX12_shift 46 = .ok (.iload 5, 2) := by decide +kernel
theorem dX12_shift_48 : decode cX12_shift 48 = .ok (.invokevirtual 402, 3) := by decide +kernel
theorem dX12_shift_51 : decode cX12_shift 51 = .ok (.istore 8, 2) := by decide +kernel
theorem dX12_shift_53 : decode cX12_shift 53 = .ok (.iload 8, 2) := by decide +kernel
theorem dX12_shift_55 : decode cX12_shift 55 = .ok (.ifCond .eq 10, 3) := by decide +kernel
theorem dX12_shift_58 : decode cX12_shift 58 = .ok (.aload_n 0, 1) := by decide +kernel
theorem dX12_shift_59 : decode cX12_shift 59 = .ok (.iload 8, 2) := by decide +kernel
theorem dX12_shift_61 : decode cX12_shift 61 = .ok (.invokevirtual 308, 3) := by decide +kernel
theorem dX12_shift_64 : decode cX12_shift 64 = .ok (.ireturn, 1) := by decide +kernel
theorem dX12_shift_65 : decode cX12_shift 65 = .ok (.aload_n 0, 1) := by decide +kernel
theorem dX12_shift_66 : decode cX12_shift 66 = .ok (.iload 6, 2) := by decide +kernel
theorem dX12_shift_68 : decode cX12_shift 68 = .ok (.invokevirtual 396, 3) := by decide +kernel
theorem dX12_shift_71 : decode cX12_shift 71 = .ok (.istore 9, 2) := by decide +kernel
theorem dX12_shift_73 : decode cX12_shift 73 = .ok (.iconst 0, 1) := by decide +kernel
theorem dX12_shift_74 : decode cX12_shift 74 = .ok (.istore 10, 2) := by decide +kernel
theorem dX12_shift_76 : decode cX12_shift 76 = .ok (.iload 10, 2) := by decide +kernel
theorem dX12_shift_78 : decode cX12_shift 78 = .ok (.iload 5, 2) := by decide +kernel
theorem dX12_shift_80 : decode cX12_shift 80 = .ok (.if_icmp .ge 59, 3) := by decide +kernel
theorem dX12_shift_83 : decode cX12_shift 83 = .ok (.aload_n 0, 1) := by decide +kernel
theorem dX12_shift_84 : decode cX12_shift 84 = .ok (.getfield 56, 3) := by decide +kernel
theorem dX12_shift_87 : decode cX12_shift 87 = .ok (.iload 10, 2) := by decide +kernel
theorem dX12_shift_89 : decode cX12_shift 89 = .ok (.iload 9, 2) := by decide +kernel
theorem dX12_shift_91 : decode cX12_shift 91 = .ok (.ifCond .eq 23, 3) := by decide +kernel
theorem dX12_shift_94 : decode cX12_shift 94 = .ok (.aload_n 0, 1) := by decide +kernel
theorem dX12_shift_95 : decode cX12_shift 95 = .ok (.getfield 26, 3) := by decide +kernel
theorem dX12_shift_98 : decode cX12_shift 98 = .ok (.aload_n 0, 1) := by decide +kernel
theorem dX12_shift_99 : decode cX12_shift 99 = .ok (.getfield 22, 3) := by decide +kernel
theorem dX12_shift_102 : decode cX12_shift 102 = .ok (.iload 6, 2) := by decide +kernel
theorem dX12_shift_104 : decode cX12_shift 104 = .ok (.iaload, 1) := by decide +kernel
theorem dX12_shift_105 : decode cX12_shift 105 = .ok (.iload_n 2, 1) := by decide +kernel
theorem dX12_shift_106 : decode cX12_shift 106 = .ok (.iadd, 1) := by decide +kernel
theorem dX12_shift_107 : decode cX12_shift 107 = .ok (.iload 10, 2) := by decide +kernel
theorem dX12_shift_109 : decode cX12_shift 109 = .ok (.iadd, 1) := by decide +kernel
theorem dX12_shift_110 : decode cX12_shift 110 = .ok (.laload, 1) := by decide +kernel
theorem dX12_shift_111 : decode cX12_shift 111 = .ok (.goto 21, 3) := by decide +kernel
theorem dX12_shift_114 : decode cX12_shift 114 = .ok (.aload_n 0, 1) := by decide +kernel
theorem dX12_shift_115 : decode cX12_shift 115 = .ok (.getfield 31, 3) := by decide +kernel
theorem dX12_shift_118 : decode cX12_shift 118 = .ok (.aload_n 0, 1) := by decide +kernel
theorem dX12_shift_119 : decode cX12_shift 119 = .ok (.getfield 22, 3) := by decide +kernel
theorem dX12_shift_122 : decode cX12_shift 122 = .ok (.iload 6, 2) := by decide +kernel
theorem dX12_shift_124 : decode cX12_shift 124 = .ok (.iaload, 1) := by decide +kernel
theorem dX12_shift_125 : decode cX12_shift 125 = .ok (.iload_n 2, 1) := by decide +kernel
theorem dX12_shift_126 : decode cX12_shift 126 = .ok (.iadd, 1) := by decide +kernel
theorem dX12_shift_127 : decode cX12_shift 127 = .ok (.iload 10, 2) := by decide +kernel
theorem dX12_shift_129 : decode cX12_shift 129 = .ok (.iadd, 1) := by decide +kernel
theorem dX12_shift_130 : decode cX12_shift 130 = .ok (.saload, 1) := by decide +kernel
theorem dX12_shift_131 : decode cX12_shift 131 = .ok (.i2l, 1) := by decide +kernel
theorem dX12_shift_132 : decode cX12_shift 132 = .ok (.lastore, 1) := by decide +kernel
theorem dX12_shift_133 : decode cX12_shift 133 = .ok (.iinc 10 1, 3) := by decide +kernel
theorem dX12_shift_136 : decode cX12_shift 136 = .ok (.goto (-60), 3) := by decide +kernel
theorem dX12_shift_139 : decode cX12_shift 139 = .ok (.iconst 0, 1) := by decide +kernel
theorem dX12_shift_140 : decode cX12_shift 140 = .ok (.istore 10, 2) := by decide +kernel
theorem dX12_shift_142 : decode cX12_shift 142 = .ok (.iload 10, 2) := by decide +kernel
theorem dX12_shift_144 : decode cX12_shift 144 = .ok (.iload 5, 2) := by decide +kernel
theorem dX12_shift_146 : decode cX12_shift 146 = .ok (.if_icmp .ge 107, 3) := by decide +kernel
theorem dX12_shift_149 : decode cX12_shift 149 = .ok (.iload 9, 2) := by decide +kernel
theorem dX12_shift_151 : decode cX12_shift 151 = .ok (.ifCond .eq 31, 3) := by decide +kernel
theorem dX12_shift_154 : decode cX12_shift 154 = .ok (.aload_n 0, 1) := by decide +kernel
theorem dX12_shift_155 : decode cX12_shift 155 = .ok (.getfield 26, 3) := by decide +kernel
theorem dX12_shift_158 : decode cX12_shift 158 = .ok (.aload_n 0, 1) := by decide +kernel
theorem dX12_shift_159 : decode cX12_shift 159 = .ok (.getfield 22, 3) := by decide +kernel
theorem dX12_shift_162 : decode cX12_shift 162 = .ok (.iload 7, 2) := by decide +kernel
theorem dX12_shift_164 : decode cX12_shift 164 = .ok (.iaload, 1) := by decide +kernel
theorem dX12_shift_165 : decode cX12_shift 165 = .ok (.iload 4, 2) := by decide +kernel
theorem dX12_shift_167 : decode cX12_shift 167 = .ok (.iadd, 1) := by decide +kernel
theorem dX12_shift_168 : decode cX12_shift 168 = .ok (.iload 10, 2) := by decide +kernel
theorem dX12_shift_170 : decode cX12_shift 170 = .ok (.iadd, 1) := by decide +kernel
theorem dX12_shift_171 : decode cX12_shift 171 = .ok (.aload_n 0, 1) := by decide +kernel
theorem dX12_shift_172 : decode cX12_shift 172 = .ok (.getfield 56, 3) := by decide +kernel
theorem dX12_shift_175 : decode cX12_shift 175 = .ok (.iload 10, 2) := by decide +kernel
theorem dX12_shift_177 : decode cX12_shift 177 = .ok (.laload, 1) := by decide +kernel
theorem dX12_shift_178 : decode cX12_shift 178 = .ok (.lastore, 1) := by decide +kernel
theorem dX12_shift_179 : decode cX12_shift 179 = .ok (.goto 58, 3) := by decide +kernel
theorem dX12_shift_182 : decode cX12_shift 182 = .ok (.aload_n 0, 1) := by decide +kernel
theorem dX12_shift_183 : decode cX12_shift 183 = .ok (.aload_n 0, 1) := by decide +kernel
theorem dX12_shift_184 : decode cX12_shift 184 = .ok (.getfield 15, 3) := by decide +kernel
theorem dX12_shift_187 : decode cX12_shift 187 = .ok (.iload 7, 2) := by decide +kernel
theorem dX12_shift_189 : decode cX12_shift 189 = .ok (.baload, 1) := by decide +kernel
theorem dX12_shift_190 : decode cX12_shift 190 = .ok (.aload_n 0, 1) := by decide +kernel
theorem dX12_shift_191 : decode cX12_shift 191 = .ok (.getfield 56, 3) := by decide +kernel
theorem dX12_shift_194 : decode cX12_shift 194 = .ok (.iload 10, 2) := by decide +kernel
theorem dX12_shift_196 : decode cX12_shift 196 = .ok (.laload, 1) := by decide +kernel
theorem dX12_shift_197 : decode cX12_shift 197 = .ok (.l2i, 1) := by decide +kernel
theorem dX12_shift_198 : decode cX12_shift 198 = .ok (.invokevirtual 393, 3) := by decide +kernel
theorem dX12_shift_201 : decode cX12_shift 201 = .ok (.ifCond .ne 9, 3) := by decide +kernel
theorem dX12_shift_204 : decode cX12_shift 204 = .ok (.aload_n 0, 1) := by decide +kernel
theorem dX12_shift_205 : decode cX12_shift 205 = .ok (.iconst 5, 1) := by decide +kernel
theorem dX12_shift_206 : decode cX12_shift 206 = .ok (.invokevirtual 308, 3) := by decide +kernel
theorem dX12_shift_209 : decode cX12_shift 209 = .ok (.ireturn, 1) := by decide +kernel
theorem dX12_shift_210 : decode cX12_shift 210 = .ok (.aload_n 0, 1) := by decide +kernel
theorem dX12_shift_211 : decode cX12_shift 211 = .ok (.getfield 31, 3) := by decide +kernel
theorem dX12_shift_214 : decode cX12_shift 214 = .ok (.aload_n 0, 1) := by decide +kernel
theorem dX12_shift_215 : decode cX12_shift 215 = .ok (.getfield 22, 3) := by decide +kernel
theorem dX12_shift_218 : decode cX12_shift 218 = .ok (.iload 7, 2) := by decide +kernel
theorem dX12_shift_220 : decode cX12_shift 220 = .ok (.iaload, 1) := by decide +kernel
theorem dX12_shift_221 : decode cX12_shift 221 = .ok (.iload 4, 2) := by decide +kernel
theorem dX12_shift_223 : decode cX12_shift 223 = .ok (.iadd, 1) := by decide +kernel
theorem dX12_shift_224 : decode cX12_shift 224 = .ok (.iload 10, 2) := by decide +kernel
theorem dX12_shift_226 : decode cX12_shift 226 = .ok (.iadd, 1) := by decide +kernel
theorem dX12_shift_227 : decode cX12_shift 227 = .ok (.aload_n 0, 1) := by decide +kernel
theorem dX12_shift_228 : decode cX12_shift 228 = .ok (.getfield 56, 3) := by decide +kernel
theorem dX12_shift_231 : decode cX12_shift 231 = .ok (.iload 10, 2) := by decide +kernel
theorem dX12_shift_233 : decode cX12_shift 233 = .ok (.laload, 1) := by decide +kernel
theorem dX12_shift_234 : decode cX12_shift 234 = .ok (.l2i, 1) := by decide +kernel
theorem dX12_shift_235 : decode cX12_shift 235 = .ok (.i2s, 1) := by decide +kernel
theorem dX12_shift_236 : decode cX12_shift 236 = .ok (.sastore, 1) := by decide +kernel
theorem dX12_shift_237 : decode cX12_shift 237 = .ok (.aload_n 0, 1) := by decide +kernel
theorem dX12_shift_238 : decode cX12_shift 238 = .ok (.dup, 1) := by decide +kernel
theorem dX12_shift_239 : decode cX12_shift 239 = .ok (.getfield 399, 3) := by decide +kernel
theorem dX12_shift_242 : decode cX12_shift 242 = .ok (.iconst 1, 1) := by decide +kernel
theorem dX12_shift_243 : decode cX12_shift 243 = .ok (.iadd, 1) := by decide +kernel
theorem dX12_shift_244 : decode cX12_shift 244 = .ok (.putfield 399, 3) := by decide +kernel
theorem dX12_shift_247 : decode cX12_shift 247 = .ok (.iinc 10 1, 3) := by decide +kernel
theorem dX12_shift_250 : decode cX12_shift 250 = .ok (.goto (-108), 3) := by decide +kernel
theorem dX12_shift_253 : decode cX12_shift 253 = .ok (.iload 5, 2) := by decide +kernel
theorem dX12_shift_255 : decode cX12_shift 255 = .ok (.ireturn, 1) := by decide +kernel
theorem dX12_came_0 : decode cX12_came 0 = .ok (.aload_n 0, 1) := by decide +kernel
theorem dX12_came_1 : decode cX12_came 1 = .ok (.getfield 399, 3) := by decide +kernel
theorem dX12_came_4 : decode cX12_came 4 = .ok (.ireturn, 1) := by decide +kernel
theorem dX12_rowCopy_0 : decode cX12_rowCopy 0 = .ok (.aload_n 0, 1) := by decide +kernel
theorem dX12_rowCopy_1 : decode cX12_rowCopy 1 = .ok (.aload_n 0, 1) := by decide +kernel
theorem dX12_rowCopy_2 : decode cX12_rowCopy 2 = .ok (.getfield 15, 3) := by decide +kernel
theorem dX12_rowCopy_5 : decode cX12_rowCopy 5 = .ok (.iload_n 1, 1) := by decide +kernel
theorem dX12_rowCopy_6 : decode cX12_rowCopy 6 = .ok (.baload, 1) := by decide +kernel
theorem dX12_rowCopy_7 : decode cX12_rowCopy 7 = .ok (.aload_n 0, 1) := by decide +kernel
theorem dX12_rowCopy_8 : decode cX12_rowCopy 8 = .ok (.getfield 19, 3) := by decide +kernel
theorem dX12_rowCopy_11 : decode cX12_rowCopy 11 = .ok (.iload_n 1, 1) := by decide +kernel
theorem dX12_rowCopy_12 : decode cX12_rowCopy 12 = .ok (.baload, 1) := by decide +kernel
theorem dX12_rowCopy_13 : decode cX12_rowCopy 13 = .ok (.invokevirtual 353, 3) := by decide +kernel
theorem dX12_rowCopy_16 : decode cX12_rowCopy 16 = .ok (.istore_n 2, 1) := by decide +kernel
theorem dX12_rowCopy_17 : decode cX12_rowCopy 17 = .ok (.iconst 0, 1) := by decide +kernel
theorem dX12_rowCopy_18 : decode cX12_rowCopy 18 = .ok (.istore_n 3, 1) := by decide +kernel
theorem dX12_rowCopy_19 : decode cX12_rowCopy 19 = .ok (.iload_n 3, 1) := by decide +kernel
theorem dX12_rowCopy_20 : decode cX12_rowCopy 20 = .ok (.aload_n 0, 1) := by decide +kernel
theorem dX12_rowCopy_21 : decode cX12_rowCopy 21 = .ok (.getfield 19, 3) := by decide +kernel
theorem dX12_rowCopy_24 : decode cX12_rowCopy 24 = .ok (.iload_n 1, 1) := by decide +kernel
theorem dX12_rowCopy_25 : decode cX12_rowCopy 25 = .ok (.baload, 1) := by decide +kernel
theorem dX12_rowCopy_26 : decode cX12_rowCopy 26 = .ok (.if_icmp .ge 35, 3) := by decide +kernel
theorem dX12_rowCopy_29 : decode cX12_rowCopy 29 = .ok (.aload_n 0, 1) := by decide +kernel
theorem dX12_rowCopy_30 : decode cX12_rowCopy 30 = .ok (.getfield 26, 3) := by decide +kernel
theorem dX12_rowCopy_33 : decode cX12_rowCopy 33 = .ok (.aload_n 0, 1) := by decide +kernel
theorem dX12_rowCopy_34 : decode cX12_rowCopy 34 = .ok (.getfield 22, 3) := by decide +kernel
theorem dX12_rowCopy_37 : decode cX12_rowCopy 37 = .ok (.iload_n 2, 1) := by decide +kernel
theorem dX12_rowCopy_38 : decode cX12_rowCopy 38 = .ok (.iaload, 1) := by decide +kernel
theorem dX12_rowCopy_39 : decode cX12_rowCopy 39 = .ok (.iload_n 3, 1) := by decide +kernel
theorem dX12_rowCopy_40 : decode cX12_rowCopy 40 = .ok (.iadd, 1) := by decide +kernel
theorem dX12_rowCopy_41 : decode cX12_rowCopy 41 = .ok (.aload_n 0, 1) := by decide +kernel
theorem dX12_rowCopy_42 : decode cX12_rowCopy 42 = .ok (.getfield 26, 3) := by decide +kernel
theorem dX12_rowCopy_45 : decode cX12_rowCopy 45 = .ok (.aload_n 0, 1) := by decide +kernel
theorem dX12_rowCopy_46 : decode cX12_rowCopy 46 = .ok (.getfield 22, 3) := by decide +kernel
theorem dX12_rowCopy_49 : decode cX12_rowCopy 49 = .ok (.iload_n 1, 1) := by decide +kernel
theorem dX12_rowCopy_50 : decode cX12_rowCopy 50 = .ok (.iaload, 1) := by decide +kernel
theorem dX12_rowCopy_51 : decode cX12_rowCopy 51 = .ok (.iload_n 3, 1) := by decide +kernel
theorem dX12_rowCopy_52 : decode cX12_rowCopy 52 = .ok (.iadd, 1) := by decide +kernel
theorem dX12_rowCopy_53 : decode cX12_rowCopy 53 = .ok (.laload, 1) := by decide +kernel
theorem dX12_rowCopy_54 : decode cX12_rowCopy 54 = .ok (.lastore, 1) := by decide +kernel
theorem dX12_rowCopy_55 : decode cX12_rowCopy 55 = .ok (.iinc 3 1, 3) := by decide +kernel
theorem dX12_rowCopy_58 : decode cX12_rowCopy 58 = .ok (.goto (-39), 3) := by decide +kernel
theorem dX12_rowCopy_61 : decode cX12_rowCopy 61 = .ok (.iload_n 2, 1) := by decide +kernel
theorem dX12_rowCopy_62 : decode cX12_rowCopy 62 = .ok (.ireturn, 1) := by decide +kernel
theorem dX12_gridCopy_0 : decode cX12_gridCopy 0 = .ok (.aload_n 0, 1) := by decide +kernel
theorem dX12_gridCopy_1 : decode cX12_gridCopy 1 = .ok (.aload_n 0, 1) := by decide +kernel
theorem dX12_gridCopy_2 : decode cX12_gridCopy 2 = .ok (.getfield 15, 3) := by decide +kernel
theorem dX12_gridCopy_5 : decode cX12_gridCopy 5 = .ok (.iload_n 1, 1) := by decide +kernel
theorem dX12_gridCopy_6 : decode cX12_gridCopy 6 = .ok (.baload, 1) := by decide +kernel
theorem dX12_gridCopy_7 : decode cX12_gridCopy 7 = .ok (.aload_n 0, 1) := by decide +kernel
theorem dX12_gridCopy_8 : decode cX12_gridCopy 8 = .ok (.getfield 19, 3) := by decide +kernel
theorem dX12_gridCopy_11 : decode cX12_gridCopy 11 = .ok (.iload_n 1, 1) := by decide +kernel
theorem dX12_gridCopy_12 : decode cX12_gridCopy 12 = .ok (.baload, 1) := by decide +kernel
theorem dX12_gridCopy_13 : decode cX12_gridCopy 13 = .ok (.invokevirtual 356, 3) := by decide +kernel
theorem dX12_gridCopy_16 : decode cX12_gridCopy 16 = .ok (.istore_n 2, 1) := by decide +kernel
theorem dX12_gridCopy_17 : decode cX12_gridCopy 17 = .ok (.iconst 0, 1) := by decide +kernel
theorem dX12_gridCopy_18 : decode cX12_gridCopy 18 = .ok (.istore_n 3, 1) := by decide +kernel
theorem dX12_gridCopy_19 : decode cX12_gridCopy 19 = .ok (.iload_n 3, 1) := by decide +kernel
theorem dX12_gridCopy_20 : decode cX12_gridCopy 20 = .ok (.aload_n 0, 1) := by decide +kernel
theorem dX12_gridCopy_21 : decode cX12_gridCopy 21 = .ok (.getfield 19, 3) := by decide +kernel
theorem dX12_gridCopy_24 : decode cX12_gridCopy 24 = .ok (.iload_n 1, 1) := by decide +kernel
theorem dX12_gridCopy_25 : decode cX12_gridCopy 25 = .ok (.baload, 1) := by decide +kernel
theorem dX12_gridCopy_26 : decode cX12_gridCopy 26 = .ok (.if_icmp .ge 53, 3) := by decide +kernel
theorem dX12_gridCopy_29 : decode cX12_gridCopy 29 = .ok (.aload_n 0, 1) := by decide +kernel
theorem dX12_gridCopy_30 : decode cX12_gridCopy 30 = .ok (.getfield 31, 3) := by decide +kernel
theorem dX12_gridCopy_33 : decode cX12_gridCopy 33 = .ok (.aload_n 0, 1) := by decide +kernel
theorem dX12_gridCopy_34 : decode cX12_gridCopy 34 = .ok (.getfield 22, 3) := by decide +kernel
theorem dX12_gridCopy_37 : decode cX12_gridCopy 37 = .ok (.iload_n 1, 1) := by decide +kernel
theorem dX12_gridCopy_38 : decode cX12_gridCopy 38 = .ok (.iaload, 1) := by decide +kernel
theorem dX12_gridCopy_39 : decode cX12_gridCopy 39 = .ok (.iload_n 3, 1) := by decide +kernel
theorem dX12_gridCopy_40 : decode cX12_gridCopy 40 = .ok (.iadd, 1) := by decide +kernel
theorem dX12_gridCopy_41 : decode cX12_gridCopy 41 = .ok (.saload, 1) := by decide +kernel
theorem dX12_gridCopy_42 : decode cX12_gridCopy 42 = .ok (.istore 4, 2) := by decide +kernel
theorem dX12_gridCopy_44 : decode cX12_gridCopy 44 = .ok (.aload_n 0, 1) := by decide +kernel
theorem dX12_gridCopy_45 : decode cX12_gridCopy 45 = .ok (.getfield 31, 3) := by decide +kernel
theorem dX12_gridCopy_48 : decode cX12_gridCopy 48 = .ok (.aload_n 0, 1) := by decide +kernel
theorem dX12_gridCopy_49 : decode cX12_gridCopy 49 = .ok (.getfield 22, 3) := by decide +kernel
theorem dX12_gridCopy_52 : decode cX12_gridCopy 52 = .ok (.iload_n 2, 1) := by decide +kernel
theorem dX12_gridCopy_53 : decode cX12_gridCopy 53 = .ok (.iaload, 1) := by decide +kernel
theorem dX12_gridCopy_54 : decode cX12_gridCopy 54 = .ok (.iload_n 3, 1) := by decide +kernel
theorem dX12_gridCopy_55 : decode cX12_gridCopy 55 = .ok (.iadd, 1) := by decide +kernel
theorem dX12_gridCopy_56 : decode cX12_gridCopy 56 = .ok (.iload 4, 2) := by decide +kernel
theorem dX12_gridCopy_58 : decode cX12_gridCopy 58 = .ok (.ifCond .ne 7, 3) := by decide +kernel
theorem dX12_gridCopy_61 : decode cX12_gridCopy 61 = .ok (.iconst 0, 1) := by decide +kernel
theorem dX12_gridCopy_62 : decode cX12_gridCopy 62 = .ok (.goto 9, 3) := by decide +kernel
theorem dX12_gridCopy_65 : decode cX12_gridCopy 65 = .ok (.aload_n 0, 1) := by decide +kernel
theorem dX12_gridCopy_66 : decode cX12_gridCopy 66 = .ok (.iload 4, 2) := by decide +kernel
theorem dX12_gridCopy_68 : decode cX12_gridCopy 68 = .ok (.invokevirtual 406, 3) := by decide +kernel
theorem dX12_gridCopy_71 : decode cX12_gridCopy 71 = .ok (.i2s, 1) := by decide +kernel
theorem dX12_gridCopy_72 : decode cX12_gridCopy 72 = .ok (.sastore, 1) := by decide +kernel
theorem dX12_gridCopy_73 : decode cX12_gridCopy 73 = .ok (.iinc 3 1, 3) := by decide +kernel
theorem dX12_gridCopy_76 : decode cX12_gridCopy 76 = .ok (.goto (-57), 3) := by decide +kernel
theorem dX12_gridCopy_79 : decode cX12_gridCopy 79 = .ok (.iload_n 2, 1) := by decide +kernel
theorem dX12_gridCopy_80 : decode cX12_gridCopy 80 = .ok (.ireturn, 1) := by decide +kernel
theorem dX12_placesCopy_0 : decode cX12_placesCopy 0 = .ok (.iload_n 2, 1) := by decide +kernel
theorem dX12_placesCopy_1 : decode cX12_placesCopy 1 = .ok (.ifCond .eq 20, 3) := by decide +kernel
theorem dX12_placesCopy_4 : decode cX12_placesCopy 4 = .ok (.aload_n 0, 1) := by decide +kernel
theorem dX12_placesCopy_5 : decode cX12_placesCopy 5 = .ok (.getfield 15, 3) := by decide +kernel
theorem dX12_placesCopy_8 : decode cX12_placesCopy 8 = .ok (.iload_n 1, 1) := by decide +kernel
theorem dX12_placesCopy_9 : decode cX12_placesCopy 9 = .ok (.baload, 1) := by decide +kernel
theorem dX12_placesCopy_10 : decode cX12_placesCopy 10 = .ok (.bipush 11, 2) := by decide +kernel
theorem dX12_placesCopy_12 : decode cX12_placesCopy 12 = .ok (.if_icmp .ge 9, 3) := by decide +kernel
theorem dX12_placesCopy_15 : decode cX12_placesCopy 15 = .ok (.aload_n 0, 1) := by decide +kernel
theorem dX12_placesCopy_16 : decode cX12_placesCopy 16 = .ok (.iload_n 1, 1) := by decide +kernel
theorem dX12_placesCopy_17 : decode cX12_placesCopy 17 = .ok (.invokevirtual 409, 3) := by decide +kernel
theorem dX12_placesCopy_20 : decode cX12_placesCopy 20 = .ok (.ireturn, 1) := by decide +kernel
theorem dX12_placesCopy_21 : decode cX12_placesCopy 21 = .ok (.aload_n 0, 1) := by decide +kernel
theorem dX12_placesCopy_22 : decode cX12_placesCopy 22 = .ok (.aload_n 0, 1) := by decide +kernel
theorem dX12_placesCopy_23 : decode cX12_placesCopy 23 = .ok (.getfield 15, 3) := by decide +kernel
theorem dX12_placesCopy_26 : decode cX12_placesCopy 26 = .ok (.iload_n 1, 1) := by decide +kernel
theorem dX12_placesCopy_27 : decode cX12_placesCopy 27 = .ok (.baload, 1) := by decide +kernel
theorem dX12_placesCopy_28 : decode cX12_placesCopy 28 = .ok (.aload_n 0, 1) := by decide +kernel
theorem dX12_placesCopy_29 : decode cX12_placesCopy 29 = .ok (.getfield 19, 3) := by decide +kernel
theorem dX12_placesCopy_32 : decode cX12_placesCopy 32 = .ok (.iload_n 1, 1) := by decide +kernel
theorem dX12_placesCopy_33 : decode cX12_placesCopy 33 = .ok (.baload, 1) := by decide +kernel
theorem dX12_placesCopy_34 : decode cX12_placesCopy 34 = .ok (.invokevirtual 356, 3) := by decide +kernel
theorem dX12_placesCopy_37 : decode cX12_placesCopy 37 = .ok (.istore_n 3, 1) := by decide +kernel
theorem dX12_placesCopy_38 : decode cX12_placesCopy 38 = .ok (.iconst 0, 1) := by decide +kernel
theorem dX12_placesCopy_39 : decode cX12_placesCopy 39 = .ok (.istore 4, 2) := by decide +kernel
theorem dX12_placesCopy_41 : decode cX12_placesCopy 41 = .ok (.iload 4, 2) := by decide +kernel
theorem dX12_placesCopy_43 : decode cX12_placesCopy 43 = .ok (.aload_n 0, 1) := by decide +kernel
theorem dX12_placesCopy_44 : decode cX12_placesCopy 44 = .ok (.getfield 19, 3) := by decide +kernel
theorem dX12_placesCopy_47 : decode cX12_placesCopy 47 = .ok (.iload_n 1, 1) := by decide +kernel
theorem dX12_placesCopy_48 : decode cX12_placesCopy 48 = .ok (.baload, 1) := by decide +kernel
theorem dX12_placesCopy_49 : decode cX12_placesCopy 49 = .ok (.if_icmp .ge 83, 3) := by decide +kernel
theorem dX12_placesCopy_52 : decode cX12_placesCopy 52 = .ok (.aload_n 0, 1) := by decide +kernel
theorem dX12_placesCopy_53 : decode cX12_placesCopy 53 = .ok (.getfield 31, 3) := by decide +kernel
theorem dX12_placesCopy_56 : decode cX12_placesCopy 56 = .ok (.aload_n 0, 1) := by decide +kernel
theorem dX12_placesCopy_57 : decode cX12_placesCopy 57 = .ok (.getfield 22, 3) := by decide +kernel
theorem dX12_placesCopy_60 : decode cX12_placesCopy 60 = .ok (.iload_n 1, 1) := by decide +kernel
theorem dX12_placesCopy_61 : decode cX12_placesCopy 61 = .ok (.iaload, 1) := by decide +kernel
theorem dX12_placesCopy_62 : decode cX12_placesCopy 62 = .ok (.iload 4, 2) := by decide +kernel
theorem dX12_placesCopy_64 : decode cX12_placesCopy 64 = .ok (.iadd, 1) := by decide +kernel
theorem dX12_placesCopy_65 : decode cX12_placesCopy 65 = .ok (.saload, 1) := by decide +kernel
theorem dX12_placesCopy_66 : decode cX12_placesCopy 66 = .ok (.istore 5, 2) := by decide +kernel
theorem dX12_placesCopy_68 : decode cX12_placesCopy 68 = .ok (.iload_n 2, 1) := by decide +kernel
theorem dX12_placesCopy_69 : decode cX12_placesCopy 69 = .ok (.ifCond .eq 23, 3) := by decide +kernel
theorem dX12_placesCopy_72 : decode cX12_placesCopy 72 = .ok (.aload_n 0, 1) := by decide +kernel
theorem dX12_placesCopy_73 : decode cX12_placesCopy 73 = .ok (.getfield 15, 3) := by decide +kernel
theorem dX12_placesCopy_76 : decode cX12_placesCopy 76 = .ok (.iload_n 1, 1) := by decide +kernel
theorem dX12_placesCopy_77 : decode cX12_placesCopy 77 = .ok (.baload, 1) := by decide +kernel
theorem dX12_placesCopy_78 : decode cX12_placesCopy 78 = .ok (.bipush 11, 2) := by decide +kernel
theorem dX12_placesCopy_80 : decode cX12_placesCopy 80 = .ok (.if_icmp .ne 12, 3) := by decide +kernel
theorem dX12_placesCopy_83 : decode cX12_placesCopy 83 = .ok (.iload 5, 2) := by decide +kernel
theorem dX12_placesCopy_85 : decode cX12_placesCopy 85 = .ok (.ifCond .eq 7, 3) := by decide +kernel
theorem dX12_placesCopy_88 : decode cX12_placesCopy 88 = .ok (.iconst 1, 1) := by decide +kernel
theorem dX12_placesCopy_89 : decode cX12_placesCopy 89 = .ok (.goto 4, 3) := by decide +kernel
theorem dX12_placesCopy_92 : decode cX12_placesCopy 92 = .ok (.iconst 0, 1) := by decide +kernel
theorem dX12_placesCopy_93 : decode cX12_placesCopy 93 = .ok (.istore 6, 2) := by decide +kernel
theorem dX12_placesCopy_95 : decode cX12_placesCopy 95 = .ok (.aload_n 0, 1) := by decide +kernel
theorem dX12_placesCopy_96 : decode cX12_placesCopy 96 = .ok (.getfield 31, 3) := by decide +kernel
theorem dX12_placesCopy_99 : decode cX12_placesCopy 99 = .ok (.aload_n 0, 1) := by decide +kernel
theorem dX12_placesCopy_100 : decode cX12_placesCopy 100 = .ok (.getfield 22, 3) := by decide +kernel
theorem dX12_placesCopy_103 : decode cX12_placesCopy 103 = .ok (.iload_n 3, 1) := by decide +kernel
theorem dX12_placesCopy_104 : decode cX12_placesCopy 104 = .ok (.iaload, 1) := by decide +kernel
theorem dX12_placesCopy_105 : decode cX12_placesCopy 105 = .ok (.iload 4, 2) := by decide +kernel
theorem dX12_placesCopy_107 : decode cX12_placesCopy 107 = .ok (.iadd, 1) := by decide +kernel
theorem dX12_placesCopy_108 : decode cX12_placesCopy 108 = .ok (.iload 6, 2) := by decide +kernel
theorem dX12_placesCopy_110 : decode cX12_placesCopy 110 = .ok (.ifCond .eq 12, 3) := by decide +kernel
theorem dX12_placesCopy_113 : decode cX12_placesCopy 113 = .ok (.aload_n 0, 1) := by decide +kernel
theorem dX12_placesCopy_114 : decode cX12_placesCopy 114 = .ok (.iload 5, 2) := by decide +kernel
theorem dX12_placesCopy_116 : decode cX12_placesCopy 116 = .ok (.invokevirtual 409, 3) := by decide +kernel
theorem dX12_placesCopy_119 : decode cX12_placesCopy 119 = .ok (.goto 5, 3) := by decide +kernel
theorem dX12_placesCopy_122 : decode cX12_placesCopy 122 = .ok (.iload 5, 2) := by decide +kernel
theorem dX12_placesCopy_124 : decode cX12_placesCopy 124 = .ok (.i2s, 1) := by decide +kernel
theorem dX12_placesCopy_125 : decode cX12_placesCopy 125 = .ok (.sastore, 1) := by decide +kernel
theorem dX12_placesCopy_126 : decode cX12_placesCopy 126 = .ok (.iinc 4 1, 3) := by decide +kernel
theorem dX12_placesCopy_129 : decode cX12_placesCopy 129 = .ok (.goto (-88), 3) := by decide +kernel
theorem dX12_placesCopy_132 : decode cX12_placesCopy 132 = .ok (.iload_n 3, 1) := by decide +kernel
theorem dX12_placesCopy_133 : decode cX12_placesCopy 133 = .ok (.ireturn, 1) := by decide +kernel
theorem dX12_cardCopy_0 : decode cX12_cardCopy 0 = .ok (.aload_n 0, 1) := by decide +kernel
theorem dX12_cardCopy_1 : decode cX12_cardCopy 1 = .ok (.invokevirtual 412, 3) := by decide +kernel
theorem dX12_cardCopy_4 : decode cX12_cardCopy 4 = .ok (.istore_n 2, 1) := by decide +kernel
theorem dX12_cardCopy_5 : decode cX12_cardCopy 5 = .ok (.iconst 0, 1) := by decide +kernel
theorem dX12_cardCopy_6 : decode cX12_cardCopy 6 = .ok (.istore_n 3, 1) := by decide +kernel
theorem dX12_cardCopy_7 : decode cX12_cardCopy 7 = .ok (.iload_n 3, 1) := by decide +kernel
theorem dX12_cardCopy_8 : decode cX12_cardCopy 8 = .ok (.bipush 8, 2) := by decide +kernel
theorem dX12_cardCopy_10 : decode cX12_cardCopy 10 = .ok (.if_icmp .ge 35, 3) := by decide +kernel
theorem dX12_cardCopy_13 : decode cX12_cardCopy 13 = .ok (.aload_n 0, 1) := by decide +kernel
theorem dX12_cardCopy_14 : decode cX12_cardCopy 14 = .ok (.getfield 26, 3) := by decide +kernel
theorem dX12_cardCopy_17 : decode cX12_cardCopy 17 = .ok (.aload_n 0, 1) := by decide +kernel
theorem dX12_cardCopy_18 : decode cX12_cardCopy 18 = .ok (.getfield 22, 3) := by decide +kernel
theorem dX12_cardCopy_21 : decode cX12_cardCopy 21 = .ok (.iload_n 2, 1) := by decide +kernel
theorem dX12_cardCopy_22 : decode cX12_cardCopy 22 = .ok (.iaload, 1) := by decide +kernel
theorem dX12_cardCopy_23 : decode cX12_cardCopy 23 = .ok (.iload_n 3, 1) := by decide +kernel
theorem dX12_cardCopy_24 : decode cX12_cardCopy 24 = .ok (.iadd, 1) := by decide +kernel
theorem dX12_cardCopy_25 : decode cX12_cardCopy 25 = .ok (.aload_n 0, 1) := by decide +kernel
theorem dX12_cardCopy_26 : decode cX12_cardCopy 26 = .ok (.getfield 26, 3) := by decide +kernel
theorem dX12_cardCopy_29 : decode cX12_cardCopy 29 = .ok (.aload_n 0, 1) := by decide +kernel
theorem dX12_cardCopy_30 : decode cX12_cardCopy 30 = .ok (.getfield 22, 3) := by decide +kernel
theorem dX12_cardCopy_33 : decode cX12_cardCopy 33 = .ok (.iload_n 1, 1) := by decide +kernel
theorem dX12_cardCopy_34 : decode cX12_cardCopy 34 = .ok (.iaload, 1) := by decide +kernel
theorem dX12_cardCopy_35 : decode cX12_cardCopy 35 = .ok (.iload_n 3, 1) := by decide +kernel
theorem dX12_cardCopy_36 : decode cX12_cardCopy 36 = .ok (.iadd, 1) := by decide +kernel
theorem dX12_cardCopy_37 : decode cX12_cardCopy 37 = .ok (.laload, 1) := by decide +kernel
theorem dX12_cardCopy_38 : decode cX12_cardCopy 38 = .ok (.lastore, 1) := by decide +kernel
theorem dX12_cardCopy_39 : decode cX12_cardCopy 39 = .ok (.iinc 3 1, 3) := by decide +kernel
theorem dX12_cardCopy_42 : decode cX12_cardCopy 42 = .ok (.goto (-35), 3) := by decide +kernel
theorem dX12_cardCopy_45 : decode cX12_cardCopy 45 = .ok (.aload_n 0, 1) := by decide +kernel
theorem dX12_cardCopy_46 : decode cX12_cardCopy 46 = .ok (.getfield 47, 3) := by decide +kernel
theorem dX12_cardCopy_49 : decode cX12_cardCopy 49 = .ok (.iload_n 2, 1) := by decide +kernel
theorem dX12_cardCopy_50 : decode cX12_cardCopy 50 = .ok (.aload_n 0, 1) := by decide +kernel
theorem dX12_cardCopy_51 : decode cX12_cardCopy 51 = .ok (.getfield 47, 3) := by decide +kernel
theorem dX12_cardCopy_54 : decode cX12_cardCopy 54 = .ok (.iload_n 1, 1) := by decide +kernel
theorem dX12_cardCopy_55 : decode cX12_cardCopy 55 = .ok (.saload, 1) := by decide +kernel
theorem dX12_cardCopy_56 : decode cX12_cardCopy 56 = .ok (.sastore, 1) := by decide +kernel
theorem dX12_cardCopy_57 : decode cX12_cardCopy 57 = .ok (.aload_n 0, 1) := by decide +kernel
theorem dX12_cardCopy_58 : decode cX12_cardCopy 58 = .ok (.getfield 50, 3) := by decide +kernel
theorem dX12_cardCopy_61 : decode cX12_cardCopy 61 = .ok (.iload_n 2, 1) := by decide +kernel
theorem dX12_cardCopy_62 : decode cX12_cardCopy 62 = .ok (.aload_n 0, 1) := by decide +kernel
theorem dX12_cardCopy_63 : decode cX12_cardCopy 63 = .ok (.getfield 50, 3) := by decide +kernel
theorem dX12_cardCopy_66 : decode cX12_cardCopy 66 = .ok (.iload_n 1, 1) := by decide +kernel
theorem dX12_cardCopy_67 : decode cX12_cardCopy 67 = .ok (.saload, 1) := by decide +kernel
theorem dX12_cardCopy_68 : decode cX12_cardCopy 68 = .ok (.sastore, 1) := by decide +kernel
theorem dX12_cardCopy_69 : decode cX12_cardCopy 69 = .ok (.iload_n 2, 1) := by decide +kernel
theorem dX12_cardCopy_70 : decode cX12_cardCopy 70 = .ok (.ireturn, 1) := by decide +kernel
theorem dX12_copy_0 : decode cX12_copy 0 = .ok (.iload_n 1, 1) := by decide +kernel
theorem dX12_copy_1 : decode cX12_copy 1 = .ok (.invokestatic 345, 3) := by decide +kernel
theorem dX12_copy_4 : decode cX12_copy 4 = .ok (.ifCond .eq 10, 3) := by decide +kernel
theorem dX12_copy_7 : decode cX12_copy 7 = .ok (.iload_n 2, 1) := by decide +kernel
theorem dX12_copy_8 : decode cX12_copy 8 = .ok (.invokestatic 345, 3) := by decide +kernel
theorem dX12_copy_11 : decode cX12_copy 11 = .ok (.ifCond .ne 6, 3) := by decide +kernel
theorem dX12_copy_14 : decode cX12_copy 14 = .ok (.bipush (-2), 2) := by decide +kernel
theorem dX12_copy_16 : decode cX12_copy 16 = .ok (.ireturn, 1) := by decide +kernel
theorem dX12_copy_17 : decode cX12_copy 17 = .ok (.aload_n 0, 1) := by decide +kernel
theorem dX12_copy_18 : decode cX12_copy 18 = .ok (.invokevirtual 349, 3) := by decide +kernel
theorem dX12_copy_21 : decode cX12_copy 21 = .ok (.ifCond .eq 6, 3) := by decide +kernel
theorem dX12_copy_24 : decode cX12_copy 24 = .ok (.bipush (-4), 2) := by decide +kernel
theorem dX12_copy_26 : decode cX12_copy 26 = .ok (.ireturn, 1) := by decide +kernel
theorem dX12_copy_27 : decode cX12_copy 27 = .ok (.aload_n 0, 1) := by decide +kernel
theorem dX12_copy_28 : decode cX12_copy 28 = .ok (.getfield 9, 3) := by decide +kernel
theorem dX12_copy_31 : decode cX12_copy 31 = .ok (.iload_n 2, 1) := by decide +kernel
theorem dX12_copy_32 : decode cX12_copy 32 = .ok (.iaload, 1) := by decide +kernel
theorem dX12_copy_33 : decode cX12_copy 33 = .ok (.istore 4, 2) := by decide +kernel
theorem dX12_copy_35 : decode cX12_copy 35 = .ok (.aload_n 0, 1) := by decide +kernel
theorem dX12_copy_36 : decode cX12_copy 36 = .ok (.getfield 9, 3) := by decide +kernel
theorem dX12_copy_39 : decode cX12_copy 39 = .ok (.iload_n 1, 1) := by decide +kernel
theorem dX12_copy_40 : decode cX12_copy 40 = .ok (.iload 4, 2) := by decide +kernel
theorem dX12_copy_42 : decode cX12_copy 42 = .ok (.ifCond .eq 15, 3) := by decide +kernel
theorem dX12_copy_45 : decode cX12_copy 45 = .ok (.aload_n 0, 1) := by decide +kernel
theorem dX12_copy_46 : decode cX12_copy 46 = .ok (.getfield 15, 3) := by decide +kernel
theorem dX12_copy_49 : decode cX12_copy 49 = .ok (.iload 4, 2) := by decide +kernel
theorem dX12_copy_51 : decode cX12_copy 51 = .ok (.baload, 1) := by decide +kernel
theorem dX12_copy_52 : decode cX12_copy 52 = .ok (.bipush 16, 2) := by decide +kernel
theorem dX12_copy_54 : decode cX12_copy 54 = .ok (.if_icmp .ne 8, 3) := by decide +kernel
theorem dX12_copy_57 : decode cX12_copy 57 = .ok (.iload 4, 2) := by decide +kernel
theorem dX12_copy_59 : decode cX12_copy 59 = .ok (.goto 49, 3) := by decide +kernel
theorem dX12_copy_62 : decode cX12_copy 62 = .ok (.aload_n 0, 1) := by decide +kernel
theorem dX12_copy_63 : decode cX12_copy 63 = .ok (.iload 4, 2) := by decide +kernel
theorem dX12_copy_65 : decode cX12_copy 65 = .ok (.invokevirtual 396, 3) := by decide +kernel
theorem dX12_copy_68 : decode cX12_copy 68 = .ok (.ifCond .eq 12, 3) := by decide +kernel
theorem dX12_copy_71 : decode cX12_copy 71 = .ok (.aload_n 0, 1) := by decide +kernel
theorem dX12_copy_72 : decode cX12_copy 72 = .ok (.iload 4, 2) := by decide +kernel
theorem dX12_copy_74 : decode cX12_copy 74 = .ok (.invokevirtual 406, 3) := by decide +kernel
theorem dX12_copy_77 : decode cX12_copy 77 = .ok (.goto 31, 3) := by decide +kernel
theorem dX12_copy_80 : decode cX12_copy 80 = .ok (.aload_n 0, 1) := by decide +kernel
theorem dX12_copy_81 : decode cX12_copy 81 = .ok (.getfield 15, 3) := by decide +kernel
theorem dX12_copy_84 : decode cX12_copy 84 = .ok (.iload 4, 2) := by decide +kernel
theorem dX12_copy_86 : decode cX12_copy 86 = .ok (.baload, 1) := by decide +kernel
theorem dX12_copy_87 : decode cX12_copy 87 = .ok (.bipush 17, 2) := by decide +kernel
theorem dX12_copy_89 : decode cX12_copy 89 = .ok (.if_icmp .ne 12, 3) := by decide +kernel
theorem dX12_copy_92 : decode cX12_copy 92 = .ok (.aload_n 0, 1) := by decide +kernel
theorem dX12_copy_93 : decode cX12_copy 93 = .ok (.iload 4, 2) := by decide +kernel
theorem dX12_copy_95 : decode cX12_copy 95 = .ok (.invokevirtual 416, 3) := by decide +kernel
theorem dX12_copy_98 : decode cX12_copy 98 = .ok (.goto 10, 3) := by decide +kernel
theorem dX12_copy_101 : decode cX12_copy 101 = .ok (.aload_n 0, 1) := by decide +kernel
theorem dX12_copy_102 : decode cX12_copy 102 = .ok (.iload 4, 2) := by decide +kernel
theorem dX12_copy_104 : decode cX12_copy 104 = .ok (.iload_n 3, 1) := by decide +kernel
theorem dX12_copy_105 : decode cX12_copy 105 = .ok (.invokevirtual 419, 3) := by decide +kernel
theorem dX12_copy_108 : decode cX12_copy 108 = .ok (.iastore, 1) := by decide +kernel
theorem dX12_copy_109 : decode cX12_copy 109 = .ok (.iconst 1, 1) := by decide +kernel
theorem dX12_copy_110 : decode cX12_copy 110 = .ok (.ireturn, 1) := by decide +kernel
theorem dX12_areRowsAlike_0 : decode cX12_areRowsAlike 0 = .ok (.aload_n 0, 1) := by decide +kernel
theorem dX12_areRowsAlike_1 : decode cX12_areRowsAlike 1 = .ok (.getfield 15, 3) := by decide +kernel
theorem dX12_areRowsAlike_4 : decode cX12_areRowsAlike 4 = .ok (.iload_n 1, 1) := by decide +kernel
theorem dX12_areRowsAlike_5 : decode cX12_areRowsAlike 5 = .ok (.baload, 1) := by decide +kernel
theorem dX12_areRowsAlike_6 : decode cX12_areRowsAlike 6 = .ok (.aload_n 0, 1) := by decide +kernel
theorem dX12_areRowsAlike_7 : decode cX12_areRowsAlike 7 = .ok (.getfield 15, 3) := by decide +kernel
theorem dX12_areRowsAlike_10 : decode cX12_areRowsAlike 10 = .ok (.iload_n 2, 1) := by decide +kernel
theorem dX12_areRowsAlike_11 : decode cX12_areRowsAlike 11 = .ok (.baload, 1) := by decide +kernel
theorem dX12_areRowsAlike_12 : decode cX12_areRowsAlike 12 = .ok (.if_icmp .ne 22, 3) := by decide +kernel
theorem dX12_areRowsAlike_15 : decode cX12_areRowsAlike 15 = .ok (.aload_n 0, 1) := by decide +kernel
theorem dX12_areRowsAlike_16 : decode cX12_areRowsAlike 16 = .ok (.getfield 19, 3) := by decide +kernel
theorem dX12_areRowsAlike_19 : decode cX12_areRowsAlike 19 = .ok (.iload_n 1, 1) := by decide +kernel
theorem dX12_areRowsAlike_20 : decode cX12_areRowsAlike 20 = .ok (.baload, 1) := by decide +kernel
theorem dX12_areRowsAlike_21 : decode cX12_areRowsAlike 21 = .ok (.aload_n 0, 1) := by decide +kernel
theorem dX12_areRowsAlike_22 : decode cX12_areRowsAlike 22 = .ok (.getfield 19, 3) := by decide +kernel
theorem dX12_areRowsAlike_25 : decode cX12_areRowsAlike 25 = .ok (.iload_n 2, 1) := by decide +kernel
theorem dX12_areRowsAlike_26 : decode cX12_areRowsAlike 26 = .ok (.baload, 1) := by decide +kernel
theorem dX12_areRowsAlike_27 : decode cX12_areRowsAlike 27 = .ok (.if_icmp .ne 7, 3) := by decide +kernel
theorem dX12_areRowsAlike_30 : decode cX12_areRowsAlike 30 = .ok (.iconst 1, 1) := by decide +kernel
theorem dX12_areRowsAlike_31 : decode cX12_areRowsAlike 31 = .ok (.goto 4, 3) := by decide +kernel
theorem dX12_areRowsAlike_34 : decode cX12_areRowsAlike 34 = .ok (.iconst 0, 1) := by decide +kernel
theorem dX12_areRowsAlike_35 : decode cX12_areRowsAlike 35 = .ok (.istore_n 3, 1) := by decide +kernel
theorem dX12_areRowsAlike_36 : decode cX12_areRowsAlike 36 = .ok (.iconst 0, 1) := by decide +kernel
theorem dX12_areRowsAlike_37 : decode cX12_areRowsAlike 37 = .ok (.istore 4, 2) := by decide +kernel
theorem dX12_areRowsAlike_39 : decode cX12_areRowsAlike 39 = .ok (.iload 4, 2) := by decide +kernel
theorem dX12_areRowsAlike_41 : decode cX12_areRowsAlike 41 = .ok (.aload_n 0, 1) := by decide +kernel
theorem dX12_areRowsAlike_42 : decode cX12_areRowsAlike 42 = .ok (.getfield 19, 3) := by decide +kernel
theorem dX12_areRowsAlike_45 : decode cX12_areRowsAlike 45 = .ok (.iload_n 1, 1) := by decide +kernel
theorem dX12_areRowsAlike_46 : decode cX12_areRowsAlike 46 = .ok (.baload, 1) := by decide +kernel
theorem dX12_areRowsAlike_47 : decode cX12_areRowsAlike 47 = .ok (.if_icmp .ge 51, 3) := by decide +kernel
theorem dX12_areRowsAlike_50 : decode cX12_areRowsAlike 50 = .ok (.iload_n 3, 1) := by decide +kernel
theorem dX12_areRowsAlike_51 : decode cX12_areRowsAlike 51 = .ok (.ifCond .eq 47, 3) := by decide +kernel
theorem dX12_areRowsAlike_54 : decode cX12_areRowsAlike 54 = .ok (.aload_n 0, 1) := by decide +kernel
theorem dX12_areRowsAlike_55 : decode cX12_areRowsAlike 55 = .ok (.getfield 26, 3) := by decide +kernel
theorem dX12_areRowsAlike_58 : decode cX12_areRowsAlike 58 = .ok (.aload_n 0, 1) := by decide +kernel
theorem dX12_areRowsAlike_59 : decode cX12_areRowsAlike 59 = .ok (.getfield 22, 3) := by decide +kernel
theorem dX12_areRowsAlike_62 : decode cX12_areRowsAlike 62 = .ok (.iload_n 1, 1) := by decide +kernel
theorem dX12_areRowsAlike_63 : decode cX12_areRowsAlike 63 = .ok (.iaload, 1) := by decide +kernel
theorem dX12_areRowsAlike_64 : decode cX12_areRowsAlike 64 = .ok (.iload 4, 2) := by decide +kernel
theorem dX12_areRowsAlike_66 : decode cX12_areRowsAlike 66 = .ok (.iadd, 1) := by decide +kernel
theorem dX12_areRowsAlike_67 : decode cX12_areRowsAlike 67 = .ok (.laload, 1) := by decide +kernel
theorem dX12_areRowsAlike_68 : decode cX12_areRowsAlike 68 = .ok (.aload_n 0, 1) := by decide +kernel
theorem dX12_areRowsAlike_69 : decode cX12_areRowsAlike 69 = .ok (.getfield 26, 3) := by decide +kernel
theorem dX12_areRowsAlike_72 : decode cX12_areRowsAlike 72 = .ok (.aload_n 0, 1) := by decide +kernel
theorem dX12_areRowsAlike_73 : decode cX12_areRowsAlike 73 = .ok (.getfield 22, 3) := by decide +kernel
theorem dX12_areRowsAlike_76 : decode cX12_areRowsAlike 76 = .ok (.iload_n 2, 1) := by decide +kernel
theorem dX12_areRowsAlike_77 : decode cX12_areRowsAlike 77 = .ok (.iaload, 1) := by decide +kernel
theorem dX12_areRowsAlike_78 : decode cX12_areRowsAlike 78 = .ok (.iload 4, 2) := by decide +kernel
theorem dX12_areRowsAlike_80 : decode cX12_areRowsAlike 80 = .ok (.iadd, 1) := by decide +kernel
theorem dX12_areRowsAlike_81 : decode cX12_areRowsAlike 81 = .ok (.laload, 1) := by decide +kernel
theorem dX12_areRowsAlike_82 : decode cX12_areRowsAlike 82 = .ok (.lcmp, 1) := by decide +kernel
theorem dX12_areRowsAlike_83 : decode cX12_areRowsAlike 83 = .ok (.ifCond .ne 7, 3) := by decide +kernel
theorem dX12_areRowsAlike_86 : decode cX12_areRowsAlike 86 = .ok (.iconst 1, 1) := by decide +kernel
theorem dX12_areRowsAlike_87 : decode cX12_areRowsAlike 87 = .ok (.goto 4, 3) := by decide +kernel
theorem dX12_areRowsAlike_90 : decode cX12_areRowsAlike 90 = .ok (.iconst 0, 1) := by decide +kernel
theorem dX12_areRowsAlike_91 : decode cX12_areRowsAlike 91 = .ok (.istore_n 3, 1) := by decide +kernel
theorem dX12_areRowsAlike_92 : decode cX12_areRowsAlike 92 = .ok (.iinc 4 1, 3) := by decide +kernel
theorem dX12_areRowsAlike_95 : decode cX12_areRowsAlike 95 = .ok (.goto (-56), 3) := by decide +kernel
theorem dX12_areRowsAlike_98 : decode cX12_areRowsAlike 98 = .ok (.iload_n 3, 1) := by decide +kernel
theorem dX12_areRowsAlike_99 : decode cX12_areRowsAlike 99 = .ok (.ireturn, 1) := by decide +kernel
theorem dX12_areGridsAlike_0 : decode cX12_areGridsAlike 0 = .ok (.aload_n 0, 1) := by decide +kernel
theorem dX12_areGridsAlike_1 : decode cX12_areGridsAlike 1 = .ok (.getfield 15, 3) := by decide +kernel
theorem dX12_areGridsAlike_4 : decode cX12_areGridsAlike 4 = .ok (.iload_n 1, 1) := by decide +kernel
theorem dX12_areGridsAlike_5 : decode cX12_areGridsAlike 5 = .ok (.baload, 1) := by decide +kernel
theorem dX12_areGridsAlike_6 : decode cX12_areGridsAlike 6 = .ok (.aload_n 0, 1) := by decide +kernel
theorem dX12_areGridsAlike_7 : decode cX12_areGridsAlike 7 = .ok (.getfield 15, 3) := by decide +kernel
theorem dX12_areGridsAlike_10 : decode cX12_areGridsAlike 10 = .ok (.iload_n 2, 1) := by decide +kernel
theorem dX12_areGridsAlike_11 : decode cX12_areGridsAlike 11 = .ok (.baload, 1) := by decide +kernel
theorem dX12_areGridsAlike_12 : decode cX12_areGridsAlike 12 = .ok (.if_icmp .ne 22, 3) := by decide +kernel
theorem dX12_areGridsAlike_15 : decode cX12_areGridsAlike 15 = .ok (.aload_n 0, 1) := by decide +kernel
theorem dX12_areGridsAlike_16 : decode cX12_areGridsAlike 16 = .ok (.getfield 19, 3) := by decide +kernel
theorem dX12_areGridsAlike_19 : decode cX12_areGridsAlike 19 = .ok (.iload_n 1, 1) := by decide +kernel
theorem dX12_areGridsAlike_20 : decode cX12_areGridsAlike 20 = .ok (.baload, 1) := by decide +kernel
theorem dX12_areGridsAlike_21 : decode cX12_areGridsAlike 21 = .ok (.aload_n 0, 1) := by decide +kernel
theorem dX12_areGridsAlike_22 : decode cX12_areGridsAlike 22 = .ok (.getfield 19, 3) := by decide +kernel
theorem dX12_areGridsAlike_25 : decode cX12_areGridsAlike 25 = .ok (.iload_n 2, 1) := by decide +kernel
theorem dX12_areGridsAlike_26 : decode cX12_areGridsAlike 26 = .ok (.baload, 1) := by decide +kernel
theorem dX12_areGridsAlike_27 : decode cX12_areGridsAlike 27 = .ok (.if_icmp .ne 7, 3) := by decide +kernel
theorem dX12_areGridsAlike_30 : decode cX12_areGridsAlike 30 = .ok (.iconst 1, 1) := by decide +kernel
theorem dX12_areGridsAlike_31 : decode cX12_areGridsAlike 31 = .ok (.goto 4, 3) := by decide +kernel
theorem dX12_areGridsAlike_34 : decode cX12_areGridsAlike 34 = .ok (.iconst 0, 1) := by decide +kernel
theorem dX12_areGridsAlike_35 : decode cX12_areGridsAlike 35 = .ok (.istore_n 3, 1) := by decide +kernel
theorem dX12_areGridsAlike_36 : decode cX12_areGridsAlike 36 = .ok (.iconst 0, 1) := by decide +kernel
theorem dX12_areGridsAlike_37 : decode cX12_areGridsAlike 37 = .ok (.istore 4, 2) := by decide +kernel
theorem dX12_areGridsAlike_39 : decode cX12_areGridsAlike 39 = .ok (.iload 4, 2) := by decide +kernel
theorem dX12_areGridsAlike_41 : decode cX12_areGridsAlike 41 = .ok (.aload_n 0, 1) := by decide +kernel
theorem dX12_areGridsAlike_42 : decode cX12_areGridsAlike 42 = .ok (.getfield 19, 3) := by decide +kernel
theorem dX12_areGridsAlike_45 : decode cX12_areGridsAlike 45 = .ok (.iload_n 1, 1) := by decide +kernel
theorem dX12_areGridsAlike_46 : decode cX12_areGridsAlike 46 = .ok (.baload, 1) := by decide +kernel
theorem dX12_areGridsAlike_47 : decode cX12_areGridsAlike 47 = .ok (.if_icmp .ge 79, 3) := by decide +kernel
theorem dX12_areGridsAlike_50 : decode cX12_areGridsAlike 50 = .ok (.iload_n 3, 1) := by decide +kernel
theorem dX12_areGridsAlike_51 : decode cX12_areGridsAlike 51 = .ok (.ifCond .eq 75, 3) := by decide +kernel
theorem dX12_areGridsAlike_54 : decode cX12_areGridsAlike 54 = .ok (.aload_n 0, 1) := by decide +kernel
theorem dX12_areGridsAlike_55 : decode cX12_areGridsAlike 55 = .ok (.getfield 31, 3) := by decide +kernel
theorem dX12_areGridsAlike_58 : decode cX12_areGridsAlike 58 = .ok (.aload_n 0, 1) := by decide +kernel
theorem dX12_areGridsAlike_59 : decode cX12_areGridsAlike 59 = .ok (.getfield 22, 3) := by decide +kernel
theorem dX12_areGridsAlike_62 : decode cX12_areGridsAlike 62 = .ok (.iload_n 1, 1) := by decide +kernel
theorem dX12_areGridsAlike_63 : decode cX12_areGridsAlike 63 = .ok (.iaload, 1) := by decide +kernel
theorem dX12_areGridsAlike_64 : decode cX12_areGridsAlike 64 = .ok (.iload 4, 2) := by decide +kernel
theorem dX12_areGridsAlike_66 : decode cX12_areGridsAlike 66 = .ok (.iadd, 1) := by decide +kernel
theorem dX12_areGridsAlike_67 : decode cX12_areGridsAlike 67 = .ok (.saload, 1) := by decide +kernel
theorem dX12_areGridsAlike_68 : decode cX12_areGridsAlike 68 = .ok (.istore 5, 2) := by decide +kernel
theorem dX12_areGridsAlike_70 : decode cX12_areGridsAlike 70 = .ok (.aload_n 0, 1) := by decide +kernel
theorem dX12_areGridsAlike_71 : decode cX12_areGridsAlike 71 = .ok (.getfield 31, 3) := by decide +kernel
theorem dX12_areGridsAlike_74 : decode cX12_areGridsAlike 74 = .ok (.aload_n 0, 1) := by decide +kernel
theorem dX12_areGridsAlike_75 : decode cX12_areGridsAlike 75 = .ok (.getfield 22, 3) := by decide +kernel
theorem dX12_areGridsAlike_78 : decode cX12_areGridsAlike 78 = .ok (.iload_n 2, 1) := by decide +kernel
theorem dX12_areGridsAlike_79 : decode cX12_areGridsAlike 79 = .ok (.iaload, 1) := by decide +kernel
theorem dX12_areGridsAlike_80 : decode cX12_areGridsAlike 80 = .ok (.iload 4, 2) := by decide +kernel
theorem dX12_areGridsAlike_82 : decode cX12_areGridsAlike 82 = .ok (.iadd, 1) := by decide +kernel
theorem dX12_areGridsAlike_83 : decode cX12_areGridsAlike 83 = .ok (.saload, 1) := by decide +kernel
theorem dX12_areGridsAlike_84 : decode cX12_areGridsAlike 84 = .ok (.istore 6, 2) := by decide +kernel
theorem dX12_areGridsAlike_86 : decode cX12_areGridsAlike 86 = .ok (.iload 5, 2) := by decide +kernel
theorem dX12_areGridsAlike_88 : decode cX12_areGridsAlike 88 = .ok (.iload 6, 2) := by decide +kernel
theorem dX12_areGridsAlike_90 : decode cX12_areGridsAlike 90 = .ok (.if_icmp .eq 24, 3) := by decide +kernel
theorem dX12_areGridsAlike_93 : decode cX12_areGridsAlike 93 = .ok (.iload 5, 2) := by decide +kernel
theorem dX12_areGridsAlike_95 : decode cX12_areGridsAlike 95 = .ok (.ifCond .eq 23, 3) := by decide +kernel
theorem dX12_areGridsAlike_98 : decode cX12_areGridsAlike 98 = .ok (.iload 6, 2) := by decide +kernel
theorem dX12_areGridsAlike_100 : decode cX12_areGridsAlike 100 = .ok (.ifCond .eq 18, 3) := by decide +kernel
theorem dX12_areGridsAlike_103 : decode cX12_areGridsAlike 103 = .ok (.aload_n 0, 1) := by decide +kernel
theorem dX12_areGridsAlike_104 : decode cX12_areGridsAlike 104 = .ok (.iload 5, 2) := by decide +kernel
theorem dX12_areGridsAlike_106 : decode cX12_areGridsAlike 106 = .ok (.iload 6, 2) := by decide +kernel
theorem dX12_areGridsAlike_108 : decode cX12_areGridsAlike 108 = .ok (.invokevirtual 423, 3) := by decide +kernel
theorem dX12_areGridsAlike_111 : decode cX12_areGridsAlike 111 = .ok (.ifCond .eq 7, 3) := by decide +kernel
theorem dX12_areGridsAlike_114 : decode cX12_areGridsAlike 114 = .ok (.iconst 1, 1) := by decide +kernel
theorem dX12_areGridsAlike_115 : decode cX12_areGridsAlike 115 = .ok (.goto 4, 3) := by decide +kernel
theorem dX12_areGridsAlike_118 : decode cX12_areGridsAlike 118 = .ok (.iconst 0, 1) := by decide +kernel
theorem dX12_areGridsAlike_119 : decode cX12_areGridsAlike 119 = .ok (.istore_n 3, 1) := by decide +kernel
theorem dX12_areGridsAlike_120 : decode cX12_areGridsAlike 120 = .ok (.iinc 4 1, 3) := by decide +kernel
theorem dX12_areGridsAlike_123 : decode cX12_areGridsAlike 123 = .ok (.goto (-84), 3) := by decide +kernel
theorem dX12_areGridsAlike_126 : decode cX12_areGridsAlike 126 = .ok (.iload_n 3, 1) := by decide +kernel
theorem dX12_areGridsAlike_127 : decode cX12_areGridsAlike 127 = .ok (.ireturn, 1) := by decide +kernel
theorem dX12_arePlacesAlike_0 : decode cX12_arePlacesAlike 0 = .ok (.aload_n 0, 1) := by decide +kernel
theorem dX12_arePlacesAlike_1 : decode cX12_arePlacesAlike 1 = .ok (.getfield 15, 3) := by decide +kernel
theorem dX12_arePlacesAlike_4 : decode cX12_arePlacesAlike 4 = .ok (.iload_n 1, 1) := by decide +kernel
theorem dX12_arePlacesAlike_5 : decode cX12_arePlacesAlike 5 = .ok (.baload, 1) := by decide +kernel
theorem dX12_arePlacesAlike_6 : decode cX12_arePlacesAlike 6 = .ok (.bipush 11, 2) := by decide +kernel
theorem dX12_arePlacesAlike_8 : decode cX12_arePlacesAlike 8 = .ok (.if_icmp .ge 10, 3) := by decide +kernel
theorem dX12_arePlacesAlike_11 : decode cX12_arePlacesAlike 11 = .ok (.aload_n 0, 1) := by decide +kernel
theorem dX12_arePlacesAlike_12 : decode cX12_arePlacesAlike 12 = .ok (.iload_n 1, 1) := by decide +kernel
theorem dX12_arePlacesAlike_13 : decode cX12_arePlacesAlike 13 = .ok (.iload_n 2, 1) := by decide +kernel
theorem dX12_arePlacesAlike_14 : decode cX12_arePlacesAlike 14 = .ok (.invokevirtual 426, 3) := by decide +kernel
theorem dX12_arePlacesAlike_17 : decode cX12_arePlacesAlike 17 = .ok (.ireturn, 1) := by decide +kernel
theorem dX12_arePlacesAlike_18 : decode cX12_arePlacesAlike 18 = .ok (.aload_n 0, 1) := by decide +kernel
theorem dX12_arePlacesAlike_19 : decode cX12_arePlacesAlike 19 = .ok (.getfield 15, 3) := by decide +kernel
theorem dX12_arePlacesAlike_22 : decode cX12_arePlacesAlike 22 = .ok (.iload_n 1, 1) := by decide +kernel
theorem dX12_arePlacesAlike_23 : decode cX12_arePlacesAlike 23 = .ok (.baload, 1) := by decide +kernel
theorem dX12_arePlacesAlike_24 : decode cX12_arePlacesAlike 24 = .ok (.aload_n 0, 1) := by decide +kernel
theorem dX12_arePlacesAlike_25 : decode cX12_arePlacesAlike 25 = .ok (.getfield 15, 3) := by decide +kernel
theorem dX12_arePlacesAlike_28 : decode cX12_arePlacesAlike 28 = .ok (.iload_n 2, 1) := by decide +kernel
theorem dX12_arePlacesAlike_29 : decode cX12_arePlacesAlike 29 = .ok (.baload, 1) := by decide +kernel
theorem dX12_arePlacesAlike_30 : decode cX12_arePlacesAlike 30 = .ok (.if_icmp .ne 22, 3) := by decide +kernel
theorem dX12_arePlacesAlike_33 : decode cX12_arePlacesAlike 33 = .ok (.aload_n 0, 1) := by decide +kernel
theorem dX12_arePlacesAlike_34 : decode cX12_arePlacesAlike 34 = .ok (.getfield 19, 3) := by decide +kernel
theorem dX12_arePlacesAlike_37 : decode cX12_arePlacesAlike 37 = .ok (.iload_n 1, 1) := by decide +kernel
theorem dX12_arePlacesAlike_38 : decode cX12_arePlacesAlike 38 = .ok (.baload, 1) := by decide +kernel
theorem dX12_arePlacesAlike_39 : decode cX12_arePlacesAlike 39 = .ok (.aload_n 0, 1) := by decide +kernel
theorem dX12_arePlacesAlike_40 : decode cX12_arePlacesAlike 40 = .ok (.getfield 19, 3) := by decide +kernel
theorem dX12_arePlacesAlike_43 : decode cX12_arePlacesAlike 43 = .ok (.iload_n 2, 1) := by decide +kernel
theorem dX12_arePlacesAlike_44 : decode cX12_arePlacesAlike 44 = .ok (.baload, 1) := by decide +kernel
theorem dX12_arePlacesAlike_45 : decode cX12_arePlacesAlike 45 = .ok (.if_icmp .ne 7, 3) := by decide +kernel
theorem dX12_arePlacesAlike_48 : decode cX12_arePlacesAlike 48 = .ok (.iconst 1, 1) := by decide +kernel
theorem dX12_arePlacesAlike_49 : decode cX12_arePlacesAlike 49 = .ok (.goto 4, 3) := by decide +kernel
theorem dX12_arePlacesAlike_52 : decode cX12_arePlacesAlike 52 = .ok (.iconst 0, 1) := by decide +kernel
theorem dX12_arePlacesAlike_53 : decode cX12_arePlacesAlike 53 = .ok (.istore_n 3, 1) := by decide +kernel
theorem dX12_arePlacesAlike_54 : decode cX12_arePlacesAlike 54 = .ok (.iconst 0, 1) := by decide +kernel
theorem dX12_arePlacesAlike_55 : decode cX12_arePlacesAlike 55 = .ok (.istore 4, 2) := by decide +kernel
theorem dX12_arePlacesAlike_57 : decode cX12_arePlacesAlike 57 = .ok (.iload 4, 2) := by decide +kernel
theorem dX12_arePlacesAlike_59 : decode cX12_arePlacesAlike 59 = .ok (.aload_n 0, 1) := by decide +kernel
theorem dX12_arePlacesAlike_60 : decode cX12_arePlacesAlike 60 = .ok (.getfield 19, 3) := by decide +kernel
theorem dX12_arePlacesAlike_63 : decode cX12_arePlacesAlike 63 = .ok (.iload_n 1, 1) := by decide +kernel
theorem dX12_arePlacesAlike_64 : decode cX12_arePlacesAlike 64 = .ok (.baload, 1) := by decide +kernel
theorem dX12_arePlacesAlike_65 : decode cX12_arePlacesAlike 65 = .ok (.if_icmp .ge 90, 3) := by decide +kernel
theorem dX12_arePlacesAlike_68 : decode cX12_arePlacesAlike 68 = .ok (.iload_n 3, 1) := by decide +kernel
theorem dX12_arePlacesAlike_69 : decode cX12_arePlacesAlike 69 = .ok (.ifCond .eq 86, 3) := by decide +kernel
theorem dX12_arePlacesAlike_72 : decode cX12_arePlacesAlike 72 = .ok (.aload_n 0, 1) := by decide +kernel
theorem dX12_arePlacesAlike_73 : decode cX12_arePlacesAlike 73 = .ok (.getfield 31, 3) := by decide +kernel
theorem dX12_arePlacesAlike_76 : decode cX12_arePlacesAlike 76 = .ok (.aload_n 0, 1) := by decide +kernel
theorem dX12_arePlacesAlike_77 : decode cX12_arePlacesAlike 77 = .ok (.getfield 22, 3) := by decide +kernel
theorem dX12_arePlacesAlike_80 : decode cX12_arePlacesAlike 80 = .ok (.iload_n 1, 1) := by decide +kernel
theorem dX12_arePlacesAlike_81 : decode cX12_arePlacesAlike 81 = .ok (.iaload, 1) := by decide +kernel
theorem dX12_arePlacesAlike_82 : decode cX12_arePlacesAlike 82 = .ok (.iload 4, 2) := by decide +kernel
theorem dX12_arePlacesAlike_84 : decode cX12_arePlacesAlike 84 = .ok (.iadd, 1) := by decide +kernel
theorem dX12_arePlacesAlike_85 : decode cX12_arePlacesAlike 85 = .ok (.saload, 1) := by decide +kernel
theorem dX12_arePlacesAlike_86 : decode cX12_arePlacesAlike 86 = .ok (.istore 5, 2) := by decide +kernel
theorem dX12_arePlacesAlike_88 : decode cX12_arePlacesAlike 88 = .ok (.aload_n 0, 1) := by decide +kernel
theorem dX12_arePlacesAlike_89 : decode cX12_arePlacesAlike 89 = .ok (.getfield 31, 3) := by decide +kernel
theorem dX12_arePlacesAlike_92 : decode cX12_arePlacesAlike 92 = .ok (.aload_n 0, 1) := by decide +kernel
theorem dX12_arePlacesAlike_93 : decode cX12_arePlacesAlike 93 = .ok (.getfield 22, 3) := by decide +kernel
theorem dX12_arePlacesAlike_96 : decode cX12_arePlacesAlike 96 = .ok (.iload_n 2, 1) := by decide +kernel
theorem dX12_arePlacesAlike_97 : decode cX12_arePlacesAlike 97 = .ok (.iaload, 1) := by decide +kernel
theorem dX12_arePlacesAlike_98 : decode cX12_arePlacesAlike 98 = .ok (.iload 4, 2) := by decide +kernel
theorem dX12_arePlacesAlike_100 : decode cX12_arePlacesAlike 100 = .ok (.iadd, 1) := by decide +kernel
theorem dX12_arePlacesAlike_101 : decode cX12_arePlacesAlike 101 = .ok (.saload, 1) := by decide +kernel
theorem dX12_arePlacesAlike_102 : decode cX12_arePlacesAlike 102 = .ok (.istore 6, 2) := by decide +kernel
theorem dX12_arePlacesAlike_104 : decode cX12_arePlacesAlike 104 = .ok (.iload 5, 2) := by decide +kernel
theorem dX12_arePlacesAlike_106 : decode cX12_arePlacesAlike 106 = .ok (.iload 6, 2) := by decide +kernel
theorem dX12_arePlacesAlike_108 : decode cX12_arePlacesAlike 108 = .ok (.if_icmp .eq 35, 3) := by decide +kernel
theorem dX12_arePlacesAlike_111 : decode cX12_arePlacesAlike 111 = .ok (.aload_n 0, 1) := by decide +kernel
theorem dX12_arePlacesAlike_112 : decode cX12_arePlacesAlike 112 = .ok (.getfield 15, 3) := by decide +kernel
theorem dX12_arePlacesAlike_115 : decode cX12_arePlacesAlike 115 = .ok (.iload_n 1, 1) := by decide +kernel
theorem dX12_arePlacesAlike_116 : decode cX12_arePlacesAlike 116 = .ok (.baload, 1) := by decide +kernel
theorem dX12_arePlacesAlike_117 : decode cX12_arePlacesAlike 117 = .ok (.bipush 11, 2) := by decide +kernel
theorem dX12_arePlacesAlike_119 : decode cX12_arePlacesAlike 119 = .ok (.if_icmp .ne 28, 3) := by decide +kernel
theorem dX12_arePlacesAlike_122 : decode cX12_arePlacesAlike 122 = .ok (.iload 5, 2) := by decide +kernel
theorem dX12_arePlacesAlike_124 : decode cX12_arePlacesAlike 124 = .ok (.ifCond .eq 23, 3) := by decide +kernel
theorem dX12_arePlacesAlike_127 : decode cX12_arePlacesAlike 127 = .ok (.iload 6, 2) := by decide +kernel
theorem dX12_arePlacesAlike_129 : decode cX12_arePlacesAlike 129 = .ok (.ifCond .eq 18, 3) := by decide +kernel
theorem dX12_arePlacesAlike_132 : decode cX12_arePlacesAlike 132 = .ok (.aload_n 0, 1) := by decide +kernel
theorem dX12_arePlacesAlike_133 : decode cX12_arePlacesAlike 133 = .ok (.iload 5, 2) := by decide +kernel
theorem dX12_arePlacesAlike_135 : decode cX12_arePlacesAlike 135 = .ok (.iload 6, 2) := by decide +kernel
theorem dX12_arePlacesAlike_137 : decode cX12_arePlacesAlike 137 = .ok (.invokevirtual 426, 3) := by decide +kernel
theorem dX12_arePlacesAlike_140 : decode cX12_arePlacesAlike 140 = .ok (.ifCond .eq 7, 3) := by decide +kernel
theorem dX12_arePlacesAlike_143 : decode cX12_arePlacesAlike 143 = .ok (.iconst 1, 1) := by decide +kernel
theorem dX12_arePlacesAlike_144 : decode cX12_arePlacesAlike 144 = .ok (.goto 4, 3) := by decide +kernel
theorem dX12_arePlacesAlike_147 : decode cX12_arePlacesAlike 147 = .ok (.iconst 0, 1) := by decide +kernel
theorem dX12_arePlacesAlike_148 : decode cX12_arePlacesAlike 148 = .ok (.istore_n 3, 1) := by decide +kernel
theorem dX12_arePlacesAlike_149 : decode cX12_arePlacesAlike 149 = .ok (.iinc 4 1, 3) := by decide +kernel
theorem dX12_arePlacesAlike_152 : decode cX12_arePlacesAlike 152 = .ok (.goto (-95), 3) := by decide +kernel
theorem dX12_arePlacesAlike_155 : decode cX12_arePlacesAlike 155 = .ok (.iload_n 3, 1) := by decide +kernel
theorem dX12_arePlacesAlike_156 : decode cX12_arePlacesAlike 156 = .ok (.ireturn, 1) := by decide +kernel
theorem dX12_areCardsAlike_0 : decode cX12_areCardsAlike 0 = .ok (.aload_n 0, 1) := by decide +kernel
theorem dX12_areCardsAlike_1 : decode cX12_areCardsAlike 1 = .ok (.getfield 47, 3) := by decide +kernel
theorem dX12_areCardsAlike_4 : decode cX12_areCardsAlike 4 = .ok (.iload_n 1, 1) := by decide +kernel
theorem dX12_areCardsAlike_5 : decode cX12_areCardsAlike 5 = .ok (.saload, 1) := by decide +kernel
theorem dX12_areCardsAlike_6 : decode cX12_areCardsAlike 6 = .ok (.aload_n 0, 1) := by decide +kernel
theorem dX12_areCardsAlike_7 : decode cX12_areCardsAlike 7 = .ok (.getfield 47, 3) := by decide +kernel
theorem dX12_areCardsAlike_10 : decode cX12_areCardsAlike 10 = .ok (.iload_n 2, 1) := by decide +kernel
theorem dX12_areCardsAlike_11 : decode cX12_areCardsAlike 11 = .ok (.saload, 1) := by decide +kernel
theorem dX12_areCardsAlike_12 : decode cX12_areCardsAlike 12 = .ok (.if_icmp .ne 22, 3) := by decide +kernel
theorem dX12_areCardsAlike_15 : decode cX12_areCardsAlike 15 = .ok (.aload_n 0, 1) := by decide +kernel
theorem dX12_areCardsAlike_16 : decode cX12_areCardsAlike 16 = .ok (.getfield 50, 3) := by decide +kernel
theorem dX12_areCardsAlike_19 : decode cX12_areCardsAlike 19 = .ok (.iload_n 1, 1) := by decide +kernel
theorem dX12_areCardsAlike_20 : decode cX12_areCardsAlike 20 = .ok (.saload, 1) := by decide +kernel
theorem dX12_areCardsAlike_21 : decode cX12_areCardsAlike 21 = .ok (.aload_n 0, 1) := by decide +kernel
theorem dX12_areCardsAlike_22 : decode cX12_areCardsAlike 22 = .ok (.getfield 50, 3) := by decide +kernel
theorem dX12_areCardsAlike_25 : decode cX12_areCardsAlike 25 = .ok (.iload_n 2, 1) := by decide +kernel
theorem dX12_areCardsAlike_26 : decode cX12_areCardsAlike 26 = .ok (.saload, 1) := by decide +kernel
theorem dX12_areCardsAlike_27 : decode cX12_areCardsAlike 27 = .ok (.if_icmp .ne 7, 3) := by decide +kernel
theorem dX12_areCardsAlike_30 : decode cX12_areCardsAlike 30 = .ok (.iconst 1, 1) := by decide +kernel
theorem dX12_areCardsAlike_31 : decode cX12_areCardsAlike 31 = .ok (.goto 4, 3) := by decide +kernel
theorem dX12_areCardsAlike_34 : decode cX12_areCardsAlike 34 = .ok (.iconst 0, 1) := by decide +kernel
theorem dX12_areCardsAlike_35 : decode cX12_areCardsAlike 35 = .ok (.istore_n 3, 1) := by decide +kernel
theorem dX12_areCardsAlike_36 : decode cX12_areCardsAlike 36 = .ok (.iconst 0, 1) := by decide +kernel
theorem dX12_areCardsAlike_37 : decode cX12_areCardsAlike 37 = .ok (.istore 4, 2) := by decide +kernel
theorem dX12_areCardsAlike_39 : decode cX12_areCardsAlike 39 = .ok (.iload 4, 2) := by decide +kernel
theorem dX12_areCardsAlike_41 : decode cX12_areCardsAlike 41 = .ok (.bipush 8, 2) := by decide +kernel
theorem dX12_areCardsAlike_43 : decode cX12_areCardsAlike 43 = .ok (.if_icmp .ge 51, 3) := by decide +kernel
theorem dX12_areCardsAlike_46 : decode cX12_areCardsAlike 46 = .ok (.iload_n 3, 1) := by decide +kernel
theorem dX12_areCardsAlike_47 : decode cX12_areCardsAlike 47 = .ok (.ifCond .eq 47, 3) := by decide +kernel
theorem dX12_areCardsAlike_50 : decode cX12_areCardsAlike 50 = .ok (.aload_n 0, 1) := by decide +kernel
theorem dX12_areCardsAlike_51 : decode cX12_areCardsAlike 51 = .ok (.getfield 26, 3) := by decide +kernel
theorem dX12_areCardsAlike_54 : decode cX12_areCardsAlike 54 = .ok (.aload_n 0, 1) := by decide +kernel
theorem dX12_areCardsAlike_55 : decode cX12_areCardsAlike 55 = .ok (.getfield 22, 3) := by decide +kernel
theorem dX12_areCardsAlike_58 : decode cX12_areCardsAlike 58 = .ok (.iload_n 1, 1) := by decide +kernel
theorem dX12_areCardsAlike_59 : decode cX12_areCardsAlike 59 = .ok (.iaload, 1) := by decide +kernel
theorem dX12_areCardsAlike_60 : decode cX12_areCardsAlike 60 = .ok (.iload 4, 2) := by decide +kernel
theorem dX12_areCardsAlike_62 : decode cX12_areCardsAlike 62 = .ok (.iadd, 1) := by decide +kernel
theorem dX12_areCardsAlike_63 : decode cX12_areCardsAlike 63 = .ok (.laload, 1) := by decide +kernel
theorem dX12_areCardsAlike_64 : decode cX12_areCardsAlike 64 = .ok (.aload_n 0, 1) := by decide +kernel
theorem dX12_areCardsAlike_65 : decode cX12_areCardsAlike 65 = .ok (.getfield 26, 3) := by decide +kernel
theorem dX12_areCardsAlike_68 : decode cX12_areCardsAlike 68 = .ok (.aload_n 0, 1) := by decide +kernel
theorem dX12_areCardsAlike_69 : decode cX12_areCardsAlike 69 = .ok (.getfield 22, 3) := by decide +kernel
theorem dX12_areCardsAlike_72 : decode cX12_areCardsAlike 72 = .ok (.iload_n 2, 1) := by decide +kernel
theorem dX12_areCardsAlike_73 : decode cX12_areCardsAlike 73 = .ok (.iaload, 1) := by decide +kernel
theorem dX12_areCardsAlike_74 : decode cX12_areCardsAlike 74 = .ok (.iload 4, 2) := by decide +kernel
theorem dX12_areCardsAlike_76 : decode cX12_areCardsAlike 76 = .ok (.iadd, 1) := by decide +kernel
theorem dX12_areCardsAlike_77 : decode cX12_areCardsAlike 77 = .ok (.laload, 1) := by decide +kernel
theorem dX12_areCardsAlike_78 : decode cX12_areCardsAlike 78 = .ok (.lcmp, 1) := by decide +kernel
theorem dX12_areCardsAlike_79 : decode cX12_areCardsAlike 79 = .ok (.ifCond .ne 7, 3) := by decide +kernel
theorem dX12_areCardsAlike_82 : decode cX12_areCardsAlike 82 = .ok (.iconst 1, 1) := by decide +kernel
theorem dX12_areCardsAlike_83 : decode cX12_areCardsAlike 83 = .ok (.goto 4, 3) := by decide +kernel
theorem dX12_areCardsAlike_86 : decode cX12_areCardsAlike 86 = .ok (.iconst 0, 1) := by decide +kernel
theorem dX12_areCardsAlike_87 : decode cX12_areCardsAlike 87 = .ok (.istore_n 3, 1) := by decide +kernel
theorem dX12_areCardsAlike_88 : decode cX12_areCardsAlike 88 = .ok (.iinc 4 1, 3) := by decide +kernel
theorem dX12_areCardsAlike_91 : decode cX12_areCardsAlike 91 = .ok (.goto (-52), 3) := by decide +kernel
theorem dX12_areCardsAlike_94 : decode cX12_areCardsAlike 94 = .ok (.iload_n 3, 1) := by decide +kernel
theorem dX12_areCardsAlike_95 : decode cX12_areCardsAlike 95 = .ok (.ireturn, 1) := by decide +kernel
theorem dX12_alike_0 : decode cX12_alike 0 = .ok (.iload_n 1, 1) := by decide +kernel
theorem dX12_alike_1 : decode cX12_alike 1 = .ok (.invokestatic 345, 3) := by decide +kernel
theorem dX12_alike_4 : decode cX12_alike 4 = .ok (.ifCond .eq 10, 3) := by decide +kernel
theorem dX12_alike_7 : decode cX12_alike 7 = .ok (.iload_n 2, 1) := by decide +kernel
theorem dX12_alike_8 : decode cX12_alike 8 = .ok (.invokestatic 345, 3) := by decide +kernel
theorem dX12_alike_11 : decode cX12_alike 11 = .ok (.ifCond .ne 6, 3) := by decide +kernel
theorem dX12_alike_14 : decode cX12_alike 14 = .ok (.bipush (-2), 2) := by decide +kernel
theorem dX12_alike_16 : decode cX12_alike 16 = .ok (.ireturn, 1) := by decide +kernel
theorem dX12_alike_17 : decode cX12_alike 17 = .ok (.aload_n 0, 1) := by decide +kernel
theorem dX12_alike_18 : decode cX12_alike 18 = .ok (.getfield 9, 3) := by decide +kernel
theorem dX12_alike_21 : decode cX12_alike 21 = .ok (.iload_n 1, 1) := by decide +kernel
theorem dX12_alike_22 : decode cX12_alike 22 = .ok (.iaload, 1) := by decide +kernel
theorem dX12_alike_23 : decode cX12_alike 23 = .ok (.istore_n 3, 1) := by decide +kernel
theorem dX12_alike_24 : decode cX12_alike 24 = .ok (.aload_n 0, 1) := by decide +kernel
theorem dX12_alike_25 : decode cX12_alike 25 = .ok (.getfield 9, 3) := by decide +kernel
theorem dX12_alike_28 : decode cX12_alike 28 = .ok (.iload_n 2, 1) := by decide +kernel
theorem dX12_alike_29 : decode cX12_alike 29 = .ok (.iaload, 1) := by decide +kernel
theorem dX12_alike_30 : decode cX12_alike 30 = .ok (.istore 4, 2) := by decide +kernel
theorem dX12_alike_32 : decode cX12_alike 32 = .ok (.iload_n 3, 1) := by decide +kernel
theorem dX12_alike_33 : decode cX12_alike 33 = .ok (.iload 4, 2) := by decide +kernel
theorem dX12_alike_35 : decode cX12_alike 35 = .ok (.if_icmp .ne 5, 3) := by decide +kernel
theorem dX12_alike_38 : decode cX12_alike 38 = .ok (.iconst 2, 1) := by decide +kernel
theorem dX12_alike_39 : decode cX12_alike 39 = .ok (.ireturn, 1) := by decide +kernel
theorem dX12_alike_40 : decode cX12_alike 40 = .ok (.iload_n 3, 1) := by decide +kernel
theorem dX12_alike_41 : decode cX12_alike 41 = .ok (.ifCond .eq 35, 3) := by decide +kernel
theorem dX12_alike_44 : decode cX12_alike 44 = .ok (.iload 4, 2) := by decide +kernel
theorem dX12_alike_46 : decode cX12_alike 46 = .ok (.ifCond .eq 30, 3) := by decide +kernel
theorem dX12_alike_49 : decode cX12_alike 49 = .ok (.aload_n 0, 1) := by decide +kernel
theorem dX12_alike_50 : decode cX12_alike 50 = .ok (.getfield 15, 3) := by decide +kernel
theorem dX12_alike_53 : decode cX12_alike 53 = .ok (.iload_n 3, 1) := by decide +kernel
theorem dX12_alike_54 : decode cX12_alike 54 = .ok (.baload, 1) := by decide +kernel
theorem dX12_alike_55 : decode cX12_alike 55 = .ok (.aload_n 0, 1) := by decide +kernel
theorem dX12_alike_56 : decode cX12_alike 56 = .ok (.getfield 15, 3) := by decide +kernel
theorem dX12_alike_59 : decode cX12_alike 59 = .ok (.iload 4, 2) := by decide +kernel
theorem dX12_alike_61 : decode cX12_alike 61 = .ok (.baload, 1) := by decide +kernel
theorem dX12_alike_62 : decode cX12_alike 62 = .ok (.if_icmp .ne 14, 3) := by decide +kernel
theorem dX12_alike_65 : decode cX12_alike 65 = .ok (.aload_n 0, 1) := by decide +kernel
theorem dX12_alike_66 : decode cX12_alike 66 = .ok (.getfield 15, 3) := by decide +kernel
theorem dX12_alike_69 : decode cX12_alike 69 = .ok (.iload_n 3, 1) := by decide +kernel
theorem dX12_alike_70 : decode cX12_alike 70 = .ok (.baload, 1) := by decide +kernel
theorem dX12_alike_71 : decode cX12_alike 71 = .ok (.bipush 16, 2) := by decide +kernel
theorem dX12_alike_73 : decode cX12_alike 73 = .ok (.if_icmp .ne 5, 3) := by decide +kernel
theorem dX12_alike_76 : decode cX12_alike 76 = .ok (.iconst 0, 1) := by decide +kernel
theorem dX12_alike_77 : decode cX12_alike 77 = .ok (.ireturn, 1) := by decide +kernel
theorem dX12_alike_78 : decode cX12_alike 78 = .ok (.aload_n 0, 1) := by decide +kernel
theorem dX12_alike_79 : decode cX12_alike 79 = .ok (.iload_n 3, 1) := by decide +kernel
theorem dX12_alike_80 : decode cX12_alike 80 = .ok (.invokevirtual 396, 3) := by decide +kernel
theorem dX12_alike_83 : decode cX12_alike 83 = .ok (.ifCond .eq 13, 3) := by decide +kernel
theorem dX12_alike_86 : decode cX12_alike 86 = .ok (.aload_n 0, 1) := by decide +kernel
theorem dX12_alike_87 : decode cX12_alike 87 = .ok (.iload_n 3, 1) := by decide +kernel
theorem dX12_alike_88 : decode cX12_alike 88 = .ok (.iload 4, 2) := by decide +kernel
theorem dX12_alike_90 : decode cX12_alike 90 = .ok (.invokevirtual 423, 3) := by decide +kernel
theorem dX12_alike_93 : decode cX12_alike 93 = .ok (.goto 31, 3) := by decide +kernel
theorem dX12_alike_96 : decode cX12_alike 96 = .ok (.aload_n 0, 1) := by decide +kernel
theorem dX12_alike_97 : decode cX12_alike 97 = .ok (.getfield 15, 3) := by decide +kernel
theorem dX12_alike_100 : decode cX12_alike 100 = .ok (.iload_n 3, 1) := by decide +kernel
theorem dX12_alike_101 : decode cX12_alike 101 = .ok (.baload, 1) := by decide +kernel
theorem dX12_alike_102 : decode cX12_alike 102 = .ok (.bipush 17, 2) := by decide +kernel
theorem dX12_alike_104 : decode cX12_alike 104 = .ok (.if_icmp .ne 13, 3) := by decide +kernel
theorem dX12_alike_107 : decode cX12_alike 107 = .ok (.aload_n 0, 1) := by decide +kernel
theorem dX12_alike_108 : decode cX12_alike 108 = .ok (.iload_n 3, 1) := by decide +kernel
theorem dX12_alike_109 : decode cX12_alike 109 = .ok (.iload 4, 2) := by decide +kernel
theorem dX12_alike_111 : decode cX12_alike 111 = .ok (.invokevirtual 429, 3) := by decide +kernel
theorem dX12_alike_114 : decode cX12_alike 114 = .ok (.goto 10, 3) := by decide +kernel
theorem dX12_alike_117 : decode cX12_alike 117 = .ok (.aload_n 0, 1) := by decide +kernel
theorem dX12_alike_118 : decode cX12_alike 118 = .ok (.iload_n 3, 1) := by decide +kernel
theorem dX12_alike_119 : decode cX12_alike 119 = .ok (.iload 4, 2) := by decide +kernel
theorem dX12_alike_121 : decode cX12_alike 121 = .ok (.invokevirtual 432, 3) := by decide +kernel
theorem dX12_alike_124 : decode cX12_alike 124 = .ok (.istore 5, 2) := by decide +kernel
theorem dX12_alike_126 : decode cX12_alike 126 = .ok (.iload 5, 2) := by decide +kernel
theorem dX12_alike_128 : decode cX12_alike 128 = .ok (.ifCond .eq 7, 3) := by decide +kernel
theorem dX12_alike_131 : decode cX12_alike 131 = .ok (.iconst 1, 1) := by decide +kernel
theorem dX12_alike_132 : decode cX12_alike 132 = .ok (.goto 4, 3) := by decide +kernel
theorem dX12_alike_135 : decode cX12_alike 135 = .ok (.iconst 0, 1) := by decide +kernel
theorem dX12_alike_136 : decode cX12_alike 136 = .ok (.ireturn, 1) := by decide +kernel
theorem dX12_size_0 : decode cX12_size 0 = .ok (.iload_n 1, 1) := by decide +kernel
theorem dX12_size_1 : decode cX12_size 1 = .ok (.invokestatic 345, 3) := by decide +kernel
theorem dX12_size_4 : decode cX12_size 4 = .ok (.ifCond .eq 12, 3) := by decide +kernel
theorem dX12_size_7 : decode cX12_size 7 = .ok (.iload_n 2, 1) := by decide +kernel
theorem dX12_size_8 : decode cX12_size 8 = .ok (.iconst 0, 1) := by decide +kernel
theorem dX12_size_9 : decode cX12_size 9 = .ok (.iconst 1, 1) := by decide +kernel
theorem dX12_size_10 : decode cX12_size 10 = .ok (.invokestatic 322, 3) := by decide +kernel
theorem dX12_size_13 : decode cX12_size 13 = .ok (.ifCond .ne 6, 3) := by decide +kernel
theorem dX12_size_16 : decode cX12_size 16 = .ok (.bipush (-2), 2) := by decide +kernel
theorem dX12_size_18 : decode cX12_size 18 = .ok (.ireturn, 1) := by decide +kernel
theorem dX12_size_19 : decode cX12_size 19 = .ok (.aload_n 0, 1) := by decide +kernel
theorem dX12_size_20 : decode cX12_size 20 = .ok (.getfield 9, 3) := by decide +kernel
theorem dX12_size_23 : decode cX12_size 23 = .ok (.iload_n 1, 1) := by decide +kernel
theorem dX12_size_24 : decode cX12_size 24 = .ok (.iaload, 1) := by decide +kernel
theorem dX12_size_25 : decode cX12_size 25 = .ok (.istore_n 3, 1) := by decide +kernel
theorem dX12_size_26 : decode cX12_size 26 = .ok (.iload_n 3, 1) := by decide +kernel
theorem dX12_size_27 : decode cX12_size 27 = .ok (.ifCond .eq 14, 3) := by decide +kernel
theorem dX12_size_30 : decode cX12_size 30 = .ok (.aload_n 0, 1) := by decide +kernel
theorem dX12_size_31 : decode cX12_size 31 = .ok (.getfield 15, 3) := by decide +kernel
theorem dX12_size_34 : decode cX12_size 34 = .ok (.iload_n 3, 1) := by decide +kernel
theorem dX12_size_35 : decode cX12_size 35 = .ok (.baload, 1) := by decide +kernel
theorem dX12_size_36 : decode cX12_size 36 = .ok (.bipush 16, 2) := by decide +kernel
theorem dX12_size_38 : decode cX12_size 38 = .ok (.if_icmp .lt 17, 3) := by decide +kernel
theorem dX12_size_41 : decode cX12_size 41 = .ok (.aload_n 0, 1) := by decide +kernel
theorem dX12_size_42 : decode cX12_size 42 = .ok (.iload_n 3, 1) := by decide +kernel
theorem dX12_size_43 : decode cX12_size 43 = .ok (.ifCond .ne 7, 3) := by decide +kernel
theorem dX12_size_46 : decode cX12_size 46 = .ok (.iconst 1, 1) := by decide +kernel
theorem dX12_size_47 : decode cX12_size 47 = .ok (.goto 4, 3) := by decide +kernel
theorem dX12_size_50 : decode cX12_size 50 = .ok (.iconst 4, 1) := by decide +kernel
theorem dX12_size_51 : decode cX12_size 51 = .ok (.invokevirtual 308, 3) := by decide +kernel
theorem dX12_size_54 : decode cX12_size 54 = .ok (.ireturn, 1) := by decide +kernel
theorem dX12_size_55 : decode cX12_size 55 = .ok (.iconst 0, 1) := by decide +kernel
theorem dX12_size_56 : decode cX12_size 56 = .ok (.istore 4, 2) := by decide +kernel
theorem dX12_size_58 : decode cX12_size 58 = .ok (.iconst 0, 1) := by decide +kernel
theorem dX12_size_59 : decode cX12_size 59 = .ok (.istore 5, 2) := by decide +kernel
theorem dX12_size_61 : decode cX12_size 61 = .ok (.iload 5, 2) := by decide +kernel
theorem dX12_size_63 : decode cX12_size 63 = .ok (.aload_n 0, 1) := by decide +kernel
theorem dX12_size_64 : decode cX12_size 64 = .ok (.getfield 19, 3) := by decide +kernel
theorem dX12_size_67 : decode cX12_size 67 = .ok (.iload_n 3, 1) := by decide +kernel
theorem dX12_size_68 : decode cX12_size 68 = .ok (.baload, 1) := by decide +kernel
theorem dX12_size_69 : decode cX12_size 69 = .ok (.if_icmp .ge 44, 3) := by decide +kernel
theorem dX12_size_72 : decode cX12_size 72 = .ok (.aload_n 0, 1) := by decide +kernel
theorem dX12_size_73 : decode cX12_size 73 = .ok (.iload_n 3, 1) := by decide +kernel
theorem dX12_size_74 : decode cX12_size 74 = .ok (.invokevirtual 396, 3) := by decide +kernel
theorem dX12_size_77 : decode cX12_size 77 = .ok (.ifCond .ne 36, 3) := by decide +kernel
theorem dX12_size_80 : decode cX12_size 80 = .ok (.iload 4, 2) := by decide +kernel
theorem dX12_size_82 : decode cX12_size 82 = .ok (.aload_n 0, 1) := by decide +kernel
theorem dX12_size_83 : decode cX12_size 83 = .ok (.getfield 31, 3) := by decide +kernel
theorem dX12_size_86 : decode cX12_size 86 = .ok (.aload_n 0, 1) := by decide +kernel
theorem dX12_size_87 : decode cX12_size 87 = .ok (.getfield 22, 3) := by decide +kernel
theorem dX12_size_90 : decode cX12_size 90 = .ok (.iload_n 3, 1) := by decide +kernel
theorem dX12_size_91 : decode cX12_size 91 = .ok (.iaload, 1) := by decide +kernel
theorem dX12_size_92 : decode cX12_size 92 = .ok (.iload 5, 2) := by decide +kernel
theorem dX12_size_94 : decode cX12_size 94 = .ok (.iadd, 1) := by decide +kernel
theorem dX12_size_95 : decode cX12_size 95 = .ok (.saload, 1) := by decide +kernel
theorem dX12_size_96 : decode cX12_size 96 = .ok (.ifCond .ne 7, 3) := by decide +kernel
theorem dX12_size_99 : decode cX12_size 99 = .ok (.iconst 1, 1) := by decide +kernel
theorem dX12_size_100 : decode cX12_size 100 = .ok (.goto 4, 3) := by decide +kernel
theorem dX12_size_103 : decode cX12_size 103 = .ok (.iconst 0, 1) := by decide +kernel
theorem dX12_size_104 : decode cX12_size 104 = .ok (.iadd, 1) := by decide +kernel
theorem dX12_size_105 : decode cX12_size 105 = .ok (.istore 4, 2) := by decide +kernel
theorem dX12_size_107 : decode cX12_size 107 = .ok (.iinc 5 1, 3) := by decide +kernel
theorem dX12_size_110 : decode cX12_size 110 = .ok (.goto (-49), 3) := by decide +kernel
theorem dX12_size_113 : decode cX12_size 113 = .ok (.iload_n 2, 1) := by decide +kernel
theorem dX12_size_114 : decode cX12_size 114 = .ok (.ifCond .ne 12, 3) := by decide +kernel
theorem dX12_size_117 : decode cX12_size 117 = .ok (.aload_n 0, 1) := by decide +kernel
theorem dX12_size_118 : decode cX12_size 118 = .ok (.getfield 19, 3) := by decide +kernel
theorem dX12_size_121 : decode cX12_size 121 = .ok (.iload_n 3, 1) := by decide +kernel
theorem dX12_size_122 : decode cX12_size 122 = .ok (.baload, 1) := by decide +kernel
theorem dX12_size_123 : decode cX12_size 123 = .ok (.goto 5, 3) := by decide +kernel
theorem dX12_size_126 : decode cX12_size 126 = .ok (.iload 4, 2) := by decide +kernel
theorem dX12_size_128 : decode cX12_size 128 = .ok (.ireturn, 1) := by decide +kernel
theorem dX12_plant_0 : decode cX12_plant 0 = .ok (.iload_n 1, 1) := by decide +kernel
theorem dX12_plant_1 : decode cX12_plant 1 = .ok (.invokestatic 345, 3) := by decide +kernel
theorem dX12_plant_4 : decode cX12_plant 4 = .ok (.ifCond .eq 33, 3) := by decide +kernel
theorem dX12_plant_7 : decode cX12_plant 7 = .ok (.iload_n 2, 1) := by decide +kernel
theorem dX12_plant_8 : decode cX12_plant 8 = .ok (.iconst 0, 1) := by decide +kernel
theorem dX12_plant_9 : decode cX12_plant 9 = .ok (.iconst 5, 1) := by decide +kernel
theorem dX12_plant_10 : decode cX12_plant 10 = .ok (.invokestatic 322, 3) := by decide +kernel
theorem dX12_plant_13 : decode cX12_plant 13 = .ok (.ifCond .eq 24, 3) := by decide +kernel
theorem dX12_plant_16 : decode cX12_plant 16 = .ok (.iload_n 2, 1) := by decide +kernel
theorem dX12_plant_17 : decode cX12_plant 17 = .ok (.iconst 2, 1) := by decide +kernel
theorem dX12_plant_18 : decode cX12_plant 18 = .ok (.if_icmp .ne 22, 3) := by decide +kernel
theorem dX12_plant_21 : decode cX12_plant 21 = .ok (.iload 5, 2) := by decide +kernel
theorem dX12_plant_23 : decode cX12_plant 23 = .ok (.invokestatic 345, 3) := by decide +kernel
theorem dX12_plant_26 : decode cX12_plant 26 = .ok (.ifCond .eq 11, 3) := by decide +kernel
theorem dX12_plant_29 : decode cX12_plant 29 = .ok (.iload 6, 2) := by decide +kernel
theorem dX12_plant_31 : decode cX12_plant 31 = .ok (.invokestatic 345, 3) := by decide +kernel
theorem dX12_plant_34 : decode cX12_plant 34 = .ok (.ifCond .ne 6, 3) := by decide +kernel
theorem dX12_plant_37 : decode cX12_plant 37 = .ok (.bipush (-2), 2) := by decide +kernel
theorem dX12_plant_39 : decode cX12_plant 39 = .ok (.ireturn, 1) := by decide +kernel
theorem dX12_plant_40 : decode cX12_plant 40 = .ok (.aload_n 0, 1) := by decide +kernel
theorem dX12_plant_41 : decode cX12_plant 41 = .ok (.invokevirtual 349, 3) := by decide +kernel
theorem dX12_plant_44 : decode cX12_plant 44 = .ok (.ifCond .eq 6, 3) := by decide +kernel
theorem dX12_plant_47 : decode cX12_plant 47 = .ok (.bipush (-4), 2) := by decide +kernel
theorem dX12_plant_49 : decode cX12_plant 49 = .ok (.ireturn, 1) := by decide +kernel
theorem dX12_plant_50 : decode cX12_plant 50 = .ok (.iconst 0, 1) := by decide +kernel
theorem dX12_plant_51 : decode cX12_plant 51 = .ok (.istore 7, 2) := by decide +kernel
theorem dX12_plant_53 : decode cX12_plant 53 = .ok (.iload_n 2, 1) := by decide +kernel
theorem dX12_plant_54 : decode cX12_plant 54 = .ok (.iconst 2, 1) := by decide +kernel
theorem dX12_plant_55 : decode cX12_plant 55 = .ok (.if_icmp .ne 108, 3) := by decide +kernel
theorem dX12_plant_58 : decode cX12_plant 58 = .ok (.aload_n 0, 1) := by decide +kernel
theorem dX12_plant_59 : decode cX12_plant 59 = .ok (.aload_n 0, 1) := by decide +kernel
theorem dX12_plant_60 : decode cX12_plant 60 = .ok (.getfield 9, 3) := by decide +kernel
theorem dX12_plant_63 : decode cX12_plant 63 = .ok (.iload 5, 2) := by decide +kernel
theorem dX12_plant_65 : decode cX12_plant 65 = .ok (.iaload, 1) := by decide +kernel
theorem dX12_plant_66 : decode cX12_plant 66 = .ok (.bipush 16, 2) := by decide +kernel
theorem dX12_plant_68 : decode cX12_plant 68 = .ok (.invokevirtual 363, 3) := by decide +kernel
theorem dX12_plant_71 : decode cX12_plant 71 = .ok (.ifCond .eq 19, 3) := by decide +kernel
theorem dX12_plant_74 : decode cX12_plant 74 = .ok (.aload_n 0, 1) := by decide +kernel
theorem dX12_plant_75 : decode cX12_plant 75 = .ok (.aload_n 0, 1) := by decide +kernel
theorem dX12_plant_76 : decode cX12_plant 76 = .ok (.getfield 9, 3) := by decide +kernel
theorem dX12_plant_79 : decode cX12_plant 79 = .ok (.iload 6, 2) := by decide +kernel
theorem dX12_plant_81 : decode cX12_plant 81 = .ok (.iaload, 1) := by decide +kernel
theorem dX12_plant_82 : decode cX12_plant 82 = .ok (.bipush 16, 2) := by decide +kernel
theorem dX12_plant_84 : decode cX12_plant 84 = .ok (.invokevirtual 363, 3) := by decide +kernel
theorem dX12_plant_87 : decode cX12_plant 87 = .ok (.ifCond .ne 9, 3) := by decide +kernel
theorem dX12_plant_90 : decode cX12_plant 90 = .ok (.aload_n 0, 1) := by decide +kernel
theorem dX12_plant_91 : decode cX12_plant 91 = .ok (.iconst 4, 1) := by decide +kernel
theorem dX12_plant_92 : decode cX12_plant 92 = .ok (.invokevirtual 308, 3) := by decide +kernel
theorem dX12_plant_95 : decode cX12_plant 95 = .ok (.ireturn, 1) := by decide +kernel
theorem dX12_plant_96 : decode cX12_plant 96 = .ok (.iconst 1, 1) := by decide +kernel
theorem dX12_plant_97 : decode cX12_plant 97 = .ok (.aload_n 0, 1) := by decide +kernel
theorem dX12_plant_98 : decode cX12_plant 98 = .ok (.getfield 53, 3) := by decide +kernel
theorem dX12_plant_101 : decode cX12_plant 101 = .ok (.aload_n 0, 1) := by decide +kernel
theorem dX12_plant_102 : decode cX12_plant 102 = .ok (.getfield 9, 3) := by decide +kernel
theorem dX12_plant_105 : decode cX12_plant 105 = .ok (.iload 5, 2) := by decide +kernel
theorem dX12_plant_107 : decode cX12_plant 107 = .ok (.iaload, 1) := by decide +kernel
theorem dX12_plant_108 : decode cX12_plant 108 = .ok (.baload, 1) := by decide +kernel
theorem dX12_plant_109 : decode cX12_plant 109 = .ok (.aload_n 0, 1) := by decide +kernel
theorem dX12_plant_110 : decode cX12_plant 110 = .ok (.getfield 53, 3) := by decide +kernel
theorem dX12_plant_113 : decode cX12_plant 113 = .ok (.aload_n 0, 1) := by decide +kernel
theorem dX12_plant_114 : decode cX12_plant 114 = .ok (.getfield 9, 3) := by decide +kernel
theorem dX12_plant_117 : decode cX12_plant 117 = .ok (.iload 6, 2) := by decide +kernel
theorem dX12_plant_119 : decode cX12_plant 119 = .ok (.iaload, 1) := by decide +kernel
theorem dX12_plant_120 : decode cX12_plant 120 = .ok (.baload, 1) := by decide +kernel
theorem dX12_plant_121 : decode cX12_plant 121 = .ok (.if_icmp .le 18, 3) := by decide +kernel
theorem dX12_plant_124 : decode cX12_plant 124 = .ok (.aload_n 0, 1) := by decide +kernel
theorem dX12_plant_125 : decode cX12_plant 125 = .ok (.getfield 53, 3) := by decide +kernel
theorem dX12_plant_128 : decode cX12_plant 128 = .ok (.aload_n 0, 1) := by decide +kernel
theorem dX12_plant_129 : decode cX12_plant 129 = .ok (.getfield 9, 3) := by decide +kernel
theorem dX12_plant_132 : decode cX12_plant 132 = .ok (.iload 5, 2) := by decide +kernel
theorem dX12_plant_134 : decode cX12_plant 134 = .ok (.iaload, 1) := by decide +kernel
theorem dX12_plant_135 : decode cX12_plant 135 = .ok (.baload, 1) := by decide +kernel
theorem dX12_plant_136 : decode cX12_plant 136 = .ok (.goto 15, 3) := by decide +kernel
theorem dX12_plant_139 : decode cX12_plant 139 = .ok (.aload_n 0, 1) := by decide +kernel
theorem dX12_plant_140 : decode cX12_plant 140 = .ok (.getfield 53, 3) := by decide +kernel
theorem dX12_plant_143 : decode cX12_plant 143 = .ok (.aload_n 0, 1) := by decide +kernel
theorem dX12_plant_144 : decode cX12_plant 144 = .ok (.getfield 9, 3) := by decide +kernel
theorem dX12_plant_147 : decode cX12_plant 147 = .ok (.iload 6, 2) := by decide +kernel
theorem dX12_plant_149 : decode cX12_plant 149 = .ok (.iaload, 1) := by decide +kernel
theorem dX12_plant_150 : decode cX12_plant 150 = .ok (.baload, 1) := by decide +kernel
theorem dX12_plant_151 : decode cX12_plant 151 = .ok (.iadd, 1) := by decide +kernel
theorem dX12_plant_152 : decode cX12_plant 152 = .ok (.istore 7, 2) := by decide +kernel
theorem dX12_plant_154 : decode cX12_plant 154 = .ok (.iload 7, 2) := by decide +kernel
theorem dX12_plant_156 : decode cX12_plant 156 = .ok (.iconst 4, 1) := by decide +kernel
theorem dX12_plant_157 : decode cX12_plant 157 = .ok (.if_icmp .le 6, 3) := by decide +kernel
theorem dX12_plant_160 : decode cX12_plant 160 = .ok (.bipush (-4), 2) := by decide +kernel
theorem dX12_plant_162 : decode cX12_plant 162 = .ok (.ireturn, 1) := by decide +kernel
theorem dX12_plant_163 : decode cX12_plant 163 = .ok (.aload_n 0, 1) := by decide +kernel
theorem dX12_plant_164 : decode cX12_plant 164 = .ok (.bipush 16, 2) := by decide +kernel
theorem dX12_plant_166 : decode cX12_plant 166 = .ok (.iconst 0, 1) := by decide +kernel
theorem dX12_plant_167 : decode cX12_plant 167 = .ok (.invokevirtual 312, 3) := by decide +kernel
theorem dX12_plant_170 : decode cX12_plant 170 = .ok (.istore 8, 2) := by decide +kernel
theorem dX12_plant_172 : decode cX12_plant 172 = .ok (.aload_n 0, 1) := by decide +kernel
theorem dX12_plant_173 : decode cX12_plant 173 = .ok (.getfield 38, 3) := by decide +kernel
theorem dX12_plant_176 : decode cX12_plant 176 = .ok (.iload 8, 2) := by decide +kernel
theorem dX12_plant_178 : decode cX12_plant 178 = .ok (.iload_n 2, 1) := by decide +kernel
theorem dX12_plant_179 : decode cX12_plant 179 = .ok (.i2b, 1) := by decide +kernel
theorem dX12_plant_180 : decode cX12_plant 180 = .ok (.bastore, 1) := by decide +kernel
theorem dX12_plant_181 : decode cX12_plant 181 = .ok (.aload_n 0, 1) := by decide +kernel
theorem dX12_plant_182 : decode cX12_plant 182 = .ok (.getfield 41, 3) := by decide +kernel
theorem dX12_plant_185 : decode cX12_plant 185 = .ok (.iload 8, 2) := by decide +kernel
theorem dX12_plant_187 : decode cX12_plant 187 = .ok (.iload_n 3, 1) := by decide +kernel
theorem dX12_plant_188 : decode cX12_plant 188 = .ok (.iastore, 1) := by decide +kernel
theorem dX12_plant_189 : decode cX12_plant 189 = .ok (.aload_n 0, 1) := by decide +kernel
theorem dX12_plant_190 : decode cX12_plant 190 = .ok (.getfield 44, 3) := by decide +kernel
theorem dX12_plant_193 : decode cX12_plant 193 = .ok (.iload 8, 2) := by decide +kernel
theorem dX12_plant_195 : decode cX12_plant 195 = .ok (.iload 4, 2) := by decide +kernel
theorem dX12_plant_197 : decode cX12_plant 197 = .ok (.iastore, 1) := by decide +kernel
theorem dX12_plant_198 : decode cX12_plant 198 = .ok (.aload_n 0, 1) := by decide +kernel
theorem dX12_plant_199 : decode cX12_plant 199 = .ok (.getfield 47, 3) := by decide +kernel
theorem dX12_plant_202 : decode cX12_plant 202 = .ok (.iload 8, 2) := by decide +kernel
theorem dX12_plant_204 : decode cX12_plant 204 = .ok (.iload_n 2, 1) := by decide +kernel
theorem dX12_plant_205 : decode cX12_plant 205 = .ok (.iconst 2, 1) := by decide +kernel
theorem dX12_plant_206 : decode cX12_plant 206 = .ok (.if_icmp .ne 13, 3) := by decide +kernel
theorem dX12_plant_209 : decode cX12_plant 209 = .ok (.aload_n 0, 1) := by decide +kernel
theorem dX12_plant_210 : decode cX12_plant 210 = .ok (.getfield 9, 3) := by decide +kernel
theorem dX12_plant_213 : decode cX12_plant 213 = .ok (.iload 5, 2) := by decide +kernel
theorem dX12_plant_215 : decode cX12_plant 215 = .ok (.iaload, 1) := by decide +kernel
theorem dX12_plant_216 : decode cX12_plant 216 = .ok (.goto 4, 3) := by decide +kernel
theorem dX12_plant_219 : decode cX12_plant 219 = .ok (.iconst 0, 1) := by decide +kernel
theorem dX12_plant_220 : decode cX12_plant 220 = .ok (.i2s, 1) := by decide +kernel
theorem dX12_plant_221 : decode cX12_plant 221 = .ok (.sastore, 1) := by decide +kernel
theorem dX12_plant_222 : decode cX12_plant 222 = .ok (.aload_n 0, 1) := by decide +kernel
theorem dX12_plant_223 : decode cX12_plant 223 = .ok (.getfield 50, 3) := by decide +kernel
theorem dX12_plant_226 : decode cX12_plant 226 = .ok (.iload 8, 2) := by decide +kernel
theorem dX12_plant_228 : decode cX12_plant 228 = .ok (.iload_n 2, 1) := by decide +kernel
theorem dX12_plant_229 : decode cX12_plant 229 = .ok (.iconst 2, 1) := by decide +kernel
theorem dX12_plant_230 : decode cX12_plant 230 = .ok (.if_icmp .ne 13, 3) := by decide +kernel
theorem dX12_plant_233 : decode cX12_plant 233 = .ok (.aload_n 0, 1) := by decide +kernel
theorem dX12_plant_234 : decode cX12_plant 234 = .ok (.getfield 9, 3) := by decide +kernel
theorem dX12_plant_237 : decode cX12_plant 237 = .ok (.iload 6, 2) := by decide +kernel
theorem dX12_plant_239 : decode cX12_plant 239 = .ok (.iaload, 1) := by decide +kernel
theorem dX12_plant_240 : decode cX12_plant 240 = .ok (.goto 4, 3) := by decide +kernel
theorem dX12_plant_243 : decode cX12_plant 243 = .ok (.iconst 0, 1) := by decide +kernel
theorem dX12_plant_244 : decode cX12_plant 244 = .ok (.i2s, 1) := by decide +kernel
theorem dX12_plant_245 : decode cX12_plant 245 = .ok (.sastore, 1) := by decide +kernel
theorem dX12_plant_246 : decode cX12_plant 246 = .ok (.aload_n 0, 1) := by decide +kernel
theorem dX12_plant_247 : decode cX12_plant 247 = .ok (.getfield 53, 3) := by decide +kernel
theorem dX12_plant_250 : decode cX12_plant 250 = .ok (.iload 8, 2) := by decide +kernel
theorem dX12_plant_252 : decode cX12_plant 252 = .ok (.iload 7, 2) := by decide +kernel
theorem dX12_plant_254 : decode cX12_plant 254 = .ok (.i2b, 1) := by decide +kernel
theorem dX12_plant_255 : decode cX12_plant 255 = .ok (.bastore, 1) := by decide +kernel
theorem dX12_plant_256 : decode cX12_plant 256 = .ok (.aload_n 0, 1) := by decide +kernel
theorem dX12_plant_257 : decode cX12_plant 257 = .ok (.getfield 35, 3) := by decide +kernel
theorem dX12_plant_260 : decode cX12_plant 260 = .ok (.iload 8, 2) := by decide +kernel
theorem dX12_plant_262 : decode cX12_plant 262 = .ok (.aload_n 0, 1) := by decide +kernel
theorem dX12_plant_263 : decode cX12_plant 263 = .ok (.getfield 435, 3) := by decide +kernel
theorem dX12_plant_266 : decode cX12_plant 266 = .ok (.iastore, 1) := by decide +kernel
theorem dX12_plant_267 : decode cX12_plant 267 = .ok (.aload_n 0, 1) := by decide +kernel
theorem dX12_plant_268 : decode cX12_plant 268 = .ok (.dup, 1) := by decide +kernel
theorem dX12_plant_269 : decode cX12_plant 269 = .ok (.getfield 435, 3) := by decide +kernel
theorem dX12_plant_272 : decode cX12_plant 272 = .ok (.iconst 1, 1) := by decide +kernel
theorem dX12_plant_273 : decode cX12_plant 273 = .ok (.iadd, 1) := by decide +kernel
theorem dX12_plant_274 : decode cX12_plant 274 = .ok (.putfield 435, 3) := by decide +kernel
theorem dX12_plant_277 : decode cX12_plant 277 = .ok (.aload_n 0, 1) := by decide +kernel
theorem dX12_plant_278 : decode cX12_plant 278 = .ok (.getfield 9, 3) := by decide +kernel
theorem dX12_plant_281 : decode cX12_plant 281 = .ok (.iload_n 1, 1) := by decide +kernel
theorem dX12_plant_282 : decode cX12_plant 282 = .ok (.iload 8, 2) := by decide +kernel
theorem dX12_plant_284 : decode cX12_plant 284 = .ok (.iastore, 1) := by decide +kernel
theorem dX12_plant_285 : decode cX12_plant 285 = .ok (.aload_n 0, 1) := by decide +kernel
theorem dX12_plant_286 : decode cX12_plant 286 = .ok (.getfield 35, 3) := by decide +kernel
theorem dX12_plant_289 : decode cX12_plant 289 = .ok (.iload 8, 2) := by decide +kernel
theorem dX12_plant_291 : decode cX12_plant 291 = .ok (.iaload, 1) := by decide +kernel
theorem dX12_plant_292 : decode cX12_plant 292 = .ok (.ireturn, 1) := by decide +kernel
theorem dX12_body_0 : decode cX12_body 0 = .ok (.aload_n 0, 1) := by decide +kernel
theorem dX12_body_1 : decode cX12_body 1 = .ok (.getfield 59, 3) := by decide +kernel
theorem dX12_body_4 : decode cX12_body 4 = .ok (.aload_n 0, 1) := by decide +kernel
theorem dX12_body_5 : decode cX12_body 5 = .ok (.getfield 438, 3) := by decide +kernel
theorem dX12_body_8 : decode cX12_body 8 = .ok (.iload_n 1, 1) := by decide +kernel
theorem dX12_body_9 : decode cX12_body 9 = .ok (.iastore, 1) := by decide +kernel
theorem dX12_body_10 : decode cX12_body 10 = .ok (.aload_n 0, 1) := by decide +kernel
theorem dX12_body_11 : decode cX12_body 11 = .ok (.dup, 1) := by decide +kernel
theorem dX12_body_12 : decode cX12_body 12 = .ok (.getfield 438, 3) := by decide +kernel
theorem dX12_body_15 : decode cX12_body 15 = .ok (.iconst 1, 1) := by decide +kernel
theorem dX12_body_16 : decode cX12_body 16 = .ok (.iadd, 1) := by decide +kernel
theorem dX12_body_17 : decode cX12_body 17 = .ok (.putfield 438, 3) := by decide +kernel
theorem dX12_body_20 : decode cX12_body 20 = .ok (.return_, 1) := by decide +kernel
theorem dX12_plainSize_0 : decode cX12_plainSize 0 = .ok (.aload_n 0, 1) := by decide +kernel
theorem dX12_plainSize_1 : decode cX12_plainSize 1 = .ok (.getfield 38, 3) := by decide +kernel
theorem dX12_plainSize_4 : decode cX12_plainSize 4 = .ok (.iload_n 1, 1) := by decide +kernel
theorem dX12_plainSize_5 : decode cX12_plainSize 5 = .ok (.baload, 1) := by decide +kernel
theorem dX12_plainSize_6 : decode cX12_plainSize 6 = .ok (.iconst 1, 1) := by decide +kernel
theorem dX12_plainSize_7 : decode cX12_plainSize 7 = .ok (.if_icmp .ne 8, 3) := by decide +kernel
theorem dX12_plainSize_10 : decode cX12_plainSize 10 = .ok (.aload_n 0, 1) := by decide +kernel
theorem dX12_plainSize_11 : decode cX12_plainSize 11 = .ok (.iconst 2, 1) := by decide +kernel
theorem dX12_plainSize_12 : decode cX12_plainSize 12 = .ok (.invokevirtual 441, 3) := by decide +kernel
theorem dX12_plainSize_15 : decode cX12_plainSize 15 = .ok (.aload_n 0, 1) := by decide +kernel
theorem dX12_plainSize_16 : decode cX12_plainSize 16 = .ok (.getfield 38, 3) := by decide +kernel
theorem dX12_plainSize_19 : decode cX12_plainSize 19 = .ok (.iload_n 1, 1) := by decide +kernel
theorem dX12_plainSize_20 : decode cX12_plainSize 20 = .ok (.baload, 1) := by decide +kernel
theorem dX12_plainSize_21 : decode cX12_plainSize 21 = .ok (.iconst 3, 1) := by decide +kernel
theorem dX12_plainSize_22 : decode cX12_plainSize 22 = .ok (.if_icmp .ne 8, 3) := by decide +kernel
theorem dX12_plainSize_25 : decode cX12_plainSize 25 = .ok (.aload_n 0, 1) := by decide +kernel
theorem dX12_plainSize_26 : decode cX12_plainSize 26 = .ok (.iconst 4, 1) := by decide +kernel
theorem dX12_plainSize_27 : decode cX12_plainSize 27 = .ok (.invokevirtual 441, 3) := by decide +kernel
theorem dX12_plainSize_30 : decode cX12_plainSize 30 = .ok (.aload_n 0, 1) := by decide +kernel
theorem dX12_plainSize_31 : decode cX12_plainSize 31 = .ok (.iconst 1, 1) := by decide +kernel
theorem dX12_plainSize_32 : decode cX12_plainSize 32 = .ok (.invokevirtual 441, 3) := by decide +kernel
theorem dX12_plainSize_35 : decode cX12_plainSize 35 = .ok (.aload_n 0, 1) := by decide +kernel
theorem dX12_plainSize_36 : decode cX12_plainSize 36 = .ok (.getfield 38, 3) := by decide +kernel
theorem dX12_plainSize_39 : decode cX12_plainSize 39 = .ok (.iload_n 1, 1) := by decide +kernel
theorem dX12_plainSize_40 : decode cX12_plainSize 40 = .ok (.baload, 1) := by decide +kernel
theorem dX12_plainSize_41 : decode cX12_plainSize 41 = .ok (.iconst 3, 1) := by decide +kernel
theorem dX12_plainSize_42 : decode cX12_plainSize 42 = .ok (.if_icmp .ne 20, 3) := by decide +kernel
theorem dX12_plainSize_45 : decode cX12_plainSize 45 = .ok (.aload_n 0, 1) := by decide +kernel
theorem dX12_plainSize_46 : decode cX12_plainSize 46 = .ok (.getfield 44, 3) := by decide +kernel
theorem dX12_plainSize_49 : decode cX12_plainSize 49 = .ok (.iload_n 1, 1) := by decide +kernel
theorem dX12_plainSize_50 : decode cX12_plainSize 50 = .ok (.iaload, 1) := by decide +kernel
theorem dX12_plainSize_51 : decode cX12_plainSize 51 = .ok (.ifCond .ne 11, 3) := by decide +kernel
theorem dX12_plainSize_54 : decode cX12_plainSize 54 = .ok (.aload_n 0, 1) := by decide +kernel
theorem dX12_plainSize_55 : decode cX12_plainSize 55 = .ok (.bipush 6, 2) := by decide +kernel
theorem dX12_plainSize_57 : decode cX12_plainSize 57 = .ok (.putfield 445, 3) := by decide +kernel
theorem dX12_plainSize_60 : decode cX12_plainSize 60 = .ok (.iconst 0, 1) := by decide +kernel
theorem dX12_plainSize_61 : decode cX12_plainSize 61 = .ok (.ireturn, 1) := by decide +kernel
theorem dX12_plainSize_62 : decode cX12_plainSize 62 = .ok (.aload_n 0, 1) := by decide +kernel
theorem dX12_plainSize_63 : decode cX12_plainSize 63 = .ok (.getfield 38, 3) := by decide +kernel
theorem dX12_plainSize_66 : decode cX12_plainSize 66 = .ok (.iload_n 1, 1) := by decide +kernel
theorem dX12_plainSize_67 : decode cX12_plainSize 67 = .ok (.baload, 1) := by decide +kernel
theorem dX12_plainSize_68 : decode cX12_plainSize 68 = .ok (.iconst 1, 1) := by decide +kernel
theorem dX12_plainSize_69 : decode cX12_plainSize 69 = .ok (.if_icmp .ne 21, 3) := by decide +kernel
theorem dX12_plainSize_72 : decode cX12_plainSize 72 = .ok (.iconst 2, 1) := by decide +kernel
theorem dX12_plainSize_73 : decode cX12_plainSize 73 = .ok (.aload_n 0, 1) := by decide +kernel
theorem dX12_plainSize_74 : decode cX12_plainSize 74 = .ok (.getfield 41, 3) := by decide +kernel
theorem dX12_plainSize_77 : decode cX12_plainSize 77 = .ok (.iload_n 1, 1) := by decide +kernel
theorem dX12_plainSize_78 : decode cX12_plainSize 78 = .ok (.iaload, 1) := by decide +kernel
theorem dX12_plainSize_79 : decode cX12_plainSize 79 = .ok (.imul, 1) := by decide +kernel
theorem dX12_plainSize_80 : decode cX12_plainSize 80 = .ok (.aload_n 0, 1) := by decide +kernel
theorem dX12_plainSize_81 : decode cX12_plainSize 81 = .ok (.getfield 44, 3) := by decide +kernel
theorem dX12_plainSize_84 : decode cX12_plainSize 84 = .ok (.iload_n 1, 1) := by decide +kernel
theorem dX12_plainSize_85 : decode cX12_plainSize 85 = .ok (.iaload, 1) := by decide +kernel
theorem dX12_plainSize_86 : decode cX12_plainSize 86 = .ok (.iadd, 1) := by decide +kernel
theorem dX12_plainSize_87 : decode cX12_plainSize 87 = .ok (.goto 35, 3) := by decide +kernel
theorem dX12_plainSize_90 : decode cX12_plainSize 90 = .ok (.aload_n 0, 1) := by decide +kernel
theorem dX12_plainSize_91 : decode cX12_plainSize 91 = .ok (.getfield 38, 3) := by decide +kernel
theorem dX12_plainSize_94 : decode cX12_plainSize 94 = .ok (.iload_n 1, 1) := by decide +kernel
theorem dX12_plainSize_95 : decode cX12_plainSize 95 = .ok (.baload, 1) := by decide +kernel
theorem dX12_plainSize_96 : decode cX12_plainSize 96 = .ok (.iconst 3, 1) := by decide +kernel
theorem dX12_plainSize_97 : decode cX12_plainSize 97 = .ok (.if_icmp .ne 19, 3) := by decide +kernel
theorem dX12_plainSize_100 : decode cX12_plainSize 100 = .ok (.aload_n 0, 1) := by decide +kernel
theorem dX12_plainSize_101 : decode cX12_plainSize 101 = .ok (.getfield 41, 3) := by decide +kernel
theorem dX12_plainSize_104 : decode cX12_plainSize 104 = .ok (.iload_n 1, 1) := by decide +kernel
theorem dX12_plainSize_105 : decode cX12_plainSize 105 = .ok (.iaload, 1) := by decide +kernel
theorem dX12_plainSize_106 : decode cX12_plainSize 106 = .ok (.aload_n 0, 1) := by decide +kernel
theorem dX12_plainSize_107 : decode cX12_plainSize 107 = .ok (.getfield 44, 3) := by decide +kernel
theorem dX12_plainSize_110 : decode cX12_plainSize 110 = .ok (.iload_n 1, 1) := by decide +kernel
theorem dX12_plainSize_111 : decode cX12_plainSize 111 = .ok (.iaload, 1) := by decide +kernel
theorem dX12_plainSize_112 : decode cX12_plainSize 112 = .ok (.idiv, 1) := by decide +kernel
theorem dX12_plainSize_113 : decode cX12_plainSize 113 = .ok (.goto 9, 3) := by decide +kernel
theorem dX12_plainSize_116 : decode cX12_plainSize 116 = .ok (.aload_n 0, 1) := by decide +kernel
theorem dX12_plainSize_117 : decode cX12_plainSize 117 = .ok (.getfield 41, 3) := by decide +kernel
theorem dX12_plainSize_120 : decode cX12_plainSize 120 = .ok (.iload_n 1, 1) := by decide +kernel
theorem dX12_plainSize_121 : decode cX12_plainSize 121 = .ok (.iaload, 1) := by decide +kernel
theorem dX12_plainSize_122 : decode cX12_plainSize 122 = .ok (.ireturn, 1) := by decide +kernel
theorem dX12_sizeOf_0 : decode cX12_sizeOf 0 = .ok (.iconst 1, 1) := by decide +kernel
theorem dX12_sizeOf_1 : decode cX12_sizeOf 1 = .ok (.istore_n 2, 1) := by decide +kernel
theorem dX12_sizeOf_2 : decode cX12_sizeOf 2 = .ok (.aload_n 0, 1) := by decide +kernel
theorem dX12_sizeOf_3 : decode cX12_sizeOf 3 = .ok (.getfield 62, 3) := by decide +kernel
theorem dX12_sizeOf_6 : decode cX12_sizeOf 6 = .ok (.iconst 0, 1) := by decide +kernel
theorem dX12_sizeOf_7 : decode cX12_sizeOf 7 = .ok (.iload_n 1, 1) := by decide +kernel
theorem dX12_sizeOf_8 : decode cX12_sizeOf 8 = .ok (.iastore, 1) := by decide +kernel
theorem dX12_sizeOf_9 : decode cX12_sizeOf 9 = .ok (.aload_n 0, 1) := by decide +kernel
theorem dX12_sizeOf_10 : decode cX12_sizeOf 10 = .ok (.getfield 65, 3) := by decide +kernel
theorem dX12_sizeOf_13 : decode cX12_sizeOf 13 = .ok (.iconst 0, 1) := by decide +kernel
theorem dX12_sizeOf_14 : decode cX12_sizeOf 14 = .ok (.iconst 0, 1) := by decide +kernel
theorem dX12_sizeOf_15 : decode cX12_sizeOf 15 = .ok (.iastore, 1) := by decide +kernel
theorem dX12_sizeOf_16 : decode cX12_sizeOf 16 = .ok (.iconst 0, 1) := by decide +kernel
theorem dX12_sizeOf_17 : decode cX12_sizeOf 17 = .ok (.istore_n 3, 1) := by decide +kernel
theorem dX12_sizeOf_18 : decode cX12_sizeOf 18 = .ok (.iload_n 2, 1) := by decide +kernel
theorem dX12_sizeOf_19 : decode cX12_sizeOf 19 = .ok (.ifCond .le 210, 3) := by decide +kernel
theorem dX12_sizeOf_22 : decode cX12_sizeOf 22 = .ok (.aload_n 0, 1) := by decide +kernel
theorem dX12_sizeOf_23 : decode cX12_sizeOf 23 = .ok (.getfield 445, 3) := by decide +kernel
theorem dX12_sizeOf_26 : decode cX12_sizeOf 26 = .ok (.ifCond .ne 203, 3) := by decide +kernel
theorem dX12_sizeOf_29 : decode cX12_sizeOf 29 = .ok (.aload_n 0, 1) := by decide +kernel
theorem dX12_sizeOf_30 : decode cX12_sizeOf 30 = .ok (.getfield 62, 3) := by decide +kernel
theorem dX12_sizeOf_33 : decode cX12_sizeOf 33 = .ok (.iload_n 2, 1) := by decide +kernel
theorem dX12_sizeOf_34 : decode cX12_sizeOf 34 = .ok (.iconst 1, 1) := by decide +kernel
theorem dX12_sizeOf_35 : decode cX12_sizeOf 35 = .ok (.isub, 1) := by decide +kernel
theorem dX12_sizeOf_36 : decode cX12_sizeOf 36 = .ok (.iaload, 1) := by decide +kernel
theorem dX12_sizeOf_37 : decode cX12_sizeOf 37 = .ok (.istore 4, 2) := by decide +kernel
theorem dX12_sizeOf_39 : decode cX12_sizeOf 39 = .ok (.aload_n 0, 1) := by decide +kernel
theorem dX12_sizeOf_40 : decode cX12_sizeOf 40 = .ok (.getfield 38, 3) := by decide +kernel
theorem dX12_sizeOf_43 : decode cX12_sizeOf 43 = .ok (.iload 4, 2) := by decide +kernel
theorem dX12_sizeOf_45 : decode cX12_sizeOf 45 = .ok (.baload, 1) := by decide +kernel
theorem dX12_sizeOf_46 : decode cX12_sizeOf 46 = .ok (.iconst 2, 1) := by decide +kernel
theorem dX12_sizeOf_47 : decode cX12_sizeOf 47 = .ok (.if_icmp .eq 16, 3) := by decide +kernel
theorem dX12_sizeOf_50 : decode cX12_sizeOf 50 = .ok (.aload_n 0, 1) := by decide +kernel
theorem dX12_sizeOf_51 : decode cX12_sizeOf 51 = .ok (.iload 4, 2) := by decide +kernel
theorem dX12_sizeOf_53 : decode cX12_sizeOf 53 = .ok (.invokevirtual 448, 3) := by decide +kernel
theorem dX12_sizeOf_56 : decode cX12_sizeOf 56 = .ok (.istore_n 3, 1) := by decide +kernel
theorem dX12_sizeOf_57 : decode cX12_sizeOf 57 = .ok (.iinc 2 (-1), 3) := by decide +kernel
theorem dX12_sizeOf_60 : decode cX12_sizeOf 60 = .ok (.goto (-42), 3) := by decide +kernel
theorem dX12_sizeOf_63 : decode cX12_sizeOf 63 = .ok (.aload_n 0, 1) := by decide +kernel
theorem dX12_sizeOf_64 : decode cX12_sizeOf 64 = .ok (.getfield 65, 3) := by decide +kernel
theorem dX12_sizeOf_67 : decode cX12_sizeOf 67 = .ok (.iload_n 2, 1) := by decide +kernel
theorem dX12_sizeOf_68 : decode cX12_sizeOf 68 = .ok (.iconst 1, 1) := by decide +kernel
theorem dX12_sizeOf_69 : decode cX12_sizeOf 69 = .ok (.isub, 1) := by decide +kernel
theorem dX12_sizeOf_70 : decode cX12_sizeOf 70 = .ok (.iaload, 1) := by decide +kernel
theorem dX12_sizeOf_71 : decode cX12_sizeOf 71 = .ok (.istore 5, 2) := by decide +kernel
theorem dX12_sizeOf_73 : decode cX12_sizeOf 73 = .ok (.iload 5, 2) := by decide +kernel
theorem dX12_sizeOf_75 : decode cX12_sizeOf 75 = .ok (.ifCond .ne 8, 3) := by decide +kernel
theorem dX12_sizeOf_78 : decode cX12_sizeOf 78 = .ok (.aload_n 0, 1) := by decide +kernel
theorem dX12_sizeOf_79 : decode cX12_sizeOf 79 = .ok (.iconst 3, 1) := by decide +kernel
theorem dX12_sizeOf_80 : decode cX12_sizeOf 80 = .ok (.invokevirtual 441, 3) := by decide +kernel
theorem dX12_sizeOf_83 : decode cX12_sizeOf 83 = .ok (.aload_n 0, 1) := by decide +kernel
theorem dX12_sizeOf_84 : decode cX12_sizeOf 84 = .ok (.getfield 68, 3) := by decide +kernel
theorem dX12_sizeOf_87 : decode cX12_sizeOf 87 = .ok (.iload_n 2, 1) := by decide +kernel
theorem dX12_sizeOf_88 : decode cX12_sizeOf 88 = .ok (.iconst 1, 1) := by decide +kernel
theorem dX12_sizeOf_89 : decode cX12_sizeOf 89 = .ok (.isub, 1) := by decide +kernel
theorem dX12_sizeOf_90 : decode cX12_sizeOf 90 = .ok (.iload 5, 2) := by decide +kernel
theorem dX12_sizeOf_92 : decode cX12_sizeOf 92 = .ok (.ifCond .ne 7, 3) := by decide +kernel
theorem dX12_sizeOf_95 : decode cX12_sizeOf 95 = .ok (.iconst 0, 1) := by decide +kernel
theorem dX12_sizeOf_96 : decode cX12_sizeOf 96 = .ok (.goto 13, 3) := by decide +kernel
theorem dX12_sizeOf_99 : decode cX12_sizeOf 99 = .ok (.aload_n 0, 1) := by decide +kernel
theorem dX12_sizeOf_100 : decode cX12_sizeOf 100 = .ok (.getfield 68, 3) := by decide +kernel
theorem dX12_sizeOf_103 : decode cX12_sizeOf 103 = .ok (.iload_n 2, 1) := by decide +kernel
theorem dX12_sizeOf_104 : decode cX12_sizeOf 104 = .ok (.iconst 1, 1) := by decide +kernel
theorem dX12_sizeOf_105 : decode cX12_sizeOf 105 = .ok (.isub, 1) := by decide +kernel
theorem dX12_sizeOf_106 : decode cX12_sizeOf 106 = .ok (.iaload, 1) := by decide +kernel
theorem dX12_sizeOf_107 : decode cX12_sizeOf 107 = .ok (.iload_n 3, 1) := by decide +kernel
theorem dX12_sizeOf_108 : decode cX12_sizeOf 108 = .ok (.iadd, 1) := by decide +kernel
theorem dX12_sizeOf_109 : decode cX12_sizeOf 109 = .ok (.iastore, 1) := by decide +kernel
theorem dX12_sizeOf_110 : decode cX12_sizeOf 110 = .ok (.aload_n 0, 1) := by decide +kernel
theorem dX12_sizeOf_111 : decode cX12_sizeOf 111 = .ok (.getfield 65, 3) := by decide +kernel
theorem dX12_sizeOf_114 : decode cX12_sizeOf 114 = .ok (.iload_n 2, 1) := by decide +kernel
theorem dX12_sizeOf_115 : decode cX12_sizeOf 115 = .ok (.iconst 1, 1) := by decide +kernel
theorem dX12_sizeOf_116 : decode cX12_sizeOf 116 = .ok (.isub, 1) := by decide +kernel
theorem dX12_sizeOf_117 : decode cX12_sizeOf 117 = .ok (.dup2, 1) := by decide +kernel
theorem dX12_sizeOf_118 : decode cX12_sizeOf 118 = .ok (.iaload, 1) := by decide +kernel
theorem dX12_sizeOf_119 : decode cX12_sizeOf 119 = .ok (.iconst 1, 1) := by decide +kernel
theorem dX12_sizeOf_120 : decode cX12_sizeOf 120 = .ok (.iadd, 1) := by decide +kernel
theorem dX12_sizeOf_121 : decode cX12_sizeOf 121 = .ok (.iastore, 1) := by decide +kernel
theorem dX12_sizeOf_122 : decode cX12_sizeOf 122 = .ok (.iload 5, 2) := by decide +kernel
theorem dX12_sizeOf_124 : decode cX12_sizeOf 124 = .ok (.iconst 2, 1) := by decide +kernel
theorem dX12_sizeOf_125 : decode cX12_sizeOf 125 = .ok (.if_icmp .ne 46, 3) := by decide +kernel
theorem dX12_sizeOf_128 : decode cX12_sizeOf 128 = .ok (.aload_n 0, 1) := by decide +kernel
theorem dX12_sizeOf_129 : decode cX12_sizeOf 129 = .ok (.iconst 2, 1) := by decide +kernel
theorem dX12_sizeOf_130 : decode cX12_sizeOf 130 = .ok (.invokevirtual 441, 3) := by decide +kernel
theorem dX12_sizeOf_133 : decode cX12_sizeOf 133 = .ok (.aload_n 0, 1) := by decide +kernel
theorem dX12_sizeOf_134 : decode cX12_sizeOf 134 = .ok (.iconst 1, 1) := by decide +kernel
theorem dX12_sizeOf_135 : decode cX12_sizeOf 135 = .ok (.invokevirtual 441, 3) := by decide +kernel
theorem dX12_sizeOf_138 : decode cX12_sizeOf 138 = .ok (.aload_n 0, 1) := by decide +kernel
theorem dX12_sizeOf_139 : decode cX12_sizeOf 139 = .ok (.getfield 68, 3) := by decide +kernel
theorem dX12_sizeOf_142 : decode cX12_sizeOf 142 = .ok (.iload_n 2, 1) := by decide +kernel
theorem dX12_sizeOf_143 : decode cX12_sizeOf 143 = .ok (.iconst 1, 1) := by decide +kernel
theorem dX12_sizeOf_144 : decode cX12_sizeOf 144 = .ok (.isub, 1) := by decide +kernel
theorem dX12_sizeOf_145 : decode cX12_sizeOf 145 = .ok (.iaload, 1) := by decide +kernel
theorem dX12_sizeOf_146 : decode cX12_sizeOf 146 = .ok (.iconst 2, 1) := by decide +kernel
theorem dX12_sizeOf_147 : decode cX12_sizeOf 147 = .ok (.aload_n 0, 1) := by decide +kernel
theorem dX12_sizeOf_148 : decode cX12_sizeOf 148 = .ok (.getfield 41, 3) := by decide +kernel
theorem dX12_sizeOf_151 : decode cX12_sizeOf 151 = .ok (.iload 4, 2) := by decide +kernel
theorem dX12_sizeOf_153 : decode cX12_sizeOf 153 = .ok (.iaload, 1) := by decide +kernel
theorem dX12_sizeOf_154 : decode cX12_sizeOf 154 = .ok (.imul, 1) := by decide +kernel
theorem dX12_sizeOf_155 : decode cX12_sizeOf 155 = .ok (.iadd, 1) := by decide +kernel
theorem dX12_sizeOf_156 : decode cX12_sizeOf 156 = .ok (.aload_n 0, 1) := by decide +kernel
theorem dX12_sizeOf_157 : decode cX12_sizeOf 157 = .ok (.getfield 44, 3) := by decide +kernel
theorem dX12_sizeOf_160 : decode cX12_sizeOf 160 = .ok (.iload 4, 2) := by decide +kernel
theorem dX12_sizeOf_162 : decode cX12_sizeOf 162 = .ok (.iaload, 1) := by decide +kernel
theorem dX12_sizeOf_163 : decode cX12_sizeOf 163 = .ok (.iadd, 1) := by decide +kernel
theorem dX12_sizeOf_164 : decode cX12_sizeOf 164 = .ok (.istore_n 3, 1) := by decide +kernel
theorem dX12_sizeOf_165 : decode cX12_sizeOf 165 = .ok (.iinc 2 (-1), 3) := by decide +kernel
theorem dX12_sizeOf_168 : decode cX12_sizeOf 168 = .ok (.goto (-150), 3) := by decide +kernel
theorem dX12_sizeOf_171 : decode cX12_sizeOf 171 = .ok (.iload 5, 2) := by decide +kernel
theorem dX12_sizeOf_173 : decode cX12_sizeOf 173 = .ok (.ifCond .ne 13, 3) := by decide +kernel
theorem dX12_sizeOf_176 : decode cX12_sizeOf 176 = .ok (.aload_n 0, 1) := by decide +kernel
theorem dX12_sizeOf_177 : decode cX12_sizeOf 177 = .ok (.getfield 47, 3) := by decide +kernel
theorem dX12_sizeOf_180 : decode cX12_sizeOf 180 = .ok (.iload 4, 2) := by decide +kernel
theorem dX12_sizeOf_182 : decode cX12_sizeOf 182 = .ok (.saload, 1) := by decide +kernel
theorem dX12_sizeOf_183 : decode cX12_sizeOf 183 = .ok (.goto 10, 3) := by decide +kernel
theorem dX12_sizeOf_186 : decode cX12_sizeOf 186 = .ok (.aload_n 0, 1) := by decide +kernel
theorem dX12_sizeOf_187 : decode cX12_sizeOf 187 = .ok (.getfield 50, 3) := by decide +kernel
theorem dX12_sizeOf_190 : decode cX12_sizeOf 190 = .ok (.iload 4, 2) := by decide +kernel
theorem dX12_sizeOf_192 : decode cX12_sizeOf 192 = .ok (.saload, 1) := by decide +kernel
theorem dX12_sizeOf_193 : decode cX12_sizeOf 193 = .ok (.istore 6, 2) := by decide +kernel
theorem dX12_sizeOf_195 : decode cX12_sizeOf 195 = .ok (.iload 6, 2) := by decide +kernel
theorem dX12_sizeOf_197 : decode cX12_sizeOf 197 = .ok (.ifCond .ne 11, 3) := by decide +kernel
theorem dX12_sizeOf_200 : decode cX12_sizeOf 200 = .ok (.aload_n 0, 1) := by decide +kernel
theorem dX12_sizeOf_201 : decode cX12_sizeOf 201 = .ok (.iconst 1, 1) := by decide +kernel
theorem dX12_sizeOf_202 : decode cX12_sizeOf 202 = .ok (.putfield 445, 3) := by decide +kernel
theorem dX12_sizeOf_205 : decode cX12_sizeOf 205 = .ok (.goto 21, 3) := by decide +kernel
theorem dX12_sizeOf_208 : decode cX12_sizeOf 208 = .ok (.aload_n 0, 1) := by decide +kernel
theorem dX12_sizeOf_209 : decode cX12_sizeOf 209 = .ok (.getfield 62, 3) := by decide +kernel
theorem dX12_sizeOf_212 : decode cX12_sizeOf 212 = .ok (.iload_n 2, 1) := by decide +kernel
theorem dX12_sizeOf_213 : decode cX12_sizeOf 213 = .ok (.iload 6, 2) := by decide +kernel
theorem dX12_sizeOf_215 : decode cX12_sizeOf 215 = .ok (.iastore, 1) := by decide +kernel
theorem dX12_sizeOf_216 : decode cX12_sizeOf 216 = .ok (.aload_n 0, 1) := by decide +kernel
theorem dX12_sizeOf_217 : decode cX12_sizeOf 217 = .ok (.getfield 65, 3) := by decide +kernel
theorem dX12_sizeOf_220 : decode cX12_sizeOf 220 = .ok (.iload_n 2, 1) := by decide +kernel
theorem dX12_sizeOf_221 : decode cX12_sizeOf 221 = .ok (.iconst 0, 1) := by decide +kernel
theorem dX12_sizeOf_222 : decode cX12_sizeOf 222 = .ok (.iastore, 1) := by decide +kernel
theorem dX12_sizeOf_223 : decode cX12_sizeOf 223 = .ok (.iinc 2 1, 3) := by decide +kernel
theorem dX12_sizeOf_226 : decode cX12_sizeOf 226 = .ok (.goto (-208), 3) := by decide +kernel
theorem dX12_sizeOf_229 : decode cX12_sizeOf 229 = .ok (.iload_n 3, 1) := by decide +kernel
theorem dX12_sizeOf_230 : decode cX12_sizeOf 230 = .ok (.ireturn, 1) := by decide +kernel
theorem dX12_thirstOf_0 : decode cX12_thirstOf 0 = .ok (.aload_n 0, 1) := by decide +kernel
theorem dX12_thirstOf_1 : decode cX12_thirstOf 1 = .ok (.getfield 38, 3) := by decide +kernel
theorem dX12_thirstOf_4 : decode cX12_thirstOf 4 = .ok (.iload_n 1, 1) := by decide +kernel
theorem dX12_thirstOf_5 : decode cX12_thirstOf 5 = .ok (.baload, 1) := by decide +kernel
theorem dX12_thirstOf_6 : decode cX12_thirstOf 6 = .ok (.istore_n 2, 1) := by decide +kernel
theorem dX12_thirstOf_7 : decode cX12_thirstOf 7 = .ok (.iload_n 2, 1) := by decide +kernel
theorem dX12_thirstOf_8 : decode cX12_thirstOf 8 = .ok (.iconst 5, 1) := by decide +kernel
theorem dX12_thirstOf_9 : decode cX12_thirstOf 9 = .ok (.if_icmp .ne 16, 3) := by decide +kernel
theorem dX12_thirstOf_12 : decode cX12_thirstOf 12 = .ok (.aload_n 0, 1) := by decide +kernel
theorem dX12_thirstOf_13 : decode cX12_thirstOf 13 = .ok (.bipush 12, 2) := by decide +kernel
theorem dX12_thirstOf_15 : decode cX12_thirstOf 15 = .ok (.invokevirtual 441, 3) := by decide +kernel
theorem dX12_thirstOf_18 : decode cX12_thirstOf 18 = .ok (.aload_n 0, 1) := by decide +kernel
theorem dX12_thirstOf_19 : decode cX12_thirstOf 19 = .ok (.getfield 44, 3) := by decide +kernel
theorem dX12_thirstOf_22 : decode cX12_thirstOf 22 = .ok (.iload_n 1, 1) := by decide +kernel
theorem dX12_thirstOf_23 : decode cX12_thirstOf 23 = .ok (.iaload, 1) := by decide +kernel
theorem dX12_thirstOf_24 : decode cX12_thirstOf 24 = .ok (.ireturn, 1) := by decide +kernel
theorem dX12_thirstOf_25 : decode cX12_thirstOf 25 = .ok (.iload_n 2, 1) := by decide +kernel
theorem dX12_thirstOf_26 : decode cX12_thirstOf 26 = .ok (.iconst 3, 1) := by decide +kernel
theorem dX12_thirstOf_27 : decode cX12_thirstOf 27 = .ok (.if_icmp .ge 9, 3) := by decide +kernel
theorem dX12_thirstOf_30 : decode cX12_thirstOf 30 = .ok (.aload_n 0, 1) := by decide +kernel
theorem dX12_thirstOf_31 : decode cX12_thirstOf 31 = .ok (.bipush 11, 2) := by decide +kernel
theorem dX12_thirstOf_33 : decode cX12_thirstOf 33 = .ok (.invokevirtual 441, 3) := by decide +kernel
theorem dX12_thirstOf_36 : decode cX12_thirstOf 36 = .ok (.aload_n 0, 1) := by decide +kernel
theorem dX12_thirstOf_37 : decode cX12_thirstOf 37 = .ok (.bipush 10, 2) := by decide +kernel
theorem dX12_thirstOf_39 : decode cX12_thirstOf 39 = .ok (.invokevirtual 441, 3) := by decide +kernel
theorem dX12_thirstOf_42 : decode cX12_thirstOf 42 = .ok (.iconst 3, 1) := by decide +kernel
theorem dX12_thirstOf_43 : decode cX12_thirstOf 43 = .ok (.aload_n 0, 1) := by decide +kernel
theorem dX12_thirstOf_44 : decode cX12_thirstOf 44 = .ok (.iload_n 1, 1) := by decide +kernel
theorem dX12_thirstOf_45 : decode cX12_thirstOf 45 = .ok (.invokevirtual 451, 3) := by decide +kernel
theorem dX12_thirstOf_48 : decode cX12_thirstOf 48 = .ok (.iadd, 1) := by decide +kernel
theorem dX12_thirstOf_49 : decode cX12_thirstOf 49 = .ok (.istore_n 3, 1) := by decide +kernel
theorem dX12_thirstOf_50 : decode cX12_thirstOf 50 = .ok (.iload_n 2, 1) := by decide +kernel
theorem dX12_thirstOf_51 : decode cX12_thirstOf 51 = .ok (.iconst 3, 1) := by decide +kernel
theorem dX12_thirstOf_52 : decode cX12_thirstOf 52 = .ok (.if_icmp .ge 9, 3) := by decide +kernel
theorem dX12_thirstOf_55 : decode cX12_thirstOf 55 = .ok (.iconst 2, 1) := by decide +kernel
theorem dX12_thirstOf_56 : decode cX12_thirstOf 56 = .ok (.iload_n 3, 1) := by decide +kernel
theorem dX12_thirstOf_57 : decode cX12_thirstOf 57 = .ok (.imul, 1) := by decide +kernel
theorem dX12_thirstOf_58 : decode cX12_thirstOf 58 = .ok (.goto 4, 3) := by decide +kernel
theorem dX12_thirstOf_61 : decode cX12_thirstOf 61 = .ok (.iload_n 3, 1) := by decide +kernel
theorem dX12_thirstOf_62 : decode cX12_thirstOf 62 = .ok (.ireturn, 1) := by decide +kernel
theorem dX12_costOf_0 : decode cX12_costOf 0 = .ok (.aload_n 0, 1) := by decide +kernel
theorem dX12_costOf_1 : decode cX12_costOf 1 = .ok (.getfield 38, 3) := by decide +kernel
theorem dX12_costOf_4 : decode cX12_costOf 4 = .ok (.iload_n 1, 1) := by decide +kernel
theorem dX12_costOf_5 : decode cX12_costOf 5 = .ok (.baload, 1) := by decide +kernel
theorem dX12_costOf_6 : decode cX12_costOf 6 = .ok (.iconst 3, 1) := by decide +kernel
theorem dX12_costOf_7 : decode cX12_costOf 7 = .ok (.if_icmp .ne 9, 3) := by decide +kernel
theorem dX12_costOf_10 : decode cX12_costOf 10 = .ok (.aload_n 0, 1) := by decide +kernel
theorem dX12_costOf_11 : decode cX12_costOf 11 = .ok (.bipush 21, 2) := by decide +kernel
theorem dX12_costOf_13 : decode cX12_costOf 13 = .ok (.invokevirtual 441, 3) := by decide +kernel
theorem dX12_costOf_16 : decode cX12_costOf 16 = .ok (.aload_n 0, 1) := by decide +kernel
theorem dX12_costOf_17 : decode cX12_costOf 17 = .ok (.bipush 20, 2) := by decide +kernel
theorem dX12_costOf_19 : decode cX12_costOf 19 = .ok (.invokevirtual 441, 3) := by decide +kernel
theorem dX12_costOf_22 : decode cX12_costOf 22 = .ok (.aload_n 0, 1) := by decide +kernel
theorem dX12_costOf_23 : decode cX12_costOf 23 = .ok (.getfield 41, 3) := by decide +kernel
theorem dX12_costOf_26 : decode cX12_costOf 26 = .ok (.iload_n 1, 1) := by decide +kernel
theorem dX12_costOf_27 : decode cX12_costOf 27 = .ok (.iaload, 1) := by decide +kernel
theorem dX12_costOf_28 : decode cX12_costOf 28 = .ok (.ifCond .ne 11, 3) := by decide +kernel
theorem dX12_costOf_31 : decode cX12_costOf 31 = .ok (.aload_n 0, 1) := by decide +kernel
theorem dX12_costOf_32 : decode cX12_costOf 32 = .ok (.bipush 6, 2) := by decide +kernel
theorem dX12_costOf_34 : decode cX12_costOf 34 = .ok (.putfield 445, 3) := by decide +kernel
theorem dX12_costOf_37 : decode cX12_costOf 37 = .ok (.iconst 0, 1) := by decide +kernel
theorem dX12_costOf_38 : decode cX12_costOf 38 = .ok (.ireturn, 1) := by decide +kernel
theorem dX12_costOf_39 : decode cX12_costOf 39 = .ok (.sipush 5000, 3) := by decide +kernel
theorem dX12_costOf_42 : decode cX12_costOf 42 = .ok (.aload_n 0, 1) := by decide +kernel
theorem dX12_costOf_43 : decode cX12_costOf 43 = .ok (.getfield 41, 3) := by decide +kernel
theorem dX12_costOf_46 : decode cX12_costOf 46 = .ok (.iload_n 1, 1) := by decide +kernel
theorem dX12_costOf_47 : decode cX12_costOf 47 = .ok (.iaload, 1) := by decide +kernel
theorem dX12_costOf_48 : decode cX12_costOf 48 = .ok (.idiv, 1) := by decide +kernel
theorem dX12_costOf_49 : decode cX12_costOf 49 = .ok (.istore_n 2, 1) := by decide +kernel
theorem dX12_costOf_50 : decode cX12_costOf 50 = .ok (.aload_n 0, 1) := by decide +kernel
theorem dX12_costOf_51 : decode cX12_costOf 51 = .ok (.getfield 38, 3) := by decide +kernel
theorem dX12_costOf_54 : decode cX12_costOf 54 = .ok (.iload_n 1, 1) := by decide +kernel
theorem dX12_costOf_55 : decode cX12_costOf 55 = .ok (.baload, 1) := by decide +kernel
theorem dX12_costOf_56 : decode cX12_costOf 56 = .ok (.iconst 3, 1) := by decide +kernel
theorem dX12_costOf_57 : decode cX12_costOf 57 = .ok (.if_icmp .ne 13, 3) := by decide +kernel
theorem dX12_costOf_60 : decode cX12_costOf 60 = .ok (.iload_n 2, 1) := by decide +kernel
theorem dX12_costOf_61 : decode cX12_costOf 61 = .ok (.aload_n 0, 1) := by decide +kernel
theorem dX12_costOf_62 : decode cX12_costOf 62 = .ok (.iload_n 1, 1) := by decide +kernel
theorem dX12_costOf_63 : decode cX12_costOf 63 = .ok (.invokevirtual 454, 3) := by decide +kernel
theorem dX12_costOf_66 : decode cX12_costOf 66 = .ok (.iadd, 1) := by decide +kernel
theorem dX12_costOf_67 : decode cX12_costOf 67 = .ok (.goto 4, 3) := by decide +kernel
theorem dX12_costOf_70 : decode cX12_costOf 70 = .ok (.iload_n 2, 1) := by decide +kernel
theorem dX12_costOf_71 : decode cX12_costOf 71 = .ok (.ireturn, 1) := by decide +kernel
theorem dX12_askOf_0 : decode cX12_askOf 0 = .ok (.aload_n 0, 1) := by decide +kernel
theorem dX12_askOf_1 : decode cX12_askOf 1 = .ok (.iconst 0, 1) := by decide +kernel
theorem dX12_askOf_2 : decode cX12_askOf 2 = .ok (.putfield 438, 3) := by decide +kernel
theorem dX12_askOf_5 : decode cX12_askOf 5 = .ok (.aload_n 0, 1) := by decide +kernel
theorem dX12_askOf_6 : decode cX12_askOf 6 = .ok (.iconst 0, 1) := by decide +kernel
theorem dX12_askOf_7 : decode cX12_askOf 7 = .ok (.putfield 445, 3) := by decide +kernel
theorem dX12_askOf_10 : decode cX12_askOf 10 = .ok (.aload_n 0, 1) := by decide +kernel
theorem dX12_askOf_11 : decode cX12_askOf 11 = .ok (.iload_n 1, 1) := by decide +kernel
theorem dX12_askOf_12 : decode cX12_askOf 12 = .ok (.bipush 16, 2) := by decide +kernel
theorem dX12_askOf_14 : decode cX12_askOf 14 = .ok (.invokevirtual 363, 3) := by decide +kernel
theorem dX12_askOf_17 : decode cX12_askOf 17 = .ok (.ifCond .ne 5, 3) := by decide +kernel
theorem dX12_askOf_20 : decode cX12_askOf 20 = .ok (.iconst 4, 1) := by decide +kernel
theorem dX12_askOf_21 : decode cX12_askOf 21 = .ok (.ireturn, 1) := by decide +kernel
theorem dX12_askOf_22 : decode cX12_askOf 22 = .ok (.iload_n 1, 1) := by decide +kernel
theorem dX12_askOf_23 : decode cX12_askOf 23 = .ok (.ifCond .ne 5, 3) := by decide +kernel
theorem dX12_askOf_26 : decode cX12_askOf 26 = .ok (.iconst 1, 1) := by decide +kernel
theorem dX12_askOf_27 : decode cX12_askOf 27 = .ok (.ireturn, 1) := by decide +kernel
theorem dX12_askOf_28 : decode cX12_askOf 28 = .ok (.aload_n 0, 1) := by decide +kernel
theorem dX12_askOf_29 : decode cX12_askOf 29 = .ok (.getfield 38, 3) := by decide +kernel
theorem dX12_askOf_32 : decode cX12_askOf 32 = .ok (.iload_n 1, 1) := by decide +kernel
theorem dX12_askOf_33 : decode cX12_askOf 33 = .ok (.baload, 1) := by decide +kernel
theorem dX12_askOf_34 : decode cX12_askOf 34 = .ok (.istore_n 3, 1) := by decide +kernel
theorem dX12_askOf_35 : decode cX12_askOf 35 = .ok (.iload_n 2, 1) := by decide +kernel
theorem dX12_askOf_36 : decode cX12_askOf 36 = .ok (.iconst 1, 1) := by decide +kernel
theorem dX12_askOf_37 : decode cX12_askOf 37 = .ok (.if_icmp .ne 12, 3) := by decide +kernel
theorem dX12_askOf_40 : decode cX12_askOf 40 = .ok (.iload_n 3, 1) := by decide +kernel
theorem dX12_askOf_41 : decode cX12_askOf 41 = .ok (.ifCond .eq 18, 3) := by decide +kernel
theorem dX12_askOf_44 : decode cX12_askOf 44 = .ok (.iload_n 3, 1) := by decide +kernel
theorem dX12_askOf_45 : decode cX12_askOf 45 = .ok (.iconst 4, 1) := by decide +kernel
theorem dX12_askOf_46 : decode cX12_askOf 46 = .ok (.if_icmp .eq 13, 3) := by decide +kernel
theorem dX12_askOf_49 : decode cX12_askOf 49 = .ok (.iload_n 2, 1) := by decide +kernel
theorem dX12_askOf_50 : decode cX12_askOf 50 = .ok (.iconst 2, 1) := by decide +kernel
theorem dX12_askOf_51 : decode cX12_askOf 51 = .ok (.if_icmp .ne 10, 3) := by decide +kernel
theorem dX12_askOf_54 : decode cX12_askOf 54 = .ok (.iload_n 3, 1) := by decide +kernel
theorem dX12_askOf_55 : decode cX12_askOf 55 = .ok (.iconst 5, 1) := by decide +kernel
theorem dX12_askOf_56 : decode cX12_askOf 56 = .ok (.if_icmp .ne 5, 3) := by decide +kernel
theorem dX12_askOf_59 : decode cX12_askOf 59 = .ok (.iconst 4, 1) := by decide +kernel
theorem dX12_askOf_60 : decode cX12_askOf 60 = .ok (.ireturn, 1) := by decide +kernel
theorem dX12_askOf_61 : decode cX12_askOf 61 = .ok (.iload_n 2, 1) := by decide +kernel
theorem dX12_askOf_62 : decode cX12_askOf 62 = .ok (.tableswitch 160 0 6 #[42, 54, 66, 78, 120, 139, 152], 42) := by decide +kernel
theorem dX12_askOf_104 : decode cX12_askOf 104 = .ok (.aload_n 0, 1) := by decide +kernel
theorem dX12_askOf_105 : decode cX12_askOf 105 = .ok (.aload_n 0, 1) := by decide +kernel
theorem dX12_askOf_106 : decode cX12_askOf 106 = .ok (.iload_n 1, 1) := by decide +kernel
theorem dX12_askOf_107 : decode cX12_askOf 107 = .ok (.invokevirtual 451, 3) := by decide +kernel
theorem dX12_askOf_110 : decode cX12_askOf 110 = .ok (.putfield 457, 3) := by decide +kernel
theorem dX12_askOf_113 : decode cX12_askOf 113 = .ok (.goto 119, 3) := by decide +kernel
theorem dX12_askOf_116 : decode cX12_askOf 116 = .ok (.aload_n 0, 1) := by decide +kernel
theorem dX12_askOf_117 : decode cX12_askOf 117 = .ok (.aload_n 0, 1) := by decide +kernel
theorem dX12_askOf_118 : decode cX12_askOf 118 = .ok (.iload_n 1, 1) := by decide +kernel
theorem dX12_askOf_119 : decode cX12_askOf 119 = .ok (.invokevirtual 454, 3) := by decide +kernel
theorem dX12_askOf_122 : decode cX12_askOf 122 = .ok (.putfield 457, 3) := by decide +kernel
theorem dX12_askOf_125 : decode cX12_askOf 125 = .ok (.goto 107, 3) := by decide +kernel
theorem dX12_askOf_128 : decode cX12_askOf 128 = .ok (.aload_n 0, 1) := by decide +kernel
theorem dX12_askOf_129 : decode cX12_askOf 129 = .ok (.aload_n 0, 1) := by decide +kernel
theorem dX12_askOf_130 : decode cX12_askOf 130 = .ok (.iload_n 1, 1) := by decide +kernel
theorem dX12_askOf_131 : decode cX12_askOf 131 = .ok (.invokevirtual 460, 3) := by decide +kernel
theorem dX12_askOf_134 : decode cX12_askOf 134 = .ok (.putfield 457, 3) := by decide +kernel
theorem dX12_askOf_137 : decode cX12_askOf 137 = .ok (.goto 95, 3) := by decide +kernel
theorem dX12_askOf_140 : decode cX12_askOf 140 = .ok (.aload_n 0, 1) := by decide +kernel
theorem dX12_askOf_141 : decode cX12_askOf 141 = .ok (.iload_n 3, 1) := by decide +kernel
theorem dX12_askOf_142 : decode cX12_askOf 142 = .ok (.iconst 2, 1) := by decide +kernel
theorem dX12_askOf_143 : decode cX12_askOf 143 = .ok (.if_icmp .ne 8, 3) := by decide +kernel
theorem dX12_askOf_146 : decode cX12_askOf 146 = .ok (.bipush 31, 2) := by decide +kernel
theorem dX12_askOf_148 : decode cX12_askOf 148 = .ok (.goto 5, 3) := by decide +kernel
theorem dX12_askOf_151 : decode cX12_askOf 151 = .ok (.bipush 30, 2) := by decide +kernel
theorem dX12_askOf_153 : decode cX12_askOf 153 = .ok (.invokevirtual 441, 3) := by decide +kernel
theorem dX12_askOf_156 : decode cX12_askOf 156 = .ok (.aload_n 0, 1) := by decide +kernel
theorem dX12_askOf_157 : decode cX12_askOf 157 = .ok (.iload_n 3, 1) := by decide +kernel
theorem dX12_askOf_158 : decode cX12_askOf 158 = .ok (.iconst 2, 1) := by decide +kernel
theorem dX12_askOf_159 : decode cX12_askOf 159 = .ok (.if_icmp .ne 15, 3) := by decide +kernel
theorem dX12_askOf_162 : decode cX12_askOf 162 = .ok (.bipush 9, 2) := by decide +kernel
theorem dX12_askOf_164 : decode cX12_askOf 164 = .ok (.aload_n 0, 1) := by decide +kernel
theorem dX12_askOf_165 : decode cX12_askOf 165 = .ok (.getfield 44, 3) := by decide +kernel
theorem dX12_askOf_168 : decode cX12_askOf 168 = .ok (.iload_n 1, 1) := by decide +kernel
theorem dX12_askOf_169 : decode cX12_askOf 169 = .ok (.iaload, 1) := by decide +kernel
theorem dX12_askOf_170 : decode cX12_askOf 170 = .ok (.iadd, 1) := by decide +kernel
theorem dX12_askOf_171 : decode cX12_askOf 171 = .ok (.goto 5, 3) := by decide +kernel
theorem dX12_askOf_174 : decode cX12_askOf 174 = .ok (.bipush 7, 2) := by decide +kernel
theorem dX12_askOf_176 : decode cX12_askOf 176 = .ok (.putfield 457, 3) := by decide +kernel
theorem dX12_askOf_179 : decode cX12_askOf 179 = .ok (.goto 53, 3) := by decide +kernel
theorem dX12_askOf_182 : decode cX12_askOf 182 = .ok (.aload_n 0, 1) := by decide +kernel
theorem dX12_askOf_183 : decode cX12_askOf 183 = .ok (.iload_n 3, 1) := by decide +kernel
theorem dX12_askOf_184 : decode cX12_askOf 184 = .ok (.iconst 2, 1) := by decide +kernel
theorem dX12_askOf_185 : decode cX12_askOf 185 = .ok (.if_icmp .ne 8, 3) := by decide +kernel
theorem dX12_askOf_188 : decode cX12_askOf 188 = .ok (.bipush 9, 2) := by decide +kernel
theorem dX12_askOf_190 : decode cX12_askOf 190 = .ok (.goto 5, 3) := by decide +kernel
theorem dX12_askOf_193 : decode cX12_askOf 193 = .ok (.bipush 7, 2) := by decide +kernel
theorem dX12_askOf_195 : decode cX12_askOf 195 = .ok (.putfield 457, 3) := by decide +kernel
theorem dX12_askOf_198 : decode cX12_askOf 198 = .ok (.goto 34, 3) := by decide +kernel
theorem dX12_askOf_201 : decode cX12_askOf 201 = .ok (.aload_n 0, 1) := by decide +kernel
theorem dX12_askOf_202 : decode cX12_askOf 202 = .ok (.aload_n 0, 1) := by decide +kernel
theorem dX12_askOf_203 : decode cX12_askOf 203 = .ok (.getfield 35, 3) := by decide +kernel
theorem dX12_askOf_206 : decode cX12_askOf 206 = .ok (.iload_n 1, 1) := by decide +kernel
theorem dX12_askOf_207 : decode cX12_askOf 207 = .ok (.iaload, 1) := by decide +kernel
theorem dX12_askOf_208 : decode cX12_askOf 208 = .ok (.putfield 457, 3) := by decide +kernel
theorem dX12_askOf_211 : decode cX12_askOf 211 = .ok (.goto 21, 3) := by decide +kernel
theorem dX12_askOf_214 : decode cX12_askOf 214 = .ok (.aload_n 0, 1) := by decide +kernel
theorem dX12_askOf_215 : decode cX12_askOf 215 = .ok (.iload_n 3, 1) := by decide +kernel
theorem dX12_askOf_216 : decode cX12_askOf 216 = .ok (.putfield 457, 3) := by decide +kernel
theorem dX12_askOf_219 : decode cX12_askOf 219 = .ok (.goto 13, 3) := by decide +kernel
theorem dX12_askOf_222 : decode cX12_askOf 222 = .ok (.aload_n 0, 1) := by decide +kernel
theorem dX12_askOf_223 : decode cX12_askOf 223 = .ok (.aload_n 0, 1) := by decide +kernel
theorem dX12_askOf_224 : decode cX12_askOf 224 = .ok (.getfield 53, 3) := by decide +kernel
theorem dX12_askOf_227 : decode cX12_askOf 227 = .ok (.iload_n 1, 1) := by decide +kernel
theorem dX12_askOf_228 : decode cX12_askOf 228 = .ok (.baload, 1) := by decide +kernel
theorem dX12_askOf_229 : decode cX12_askOf 229 = .ok (.putfield 457, 3) := by decide +kernel
theorem dX12_askOf_232 : decode cX12_askOf 232 = .ok (.aload_n 0, 1) := by decide +kernel
theorem dX12_askOf_233 : decode cX12_askOf 233 = .ok (.getfield 445, 3) := by decide +kernel
theorem dX12_askOf_236 : decode cX12_askOf 236 = .ok (.ireturn, 1) := by decide +kernel
theorem dX12_ask_0 : decode cX12_ask 0 = .ok (.iload_n 1, 1) := by decide +kernel
theorem dX12_ask_1 : decode cX12_ask 1 = .ok (.invokestatic 345, 3) := by decide +kernel
theorem dX12_ask_4 : decode cX12_ask 4 = .ok (.ifCond .eq 13, 3) := by decide +kernel
theorem dX12_ask_7 : decode cX12_ask 7 = .ok (.iload_n 2, 1) := by decide +kernel
theorem dX12_ask_8 : decode cX12_ask 8 = .ok (.iconst 0, 1) := by decide +kernel
theorem dX12_ask_9 : decode cX12_ask 9 = .ok (.bipush 7, 2) := by decide +kernel
theorem dX12_ask_11 : decode cX12_ask 11 = .ok (.invokestatic 322, 3) := by decide +kernel
theorem dX12_ask_14 : decode cX12_ask 14 = .ok (.ifCond .ne 6, 3) := by decide +kernel
theorem dX12_ask_17 : decode cX12_ask 17 = .ok (.bipush (-2), 2) := by decide +kernel
theorem dX12_ask_19 : decode cX12_ask 19 = .ok (.ireturn, 1) := by decide +kernel
theorem dX12_ask_20 : decode cX12_ask 20 = .ok (.aload_n 0, 1) := by decide +kernel
theorem dX12_ask_21 : decode cX12_ask 21 = .ok (.aload_n 0, 1) := by decide +kernel
theorem dX12_ask_22 : decode cX12_ask 22 = .ok (.getfield 9, 3) := by decide +kernel
theorem dX12_ask_25 : decode cX12_ask 25 = .ok (.iload_n 1, 1) := by decide +kernel
theorem dX12_ask_26 : decode cX12_ask 26 = .ok (.iaload, 1) := by decide +kernel
theorem dX12_ask_27 : decode cX12_ask 27 = .ok (.iload_n 2, 1) := by decide +kernel
theorem dX12_ask_28 : decode cX12_ask 28 = .ok (.invokevirtual 463, 3) := by decide +kernel
theorem dX12_ask_31 : decode cX12_ask 31 = .ok (.istore_n 3, 1) := by decide +kernel
theorem dX12_ask_32 : decode cX12_ask 32 = .ok (.iload_n 3, 1) := by decide +kernel
theorem dX12_ask_33 : decode cX12_ask 33 = .ok (.ifCond .eq 9, 3) := by decide +kernel
theorem dX12_ask_36 : decode cX12_ask 36 = .ok (.aload_n 0, 1) := by decide +kernel
theorem dX12_ask_37 : decode cX12_ask 37 = .ok (.iload_n 3, 1) := by decide +kernel
theorem dX12_ask_38 : decode cX12_ask 38 = .ok (.invokevirtual 308, 3) := by decide +kernel
theorem dX12_ask_41 : decode cX12_ask 41 = .ok (.ireturn, 1) := by decide +kernel
theorem dX12_ask_42 : decode cX12_ask 42 = .ok (.aload_n 0, 1) := by decide +kernel
theorem dX12_ask_43 : decode cX12_ask 43 = .ok (.aload_n 0, 1) := by decide +kernel
theorem dX12_ask_44 : decode cX12_ask 44 = .ok (.getfield 457, 3) := by decide +kernel
theorem dX12_ask_47 : decode cX12_ask 47 = .ok (.putfield 466, 3) := by decide +kernel
theorem dX12_ask_50 : decode cX12_ask 50 = .ok (.iconst 1, 1) := by decide +kernel
theorem dX12_ask_51 : decode cX12_ask 51 = .ok (.ireturn, 1) := by decide +kernel
theorem dX12_answer_0 : decode cX12_answer 0 = .ok (.aload_n 0, 1) := by decide +kernel
theorem dX12_answer_1 : decode cX12_answer 1 = .ok (.getfield 466, 3) := by decide +kernel
theorem dX12_answer_4 : decode cX12_answer 4 = .ok (.ireturn, 1) := by decide +kernel
theorem dX12_trace_0 : decode cX12_trace 0 = .ok (.iload_n 1, 1) := by decide +kernel
theorem dX12_trace_1 : decode cX12_trace 1 = .ok (.iconst 0, 1) := by decide +kernel
theorem dX12_trace_2 : decode cX12_trace 2 = .ok (.aload_n 0, 1) := by decide +kernel
theorem dX12_trace_3 : decode cX12_trace 3 = .ok (.getfield 438, 3) := by decide +kernel
theorem dX12_trace_6 : decode cX12_trace 6 = .ok (.iconst 1, 1) := by decide +kernel
theorem dX12_trace_7 : decode cX12_trace 7 = .ok (.isub, 1) := by decide +kernel
theorem dX12_trace_8 : decode cX12_trace 8 = .ok (.invokestatic 322, 3) := by decide +kernel
theorem dX12_trace_11 : decode cX12_trace 11 = .ok (.ifCond .eq 12, 3) := by decide +kernel
theorem dX12_trace_14 : decode cX12_trace 14 = .ok (.aload_n 0, 1) := by decide +kernel
theorem dX12_trace_15 : decode cX12_trace 15 = .ok (.getfield 59, 3) := by decide +kernel
theorem dX12_trace_18 : decode cX12_trace 18 = .ok (.iload_n 1, 1) := by decide +kernel
theorem dX12_trace_19 : decode cX12_trace 19 = .ok (.iaload, 1) := by decide +kernel
theorem dX12_trace_20 : decode cX12_trace 20 = .ok (.goto 4, 3) := by decide +kernel
theorem dX12_trace_23 : decode cX12_trace 23 = .ok (.iconst (-1), 1) := by decide +kernel
theorem dX12_trace_24 : decode cX12_trace 24 = .ok (.ireturn, 1) := by decide +kernel
theorem dX12_newCard_0 : decode cX12_newCard 0 = .ok (.aload_n 0, 1) := by decide +kernel
theorem dX12_newCard_1 : decode cX12_newCard 1 = .ok (.bipush 17, 2) := by decide +kernel
theorem dX12_newCard_3 : decode cX12_newCard 3 = .ok (.iconst 0, 1) := by decide +kernel
theorem dX12_newCard_4 : decode cX12_newCard 4 = .ok (.invokevirtual 312, 3) := by decide +kernel
theorem dX12_newCard_7 : decode cX12_newCard 7 = .ok (.istore_n 1, 1) := by decide +kernel
theorem dX12_newCard_8 : decode cX12_newCard 8 = .ok (.aload_n 0, 1) := by decide +kernel
theorem dX12_newCard_9 : decode cX12_newCard 9 = .ok (.getfield 22, 3) := by decide +kernel
theorem dX12_newCard_12 : decode cX12_newCard 12 = .ok (.iload_n 1, 1) := by decide +kernel
theorem dX12_newCard_13 : decode cX12_newCard 13 = .ok (.aload_n 0, 1) := by decide +kernel
theorem dX12_newCard_14 : decode cX12_newCard 14 = .ok (.getfield 316, 3) := by decide +kernel
theorem dX12_newCard_17 : decode cX12_newCard 17 = .ok (.iastore, 1) := by decide +kernel
theorem dX12_newCard_18 : decode cX12_newCard 18 = .ok (.aload_n 0, 1) := by decide +kernel
theorem dX12_newCard_19 : decode cX12_newCard 19 = .ok (.dup, 1) := by decide +kernel
theorem dX12_newCard_20 : decode cX12_newCard 20 = .ok (.getfield 316, 3) := by decide +kernel
theorem dX12_newCard_23 : decode cX12_newCard 23 = .ok (.bipush 8, 2) := by decide +kernel
theorem dX12_newCard_25 : decode cX12_newCard 25 = .ok (.iadd, 1) := by decide +kernel
theorem dX12_newCard_26 : decode cX12_newCard 26 = .ok (.putfield 316, 3) := by decide +kernel
theorem dX12_newCard_29 : decode cX12_newCard 29 = .ok (.aload_n 0, 1) := by decide +kernel
theorem dX12_newCard_30 : decode cX12_newCard 30 = .ok (.getfield 35, 3) := by decide +kernel
theorem dX12_newCard_33 : decode cX12_newCard 33 = .ok (.iload_n 1, 1) := by decide +kernel
theorem dX12_newCard_34 : decode cX12_newCard 34 = .ok (.aload_n 0, 1) := by decide +kernel
theorem dX12_newCard_35 : decode cX12_newCard 35 = .ok (.getfield 469, 3) := by decide +kernel
theorem dX12_newCard_38 : decode cX12_newCard 38 = .ok (.iastore, 1) := by decide +kernel
theorem dX12_newCard_39 : decode cX12_newCard 39 = .ok (.aload_n 0, 1) := by decide +kernel
theorem dX12_newCard_40 : decode cX12_newCard 40 = .ok (.dup, 1) := by decide +kernel
theorem dX12_newCard_41 : decode cX12_newCard 41 = .ok (.getfield 469, 3) := by decide +kernel
theorem dX12_newCard_44 : decode cX12_newCard 44 = .ok (.iconst 1, 1) := by decide +kernel
theorem dX12_newCard_45 : decode cX12_newCard 45 = .ok (.iadd, 1) := by decide +kernel
theorem dX12_newCard_46 : decode cX12_newCard 46 = .ok (.putfield 469, 3) := by decide +kernel
theorem dX12_newCard_49 : decode cX12_newCard 49 = .ok (.iload_n 1, 1) := by decide +kernel
theorem dX12_newCard_50 : decode cX12_newCard 50 = .ok (.ireturn, 1) := by decide +kernel
theorem dX12_card_0 : decode cX12_card 0 = .ok (.iload_n 1, 1) := by decide +kernel
theorem dX12_card_1 : decode cX12_card 1 = .ok (.invokestatic 345, 3) := by decide +kernel
theorem dX12_card_4 : decode cX12_card 4 = .ok (.ifCond .ne 6, 3) := by decide +kernel
theorem dX12_card_7 : decode cX12_card 7 = .ok (.bipush (-2), 2) := by decide +kernel
theorem dX12_card_9 : decode cX12_card 9 = .ok (.ireturn, 1) := by decide +kernel
theorem dX12_card_10 : decode cX12_card 10 = .ok (.aload_n 0, 1) := by decide +kernel
theorem dX12_card_11 : decode cX12_card 11 = .ok (.invokevirtual 349, 3) := by decide +kernel
theorem dX12_card_14 : decode cX12_card 14 = .ok (.ifCond .eq 6, 3) := by decide +kernel
theorem dX12_card_17 : decode cX12_card 17 = .ok (.bipush (-4), 2) := by decide +kernel
theorem dX12_card_19 : decode cX12_card 19 = .ok (.ireturn, 1) := by decide +kernel
theorem dX12_card_20 : decode cX12_card 20 = .ok (.aload_n 0, 1) := by decide +kernel
theorem dX12_card_21 : decode cX12_card 21 = .ok (.getfield 9, 3) := by decide +kernel
theorem dX12_card_24 : decode cX12_card 24 = .ok (.iload_n 1, 1) := by decide +kernel
theorem dX12_card_25 : decode cX12_card 25 = .ok (.aload_n 0, 1) := by decide +kernel
theorem dX12_card_26 : decode cX12_card 26 = .ok (.invokevirtual 412, 3) := by decide +kernel
theorem dX12_card_29 : decode cX12_card 29 = .ok (.iastore, 1) := by decide +kernel
theorem dX12_card_30 : decode cX12_card 30 = .ok (.aload_n 0, 1) := by decide +kernel
theorem dX12_card_31 : decode cX12_card 31 = .ok (.getfield 35, 3) := by decide +kernel
theorem dX12_card_34 : decode cX12_card 34 = .ok (.aload_n 0, 1) := by decide +kernel
theorem dX12_card_35 : decode cX12_card 35 = .ok (.getfield 9, 3) := by decide +kernel
theorem dX12_card_38 : decode cX12_card 38 = .ok (.iload_n 1, 1) := by decide +kernel
theorem dX12_card_39 : decode cX12_card 39 = .ok (.iaload, 1) := by decide +kernel
theorem dX12_card_40 : decode cX12_card 40 = .ok (.iaload, 1) := by decide +kernel
theorem dX12_card_41 : decode cX12_card 41 = .ok (.ireturn, 1) := by decide +kernel
theorem dX12_againstCard_0 : decode cX12_againstCard 0 = .ok (.aload_n 0, 1) := by decide +kernel
theorem dX12_againstCard_1 : decode cX12_againstCard 1 = .ok (.iload_n 1, 1) := by decide +kernel
theorem dX12_againstCard_2 : decode cX12_againstCard 2 = .ok (.bipush 17, 2) := by decide +kernel
theorem dX12_againstCard_4 : decode cX12_againstCard 4 = .ok (.invokevirtual 363, 3) := by decide +kernel
theorem dX12_againstCard_7 : decode cX12_againstCard 7 = .ok (.ifCond .ne 7, 3) := by decide +kernel
theorem dX12_againstCard_10 : decode cX12_againstCard 10 = .ok (.iconst 4, 1) := by decide +kernel
theorem dX12_againstCard_11 : decode cX12_againstCard 11 = .ok (.goto 12, 3) := by decide +kernel
theorem dX12_againstCard_14 : decode cX12_againstCard 14 = .ok (.iload_n 1, 1) := by decide +kernel
theorem dX12_againstCard_15 : decode cX12_againstCard 15 = .ok (.ifCond .ne 7, 3) := by decide +kernel
theorem dX12_againstCard_18 : decode cX12_againstCard 18 = .ok (.iconst 1, 1) := by decide +kernel
theorem dX12_againstCard_19 : decode cX12_againstCard 19 = .ok (.goto 4, 3) := by decide +kernel
theorem dX12_againstCard_22 : decode cX12_againstCard 22 = .ok (.iconst 0, 1) := by decide +kernel
theorem dX12_againstCard_23 : decode cX12_againstCard 23 = .ok (.ireturn, 1) := by decide +kernel
theorem dX12_field_0 : decode cX12_field 0 = .ok (.iload_n 1, 1) := by decide +kernel
theorem dX12_field_1 : decode cX12_field 1 = .ok (.invokestatic 345, 3) := by decide +kernel
theorem dX12_field_4 : decode cX12_field 4 = .ok (.ifCond .eq 13, 3) := by decide +kernel
theorem dX12_field_7 : decode cX12_field 7 = .ok (.iload_n 2, 1) := by decide +kernel
theorem dX12_field_8 : decode cX12_field 8 = .ok (.iconst 0, 1) := by decide +kernel
theorem dX12_field_9 : decode cX12_field 9 = .ok (.bipush 7, 2) := by decide +kernel
theorem dX12_field_11 : decode cX12_field 11 = .ok (.invokestatic 322, 3) := by decide +kernel
theorem dX12_field_14 : decode cX12_field 14 = .ok (.ifCond .ne 5, 3) := by decide +kernel
theorem dX12_field_17 : decode cX12_field 17 = .ok (.lconst 0, 1) := by decide +kernel
theorem dX12_field_18 : decode cX12_field 18 = .ok (.lreturn, 1) := by decide +kernel
theorem dX12_field_19 : decode cX12_field 19 = .ok (.aload_n 0, 1) := by decide +kernel
theorem dX12_field_20 : decode cX12_field 20 = .ok (.aload_n 0, 1) := by decide +kernel
theorem dX12_field_21 : decode cX12_field 21 = .ok (.getfield 9, 3) := by decide +kernel
theorem dX12_field_24 : decode cX12_field 24 = .ok (.iload_n 1, 1) := by decide +kernel
theorem dX12_field_25 : decode cX12_field 25 = .ok (.iaload, 1) := by decide +kernel
theorem dX12_field_26 : decode cX12_field 26 = .ok (.invokevirtual 472, 3) := by decide +kernel
theorem dX12_field_29 : decode cX12_field 29 = .ok (.istore_n 3, 1) := by decide +kernel
theorem dX12_field_30 : decode cX12_field 30 = .ok (.iload_n 3, 1) := by decide +kernel
theorem dX12_field_31 : decode cX12_field 31 = .ok (.ifCond .eq 11, 3) := by decide +kernel
theorem dX12_field_34 : decode cX12_field 34 = .ok (.aload_n 0, 1) := by decide +kernel
theorem dX12_field_35 : decode cX12_field 35 = .ok (.iload_n 3, 1) := by decide +kernel
theorem dX12_field_36 : decode cX12_field 36 = .ok (.invokevirtual 373, 3) := by decide +kernel
theorem dX12_field_39 : decode cX12_field 39 = .ok (.goto 21, 3) := by decide +kernel
theorem dX12_field_42 : decode cX12_field 42 = .ok (.aload_n 0, 1) := by decide +kernel
theorem dX12_field_43 : decode cX12_field 43 = .ok (.getfield 26, 3) := by decide +kernel
theorem dX12_field_46 : decode cX12_field 46 = .ok (.aload_n 0, 1) := by decide +kernel
theorem dX12_field_47 : decode cX12_field 47 = .ok (.getfield 22, 3) := by decide +kernel
theorem dX12_field_50 : decode cX12_field 50 = .ok (.aload_n 0, 1) := by decide +kernel
theorem dX12_field_51 : decode cX12_field 51 = .ok (.getfield 9, 3) := by decide +kernel
theorem dX12_field_54 : decode cX12_field 54 = .ok (.iload_n 1, 1) := by decide +kernel
theorem dX12_field_55 : decode cX12_field 55 = .ok (.iaload, 1) := by decide +kernel
theorem dX12_field_56 : decode cX12_field 56 = .ok (.iaload, 1) := by decide +kernel
theorem dX12_field_57 : decode cX12_field 57 = .ok (.iload_n 2, 1) := by decide +kernel
theorem dX12_field_58 : decode cX12_field 58 = .ok (.iadd, 1) := by decide +kernel
theorem dX12_field_59 : decode cX12_field 59 = .ok (.laload, 1) := by decide +kernel
theorem dX12_field_60 : decode cX12_field 60 = .ok (.lreturn, 1) := by decide +kernel
theorem dX12_setField_0 : decode cX12_setField 0 = .ok (.iload_n 1, 1) := by decide +kernel
theorem dX12_setField_1 : decode cX12_setField 1 = .ok (.invokestatic 345, 3) := by decide +kernel
theorem dX12_setField_4 : decode cX12_setField 4 = .ok (.ifCond .eq 13, 3) := by decide +kernel
theorem dX12_setField_7 : decode cX12_setField 7 = .ok (.iload_n 2, 1) := by decide +kernel
theorem dX12_setField_8 : decode cX12_setField 8 = .ok (.iconst 0, 1) := by decide +kernel
theorem dX12_setField_9 : decode cX12_setField 9 = .ok (.bipush 7, 2) := by decide +kernel
theorem dX12_setField_11 : decode cX12_setField 11 = .ok (.invokestatic 322, 3) := by decide +kernel
theorem dX12_setField_14 : decode cX12_setField 14 = .ok (.ifCond .ne 6, 3) := by decide +kernel
theorem dX12_setField_17 : decode cX12_setField 17 = .ok (.bipush (-2), 2) := by decide +kernel
theorem dX12_setField_19 : decode cX12_setField 19 = .ok (.ireturn, 1) := by decide +kernel
theorem dX12_setField_20 : decode cX12_setField 20 = .ok (.aload_n 0, 1) := by decide +kernel
theorem dX12_setField_21 : decode cX12_setField 21 = .ok (.aload_n 0, 1) := by decide +kernel
theorem dX12_setField_22 : decode cX12_setField 22 = .ok (.getfield 9, 3) := by decide +kernel
theorem dX12_setField_25 : decode cX12_setField 25 = .ok (.iload_n 1, 1) := by decide +kernel
theorem dX12_setField_26 : decode cX12_setField 26 = .ok (.iaload, 1) := by decide +kernel
theorem dX12_setField_27 : decode cX12_setField 27 = .ok (.invokevirtual 472, 3) := by decide +kernel
theorem dX12_setField_30 : decode cX12_setField 30 = .ok (.istore 5, 2) := by decide +kernel
theorem dX12_setField_32 : decode cX12_setField 32 = .ok (.iload 5, 2) := by decide +kernel
theorem dX12_setField_34 : decode cX12_setField 34 = .ok (.ifCond .eq 10, 3) := by decide +kernel
theorem dX12_setField_37 : decode cX12_setField 37 = .ok (.aload_n 0, 1) := by decide +kernel
theorem dX12_setField_38 : decode cX12_setField 38 = .ok (.iload 5, 2) := by decide +kernel
theorem dX12_setField_40 : decode cX12_setField 40 = .ok (.invokevirtual 308, 3) := by decide +kernel
theorem dX12_setField_43 : decode cX12_setField 43 = .ok (.ireturn, 1) := by decide +kernel
theorem dX12_setField_44 : decode cX12_setField 44 = .ok (.aload_n 0, 1) := by decide +kernel
theorem dX12_setField_45 : decode cX12_setField 45 = .ok (.getfield 26, 3) := by decide +kernel
theorem dX12_setField_48 : decode cX12_setField 48 = .ok (.aload_n 0, 1) := by decide +kernel
theorem dX12_setField_49 : decode cX12_setField 49 = .ok (.getfield 22, 3) := by decide +kernel
theorem dX12_setField_52 : decode cX12_setField 52 = .ok (.aload_n 0, 1) := by decide +kernel
theorem dX12_setField_53 : decode cX12_setField 53 = .ok (.getfield 9, 3) := by decide +kernel
theorem dX12_setField_56 : decode cX12_setField 56 = .ok (.iload_n 1, 1) := by decide +kernel
theorem dX12_setField_57 : decode cX12_setField 57 = .ok (.iaload, 1) := by decide +kernel
theorem dX12_setField_58 : decode cX12_setField 58 = .ok (.iaload, 1) := by decide +kernel
theorem dX12_setField_59 : decode cX12_setField 59 = .ok (.iload_n 2, 1) := by decide +kernel
theorem dX12_setField_60 : decode cX12_setField 60 = .ok (.iadd, 1) := by decide +kernel
theorem dX12_setField_61 : decode cX12_setField 61 = .ok (.iload_n 2, 1) := by decide +kernel
theorem dX12_setField_62 : decode cX12_setField 62 = .ok (.lload_n 3, 1) := by decide +kernel
theorem dX12_setField_63 : decode cX12_setField 63 = .ok (.invokestatic 377, 3) := by decide +kernel
theorem dX12_setField_66 : decode cX12_setField 66 = .ok (.lastore, 1) := by decide +kernel
theorem dX12_setField_67 : decode cX12_setField 67 = .ok (.iconst 1, 1) := by decide +kernel
theorem dX12_setField_68 : decode cX12_setField 68 = .ok (.ireturn, 1) := by decide +kernel
theorem dX12_lead_0 : decode cX12_lead 0 = .ok (.iload_n 1, 1) := by decide +kernel
theorem dX12_lead_1 : decode cX12_lead 1 = .ok (.invokestatic 345, 3) := by decide +kernel
theorem dX12_lead_4 : decode cX12_lead 4 = .ok (.ifCond .eq 19, 3) := by decide +kernel
theorem dX12_lead_7 : decode cX12_lead 7 = .ok (.iload_n 2, 1) := by decide +kernel
theorem dX12_lead_8 : decode cX12_lead 8 = .ok (.iconst 0, 1) := by decide +kernel
theorem dX12_lead_9 : decode cX12_lead 9 = .ok (.iconst 1, 1) := by decide +kernel
theorem dX12_lead_10 : decode cX12_lead 10 = .ok (.invokestatic 322, 3) := by decide +kernel
theorem dX12_lead_13 : decode cX12_lead 13 = .ok (.ifCond .eq 10, 3) := by decide +kernel
theorem dX12_lead_16 : decode cX12_lead 16 = .ok (.iload_n 3, 1) := by decide +kernel
theorem dX12_lead_17 : decode cX12_lead 17 = .ok (.invokestatic 345, 3) := by decide +kernel
theorem dX12_lead_20 : decode cX12_lead 20 = .ok (.ifCond .ne 6, 3) := by decide +kernel
theorem dX12_lead_23 : decode cX12_lead 23 = .ok (.bipush (-2), 2) := by decide +kernel
theorem dX12_lead_25 : decode cX12_lead 25 = .ok (.ireturn, 1) := by decide +kernel
theorem dX12_lead_26 : decode cX12_lead 26 = .ok (.aload_n 0, 1) := by decide +kernel
theorem dX12_lead_27 : decode cX12_lead 27 = .ok (.getfield 9, 3) := by decide +kernel
theorem dX12_lead_30 : decode cX12_lead 30 = .ok (.iload_n 1, 1) := by decide +kernel
theorem dX12_lead_31 : decode cX12_lead 31 = .ok (.iaload, 1) := by decide +kernel
theorem dX12_lead_32 : decode cX12_lead 32 = .ok (.istore 4, 2) := by decide +kernel
theorem dX12_lead_34 : decode cX12_lead 34 = .ok (.aload_n 0, 1) := by decide +kernel
theorem dX12_lead_35 : decode cX12_lead 35 = .ok (.iload 4, 2) := by decide +kernel
theorem dX12_lead_37 : decode cX12_lead 37 = .ok (.bipush 17, 2) := by decide +kernel
theorem dX12_lead_39 : decode cX12_lead 39 = .ok (.invokevirtual 363, 3) := by decide +kernel
theorem dX12_lead_42 : decode cX12_lead 42 = .ok (.ifCond .eq 27, 3) := by decide +kernel
theorem dX12_lead_45 : decode cX12_lead 45 = .ok (.aload_n 0, 1) := by decide +kernel
theorem dX12_lead_46 : decode cX12_lead 46 = .ok (.aload_n 0, 1) := by decide +kernel
theorem dX12_lead_47 : decode cX12_lead 47 = .ok (.getfield 9, 3) := by decide +kernel
theorem dX12_lead_50 : decode cX12_lead 50 = .ok (.iload_n 3, 1) := by decide +kernel
theorem dX12_lead_51 : decode cX12_lead 51 = .ok (.iaload, 1) := by decide +kernel
theorem dX12_lead_52 : decode cX12_lead 52 = .ok (.iload_n 2, 1) := by decide +kernel
theorem dX12_lead_53 : decode cX12_lead 53 = .ok (.ifCond .ne 8, 3) := by decide +kernel
theorem dX12_lead_56 : decode cX12_lead 56 = .ok (.bipush 17, 2) := by decide +kernel
theorem dX12_lead_58 : decode cX12_lead 58 = .ok (.goto 5, 3) := by decide +kernel
theorem dX12_lead_61 : decode cX12_lead 61 = .ok (.bipush 16, 2) := by decide +kernel
theorem dX12_lead_63 : decode cX12_lead 63 = .ok (.invokevirtual 363, 3) := by decide +kernel
theorem dX12_lead_66 : decode cX12_lead 66 = .ok (.ifCond .ne 7, 3) := by decide +kernel
theorem dX12_lead_69 : decode cX12_lead 69 = .ok (.iconst 4, 1) := by decide +kernel
theorem dX12_lead_70 : decode cX12_lead 70 = .ok (.goto 13, 3) := by decide +kernel
theorem dX12_lead_73 : decode cX12_lead 73 = .ok (.iload 4, 2) := by decide +kernel
theorem dX12_lead_75 : decode cX12_lead 75 = .ok (.ifCond .ne 7, 3) := by decide +kernel
theorem dX12_lead_78 : decode cX12_lead 78 = .ok (.iconst 1, 1) := by decide +kernel
theorem dX12_lead_79 : decode cX12_lead 79 = .ok (.goto 4, 3) := by decide +kernel
theorem dX12_lead_82 : decode cX12_lead 82 = .ok (.iconst 0, 1) := by decide +kernel
theorem dX12_lead_83 : decode cX12_lead 83 = .ok (.istore 5, 2) := by decide +kernel
theorem dX12_lead_85 : decode cX12_lead 85 = .ok (.iload 5, 2) := by decide +kernel
theorem dX12_lead_87 : decode cX12_lead 87 = .ok (.ifCond .eq 10, 3) := by decide +kernel
theorem dX12_lead_90 : decode cX12_lead 90 = .ok (.aload_n 0, 1) := by decide +kernel
theorem dX12_lead_91 : decode cX12_lead 91 = .ok (.iload 5, 2) := by decide +kernel
theorem dX12_lead_93 : decode cX12_lead 93 = .ok (.invokevirtual 308, 3) := by decide +kernel
theorem dX12_lead_96 : decode cX12_lead 96 = .ok (.ireturn, 1) := by decide +kernel
theorem dX12_lead_97 : decode cX12_lead 97 = .ok (.iload_n 2, 1) := by decide +kernel
theorem dX12_lead_98 : decode cX12_lead 98 = .ok (.ifCond .ne 20, 3) := by decide +kernel
theorem dX12_lead_101 : decode cX12_lead 101 = .ok (.aload_n 0, 1) := by decide +kernel
theorem dX12_lead_102 : decode cX12_lead 102 = .ok (.getfield 47, 3) := by decide +kernel
theorem dX12_lead_105 : decode cX12_lead 105 = .ok (.iload 4, 2) := by decide +kernel
theorem dX12_lead_107 : decode cX12_lead 107 = .ok (.aload_n 0, 1) := by decide +kernel
theorem dX12_lead_108 : decode cX12_lead 108 = .ok (.getfield 9, 3) := by decide +kernel
theorem dX12_lead_111 : decode cX12_lead 111 = .ok (.iload_n 3, 1) := by decide +kernel
theorem dX12_lead_112 : decode cX12_lead 112 = .ok (.iaload, 1) := by decide +kernel
theorem dX12_lead_113 : decode cX12_lead 113 = .ok (.i2s, 1) := by decide +kernel
theorem dX12_lead_114 : decode cX12_lead 114 = .ok (.sastore, 1) := by decide +kernel
theorem dX12_lead_115 : decode cX12_lead 115 = .ok (.goto 17, 3) := by decide +kernel
theorem dX12_lead_118 : decode cX12_lead 118 = .ok (.aload_n 0, 1) := by decide +kernel
theorem dX12_lead_119 : decode cX12_lead 119 = .ok (.getfield 50, 3) := by decide +kernel
theorem dX12_lead_122 : decode cX12_lead 122 = .ok (.iload 4, 2) := by decide +kernel
theorem dX12_lead_124 : decode cX12_lead 124 = .ok (.aload_n 0, 1) := by decide +kernel
theorem dX12_lead_125 : decode cX12_lead 125 = .ok (.getfield 9, 3) := by decide +kernel
theorem dX12_lead_128 : decode cX12_lead 128 = .ok (.iload_n 3, 1) := by decide +kernel
theorem dX12_lead_129 : decode cX12_lead 129 = .ok (.iaload, 1) := by decide +kernel
theorem dX12_lead_130 : decode cX12_lead 130 = .ok (.i2s, 1) := by decide +kernel
theorem dX12_lead_131 : decode cX12_lead 131 = .ok (.sastore, 1) := by decide +kernel
theorem dX12_lead_132 : decode cX12_lead 132 = .ok (.iconst 1, 1) := by decide +kernel
theorem dX12_lead_133 : decode cX12_lead 133 = .ok (.ireturn, 1) := by decide +kernel
theorem dX12_follow_0 : decode cX12_follow 0 = .ok (.iload_n 1, 1) := by decide +kernel
theorem dX12_follow_1 : decode cX12_follow 1 = .ok (.invokestatic 345, 3) := by decide +kernel
theorem dX12_follow_4 : decode cX12_follow 4 = .ok (.ifCond .eq 19, 3) := by decide +kernel
theorem dX12_follow_7 : decode cX12_follow 7 = .ok (.iload_n 2, 1) := by decide +kernel
theorem dX12_follow_8 : decode cX12_follow 8 = .ok (.invokestatic 345, 3) := by decide +kernel
theorem dX12_follow_11 : decode cX12_follow 11 = .ok (.ifCond .eq 12, 3) := by decide +kernel
theorem dX12_follow_14 : decode cX12_follow 14 = .ok (.iload_n 3, 1) := by decide +kernel
theorem dX12_follow_15 : decode cX12_follow 15 = .ok (.iconst 0, 1) := by decide +kernel
theorem dX12_follow_16 : decode cX12_follow 16 = .ok (.iconst 1, 1) := by decide +kernel
theorem dX12_follow_17 : decode cX12_follow 17 = .ok (.invokestatic 322, 3) := by decide +kernel
theorem dX12_follow_20 : decode cX12_follow 20 = .ok (.ifCond .ne 6, 3) := by decide +kernel
theorem dX12_follow_23 : decode cX12_follow 23 = .ok (.bipush (-2), 2) := by decide +kernel
theorem dX12_follow_25 : decode cX12_follow 25 = .ok (.ireturn, 1) := by decide +kernel
theorem dX12_follow_26 : decode cX12_follow 26 = .ok (.aload_n 0, 1) := by decide +kernel
theorem dX12_follow_27 : decode cX12_follow 27 = .ok (.getfield 9, 3) := by decide +kernel
theorem dX12_follow_30 : decode cX12_follow 30 = .ok (.iload_n 2, 1) := by decide +kernel
theorem dX12_follow_31 : decode cX12_follow 31 = .ok (.iaload, 1) := by decide +kernel
theorem dX12_follow_32 : decode cX12_follow 32 = .ok (.istore 4, 2) := by decide +kernel
theorem dX12_follow_34 : decode cX12_follow 34 = .ok (.aload_n 0, 1) := by decide +kernel
theorem dX12_follow_35 : decode cX12_follow 35 = .ok (.iload 4, 2) := by decide +kernel
theorem dX12_follow_37 : decode cX12_follow 37 = .ok (.invokevirtual 472, 3) := by decide +kernel
theorem dX12_follow_40 : decode cX12_follow 40 = .ok (.istore 5, 2) := by decide +kernel
theorem dX12_follow_42 : decode cX12_follow 42 = .ok (.iload 5, 2) := by decide +kernel
theorem dX12_follow_44 : decode cX12_follow 44 = .ok (.ifCond .eq 10, 3) := by decide +kernel
theorem dX12_follow_47 : decode cX12_follow 47 = .ok (.aload_n 0, 1) := by decide +kernel
theorem dX12_follow_48 : decode cX12_follow 48 = .ok (.iload 5, 2) := by decide +kernel
theorem dX12_follow_50 : decode cX12_follow 50 = .ok (.invokevirtual 308, 3) := by decide +kernel
theorem dX12_follow_53 : decode cX12_follow 53 = .ok (.ireturn, 1) := by decide +kernel
theorem dX12_follow_54 : decode cX12_follow 54 = .ok (.aload_n 0, 1) := by decide +kernel
theorem dX12_follow_55 : decode cX12_follow 55 = .ok (.getfield 9, 3) := by decide +kernel
theorem dX12_follow_58 : decode cX12_follow 58 = .ok (.iload_n 1, 1) := by decide +kernel
theorem dX12_follow_59 : decode cX12_follow 59 = .ok (.iload_n 3, 1) := by decide +kernel
theorem dX12_follow_60 : decode cX12_follow 60 = .ok (.ifCond .ne 13, 3) := by decide +kernel
theorem dX12_follow_63 : decode cX12_follow 63 = .ok (.aload_n 0, 1) := by decide +kernel
theorem dX12_follow_64 : decode cX12_follow 64 = .ok (.getfield 47, 3) := by decide +kernel
theorem dX12_follow_67 : decode cX12_follow 67 = .ok (.iload 4, 2) := by decide +kernel
theorem dX12_follow_69 : decode cX12_follow 69 = .ok (.saload, 1) := by decide +kernel
theorem dX12_follow_70 : decode cX12_follow 70 = .ok (.goto 10, 3) := by decide +kernel
theorem dX12_follow_73 : decode cX12_follow 73 = .ok (.aload_n 0, 1) := by decide +kernel
theorem dX12_follow_74 : decode cX12_follow 74 = .ok (.getfield 50, 3) := by decide +kernel
theorem dX12_follow_77 : decode cX12_follow 77 = .ok (.iload 4, 2) := by decide +kernel
theorem dX12_follow_79 : decode cX12_follow 79 = .ok (.saload, 1) := by decide +kernel
theorem dX12_follow_80 : decode cX12_follow 80 = .ok (.iastore, 1) := by decide +kernel
theorem dX12_follow_81 : decode cX12_follow 81 = .ok (.iconst 1, 1) := by decide +kernel
theorem dX12_follow_82 : decode cX12_follow 82 = .ok (.ireturn, 1) := by decide +kernel
theorem dX12_led_0 : decode cX12_led 0 = .ok (.iload_n 1, 1) := by decide +kernel
theorem dX12_led_1 : decode cX12_led 1 = .ok (.invokestatic 345, 3) := by decide +kernel
theorem dX12_led_4 : decode cX12_led 4 = .ok (.ifCond .eq 12, 3) := by decide +kernel
theorem dX12_led_7 : decode cX12_led 7 = .ok (.iload_n 2, 1) := by decide +kernel
theorem dX12_led_8 : decode cX12_led 8 = .ok (.iconst 0, 1) := by decide +kernel
theorem dX12_led_9 : decode cX12_led 9 = .ok (.iconst 2, 1) := by decide +kernel
theorem dX12_led_10 : decode cX12_led 10 = .ok (.invokestatic 322, 3) := by decide +kernel
theorem dX12_led_13 : decode cX12_led 13 = .ok (.ifCond .ne 6, 3) := by decide +kernel
theorem dX12_led_16 : decode cX12_led 16 = .ok (.bipush (-2), 2) := by decide +kernel
theorem dX12_led_18 : decode cX12_led 18 = .ok (.ireturn, 1) := by decide +kernel
theorem dX12_led_19 : decode cX12_led 19 = .ok (.aload_n 0, 1) := by decide +kernel
theorem dX12_led_20 : decode cX12_led 20 = .ok (.aload_n 0, 1) := by decide +kernel
theorem dX12_led_21 : decode cX12_led 21 = .ok (.getfield 9, 3) := by decide +kernel
theorem dX12_led_24 : decode cX12_led 24 = .ok (.iload_n 1, 1) := by decide +kernel
theorem dX12_led_25 : decode cX12_led 25 = .ok (.iaload, 1) := by decide +kernel
theorem dX12_led_26 : decode cX12_led 26 = .ok (.invokevirtual 472, 3) := by decide +kernel
theorem dX12_led_29 : decode cX12_led 29 = .ok (.istore_n 3, 1) := by decide +kernel
theorem dX12_led_30 : decode cX12_led 30 = .ok (.iload_n 3, 1) := by decide +kernel
theorem dX12_led_31 : decode cX12_led 31 = .ok (.ifCond .eq 9, 3) := by decide +kernel
theorem dX12_led_34 : decode cX12_led 34 = .ok (.aload_n 0, 1) := by decide +kernel
theorem dX12_led_35 : decode cX12_led 35 = .ok (.iload_n 3, 1) := by decide +kernel
theorem dX12_led_36 : decode cX12_led 36 = .ok (.invokevirtual 308, 3) := by decide +kernel
theorem dX12_led_39 : decode cX12_led 39 = .ok (.ireturn, 1) := by decide +kernel
theorem dX12_led_40 : decode cX12_led 40 = .ok (.aload_n 0, 1) := by decide +kernel
theorem dX12_led_41 : decode cX12_led 41 = .ok (.dup, 1) := by decide +kernel
theorem dX12_led_42 : decode cX12_led 42 = .ok (.getfield 475, 3) := by decide +kernel
theorem dX12_led_45 : decode cX12_led 45 = .ok (.iconst 1, 1) := by decide +kernel
theorem dX12_led_46 : decode cX12_led 46 = .ok (.iadd, 1) := by decide +kernel
theorem dX12_led_47 : decode cX12_led 47 = .ok (.putfield 475, 3) := by decide +kernel
theorem dX12_led_50 : decode cX12_led 50 = .ok (.iconst 0, 1) := by decide +kernel
theorem dX12_led_51 : decode cX12_led 51 = .ok (.istore 4, 2) := by decide +kernel
theorem dX12_led_53 : decode cX12_led 53 = .ok (.iconst 0, 1) := by decide +kernel
theorem dX12_led_54 : decode cX12_led 54 = .ok (.istore 5, 2) := by decide +kernel
theorem dX12_led_56 : decode cX12_led 56 = .ok (.aload_n 0, 1) := by decide +kernel
theorem dX12_led_57 : decode cX12_led 57 = .ok (.getfield 9, 3) := by decide +kernel
theorem dX12_led_60 : decode cX12_led 60 = .ok (.iload_n 1, 1) := by decide +kernel
theorem dX12_led_61 : decode cX12_led 61 = .ok (.iaload, 1) := by decide +kernel
theorem dX12_led_62 : decode cX12_led 62 = .ok (.istore 6, 2) := by decide +kernel
theorem dX12_led_64 : decode cX12_led 64 = .ok (.iload 6, 2) := by decide +kernel
theorem dX12_led_66 : decode cX12_led 66 = .ok (.ifCond .eq 47, 3) := by decide +kernel
theorem dX12_led_69 : decode cX12_led 69 = .ok (.aload_n 0, 1) := by decide +kernel
theorem dX12_led_70 : decode cX12_led 70 = .ok (.getfield 71, 3) := by decide +kernel
theorem dX12_led_73 : decode cX12_led 73 = .ok (.iload 6, 2) := by decide +kernel
theorem dX12_led_75 : decode cX12_led 75 = .ok (.iaload, 1) := by decide +kernel
theorem dX12_led_76 : decode cX12_led 76 = .ok (.aload_n 0, 1) := by decide +kernel
theorem dX12_led_77 : decode cX12_led 77 = .ok (.getfield 475, 3) := by decide +kernel
theorem dX12_led_80 : decode cX12_led 80 = .ok (.if_icmp .eq 33, 3) := by decide +kernel
theorem dX12_led_83 : decode cX12_led 83 = .ok (.aload_n 0, 1) := by decide +kernel
theorem dX12_led_84 : decode cX12_led 84 = .ok (.getfield 71, 3) := by decide +kernel
theorem dX12_led_87 : decode cX12_led 87 = .ok (.iload 6, 2) := by decide +kernel
theorem dX12_led_89 : decode cX12_led 89 = .ok (.aload_n 0, 1) := by decide +kernel
theorem dX12_led_90 : decode cX12_led 90 = .ok (.getfield 475, 3) := by decide +kernel
theorem dX12_led_93 : decode cX12_led 93 = .ok (.iastore, 1) := by decide +kernel
theorem dX12_led_94 : decode cX12_led 94 = .ok (.iinc 4 1, 3) := by decide +kernel
theorem dX12_led_97 : decode cX12_led 97 = .ok (.iload 6, 2) := by decide +kernel
theorem dX12_led_99 : decode cX12_led 99 = .ok (.istore 5, 2) := by decide +kernel
theorem dX12_led_101 : decode cX12_led 101 = .ok (.aload_n 0, 1) := by decide +kernel
theorem dX12_led_102 : decode cX12_led 102 = .ok (.getfield 47, 3) := by decide +kernel
theorem dX12_led_105 : decode cX12_led 105 = .ok (.iload 6, 2) := by decide +kernel
theorem dX12_led_107 : decode cX12_led 107 = .ok (.saload, 1) := by decide +kernel
theorem dX12_led_108 : decode cX12_led 108 = .ok (.istore 6, 2) := by decide +kernel
theorem dX12_led_110 : decode cX12_led 110 = .ok (.goto (-46), 3) := by decide +kernel
