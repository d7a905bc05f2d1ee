/-! the law's instructions, 2 -/
theorem dl_482 : decode code 482 = .ok (.invokevirtual 94, 3) := by decide +kernel
theorem dl_485 : decode code 485 = .ok (.iload 5, 2) := by decide +kernel
theorem dl_487 : decode code 487 = .ok (.if_icmp .eq 5, 3) := by decide +kernel
theorem dl_490 : decode code 490 = .ok (.iconst 0, 1) := by decide +kernel
theorem dl_491 : decode code 491 = .ok (.ireturn, 1) := by decide +kernel
theorem dl_492 : decode code 492 = .ok (.iload 5, 2) := by decide +kernel
theorem dl_494 : decode code 494 = .ok (.ifCond .ne 15, 3) := by decide +kernel
theorem dl_497 : decode code 497 = .ok (.aload_n 3, 1) := by decide +kernel
theorem dl_498 : decode code 498 = .ok (.iconst 0, 1) := by decide +kernel
theorem dl_499 : decode code 499 = .ok (.laload, 1) := by decide +kernel
theorem dl_500 : decode code 500 = .ok (.iload 6, 2) := by decide +kernel
theorem dl_502 : decode code 502 = .ok (.i2l, 1) := by decide +kernel
theorem dl_503 : decode code 503 = .ok (.lcmp, 1) := by decide +kernel
theorem dl_504 : decode code 504 = .ok (.ifCond .eq 5, 3) := by decide +kernel
theorem dl_507 : decode code 507 = .ok (.iconst 0, 1) := by decide +kernel
theorem dl_508 : decode code 508 = .ok (.ireturn, 1) := by decide +kernel
theorem dl_509 : decode code 509 = .ok (.goto 705, 3) := by decide +kernel
theorem dl_512 : decode code 512 = .ok (.aload_n 1, 1) := by decide +kernel
theorem dl_513 : decode code 513 = .ok (.invokevirtual 120, 3) := by decide +kernel
theorem dl_516 : decode code 516 = .ok (.aload_n 2, 1) := by decide +kernel
theorem dl_517 : decode code 517 = .ok (.invokevirtual 123, 3) := by decide +kernel
theorem dl_520 : decode code 520 = .ok (.if_icmp .eq 694, 3) := by decide +kernel
theorem dl_523 : decode code 523 = .ok (.iconst 0, 1) := by decide +kernel
theorem dl_524 : decode code 524 = .ok (.ireturn, 1) := by decide +kernel
theorem dl_525 : decode code 525 = .ok (.aload_n 1, 1) := by decide +kernel
theorem dl_526 : decode code 526 = .ok (.aload_n 0, 1) := by decide +kernel
theorem dl_527 : decode code 527 = .ok (.iload 4, 2) := by decide +kernel
theorem dl_529 : decode code 529 = .ok (.iconst 1, 1) := by decide +kernel
theorem dl_530 : decode code 530 = .ok (.iadd, 1) := by decide +kernel
theorem dl_531 : decode code 531 = .ok (.iaload, 1) := by decide +kernel
theorem dl_532 : decode code 532 = .ok (.invokestatic 124, 3) := by decide +kernel
theorem dl_535 : decode code 535 = .ok (.istore 5, 2) := by decide +kernel
theorem dl_537 : decode code 537 = .ok (.aload_n 2, 1) := by decide +kernel
theorem dl_538 : decode code 538 = .ok (.aload_n 0, 1) := by decide +kernel
theorem dl_539 : decode code 539 = .ok (.iload 4, 2) := by decide +kernel
theorem dl_541 : decode code 541 = .ok (.iconst 1, 1) := by decide +kernel
theorem dl_542 : decode code 542 = .ok (.iadd, 1) := by decide +kernel
theorem dl_543 : decode code 543 = .ok (.iaload, 1) := by decide +kernel
theorem dl_544 : decode code 544 = .ok (.invokevirtual 127, 3) := by decide +kernel
theorem dl_547 : decode code 547 = .ok (.aload_n 2, 1) := by decide +kernel
theorem dl_548 : decode code 548 = .ok (.invokevirtual 94, 3) := by decide +kernel
theorem dl_551 : decode code 551 = .ok (.iload 5, 2) := by decide +kernel
theorem dl_553 : decode code 553 = .ok (.if_icmp .eq 5, 3) := by decide +kernel
theorem dl_556 : decode code 556 = .ok (.iconst 0, 1) := by decide +kernel
theorem dl_557 : decode code 557 = .ok (.ireturn, 1) := by decide +kernel
theorem dl_558 : decode code 558 = .ok (.goto 656, 3) := by decide +kernel
theorem dl_561 : decode code 561 = .ok (.aload_n 1, 1) := by decide +kernel
theorem dl_562 : decode code 562 = .ok (.invokestatic 128, 3) := by decide +kernel
theorem dl_565 : decode code 565 = .ok (.istore 5, 2) := by decide +kernel
theorem dl_567 : decode code 567 = .ok (.aload_n 2, 1) := by decide +kernel
theorem dl_568 : decode code 568 = .ok (.invokevirtual 130, 3) := by decide +kernel
theorem dl_571 : decode code 571 = .ok (.aload_n 2, 1) := by decide +kernel
theorem dl_572 : decode code 572 = .ok (.invokevirtual 94, 3) := by decide +kernel
theorem dl_575 : decode code 575 = .ok (.iload 5, 2) := by decide +kernel
theorem dl_577 : decode code 577 = .ok (.if_icmp .eq 5, 3) := by decide +kernel
theorem dl_580 : decode code 580 = .ok (.iconst 0, 1) := by decide +kernel
theorem dl_581 : decode code 581 = .ok (.ireturn, 1) := by decide +kernel
theorem dl_582 : decode code 582 = .ok (.goto 632, 3) := by decide +kernel
theorem dl_585 : decode code 585 = .ok (.aload_n 1, 1) := by decide +kernel
theorem dl_586 : decode code 586 = .ok (.aload_n 0, 1) := by decide +kernel
theorem dl_587 : decode code 587 = .ok (.iload 4, 2) := by decide +kernel
theorem dl_589 : decode code 589 = .ok (.iconst 1, 1) := by decide +kernel
theorem dl_590 : decode code 590 = .ok (.iadd, 1) := by decide +kernel
theorem dl_591 : decode code 591 = .ok (.iaload, 1) := by decide +kernel
theorem dl_592 : decode code 592 = .ok (.aload_n 3, 1) := by decide +kernel
theorem dl_593 : decode code 593 = .ok (.invokestatic 131, 3) := by decide +kernel
theorem dl_596 : decode code 596 = .ok (.istore 5, 2) := by decide +kernel
theorem dl_598 : decode code 598 = .ok (.aload_n 2, 1) := by decide +kernel
theorem dl_599 : decode code 599 = .ok (.aload_n 0, 1) := by decide +kernel
theorem dl_600 : decode code 600 = .ok (.iload 4, 2) := by decide +kernel
theorem dl_602 : decode code 602 = .ok (.iconst 1, 1) := by decide +kernel
theorem dl_603 : decode code 603 = .ok (.iadd, 1) := by decide +kernel
theorem dl_604 : decode code 604 = .ok (.iaload, 1) := by decide +kernel
theorem dl_605 : decode code 605 = .ok (.invokevirtual 133, 3) := by decide +kernel
theorem dl_608 : decode code 608 = .ok (.istore 6, 2) := by decide +kernel
theorem dl_610 : decode code 610 = .ok (.aload_n 2, 1) := by decide +kernel
theorem dl_611 : decode code 611 = .ok (.invokevirtual 94, 3) := by decide +kernel
theorem dl_614 : decode code 614 = .ok (.iload 5, 2) := by decide +kernel
theorem dl_616 : decode code 616 = .ok (.if_icmp .eq 5, 3) := by decide +kernel
theorem dl_619 : decode code 619 = .ok (.iconst 0, 1) := by decide +kernel
theorem dl_620 : decode code 620 = .ok (.ireturn, 1) := by decide +kernel
theorem dl_621 : decode code 621 = .ok (.iload 5, 2) := by decide +kernel
theorem dl_623 : decode code 623 = .ok (.ifCond .ne 15, 3) := by decide +kernel
theorem dl_626 : decode code 626 = .ok (.aload_n 3, 1) := by decide +kernel
theorem dl_627 : decode code 627 = .ok (.iconst 0, 1) := by decide +kernel
theorem dl_628 : decode code 628 = .ok (.laload, 1) := by decide +kernel
theorem dl_629 : decode code 629 = .ok (.iload 6, 2) := by decide +kernel
theorem dl_631 : decode code 631 = .ok (.i2l, 1) := by decide +kernel
theorem dl_632 : decode code 632 = .ok (.lcmp, 1) := by decide +kernel
theorem dl_633 : decode code 633 = .ok (.ifCond .eq 5, 3) := by decide +kernel
theorem dl_636 : decode code 636 = .ok (.iconst 0, 1) := by decide +kernel
theorem dl_637 : decode code 637 = .ok (.ireturn, 1) := by decide +kernel
theorem dl_638 : decode code 638 = .ok (.goto 576, 3) := by decide +kernel
theorem dl_641 : decode code 641 = .ok (.aload_n 1, 1) := by decide +kernel
theorem dl_642 : decode code 642 = .ok (.aload_n 0, 1) := by decide +kernel
theorem dl_643 : decode code 643 = .ok (.iload 4, 2) := by decide +kernel
theorem dl_645 : decode code 645 = .ok (.iconst 1, 1) := by decide +kernel
theorem dl_646 : decode code 646 = .ok (.iadd, 1) := by decide +kernel
theorem dl_647 : decode code 647 = .ok (.iaload, 1) := by decide +kernel
theorem dl_648 : decode code 648 = .ok (.aload_n 3, 1) := by decide +kernel
theorem dl_649 : decode code 649 = .ok (.invokestatic 134, 3) := by decide +kernel
theorem dl_652 : decode code 652 = .ok (.istore 5, 2) := by decide +kernel
theorem dl_654 : decode code 654 = .ok (.aload_n 2, 1) := by decide +kernel
theorem dl_655 : decode code 655 = .ok (.aload_n 0, 1) := by decide +kernel
theorem dl_656 : decode code 656 = .ok (.iload 4, 2) := by decide +kernel
theorem dl_658 : decode code 658 = .ok (.iconst 1, 1) := by decide +kernel
theorem dl_659 : decode code 659 = .ok (.iadd, 1) := by decide +kernel
theorem dl_660 : decode code 660 = .ok (.iaload, 1) := by decide +kernel
theorem dl_661 : decode code 661 = .ok (.invokevirtual 136, 3) := by decide +kernel
theorem dl_664 : decode code 664 = .ok (.istore 6, 2) := by decide +kernel
theorem dl_666 : decode code 666 = .ok (.aload_n 2, 1) := by decide +kernel
theorem dl_667 : decode code 667 = .ok (.invokevirtual 94, 3) := by decide +kernel
theorem dl_670 : decode code 670 = .ok (.iload 5, 2) := by decide +kernel
theorem dl_672 : decode code 672 = .ok (.if_icmp .eq 5, 3) := by decide +kernel
theorem dl_675 : decode code 675 = .ok (.iconst 0, 1) := by decide +kernel
theorem dl_676 : decode code 676 = .ok (.ireturn, 1) := by decide +kernel
theorem dl_677 : decode code 677 = .ok (.iload 5, 2) := by decide +kernel
theorem dl_679 : decode code 679 = .ok (.ifCond .ne 22, 3) := by decide +kernel
theorem dl_682 : decode code 682 = .ok (.aload_n 3, 1) := by decide +kernel
theorem dl_683 : decode code 683 = .ok (.iconst 0, 1) := by decide +kernel
theorem dl_684 : decode code 684 = .ok (.laload, 1) := by decide +kernel
theorem dl_685 : decode code 685 = .ok (.iload 6, 2) := by decide +kernel
theorem dl_687 : decode code 687 = .ok (.ifCond .eq 7, 3) := by decide +kernel
theorem dl_690 : decode code 690 = .ok (.lconst 1, 1) := by decide +kernel
theorem dl_691 : decode code 691 = .ok (.goto 4, 3) := by decide +kernel
theorem dl_694 : decode code 694 = .ok (.lconst 0, 1) := by decide +kernel
theorem dl_695 : decode code 695 = .ok (.lcmp, 1) := by decide +kernel
theorem dl_696 : decode code 696 = .ok (.ifCond .eq 5, 3) := by decide +kernel
theorem dl_699 : decode code 699 = .ok (.iconst 0, 1) := by decide +kernel
theorem dl_700 : decode code 700 = .ok (.ireturn, 1) := by decide +kernel
theorem dl_701 : decode code 701 = .ok (.goto 513, 3) := by decide +kernel
theorem dl_704 : decode code 704 = .ok (.aload_n 1, 1) := by decide +kernel
theorem dl_705 : decode code 705 = .ok (.aload_n 3, 1) := by decide +kernel
theorem dl_706 : decode code 706 = .ok (.invokestatic 137, 3) := by decide +kernel
theorem dl_709 : decode code 709 = .ok (.istore 5, 2) := by decide +kernel
theorem dl_711 : decode code 711 = .ok (.aload_n 2, 1) := by decide +kernel
theorem dl_712 : decode code 712 = .ok (.invokevirtual 140, 3) := by decide +kernel
theorem dl_715 : decode code 715 = .ok (.istore 6, 2) := by decide +kernel
theorem dl_717 : decode code 717 = .ok (.aload_n 2, 1) := by decide +kernel
theorem dl_718 : decode code 718 = .ok (.invokevirtual 94, 3) := by decide +kernel
theorem dl_721 : decode code 721 = .ok (.iload 5, 2) := by decide +kernel
theorem dl_723 : decode code 723 = .ok (.if_icmp .eq 5, 3) := by decide +kernel
theorem dl_726 : decode code 726 = .ok (.iconst 0, 1) := by decide +kernel
theorem dl_727 : decode code 727 = .ok (.ireturn, 1) := by decide +kernel
theorem dl_728 : decode code 728 = .ok (.iload 5, 2) := by decide +kernel
theorem dl_730 : decode code 730 = .ok (.ifCond .ne 15, 3) := by decide +kernel
theorem dl_733 : decode code 733 = .ok (.aload_n 3, 1) := by decide +kernel
theorem dl_734 : decode code 734 = .ok (.iconst 0, 1) := by decide +kernel
theorem dl_735 : decode code 735 = .ok (.laload, 1) := by decide +kernel
theorem dl_736 : decode code 736 = .ok (.iload 6, 2) := by decide +kernel
theorem dl_738 : decode code 738 = .ok (.i2l, 1) := by decide +kernel
theorem dl_739 : decode code 739 = .ok (.lcmp, 1) := by decide +kernel
theorem dl_740 : decode code 740 = .ok (.ifCond .eq 5, 3) := by decide +kernel
theorem dl_743 : decode code 743 = .ok (.iconst 0, 1) := by decide +kernel
theorem dl_744 : decode code 744 = .ok (.ireturn, 1) := by decide +kernel
theorem dl_745 : decode code 745 = .ok (.goto 469, 3) := by decide +kernel
theorem dl_748 : decode code 748 = .ok (.aload_n 1, 1) := by decide +kernel
theorem dl_749 : decode code 749 = .ok (.invokevirtual 141, 3) := by decide +kernel
theorem dl_752 : decode code 752 = .ok (.aload_n 2, 1) := by decide +kernel
theorem dl_753 : decode code 753 = .ok (.invokevirtual 144, 3) := by decide +kernel
theorem dl_756 : decode code 756 = .ok (.if_icmp .eq 458, 3) := by decide +kernel
theorem dl_759 : decode code 759 = .ok (.iconst 0, 1) := by decide +kernel
theorem dl_760 : decode code 760 = .ok (.ireturn, 1) := by decide +kernel
theorem dl_761 : decode code 761 = .ok (.aload_n 1, 1) := by decide +kernel
theorem dl_762 : decode code 762 = .ok (.aload_n 3, 1) := by decide +kernel
theorem dl_763 : decode code 763 = .ok (.invokestatic 145, 3) := by decide +kernel
theorem dl_766 : decode code 766 = .ok (.istore 5, 2) := by decide +kernel
theorem dl_768 : decode code 768 = .ok (.aload_n 2, 1) := by decide +kernel
theorem dl_769 : decode code 769 = .ok (.invokevirtual 147, 3) := by decide +kernel
theorem dl_772 : decode code 772 = .ok (.istore 6, 2) := by decide +kernel
theorem dl_774 : decode code 774 = .ok (.aload_n 2, 1) := by decide +kernel
theorem dl_775 : decode code 775 = .ok (.invokevirtual 94, 3) := by decide +kernel
theorem dl_778 : decode code 778 = .ok (.iload 5, 2) := by decide +kernel
theorem dl_780 : decode code 780 = .ok (.if_icmp .eq 5, 3) := by decide +kernel
theorem dl_783 : decode code 783 = .ok (.iconst 0, 1) := by decide +kernel
theorem dl_784 : decode code 784 = .ok (.ireturn, 1) := by decide +kernel
theorem dl_785 : decode code 785 = .ok (.iload 5, 2) := by decide +kernel
theorem dl_787 : decode code 787 = .ok (.ifCond .ne 22, 3) := by decide +kernel
theorem dl_790 : decode code 790 = .ok (.aload_n 3, 1) := by decide +kernel
theorem dl_791 : decode code 791 = .ok (.iconst 0, 1) := by decide +kernel
theorem dl_792 : decode code 792 = .ok (.laload, 1) := by decide +kernel
theorem dl_793 : decode code 793 = .ok (.iload 6, 2) := by decide +kernel
theorem dl_795 : decode code 795 = .ok (.ifCond .eq 7, 3) := by decide +kernel
theorem dl_798 : decode code 798 = .ok (.lconst 1, 1) := by decide +kernel
theorem dl_799 : decode code 799 = .ok (.goto 4, 3) := by decide +kernel
theorem dl_802 : decode code 802 = .ok (.lconst 0, 1) := by decide +kernel
theorem dl_803 : decode code 803 = .ok (.lcmp, 1) := by decide +kernel
theorem dl_804 : decode code 804 = .ok (.ifCond .eq 5, 3) := by decide +kernel
theorem dl_807 : decode code 807 = .ok (.iconst 0, 1) := by decide +kernel
theorem dl_808 : decode code 808 = .ok (.ireturn, 1) := by decide +kernel
theorem dl_809 : decode code 809 = .ok (.goto 405, 3) := by decide +kernel
theorem dl_812 : decode code 812 = .ok (.aload_n 1, 1) := by decide +kernel
theorem dl_813 : decode code 813 = .ok (.aload_n 0, 1) := by decide +kernel
theorem dl_814 : decode code 814 = .ok (.iload 4, 2) := by decide +kernel
theorem dl_816 : decode code 816 = .ok (.iconst 1, 1) := by decide +kernel
theorem dl_817 : decode code 817 = .ok (.iadd, 1) := by decide +kernel
theorem dl_818 : decode code 818 = .ok (.iaload, 1) := by decide +kernel
theorem dl_819 : decode code 819 = .ok (.aload_n 0, 1) := by decide +kernel
theorem dl_820 : decode code 820 = .ok (.iload 4, 2) := by decide +kernel
theorem dl_822 : decode code 822 = .ok (.iconst 2, 1) := by decide +kernel
theorem dl_823 : decode code 823 = .ok (.iadd, 1) := by decide +kernel
theorem dl_824 : decode code 824 = .ok (.iaload, 1) := by decide +kernel
theorem dl_825 : decode code 825 = .ok (.invokestatic 148, 3) := by decide +kernel
theorem dl_828 : decode code 828 = .ok (.istore 5, 2) := by decide +kernel
theorem dl_830 : decode code 830 = .ok (.aload_n 2, 1) := by decide +kernel
theorem dl_831 : decode code 831 = .ok (.aload_n 0, 1) := by decide +kernel
theorem dl_832 : decode code 832 = .ok (.iload 4, 2) := by decide +kernel
theorem dl_834 : decode code 834 = .ok (.iconst 1, 1) := by decide +kernel
theorem dl_835 : decode code 835 = .ok (.iadd, 1) := by decide +kernel
theorem dl_836 : decode code 836 = .ok (.iaload, 1) := by decide +kernel
theorem dl_837 : decode code 837 = .ok (.aload_n 0, 1) := by decide +kernel
theorem dl_838 : decode code 838 = .ok (.iload 4, 2) := by decide +kernel
theorem dl_840 : decode code 840 = .ok (.iconst 2, 1) := by decide +kernel
theorem dl_841 : decode code 841 = .ok (.iadd, 1) := by decide +kernel
theorem dl_842 : decode code 842 = .ok (.iaload, 1) := by decide +kernel
theorem dl_843 : decode code 843 = .ok (.invokevirtual 151, 3) := by decide +kernel
theorem dl_846 : decode code 846 = .ok (.aload_n 2, 1) := by decide +kernel
theorem dl_847 : decode code 847 = .ok (.invokevirtual 94, 3) := by decide +kernel
theorem dl_850 : decode code 850 = .ok (.iload 5, 2) := by decide +kernel
theorem dl_852 : decode code 852 = .ok (.if_icmp .eq 5, 3) := by decide +kernel
theorem dl_855 : decode code 855 = .ok (.iconst 0, 1) := by decide +kernel
theorem dl_856 : decode code 856 = .ok (.ireturn, 1) := by decide +kernel
theorem dl_857 : decode code 857 = .ok (.goto 357, 3) := by decide +kernel
theorem dl_860 : decode code 860 = .ok (.aload_n 1, 1) := by decide +kernel
theorem dl_861 : decode code 861 = .ok (.aload_n 0, 1) := by decide +kernel
theorem dl_862 : decode code 862 = .ok (.iload 4, 2) := by decide +kernel
theorem dl_864 : decode code 864 = .ok (.iconst 1, 1) := by decide +kernel
theorem dl_865 : decode code 865 = .ok (.iadd, 1) := by decide +kernel
theorem dl_866 : decode code 866 = .ok (.iaload, 1) := by decide +kernel
