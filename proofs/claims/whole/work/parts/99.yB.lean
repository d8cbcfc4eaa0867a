theorem dL_446 : decode YL.2.1 446 = .ok (.iadd, 1) := by decide +kernel
theorem dL_447 : decode YL.2.1 447 = .ok (.iaload, 1) := by decide +kernel
theorem dL_448 : decode YL.2.1 448 = .ok (.invokevirtual 45, 3) := by decide +kernel
theorem dL_451 : decode YL.2.1 451 = .ok (.aload_n 2, 1) := by decide +kernel
theorem dL_452 : decode YL.2.1 452 = .ok (.aload_n 0, 1) := by decide +kernel
theorem dL_453 : decode YL.2.1 453 = .ok (.iload_n 3, 1) := by decide +kernel
theorem dL_454 : decode YL.2.1 454 = .ok (.iconst 1, 1) := by decide +kernel
theorem dL_455 : decode YL.2.1 455 = .ok (.iadd, 1) := by decide +kernel
theorem dL_456 : decode YL.2.1 456 = .ok (.iaload, 1) := by decide +kernel
theorem dL_457 : decode YL.2.1 457 = .ok (.aload_n 0, 1) := by decide +kernel
theorem dL_458 : decode YL.2.1 458 = .ok (.iload_n 3, 1) := by decide +kernel
theorem dL_459 : decode YL.2.1 459 = .ok (.iconst 2, 1) := by decide +kernel
theorem dL_460 : decode YL.2.1 460 = .ok (.iadd, 1) := by decide +kernel
theorem dL_461 : decode YL.2.1 461 = .ok (.iaload, 1) := by decide +kernel
theorem dL_462 : decode YL.2.1 462 = .ok (.invokevirtual 48, 3) := by decide +kernel
theorem dL_465 : decode YL.2.1 465 = .ok (.if_icmp .eq 1161, 3) := by decide +kernel
theorem dL_468 : decode YL.2.1 468 = .ok (.iconst 0, 1) := by decide +kernel
theorem dL_469 : decode YL.2.1 469 = .ok (.ireturn, 1) := by decide +kernel
theorem dL_470 : decode YL.2.1 470 = .ok (.aload_n 1, 1) := by decide +kernel
theorem dL_471 : decode YL.2.1 471 = .ok (.aload_n 0, 1) := by decide +kernel
theorem dL_472 : decode YL.2.1 472 = .ok (.iload_n 3, 1) := by decide +kernel
theorem dL_473 : decode YL.2.1 473 = .ok (.iconst 1, 1) := by decide +kernel
theorem dL_474 : decode YL.2.1 474 = .ok (.iadd, 1) := by decide +kernel
theorem dL_475 : decode YL.2.1 475 = .ok (.iaload, 1) := by decide +kernel
theorem dL_476 : decode YL.2.1 476 = .ok (.aload_n 0, 1) := by decide +kernel
theorem dL_477 : decode YL.2.1 477 = .ok (.iload_n 3, 1) := by decide +kernel
theorem dL_478 : decode YL.2.1 478 = .ok (.iconst 2, 1) := by decide +kernel
theorem dL_479 : decode YL.2.1 479 = .ok (.iadd, 1) := by decide +kernel
theorem dL_480 : decode YL.2.1 480 = .ok (.iaload, 1) := by decide +kernel
theorem dL_481 : decode YL.2.1 481 = .ok (.aload_n 0, 1) := by decide +kernel
theorem dL_482 : decode YL.2.1 482 = .ok (.iload_n 3, 1) := by decide +kernel
theorem dL_483 : decode YL.2.1 483 = .ok (.iconst 3, 1) := by decide +kernel
theorem dL_484 : decode YL.2.1 484 = .ok (.iadd, 1) := by decide +kernel
theorem dL_485 : decode YL.2.1 485 = .ok (.iaload, 1) := by decide +kernel
theorem dL_486 : decode YL.2.1 486 = .ok (.aload_n 0, 1) := by decide +kernel
theorem dL_487 : decode YL.2.1 487 = .ok (.iload_n 3, 1) := by decide +kernel
theorem dL_488 : decode YL.2.1 488 = .ok (.iconst 4, 1) := by decide +kernel
theorem dL_489 : decode YL.2.1 489 = .ok (.iadd, 1) := by decide +kernel
theorem dL_490 : decode YL.2.1 490 = .ok (.iaload, 1) := by decide +kernel
theorem dL_491 : decode YL.2.1 491 = .ok (.invokevirtual 49, 3) := by decide +kernel
theorem dL_494 : decode YL.2.1 494 = .ok (.aload_n 2, 1) := by decide +kernel
theorem dL_495 : decode YL.2.1 495 = .ok (.aload_n 0, 1) := by decide +kernel
theorem dL_496 : decode YL.2.1 496 = .ok (.iload_n 3, 1) := by decide +kernel
theorem dL_497 : decode YL.2.1 497 = .ok (.iconst 1, 1) := by decide +kernel
theorem dL_498 : decode YL.2.1 498 = .ok (.iadd, 1) := by decide +kernel
theorem dL_499 : decode YL.2.1 499 = .ok (.iaload, 1) := by decide +kernel
theorem dL_500 : decode YL.2.1 500 = .ok (.aload_n 0, 1) := by decide +kernel
theorem dL_501 : decode YL.2.1 501 = .ok (.iload_n 3, 1) := by decide +kernel
theorem dL_502 : decode YL.2.1 502 = .ok (.iconst 2, 1) := by decide +kernel
theorem dL_503 : decode YL.2.1 503 = .ok (.iadd, 1) := by decide +kernel
theorem dL_504 : decode YL.2.1 504 = .ok (.iaload, 1) := by decide +kernel
theorem dL_505 : decode YL.2.1 505 = .ok (.aload_n 0, 1) := by decide +kernel
theorem dL_506 : decode YL.2.1 506 = .ok (.iload_n 3, 1) := by decide +kernel
theorem dL_507 : decode YL.2.1 507 = .ok (.iconst 3, 1) := by decide +kernel
theorem dL_508 : decode YL.2.1 508 = .ok (.iadd, 1) := by decide +kernel
theorem dL_509 : decode YL.2.1 509 = .ok (.iaload, 1) := by decide +kernel
theorem dL_510 : decode YL.2.1 510 = .ok (.aload_n 0, 1) := by decide +kernel
theorem dL_511 : decode YL.2.1 511 = .ok (.iload_n 3, 1) := by decide +kernel
theorem dL_512 : decode YL.2.1 512 = .ok (.iconst 4, 1) := by decide +kernel
theorem dL_513 : decode YL.2.1 513 = .ok (.iadd, 1) := by decide +kernel
theorem dL_514 : decode YL.2.1 514 = .ok (.iaload, 1) := by decide +kernel
theorem dL_515 : decode YL.2.1 515 = .ok (.invokevirtual 53, 3) := by decide +kernel
theorem dL_518 : decode YL.2.1 518 = .ok (.if_icmp .eq 1108, 3) := by decide +kernel
theorem dL_521 : decode YL.2.1 521 = .ok (.iconst 0, 1) := by decide +kernel
theorem dL_522 : decode YL.2.1 522 = .ok (.ireturn, 1) := by decide +kernel
theorem dL_523 : decode YL.2.1 523 = .ok (.aload_n 1, 1) := by decide +kernel
theorem dL_524 : decode YL.2.1 524 = .ok (.aload_n 0, 1) := by decide +kernel
theorem dL_525 : decode YL.2.1 525 = .ok (.iload_n 3, 1) := by decide +kernel
theorem dL_526 : decode YL.2.1 526 = .ok (.iconst 1, 1) := by decide +kernel
theorem dL_527 : decode YL.2.1 527 = .ok (.iadd, 1) := by decide +kernel
theorem dL_528 : decode YL.2.1 528 = .ok (.iaload, 1) := by decide +kernel
theorem dL_529 : decode YL.2.1 529 = .ok (.aload_n 0, 1) := by decide +kernel
theorem dL_530 : decode YL.2.1 530 = .ok (.iload_n 3, 1) := by decide +kernel
theorem dL_531 : decode YL.2.1 531 = .ok (.iconst 2, 1) := by decide +kernel
theorem dL_532 : decode YL.2.1 532 = .ok (.iadd, 1) := by decide +kernel
theorem dL_533 : decode YL.2.1 533 = .ok (.iaload, 1) := by decide +kernel
theorem dL_534 : decode YL.2.1 534 = .ok (.aload_n 0, 1) := by decide +kernel
theorem dL_535 : decode YL.2.1 535 = .ok (.iload_n 3, 1) := by decide +kernel
theorem dL_536 : decode YL.2.1 536 = .ok (.iconst 3, 1) := by decide +kernel
theorem dL_537 : decode YL.2.1 537 = .ok (.iadd, 1) := by decide +kernel
theorem dL_538 : decode YL.2.1 538 = .ok (.iaload, 1) := by decide +kernel
theorem dL_539 : decode YL.2.1 539 = .ok (.ifCond .eq 7, 3) := by decide +kernel
theorem dL_542 : decode YL.2.1 542 = .ok (.iconst 1, 1) := by decide +kernel
theorem dL_543 : decode YL.2.1 543 = .ok (.goto 4, 3) := by decide +kernel
theorem dL_546 : decode YL.2.1 546 = .ok (.iconst 0, 1) := by decide +kernel
theorem dL_547 : decode YL.2.1 547 = .ok (.aload_n 0, 1) := by decide +kernel
theorem dL_548 : decode YL.2.1 548 = .ok (.iload_n 3, 1) := by decide +kernel
theorem dL_549 : decode YL.2.1 549 = .ok (.iconst 4, 1) := by decide +kernel
theorem dL_550 : decode YL.2.1 550 = .ok (.iadd, 1) := by decide +kernel
theorem dL_551 : decode YL.2.1 551 = .ok (.iaload, 1) := by decide +kernel
theorem dL_552 : decode YL.2.1 552 = .ok (.invokevirtual 54, 3) := by decide +kernel
theorem dL_555 : decode YL.2.1 555 = .ok (.aload_n 2, 1) := by decide +kernel
theorem dL_556 : decode YL.2.1 556 = .ok (.aload_n 0, 1) := by decide +kernel
theorem dL_557 : decode YL.2.1 557 = .ok (.iload_n 3, 1) := by decide +kernel
theorem dL_558 : decode YL.2.1 558 = .ok (.iconst 1, 1) := by decide +kernel
theorem dL_559 : decode YL.2.1 559 = .ok (.iadd, 1) := by decide +kernel
theorem dL_560 : decode YL.2.1 560 = .ok (.iaload, 1) := by decide +kernel
theorem dL_561 : decode YL.2.1 561 = .ok (.aload_n 0, 1) := by decide +kernel
theorem dL_562 : decode YL.2.1 562 = .ok (.iload_n 3, 1) := by decide +kernel
theorem dL_563 : decode YL.2.1 563 = .ok (.iconst 2, 1) := by decide +kernel
theorem dL_564 : decode YL.2.1 564 = .ok (.iadd, 1) := by decide +kernel
theorem dL_565 : decode YL.2.1 565 = .ok (.iaload, 1) := by decide +kernel
theorem dL_566 : decode YL.2.1 566 = .ok (.aload_n 0, 1) := by decide +kernel
theorem dL_567 : decode YL.2.1 567 = .ok (.iload_n 3, 1) := by decide +kernel
theorem dL_568 : decode YL.2.1 568 = .ok (.iconst 3, 1) := by decide +kernel
theorem dL_569 : decode YL.2.1 569 = .ok (.iadd, 1) := by decide +kernel
theorem dL_570 : decode YL.2.1 570 = .ok (.iaload, 1) := by decide +kernel
theorem dL_571 : decode YL.2.1 571 = .ok (.ifCond .eq 7, 3) := by decide +kernel
theorem dL_574 : decode YL.2.1 574 = .ok (.iconst 1, 1) := by decide +kernel
theorem dL_575 : decode YL.2.1 575 = .ok (.goto 4, 3) := by decide +kernel
theorem dL_578 : decode YL.2.1 578 = .ok (.iconst 0, 1) := by decide +kernel
theorem dL_579 : decode YL.2.1 579 = .ok (.aload_n 0, 1) := by decide +kernel
theorem dL_580 : decode YL.2.1 580 = .ok (.iload_n 3, 1) := by decide +kernel
theorem dL_581 : decode YL.2.1 581 = .ok (.iconst 4, 1) := by decide +kernel
theorem dL_582 : decode YL.2.1 582 = .ok (.iadd, 1) := by decide +kernel
theorem dL_583 : decode YL.2.1 583 = .ok (.iaload, 1) := by decide +kernel
theorem dL_584 : decode YL.2.1 584 = .ok (.invokevirtual 58, 3) := by decide +kernel
theorem dL_587 : decode YL.2.1 587 = .ok (.if_icmp .eq 1039, 3) := by decide +kernel
theorem dL_590 : decode YL.2.1 590 = .ok (.iconst 0, 1) := by decide +kernel
theorem dL_591 : decode YL.2.1 591 = .ok (.ireturn, 1) := by decide +kernel
theorem dL_592 : decode YL.2.1 592 = .ok (.aload_n 1, 1) := by decide +kernel
theorem dL_593 : decode YL.2.1 593 = .ok (.aload_n 0, 1) := by decide +kernel
theorem dL_594 : decode YL.2.1 594 = .ok (.iload_n 3, 1) := by decide +kernel
theorem dL_595 : decode YL.2.1 595 = .ok (.iconst 1, 1) := by decide +kernel
theorem dL_596 : decode YL.2.1 596 = .ok (.iadd, 1) := by decide +kernel
theorem dL_597 : decode YL.2.1 597 = .ok (.iaload, 1) := by decide +kernel
theorem dL_598 : decode YL.2.1 598 = .ok (.aload_n 0, 1) := by decide +kernel
theorem dL_599 : decode YL.2.1 599 = .ok (.iload_n 3, 1) := by decide +kernel
theorem dL_600 : decode YL.2.1 600 = .ok (.iconst 2, 1) := by decide +kernel
theorem dL_601 : decode YL.2.1 601 = .ok (.iadd, 1) := by decide +kernel
theorem dL_602 : decode YL.2.1 602 = .ok (.iaload, 1) := by decide +kernel
theorem dL_603 : decode YL.2.1 603 = .ok (.aload_n 0, 1) := by decide +kernel
theorem dL_604 : decode YL.2.1 604 = .ok (.iload_n 3, 1) := by decide +kernel
theorem dL_605 : decode YL.2.1 605 = .ok (.iconst 3, 1) := by decide +kernel
theorem dL_606 : decode YL.2.1 606 = .ok (.iadd, 1) := by decide +kernel
theorem dL_607 : decode YL.2.1 607 = .ok (.iaload, 1) := by decide +kernel
theorem dL_608 : decode YL.2.1 608 = .ok (.ifCond .eq 7, 3) := by decide +kernel
theorem dL_611 : decode YL.2.1 611 = .ok (.iconst 1, 1) := by decide +kernel
theorem dL_612 : decode YL.2.1 612 = .ok (.goto 4, 3) := by decide +kernel
theorem dL_615 : decode YL.2.1 615 = .ok (.iconst 0, 1) := by decide +kernel
theorem dL_616 : decode YL.2.1 616 = .ok (.invokevirtual 59, 3) := by decide +kernel
theorem dL_619 : decode YL.2.1 619 = .ok (.aload_n 2, 1) := by decide +kernel
theorem dL_620 : decode YL.2.1 620 = .ok (.aload_n 0, 1) := by decide +kernel
theorem dL_621 : decode YL.2.1 621 = .ok (.iload_n 3, 1) := by decide +kernel
theorem dL_622 : decode YL.2.1 622 = .ok (.iconst 1, 1) := by decide +kernel
theorem dL_623 : decode YL.2.1 623 = .ok (.iadd, 1) := by decide +kernel
theorem dL_624 : decode YL.2.1 624 = .ok (.iaload, 1) := by decide +kernel
theorem dL_625 : decode YL.2.1 625 = .ok (.aload_n 0, 1) := by decide +kernel
theorem dL_626 : decode YL.2.1 626 = .ok (.iload_n 3, 1) := by decide +kernel
theorem dL_627 : decode YL.2.1 627 = .ok (.iconst 2, 1) := by decide +kernel
theorem dL_628 : decode YL.2.1 628 = .ok (.iadd, 1) := by decide +kernel
theorem dL_629 : decode YL.2.1 629 = .ok (.iaload, 1) := by decide +kernel
theorem dL_630 : decode YL.2.1 630 = .ok (.aload_n 0, 1) := by decide +kernel
theorem dL_631 : decode YL.2.1 631 = .ok (.iload_n 3, 1) := by decide +kernel
theorem dL_632 : decode YL.2.1 632 = .ok (.iconst 3, 1) := by decide +kernel
theorem dL_633 : decode YL.2.1 633 = .ok (.iadd, 1) := by decide +kernel
theorem dL_634 : decode YL.2.1 634 = .ok (.iaload, 1) := by decide +kernel
theorem dL_635 : decode YL.2.1 635 = .ok (.ifCond .eq 7, 3) := by decide +kernel
theorem dL_638 : decode YL.2.1 638 = .ok (.iconst 1, 1) := by decide +kernel
theorem dL_639 : decode YL.2.1 639 = .ok (.goto 4, 3) := by decide +kernel
theorem dL_642 : decode YL.2.1 642 = .ok (.iconst 0, 1) := by decide +kernel
theorem dL_643 : decode YL.2.1 643 = .ok (.invokevirtual 63, 3) := by decide +kernel
theorem dL_646 : decode YL.2.1 646 = .ok (.lcmp, 1) := by decide +kernel
theorem dL_647 : decode YL.2.1 647 = .ok (.ifCond .eq 979, 3) := by decide +kernel
theorem dL_650 : decode YL.2.1 650 = .ok (.iconst 0, 1) := by decide +kernel
theorem dL_651 : decode YL.2.1 651 = .ok (.ireturn, 1) := by decide +kernel
theorem dL_652 : decode YL.2.1 652 = .ok (.aload_n 1, 1) := by decide +kernel
theorem dL_653 : decode YL.2.1 653 = .ok (.aload_n 0, 1) := by decide +kernel
theorem dL_654 : decode YL.2.1 654 = .ok (.iload_n 3, 1) := by decide +kernel
theorem dL_655 : decode YL.2.1 655 = .ok (.iconst 1, 1) := by decide +kernel
theorem dL_656 : decode YL.2.1 656 = .ok (.iadd, 1) := by decide +kernel
theorem dL_657 : decode YL.2.1 657 = .ok (.iaload, 1) := by decide +kernel
theorem dL_658 : decode YL.2.1 658 = .ok (.aload_n 0, 1) := by decide +kernel
theorem dL_659 : decode YL.2.1 659 = .ok (.iload_n 3, 1) := by decide +kernel
theorem dL_660 : decode YL.2.1 660 = .ok (.iconst 2, 1) := by decide +kernel
theorem dL_661 : decode YL.2.1 661 = .ok (.iadd, 1) := by decide +kernel
theorem dL_662 : decode YL.2.1 662 = .ok (.iaload, 1) := by decide +kernel
theorem dL_663 : decode YL.2.1 663 = .ok (.aload_n 0, 1) := by decide +kernel
theorem dL_664 : decode YL.2.1 664 = .ok (.iload_n 3, 1) := by decide +kernel
theorem dL_665 : decode YL.2.1 665 = .ok (.iconst 3, 1) := by decide +kernel
theorem dL_666 : decode YL.2.1 666 = .ok (.iadd, 1) := by decide +kernel
theorem dL_667 : decode YL.2.1 667 = .ok (.iaload, 1) := by decide +kernel
theorem dL_668 : decode YL.2.1 668 = .ok (.aload_n 0, 1) := by decide +kernel
theorem dL_669 : decode YL.2.1 669 = .ok (.iload_n 3, 1) := by decide +kernel
theorem dL_670 : decode YL.2.1 670 = .ok (.iconst 4, 1) := by decide +kernel
theorem dL_671 : decode YL.2.1 671 = .ok (.iadd, 1) := by decide +kernel
theorem dL_672 : decode YL.2.1 672 = .ok (.iaload, 1) := by decide +kernel
theorem dL_673 : decode YL.2.1 673 = .ok (.aload_n 0, 1) := by decide +kernel
theorem dL_674 : decode YL.2.1 674 = .ok (.iload_n 3, 1) := by decide +kernel
theorem dL_675 : decode YL.2.1 675 = .ok (.iconst 5, 1) := by decide +kernel
theorem dL_676 : decode YL.2.1 676 = .ok (.iadd, 1) := by decide +kernel
theorem dL_677 : decode YL.2.1 677 = .ok (.iaload, 1) := by decide +kernel
theorem dL_678 : decode YL.2.1 678 = .ok (.ifCond .eq 7, 3) := by decide +kernel
theorem dL_681 : decode YL.2.1 681 = .ok (.iconst 1, 1) := by decide +kernel
theorem dL_682 : decode YL.2.1 682 = .ok (.goto 4, 3) := by decide +kernel
theorem dL_685 : decode YL.2.1 685 = .ok (.iconst 0, 1) := by decide +kernel
theorem dL_686 : decode YL.2.1 686 = .ok (.invokevirtual 64, 3) := by decide +kernel
theorem dL_689 : decode YL.2.1 689 = .ok (.aload_n 2, 1) := by decide +kernel
theorem dL_690 : decode YL.2.1 690 = .ok (.aload_n 0, 1) := by decide +kernel
theorem dL_691 : decode YL.2.1 691 = .ok (.iload_n 3, 1) := by decide +kernel
theorem dL_692 : decode YL.2.1 692 = .ok (.iconst 1, 1) := by decide +kernel
theorem dL_693 : decode YL.2.1 693 = .ok (.iadd, 1) := by decide +kernel
theorem dL_694 : decode YL.2.1 694 = .ok (.iaload, 1) := by decide +kernel
theorem dL_695 : decode YL.2.1 695 = .ok (.aload_n 0, 1) := by decide +kernel
theorem dL_696 : decode YL.2.1 696 = .ok (.iload_n 3, 1) := by decide +kernel
theorem dL_697 : decode YL.2.1 697 = .ok (.iconst 2, 1) := by decide +kernel
theorem dL_698 : decode YL.2.1 698 = .ok (.iadd, 1) := by decide +kernel
theorem dL_699 : decode YL.2.1 699 = .ok (.iaload, 1) := by decide +kernel
theorem dL_700 : decode YL.2.1 700 = .ok (.aload_n 0, 1) := by decide +kernel
theorem dL_701 : decode YL.2.1 701 = .ok (.iload_n 3, 1) := by decide +kernel
theorem dL_702 : decode YL.2.1 702 = .ok (.iconst 3, 1) := by decide +kernel
theorem dL_703 : decode YL.2.1 703 = .ok (.iadd, 1) := by decide +kernel
theorem dL_704 : decode YL.2.1 704 = .ok (.iaload, 1) := by decide +kernel
theorem dL_705 : decode YL.2.1 705 = .ok (.aload_n 0, 1) := by decide +kernel
theorem dL_706 : decode YL.2.1 706 = .ok (.iload_n 3, 1) := by decide +kernel
theorem dL_707 : decode YL.2.1 707 = .ok (.iconst 4, 1) := by decide +kernel
theorem dL_708 : decode YL.2.1 708 = .ok (.iadd, 1) := by decide +kernel
theorem dL_709 : decode YL.2.1 709 = .ok (.iaload, 1) := by decide +kernel
theorem dL_710 : decode YL.2.1 710 = .ok (.aload_n 0, 1) := by decide +kernel
theorem dL_711 : decode YL.2.1 711 = .ok (.iload_n 3, 1) := by decide +kernel
theorem dL_712 : decode YL.2.1 712 = .ok (.iconst 5, 1) := by decide +kernel
theorem dL_713 : decode YL.2.1 713 = .ok (.iadd, 1) := by decide +kernel
theorem dL_714 : decode YL.2.1 714 = .ok (.iaload, 1) := by decide +kernel
theorem dL_715 : decode YL.2.1 715 = .ok (.ifCond .eq 7, 3) := by decide +kernel
theorem dL_718 : decode YL.2.1 718 = .ok (.iconst 1, 1) := by decide +kernel
theorem dL_719 : decode YL.2.1 719 = .ok (.goto 4, 3) := by decide +kernel
theorem dL_722 : decode YL.2.1 722 = .ok (.iconst 0, 1) := by decide +kernel
theorem dL_723 : decode YL.2.1 723 = .ok (.invokevirtual 68, 3) := by decide +kernel
theorem dL_726 : decode YL.2.1 726 = .ok (.lcmp, 1) := by decide +kernel
theorem dL_727 : decode YL.2.1 727 = .ok (.ifCond .eq 899, 3) := by decide +kernel
theorem dL_730 : decode YL.2.1 730 = .ok (.iconst 0, 1) := by decide +kernel
theorem dL_731 : decode YL.2.1 731 = .ok (.ireturn, 1) := by decide +kernel
theorem dL_732 : decode YL.2.1 732 = .ok (.aload_n 1, 1) := by decide +kernel
theorem dL_733 : decode YL.2.1 733 = .ok (.aload_n 0, 1) := by decide +kernel
theorem dL_734 : decode YL.2.1 734 = .ok (.iload_n 3, 1) := by decide +kernel
theorem dL_735 : decode YL.2.1 735 = .ok (.iconst 1, 1) := by decide +kernel
theorem dL_736 : decode YL.2.1 736 = .ok (.iadd, 1) := by decide +kernel
theorem dL_737 : decode YL.2.1 737 = .ok (.iaload, 1) := by decide +kernel
theorem dL_738 : decode YL.2.1 738 = .ok (.aload_n 0, 1) := by decide +kernel
theorem dL_739 : decode YL.2.1 739 = .ok (.iload_n 3, 1) := by decide +kernel
theorem dL_740 : decode YL.2.1 740 = .ok (.iconst 2, 1) := by decide +kernel
theorem dL_741 : decode YL.2.1 741 = .ok (.iadd, 1) := by decide +kernel
theorem dL_742 : decode YL.2.1 742 = .ok (.iaload, 1) := by decide +kernel
theorem dL_743 : decode YL.2.1 743 = .ok (.aload_n 0, 1) := by decide +kernel
theorem dL_744 : decode YL.2.1 744 = .ok (.iload_n 3, 1) := by decide +kernel
theorem dL_745 : decode YL.2.1 745 = .ok (.iconst 3, 1) := by decide +kernel
theorem dL_746 : decode YL.2.1 746 = .ok (.iadd, 1) := by decide +kernel
theorem dL_747 : decode YL.2.1 747 = .ok (.iaload, 1) := by decide +kernel
theorem dL_748 : decode YL.2.1 748 = .ok (.invokevirtual 69, 3) := by decide +kernel
theorem dL_751 : decode YL.2.1 751 = .ok (.aload_n 2, 1) := by decide +kernel
