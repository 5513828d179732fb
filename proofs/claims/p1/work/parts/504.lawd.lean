/-! the law's rows, 4 -/
theorem dL_law_3410 : decode cL_law 3410 = .ok (.aload_n 0, 1) := by decide +kernel
theorem dL_law_3411 : decode cL_law 3411 = .ok (.iload 5, 2) := by decide +kernel
theorem dL_law_3413 : decode cL_law 3413 = .ok (.iconst 4, 1) := by decide +kernel
theorem dL_law_3414 : decode cL_law 3414 = .ok (.iadd, 1) := by decide +kernel
theorem dL_law_3415 : decode cL_law 3415 = .ok (.iaload, 1) := by decide +kernel
theorem dL_law_3416 : decode cL_law 3416 = .ok (.ifCond .eq 7, 3) := by decide +kernel
theorem dL_law_3419 : decode cL_law 3419 = .ok (.iconst 1, 1) := by decide +kernel
theorem dL_law_3420 : decode cL_law 3420 = .ok (.goto 4, 3) := by decide +kernel
theorem dL_law_3423 : decode cL_law 3423 = .ok (.iconst 0, 1) := by decide +kernel
theorem dL_law_3424 : decode cL_law 3424 = .ok (.invokevirtual 341, 3) := by decide +kernel
theorem dL_law_3427 : decode cL_law 3427 = .ok (.istore 7, 2) := by decide +kernel
theorem dL_law_3429 : decode cL_law 3429 = .ok (.aload_n 2, 1) := by decide +kernel
theorem dL_law_3430 : decode cL_law 3430 = .ok (.invokevirtual 212, 3) := by decide +kernel
theorem dL_law_3433 : decode cL_law 3433 = .ok (.iload 6, 2) := by decide +kernel
theorem dL_law_3435 : decode cL_law 3435 = .ok (.if_icmp .eq 5, 3) := by decide +kernel
theorem dL_law_3438 : decode cL_law 3438 = .ok (.iconst 0, 1) := by decide +kernel
theorem dL_law_3439 : decode cL_law 3439 = .ok (.ireturn, 1) := by decide +kernel
theorem dL_law_3440 : decode cL_law 3440 = .ok (.iload 6, 2) := by decide +kernel
theorem dL_law_3442 : decode cL_law 3442 = .ok (.ifCond .ne 15, 3) := by decide +kernel
theorem dL_law_3445 : decode cL_law 3445 = .ok (.aload_n 3, 1) := by decide +kernel
theorem dL_law_3446 : decode cL_law 3446 = .ok (.iconst 0, 1) := by decide +kernel
theorem dL_law_3447 : decode cL_law 3447 = .ok (.laload, 1) := by decide +kernel
theorem dL_law_3448 : decode cL_law 3448 = .ok (.iload 7, 2) := by decide +kernel
theorem dL_law_3450 : decode cL_law 3450 = .ok (.i2l, 1) := by decide +kernel
theorem dL_law_3451 : decode cL_law 3451 = .ok (.lcmp, 1) := by decide +kernel
theorem dL_law_3452 : decode cL_law 3452 = .ok (.ifCond .eq 5, 3) := by decide +kernel
theorem dL_law_3455 : decode cL_law 3455 = .ok (.iconst 0, 1) := by decide +kernel
theorem dL_law_3456 : decode cL_law 3456 = .ok (.ireturn, 1) := by decide +kernel
theorem dL_law_3457 : decode cL_law 3457 = .ok (.goto 769, 3) := by decide +kernel
theorem dL_law_3460 : decode cL_law 3460 = .ok (.aload_n 1, 1) := by decide +kernel
theorem dL_law_3461 : decode cL_law 3461 = .ok (.aload_n 0, 1) := by decide +kernel
theorem dL_law_3462 : decode cL_law 3462 = .ok (.iload 5, 2) := by decide +kernel
theorem dL_law_3464 : decode cL_law 3464 = .ok (.iconst 1, 1) := by decide +kernel
theorem dL_law_3465 : decode cL_law 3465 = .ok (.iadd, 1) := by decide +kernel
theorem dL_law_3466 : decode cL_law 3466 = .ok (.iaload, 1) := by decide +kernel
theorem dL_law_3467 : decode cL_law 3467 = .ok (.aload_n 0, 1) := by decide +kernel
theorem dL_law_3468 : decode cL_law 3468 = .ok (.iload 5, 2) := by decide +kernel
theorem dL_law_3470 : decode cL_law 3470 = .ok (.iconst 2, 1) := by decide +kernel
theorem dL_law_3471 : decode cL_law 3471 = .ok (.iadd, 1) := by decide +kernel
theorem dL_law_3472 : decode cL_law 3472 = .ok (.iaload, 1) := by decide +kernel
theorem dL_law_3473 : decode cL_law 3473 = .ok (.aload_n 3, 1) := by decide +kernel
theorem dL_law_3474 : decode cL_law 3474 = .ok (.invokestatic 342, 3) := by decide +kernel
theorem dL_law_3477 : decode cL_law 3477 = .ok (.istore 6, 2) := by decide +kernel
theorem dL_law_3479 : decode cL_law 3479 = .ok (.aload_n 2, 1) := by decide +kernel
theorem dL_law_3480 : decode cL_law 3480 = .ok (.aload_n 0, 1) := by decide +kernel
theorem dL_law_3481 : decode cL_law 3481 = .ok (.iload 5, 2) := by decide +kernel
theorem dL_law_3483 : decode cL_law 3483 = .ok (.iconst 1, 1) := by decide +kernel
theorem dL_law_3484 : decode cL_law 3484 = .ok (.iadd, 1) := by decide +kernel
theorem dL_law_3485 : decode cL_law 3485 = .ok (.iaload, 1) := by decide +kernel
theorem dL_law_3486 : decode cL_law 3486 = .ok (.aload_n 0, 1) := by decide +kernel
theorem dL_law_3487 : decode cL_law 3487 = .ok (.iload 5, 2) := by decide +kernel
theorem dL_law_3489 : decode cL_law 3489 = .ok (.iconst 2, 1) := by decide +kernel
theorem dL_law_3490 : decode cL_law 3490 = .ok (.iadd, 1) := by decide +kernel
theorem dL_law_3491 : decode cL_law 3491 = .ok (.iaload, 1) := by decide +kernel
theorem dL_law_3492 : decode cL_law 3492 = .ok (.invokevirtual 344, 3) := by decide +kernel
theorem dL_law_3495 : decode cL_law 3495 = .ok (.istore 7, 2) := by decide +kernel
theorem dL_law_3497 : decode cL_law 3497 = .ok (.aload_n 2, 1) := by decide +kernel
theorem dL_law_3498 : decode cL_law 3498 = .ok (.invokevirtual 212, 3) := by decide +kernel
theorem dL_law_3501 : decode cL_law 3501 = .ok (.iload 6, 2) := by decide +kernel
theorem dL_law_3503 : decode cL_law 3503 = .ok (.if_icmp .eq 5, 3) := by decide +kernel
theorem dL_law_3506 : decode cL_law 3506 = .ok (.iconst 0, 1) := by decide +kernel
theorem dL_law_3507 : decode cL_law 3507 = .ok (.ireturn, 1) := by decide +kernel
theorem dL_law_3508 : decode cL_law 3508 = .ok (.iload 6, 2) := by decide +kernel
theorem dL_law_3510 : decode cL_law 3510 = .ok (.ifCond .ne 15, 3) := by decide +kernel
theorem dL_law_3513 : decode cL_law 3513 = .ok (.aload_n 3, 1) := by decide +kernel
theorem dL_law_3514 : decode cL_law 3514 = .ok (.iconst 0, 1) := by decide +kernel
theorem dL_law_3515 : decode cL_law 3515 = .ok (.laload, 1) := by decide +kernel
theorem dL_law_3516 : decode cL_law 3516 = .ok (.iload 7, 2) := by decide +kernel
theorem dL_law_3518 : decode cL_law 3518 = .ok (.i2l, 1) := by decide +kernel
theorem dL_law_3519 : decode cL_law 3519 = .ok (.lcmp, 1) := by decide +kernel
theorem dL_law_3520 : decode cL_law 3520 = .ok (.ifCond .eq 5, 3) := by decide +kernel
theorem dL_law_3523 : decode cL_law 3523 = .ok (.iconst 0, 1) := by decide +kernel
theorem dL_law_3524 : decode cL_law 3524 = .ok (.ireturn, 1) := by decide +kernel
theorem dL_law_3525 : decode cL_law 3525 = .ok (.goto 701, 3) := by decide +kernel
theorem dL_law_3528 : decode cL_law 3528 = .ok (.aload_n 1, 1) := by decide +kernel
theorem dL_law_3529 : decode cL_law 3529 = .ok (.aload_n 0, 1) := by decide +kernel
theorem dL_law_3530 : decode cL_law 3530 = .ok (.iload 5, 2) := by decide +kernel
theorem dL_law_3532 : decode cL_law 3532 = .ok (.iconst 1, 1) := by decide +kernel
theorem dL_law_3533 : decode cL_law 3533 = .ok (.iadd, 1) := by decide +kernel
theorem dL_law_3534 : decode cL_law 3534 = .ok (.iaload, 1) := by decide +kernel
theorem dL_law_3535 : decode cL_law 3535 = .ok (.aload_n 0, 1) := by decide +kernel
theorem dL_law_3536 : decode cL_law 3536 = .ok (.iload 5, 2) := by decide +kernel
theorem dL_law_3538 : decode cL_law 3538 = .ok (.iconst 2, 1) := by decide +kernel
theorem dL_law_3539 : decode cL_law 3539 = .ok (.iadd, 1) := by decide +kernel
theorem dL_law_3540 : decode cL_law 3540 = .ok (.iaload, 1) := by decide +kernel
theorem dL_law_3541 : decode cL_law 3541 = .ok (.aload_n 3, 1) := by decide +kernel
theorem dL_law_3542 : decode cL_law 3542 = .ok (.invokestatic 345, 3) := by decide +kernel
theorem dL_law_3545 : decode cL_law 3545 = .ok (.istore 6, 2) := by decide +kernel
theorem dL_law_3547 : decode cL_law 3547 = .ok (.aload_n 2, 1) := by decide +kernel
theorem dL_law_3548 : decode cL_law 3548 = .ok (.aload_n 0, 1) := by decide +kernel
theorem dL_law_3549 : decode cL_law 3549 = .ok (.iload 5, 2) := by decide +kernel
theorem dL_law_3551 : decode cL_law 3551 = .ok (.iconst 1, 1) := by decide +kernel
theorem dL_law_3552 : decode cL_law 3552 = .ok (.iadd, 1) := by decide +kernel
theorem dL_law_3553 : decode cL_law 3553 = .ok (.iaload, 1) := by decide +kernel
theorem dL_law_3554 : decode cL_law 3554 = .ok (.aload_n 0, 1) := by decide +kernel
theorem dL_law_3555 : decode cL_law 3555 = .ok (.iload 5, 2) := by decide +kernel
theorem dL_law_3557 : decode cL_law 3557 = .ok (.iconst 2, 1) := by decide +kernel
theorem dL_law_3558 : decode cL_law 3558 = .ok (.iadd, 1) := by decide +kernel
theorem dL_law_3559 : decode cL_law 3559 = .ok (.iaload, 1) := by decide +kernel
theorem dL_law_3560 : decode cL_law 3560 = .ok (.invokevirtual 347, 3) := by decide +kernel
theorem dL_law_3563 : decode cL_law 3563 = .ok (.istore 7, 2) := by decide +kernel
theorem dL_law_3565 : decode cL_law 3565 = .ok (.aload_n 2, 1) := by decide +kernel
theorem dL_law_3566 : decode cL_law 3566 = .ok (.invokevirtual 212, 3) := by decide +kernel
theorem dL_law_3569 : decode cL_law 3569 = .ok (.iload 6, 2) := by decide +kernel
theorem dL_law_3571 : decode cL_law 3571 = .ok (.if_icmp .eq 5, 3) := by decide +kernel
theorem dL_law_3574 : decode cL_law 3574 = .ok (.iconst 0, 1) := by decide +kernel
theorem dL_law_3575 : decode cL_law 3575 = .ok (.ireturn, 1) := by decide +kernel
theorem dL_law_3576 : decode cL_law 3576 = .ok (.iload 6, 2) := by decide +kernel
theorem dL_law_3578 : decode cL_law 3578 = .ok (.ifCond .ne 15, 3) := by decide +kernel
theorem dL_law_3581 : decode cL_law 3581 = .ok (.aload_n 3, 1) := by decide +kernel
theorem dL_law_3582 : decode cL_law 3582 = .ok (.iconst 0, 1) := by decide +kernel
theorem dL_law_3583 : decode cL_law 3583 = .ok (.laload, 1) := by decide +kernel
theorem dL_law_3584 : decode cL_law 3584 = .ok (.iload 7, 2) := by decide +kernel
theorem dL_law_3586 : decode cL_law 3586 = .ok (.i2l, 1) := by decide +kernel
theorem dL_law_3587 : decode cL_law 3587 = .ok (.lcmp, 1) := by decide +kernel
theorem dL_law_3588 : decode cL_law 3588 = .ok (.ifCond .eq 5, 3) := by decide +kernel
theorem dL_law_3591 : decode cL_law 3591 = .ok (.iconst 0, 1) := by decide +kernel
theorem dL_law_3592 : decode cL_law 3592 = .ok (.ireturn, 1) := by decide +kernel
theorem dL_law_3593 : decode cL_law 3593 = .ok (.goto 633, 3) := by decide +kernel
theorem dL_law_3596 : decode cL_law 3596 = .ok (.aload_n 1, 1) := by decide +kernel
theorem dL_law_3597 : decode cL_law 3597 = .ok (.aload_n 0, 1) := by decide +kernel
theorem dL_law_3598 : decode cL_law 3598 = .ok (.iload 5, 2) := by decide +kernel
theorem dL_law_3600 : decode cL_law 3600 = .ok (.iconst 1, 1) := by decide +kernel
theorem dL_law_3601 : decode cL_law 3601 = .ok (.iadd, 1) := by decide +kernel
theorem dL_law_3602 : decode cL_law 3602 = .ok (.iaload, 1) := by decide +kernel
theorem dL_law_3603 : decode cL_law 3603 = .ok (.aload_n 0, 1) := by decide +kernel
theorem dL_law_3604 : decode cL_law 3604 = .ok (.iload 5, 2) := by decide +kernel
theorem dL_law_3606 : decode cL_law 3606 = .ok (.iconst 2, 1) := by decide +kernel
theorem dL_law_3607 : decode cL_law 3607 = .ok (.iadd, 1) := by decide +kernel
theorem dL_law_3608 : decode cL_law 3608 = .ok (.iaload, 1) := by decide +kernel
theorem dL_law_3609 : decode cL_law 3609 = .ok (.aload_n 3, 1) := by decide +kernel
theorem dL_law_3610 : decode cL_law 3610 = .ok (.invokestatic 348, 3) := by decide +kernel
theorem dL_law_3613 : decode cL_law 3613 = .ok (.istore 6, 2) := by decide +kernel
theorem dL_law_3615 : decode cL_law 3615 = .ok (.aload_n 2, 1) := by decide +kernel
theorem dL_law_3616 : decode cL_law 3616 = .ok (.aload_n 0, 1) := by decide +kernel
theorem dL_law_3617 : decode cL_law 3617 = .ok (.iload 5, 2) := by decide +kernel
theorem dL_law_3619 : decode cL_law 3619 = .ok (.iconst 1, 1) := by decide +kernel
theorem dL_law_3620 : decode cL_law 3620 = .ok (.iadd, 1) := by decide +kernel
theorem dL_law_3621 : decode cL_law 3621 = .ok (.iaload, 1) := by decide +kernel
theorem dL_law_3622 : decode cL_law 3622 = .ok (.aload_n 0, 1) := by decide +kernel
theorem dL_law_3623 : decode cL_law 3623 = .ok (.iload 5, 2) := by decide +kernel
theorem dL_law_3625 : decode cL_law 3625 = .ok (.iconst 2, 1) := by decide +kernel
theorem dL_law_3626 : decode cL_law 3626 = .ok (.iadd, 1) := by decide +kernel
theorem dL_law_3627 : decode cL_law 3627 = .ok (.iaload, 1) := by decide +kernel
theorem dL_law_3628 : decode cL_law 3628 = .ok (.invokevirtual 350, 3) := by decide +kernel
theorem dL_law_3631 : decode cL_law 3631 = .ok (.istore 7, 2) := by decide +kernel
theorem dL_law_3633 : decode cL_law 3633 = .ok (.aload_n 2, 1) := by decide +kernel
theorem dL_law_3634 : decode cL_law 3634 = .ok (.invokevirtual 212, 3) := by decide +kernel
theorem dL_law_3637 : decode cL_law 3637 = .ok (.iload 6, 2) := by decide +kernel
theorem dL_law_3639 : decode cL_law 3639 = .ok (.if_icmp .eq 5, 3) := by decide +kernel
theorem dL_law_3642 : decode cL_law 3642 = .ok (.iconst 0, 1) := by decide +kernel
theorem dL_law_3643 : decode cL_law 3643 = .ok (.ireturn, 1) := by decide +kernel
theorem dL_law_3644 : decode cL_law 3644 = .ok (.iload 6, 2) := by decide +kernel
theorem dL_law_3646 : decode cL_law 3646 = .ok (.ifCond .ne 15, 3) := by decide +kernel
theorem dL_law_3649 : decode cL_law 3649 = .ok (.aload_n 3, 1) := by decide +kernel
theorem dL_law_3650 : decode cL_law 3650 = .ok (.iconst 0, 1) := by decide +kernel
theorem dL_law_3651 : decode cL_law 3651 = .ok (.laload, 1) := by decide +kernel
theorem dL_law_3652 : decode cL_law 3652 = .ok (.iload 7, 2) := by decide +kernel
theorem dL_law_3654 : decode cL_law 3654 = .ok (.i2l, 1) := by decide +kernel
theorem dL_law_3655 : decode cL_law 3655 = .ok (.lcmp, 1) := by decide +kernel
theorem dL_law_3656 : decode cL_law 3656 = .ok (.ifCond .eq 5, 3) := by decide +kernel
theorem dL_law_3659 : decode cL_law 3659 = .ok (.iconst 0, 1) := by decide +kernel
theorem dL_law_3660 : decode cL_law 3660 = .ok (.ireturn, 1) := by decide +kernel
theorem dL_law_3661 : decode cL_law 3661 = .ok (.goto 565, 3) := by decide +kernel
theorem dL_law_3664 : decode cL_law 3664 = .ok (.aload_n 1, 1) := by decide +kernel
theorem dL_law_3665 : decode cL_law 3665 = .ok (.aload_n 0, 1) := by decide +kernel
theorem dL_law_3666 : decode cL_law 3666 = .ok (.iload 5, 2) := by decide +kernel
theorem dL_law_3668 : decode cL_law 3668 = .ok (.iconst 1, 1) := by decide +kernel
theorem dL_law_3669 : decode cL_law 3669 = .ok (.iadd, 1) := by decide +kernel
theorem dL_law_3670 : decode cL_law 3670 = .ok (.iaload, 1) := by decide +kernel
theorem dL_law_3671 : decode cL_law 3671 = .ok (.aload_n 0, 1) := by decide +kernel
theorem dL_law_3672 : decode cL_law 3672 = .ok (.iload 5, 2) := by decide +kernel
theorem dL_law_3674 : decode cL_law 3674 = .ok (.iconst 2, 1) := by decide +kernel
theorem dL_law_3675 : decode cL_law 3675 = .ok (.iadd, 1) := by decide +kernel
theorem dL_law_3676 : decode cL_law 3676 = .ok (.iaload, 1) := by decide +kernel
theorem dL_law_3677 : decode cL_law 3677 = .ok (.aload_n 0, 1) := by decide +kernel
theorem dL_law_3678 : decode cL_law 3678 = .ok (.iload 5, 2) := by decide +kernel
theorem dL_law_3680 : decode cL_law 3680 = .ok (.iconst 3, 1) := by decide +kernel
theorem dL_law_3681 : decode cL_law 3681 = .ok (.iadd, 1) := by decide +kernel
theorem dL_law_3682 : decode cL_law 3682 = .ok (.iaload, 1) := by decide +kernel
theorem dL_law_3683 : decode cL_law 3683 = .ok (.aload_n 3, 1) := by decide +kernel
theorem dL_law_3684 : decode cL_law 3684 = .ok (.invokestatic 351, 3) := by decide +kernel
theorem dL_law_3687 : decode cL_law 3687 = .ok (.istore 6, 2) := by decide +kernel
theorem dL_law_3689 : decode cL_law 3689 = .ok (.aload_n 2, 1) := by decide +kernel
theorem dL_law_3690 : decode cL_law 3690 = .ok (.aload_n 0, 1) := by decide +kernel
theorem dL_law_3691 : decode cL_law 3691 = .ok (.iload 5, 2) := by decide +kernel
theorem dL_law_3693 : decode cL_law 3693 = .ok (.iconst 1, 1) := by decide +kernel
theorem dL_law_3694 : decode cL_law 3694 = .ok (.iadd, 1) := by decide +kernel
theorem dL_law_3695 : decode cL_law 3695 = .ok (.iaload, 1) := by decide +kernel
theorem dL_law_3696 : decode cL_law 3696 = .ok (.aload_n 0, 1) := by decide +kernel
theorem dL_law_3697 : decode cL_law 3697 = .ok (.iload 5, 2) := by decide +kernel
theorem dL_law_3699 : decode cL_law 3699 = .ok (.iconst 2, 1) := by decide +kernel
theorem dL_law_3700 : decode cL_law 3700 = .ok (.iadd, 1) := by decide +kernel
theorem dL_law_3701 : decode cL_law 3701 = .ok (.iaload, 1) := by decide +kernel
theorem dL_law_3702 : decode cL_law 3702 = .ok (.aload_n 0, 1) := by decide +kernel
theorem dL_law_3703 : decode cL_law 3703 = .ok (.iload 5, 2) := by decide +kernel
theorem dL_law_3705 : decode cL_law 3705 = .ok (.iconst 3, 1) := by decide +kernel
theorem dL_law_3706 : decode cL_law 3706 = .ok (.iadd, 1) := by decide +kernel
theorem dL_law_3707 : decode cL_law 3707 = .ok (.iaload, 1) := by decide +kernel
theorem dL_law_3708 : decode cL_law 3708 = .ok (.invokevirtual 353, 3) := by decide +kernel
theorem dL_law_3711 : decode cL_law 3711 = .ok (.istore 7, 2) := by decide +kernel
theorem dL_law_3713 : decode cL_law 3713 = .ok (.aload_n 2, 1) := by decide +kernel
theorem dL_law_3714 : decode cL_law 3714 = .ok (.invokevirtual 212, 3) := by decide +kernel
theorem dL_law_3717 : decode cL_law 3717 = .ok (.iload 6, 2) := by decide +kernel
theorem dL_law_3719 : decode cL_law 3719 = .ok (.if_icmp .eq 5, 3) := by decide +kernel
theorem dL_law_3722 : decode cL_law 3722 = .ok (.iconst 0, 1) := by decide +kernel
theorem dL_law_3723 : decode cL_law 3723 = .ok (.ireturn, 1) := by decide +kernel
theorem dL_law_3724 : decode cL_law 3724 = .ok (.iload 6, 2) := by decide +kernel
theorem dL_law_3726 : decode cL_law 3726 = .ok (.ifCond .ne 15, 3) := by decide +kernel
theorem dL_law_3729 : decode cL_law 3729 = .ok (.aload_n 3, 1) := by decide +kernel
theorem dL_law_3730 : decode cL_law 3730 = .ok (.iconst 0, 1) := by decide +kernel
theorem dL_law_3731 : decode cL_law 3731 = .ok (.laload, 1) := by decide +kernel
theorem dL_law_3732 : decode cL_law 3732 = .ok (.iload 7, 2) := by decide +kernel
theorem dL_law_3734 : decode cL_law 3734 = .ok (.i2l, 1) := by decide +kernel
theorem dL_law_3735 : decode cL_law 3735 = .ok (.lcmp, 1) := by decide +kernel
theorem dL_law_3736 : decode cL_law 3736 = .ok (.ifCond .eq 5, 3) := by decide +kernel
theorem dL_law_3739 : decode cL_law 3739 = .ok (.iconst 0, 1) := by decide +kernel
theorem dL_law_3740 : decode cL_law 3740 = .ok (.ireturn, 1) := by decide +kernel
theorem dL_law_3741 : decode cL_law 3741 = .ok (.goto 485, 3) := by decide +kernel
theorem dL_law_3744 : decode cL_law 3744 = .ok (.aload_n 1, 1) := by decide +kernel
theorem dL_law_3745 : decode cL_law 3745 = .ok (.aload_n 0, 1) := by decide +kernel
theorem dL_law_3746 : decode cL_law 3746 = .ok (.iload 5, 2) := by decide +kernel
theorem dL_law_3748 : decode cL_law 3748 = .ok (.iconst 1, 1) := by decide +kernel
theorem dL_law_3749 : decode cL_law 3749 = .ok (.iadd, 1) := by decide +kernel
theorem dL_law_3750 : decode cL_law 3750 = .ok (.iaload, 1) := by decide +kernel
theorem dL_law_3751 : decode cL_law 3751 = .ok (.aload_n 0, 1) := by decide +kernel
theorem dL_law_3752 : decode cL_law 3752 = .ok (.iload 5, 2) := by decide +kernel
theorem dL_law_3754 : decode cL_law 3754 = .ok (.iconst 2, 1) := by decide +kernel
theorem dL_law_3755 : decode cL_law 3755 = .ok (.iadd, 1) := by decide +kernel
theorem dL_law_3756 : decode cL_law 3756 = .ok (.iaload, 1) := by decide +kernel
theorem dL_law_3757 : decode cL_law 3757 = .ok (.ifCond .eq 7, 3) := by decide +kernel
theorem dL_law_3760 : decode cL_law 3760 = .ok (.iconst 1, 1) := by decide +kernel
theorem dL_law_3761 : decode cL_law 3761 = .ok (.goto 4, 3) := by decide +kernel
theorem dL_law_3764 : decode cL_law 3764 = .ok (.iconst 0, 1) := by decide +kernel
theorem dL_law_3765 : decode cL_law 3765 = .ok (.aload_n 3, 1) := by decide +kernel
theorem dL_law_3766 : decode cL_law 3766 = .ok (.invokestatic 354, 3) := by decide +kernel
theorem dL_law_3769 : decode cL_law 3769 = .ok (.istore 6, 2) := by decide +kernel
theorem dL_law_3771 : decode cL_law 3771 = .ok (.aload_n 2, 1) := by decide +kernel
theorem dL_law_3772 : decode cL_law 3772 = .ok (.aload_n 0, 1) := by decide +kernel
theorem dL_law_3773 : decode cL_law 3773 = .ok (.iload 5, 2) := by decide +kernel
theorem dL_law_3775 : decode cL_law 3775 = .ok (.iconst 1, 1) := by decide +kernel
theorem dL_law_3776 : decode cL_law 3776 = .ok (.iadd, 1) := by decide +kernel
theorem dL_law_3777 : decode cL_law 3777 = .ok (.iaload, 1) := by decide +kernel
theorem dL_law_3778 : decode cL_law 3778 = .ok (.aload_n 0, 1) := by decide +kernel
theorem dL_law_3779 : decode cL_law 3779 = .ok (.iload 5, 2) := by decide +kernel
theorem dL_law_3781 : decode cL_law 3781 = .ok (.iconst 2, 1) := by decide +kernel
theorem dL_law_3782 : decode cL_law 3782 = .ok (.iadd, 1) := by decide +kernel
theorem dL_law_3783 : decode cL_law 3783 = .ok (.iaload, 1) := by decide +kernel
theorem dL_law_3784 : decode cL_law 3784 = .ok (.ifCond .eq 7, 3) := by decide +kernel
theorem dL_law_3787 : decode cL_law 3787 = .ok (.iconst 1, 1) := by decide +kernel
theorem dL_law_3788 : decode cL_law 3788 = .ok (.goto 4, 3) := by decide +kernel
theorem dL_law_3791 : decode cL_law 3791 = .ok (.iconst 0, 1) := by decide +kernel
theorem dL_law_3792 : decode cL_law 3792 = .ok (.invokevirtual 357, 3) := by decide +kernel
theorem dL_law_3795 : decode cL_law 3795 = .ok (.istore 7, 2) := by decide +kernel
theorem dL_law_3797 : decode cL_law 3797 = .ok (.aload_n 2, 1) := by decide +kernel
theorem dL_law_3798 : decode cL_law 3798 = .ok (.invokevirtual 212, 3) := by decide +kernel
theorem dL_law_3801 : decode cL_law 3801 = .ok (.iload 6, 2) := by decide +kernel
theorem dL_law_3803 : decode cL_law 3803 = .ok (.if_icmp .eq 5, 3) := by decide +kernel
theorem dL_law_3806 : decode cL_law 3806 = .ok (.iconst 0, 1) := by decide +kernel
theorem dL_law_3807 : decode cL_law 3807 = .ok (.ireturn, 1) := by decide +kernel
theorem dL_law_3808 : decode cL_law 3808 = .ok (.iload 6, 2) := by decide +kernel
theorem dL_law_3810 : decode cL_law 3810 = .ok (.ifCond .ne 15, 3) := by decide +kernel
theorem dL_law_3813 : decode cL_law 3813 = .ok (.aload_n 3, 1) := by decide +kernel
theorem dL_law_3814 : decode cL_law 3814 = .ok (.iconst 0, 1) := by decide +kernel
theorem dL_law_3815 : decode cL_law 3815 = .ok (.laload, 1) := by decide +kernel
theorem dL_law_3816 : decode cL_law 3816 = .ok (.iload 7, 2) := by decide +kernel
theorem dL_law_3818 : decode cL_law 3818 = .ok (.i2l, 1) := by decide +kernel
theorem dL_law_3819 : decode cL_law 3819 = .ok (.lcmp, 1) := by decide +kernel
theorem dL_law_3820 : decode cL_law 3820 = .ok (.ifCond .eq 5, 3) := by decide +kernel
theorem dL_law_3823 : decode cL_law 3823 = .ok (.iconst 0, 1) := by decide +kernel
theorem dL_law_3824 : decode cL_law 3824 = .ok (.ireturn, 1) := by decide +kernel
theorem dL_law_3825 : decode cL_law 3825 = .ok (.goto 401, 3) := by decide +kernel
theorem dL_law_3828 : decode cL_law 3828 = .ok (.aload_n 1, 1) := by decide +kernel
theorem dL_law_3829 : decode cL_law 3829 = .ok (.aload_n 0, 1) := by decide +kernel
theorem dL_law_3830 : decode cL_law 3830 = .ok (.iload 5, 2) := by decide +kernel
theorem dL_law_3832 : decode cL_law 3832 = .ok (.iconst 1, 1) := by decide +kernel
theorem dL_law_3833 : decode cL_law 3833 = .ok (.iadd, 1) := by decide +kernel
theorem dL_law_3834 : decode cL_law 3834 = .ok (.iaload, 1) := by decide +kernel
theorem dL_law_3835 : decode cL_law 3835 = .ok (.aload_n 3, 1) := by decide +kernel
theorem dL_law_3836 : decode cL_law 3836 = .ok (.invokestatic 358, 3) := by decide +kernel
theorem dL_law_3839 : decode cL_law 3839 = .ok (.istore 6, 2) := by decide +kernel
theorem dL_law_3841 : decode cL_law 3841 = .ok (.aload_n 2, 1) := by decide +kernel
theorem dL_law_3842 : decode cL_law 3842 = .ok (.aload_n 0, 1) := by decide +kernel
theorem dL_law_3843 : decode cL_law 3843 = .ok (.iload 5, 2) := by decide +kernel
theorem dL_law_3845 : decode cL_law 3845 = .ok (.iconst 1, 1) := by decide +kernel
theorem dL_law_3846 : decode cL_law 3846 = .ok (.iadd, 1) := by decide +kernel
theorem dL_law_3847 : decode cL_law 3847 = .ok (.iaload, 1) := by decide +kernel
theorem dL_law_3848 : decode cL_law 3848 = .ok (.invokevirtual 360, 3) := by decide +kernel
theorem dL_law_3851 : decode cL_law 3851 = .ok (.istore 7, 2) := by decide +kernel
theorem dL_law_3853 : decode cL_law 3853 = .ok (.aload_n 2, 1) := by decide +kernel
theorem dL_law_3854 : decode cL_law 3854 = .ok (.invokevirtual 212, 3) := by decide +kernel
theorem dL_law_3857 : decode cL_law 3857 = .ok (.iload 6, 2) := by decide +kernel
theorem dL_law_3859 : decode cL_law 3859 = .ok (.if_icmp .eq 5, 3) := by decide +kernel
theorem dL_law_3862 : decode cL_law 3862 = .ok (.iconst 0, 1) := by decide +kernel
theorem dL_law_3863 : decode cL_law 3863 = .ok (.ireturn, 1) := by decide +kernel
theorem dL_law_3864 : decode cL_law 3864 = .ok (.iload 6, 2) := by decide +kernel
theorem dL_law_3866 : decode cL_law 3866 = .ok (.ifCond .ne 15, 3) := by decide +kernel
theorem dL_law_3869 : decode cL_law 3869 = .ok (.aload_n 3, 1) := by decide +kernel
theorem dL_law_3870 : decode cL_law 3870 = .ok (.iconst 0, 1) := by decide +kernel
theorem dL_law_3871 : decode cL_law 3871 = .ok (.laload, 1) := by decide +kernel
theorem dL_law_3872 : decode cL_law 3872 = .ok (.iload 7, 2) := by decide +kernel
theorem dL_law_3874 : decode cL_law 3874 = .ok (.i2l, 1) := by decide +kernel
theorem dL_law_3875 : decode cL_law 3875 = .ok (.lcmp, 1) := by decide +kernel
theorem dL_law_3876 : decode cL_law 3876 = .ok (.ifCond .eq 5, 3) := by decide +kernel
theorem dL_law_3879 : decode cL_law 3879 = .ok (.iconst 0, 1) := by decide +kernel
theorem dL_law_3880 : decode cL_law 3880 = .ok (.ireturn, 1) := by decide +kernel
theorem dL_law_3881 : decode cL_law 3881 = .ok (.goto 345, 3) := by decide +kernel
theorem dL_law_3884 : decode cL_law 3884 = .ok (.aload_n 1, 1) := by decide +kernel
theorem dL_law_3885 : decode cL_law 3885 = .ok (.aload_n 0, 1) := by decide +kernel
theorem dL_law_3886 : decode cL_law 3886 = .ok (.iload 5, 2) := by decide +kernel
theorem dL_law_3888 : decode cL_law 3888 = .ok (.iconst 1, 1) := by decide +kernel
theorem dL_law_3889 : decode cL_law 3889 = .ok (.iadd, 1) := by decide +kernel
theorem dL_law_3890 : decode cL_law 3890 = .ok (.iaload, 1) := by decide +kernel
theorem dL_law_3891 : decode cL_law 3891 = .ok (.aload_n 0, 1) := by decide +kernel
theorem dL_law_3892 : decode cL_law 3892 = .ok (.iload 5, 2) := by decide +kernel
theorem dL_law_3894 : decode cL_law 3894 = .ok (.iconst 2, 1) := by decide +kernel
theorem dL_law_3895 : decode cL_law 3895 = .ok (.iadd, 1) := by decide +kernel
theorem dL_law_3896 : decode cL_law 3896 = .ok (.iaload, 1) := by decide +kernel
theorem dL_law_3897 : decode cL_law 3897 = .ok (.aload_n 3, 1) := by decide +kernel
theorem dL_law_3898 : decode cL_law 3898 = .ok (.invokestatic 361, 3) := by decide +kernel
theorem dL_law_3901 : decode cL_law 3901 = .ok (.istore 6, 2) := by decide +kernel
theorem dL_law_3903 : decode cL_law 3903 = .ok (.aload_n 2, 1) := by decide +kernel
theorem dL_law_3904 : decode cL_law 3904 = .ok (.aload_n 0, 1) := by decide +kernel
theorem dL_law_3905 : decode cL_law 3905 = .ok (.iload 5, 2) := by decide +kernel
theorem dL_law_3907 : decode cL_law 3907 = .ok (.iconst 1, 1) := by decide +kernel
theorem dL_law_3908 : decode cL_law 3908 = .ok (.iadd, 1) := by decide +kernel
theorem dL_law_3909 : decode cL_law 3909 = .ok (.iaload, 1) := by decide +kernel
theorem dL_law_3910 : decode cL_law 3910 = .ok (.aload_n 0, 1) := by decide +kernel
theorem dL_law_3911 : decode cL_law 3911 = .ok (.iload 5, 2) := by decide +kernel
theorem dL_law_3913 : decode cL_law 3913 = .ok (.iconst 2, 1) := by decide +kernel
theorem dL_law_3914 : decode cL_law 3914 = .ok (.iadd, 1) := by decide +kernel
theorem dL_law_3915 : decode cL_law 3915 = .ok (.iaload, 1) := by decide +kernel
theorem dL_law_3916 : decode cL_law 3916 = .ok (.invokevirtual 363, 3) := by decide +kernel
theorem dL_law_3919 : decode cL_law 3919 = .ok (.istore 7, 2) := by decide +kernel
theorem dL_law_3921 : decode cL_law 3921 = .ok (.aload_n 2, 1) := by decide +kernel
theorem dL_law_3922 : decode cL_law 3922 = .ok (.invokevirtual 212, 3) := by decide +kernel
theorem dL_law_3925 : decode cL_law 3925 = .ok (.iload 6, 2) := by decide +kernel
theorem dL_law_3927 : decode cL_law 3927 = .ok (.if_icmp .eq 5, 3) := by decide +kernel
theorem dL_law_3930 : decode cL_law 3930 = .ok (.iconst 0, 1) := by decide +kernel
theorem dL_law_3931 : decode cL_law 3931 = .ok (.ireturn, 1) := by decide +kernel
theorem dL_law_3932 : decode cL_law 3932 = .ok (.iload 6, 2) := by decide +kernel
theorem dL_law_3934 : decode cL_law 3934 = .ok (.ifCond .ne 15, 3) := by decide +kernel
theorem dL_law_3937 : decode cL_law 3937 = .ok (.aload_n 3, 1) := by decide +kernel
theorem dL_law_3938 : decode cL_law 3938 = .ok (.iconst 0, 1) := by decide +kernel
theorem dL_law_3939 : decode cL_law 3939 = .ok (.laload, 1) := by decide +kernel
theorem dL_law_3940 : decode cL_law 3940 = .ok (.iload 7, 2) := by decide +kernel
theorem dL_law_3942 : decode cL_law 3942 = .ok (.i2l, 1) := by decide +kernel
theorem dL_law_3943 : decode cL_law 3943 = .ok (.lcmp, 1) := by decide +kernel
theorem dL_law_3944 : decode cL_law 3944 = .ok (.ifCond .eq 5, 3) := by decide +kernel
theorem dL_law_3947 : decode cL_law 3947 = .ok (.iconst 0, 1) := by decide +kernel
theorem dL_law_3948 : decode cL_law 3948 = .ok (.ireturn, 1) := by decide +kernel
theorem dL_law_3949 : decode cL_law 3949 = .ok (.goto 277, 3) := by decide +kernel
theorem dL_law_3952 : decode cL_law 3952 = .ok (.aload_n 1, 1) := by decide +kernel
theorem dL_law_3953 : decode cL_law 3953 = .ok (.aload_n 0, 1) := by decide +kernel
theorem dL_law_3954 : decode cL_law 3954 = .ok (.iload 5, 2) := by decide +kernel
theorem dL_law_3956 : decode cL_law 3956 = .ok (.iconst 1, 1) := by decide +kernel
theorem dL_law_3957 : decode cL_law 3957 = .ok (.iadd, 1) := by decide +kernel
theorem dL_law_3958 : decode cL_law 3958 = .ok (.iaload, 1) := by decide +kernel
theorem dL_law_3959 : decode cL_law 3959 = .ok (.aload_n 3, 1) := by decide +kernel
theorem dL_law_3960 : decode cL_law 3960 = .ok (.invokestatic 364, 3) := by decide +kernel
theorem dL_law_3963 : decode cL_law 3963 = .ok (.istore 6, 2) := by decide +kernel
theorem dL_law_3965 : decode cL_law 3965 = .ok (.aload_n 2, 1) := by decide +kernel
theorem dL_law_3966 : decode cL_law 3966 = .ok (.aload_n 0, 1) := by decide +kernel
theorem dL_law_3967 : decode cL_law 3967 = .ok (.iload 5, 2) := by decide +kernel
theorem dL_law_3969 : decode cL_law 3969 = .ok (.iconst 1, 1) := by decide +kernel
theorem dL_law_3970 : decode cL_law 3970 = .ok (.iadd, 1) := by decide +kernel
theorem dL_law_3971 : decode cL_law 3971 = .ok (.iaload, 1) := by decide +kernel
theorem dL_law_3972 : decode cL_law 3972 = .ok (.invokevirtual 366, 3) := by decide +kernel
theorem dL_law_3975 : decode cL_law 3975 = .ok (.istore 7, 2) := by decide +kernel
theorem dL_law_3977 : decode cL_law 3977 = .ok (.aload_n 2, 1) := by decide +kernel
theorem dL_law_3978 : decode cL_law 3978 = .ok (.invokevirtual 212, 3) := by decide +kernel
theorem dL_law_3981 : decode cL_law 3981 = .ok (.iload 6, 2) := by decide +kernel
theorem dL_law_3983 : decode cL_law 3983 = .ok (.if_icmp .eq 5, 3) := by decide +kernel
theorem dL_law_3986 : decode cL_law 3986 = .ok (.iconst 0, 1) := by decide +kernel
theorem dL_law_3987 : decode cL_law 3987 = .ok (.ireturn, 1) := by decide +kernel
theorem dL_law_3988 : decode cL_law 3988 = .ok (.iload 6, 2) := by decide +kernel
theorem dL_law_3990 : decode cL_law 3990 = .ok (.ifCond .ne 15, 3) := by decide +kernel
theorem dL_law_3993 : decode cL_law 3993 = .ok (.aload_n 3, 1) := by decide +kernel
theorem dL_law_3994 : decode cL_law 3994 = .ok (.iconst 0, 1) := by decide +kernel
theorem dL_law_3995 : decode cL_law 3995 = .ok (.laload, 1) := by decide +kernel
theorem dL_law_3996 : decode cL_law 3996 = .ok (.iload 7, 2) := by decide +kernel
theorem dL_law_3998 : decode cL_law 3998 = .ok (.i2l, 1) := by decide +kernel
theorem dL_law_3999 : decode cL_law 3999 = .ok (.lcmp, 1) := by decide +kernel
theorem dL_law_4000 : decode cL_law 4000 = .ok (.ifCond .eq 5, 3) := by decide +kernel
theorem dL_law_4003 : decode cL_law 4003 = .ok (.iconst 0, 1) := by decide +kernel
theorem dL_law_4004 : decode cL_law 4004 = .ok (.ireturn, 1) := by decide +kernel
theorem dL_law_4005 : decode cL_law 4005 = .ok (.goto 221, 3) := by decide +kernel
theorem dL_law_4008 : decode cL_law 4008 = .ok (.aload_n 1, 1) := by decide +kernel
theorem dL_law_4009 : decode cL_law 4009 = .ok (.aload_n 0, 1) := by decide +kernel
theorem dL_law_4010 : decode cL_law 4010 = .ok (.iload 5, 2) := by decide +kernel
theorem dL_law_4012 : decode cL_law 4012 = .ok (.iconst 1, 1) := by decide +kernel
theorem dL_law_4013 : decode cL_law 4013 = .ok (.iadd, 1) := by decide +kernel
theorem dL_law_4014 : decode cL_law 4014 = .ok (.iaload, 1) := by decide +kernel
theorem dL_law_4015 : decode cL_law 4015 = .ok (.aload_n 0, 1) := by decide +kernel
theorem dL_law_4016 : decode cL_law 4016 = .ok (.iload 5, 2) := by decide +kernel
theorem dL_law_4018 : decode cL_law 4018 = .ok (.iconst 2, 1) := by decide +kernel
theorem dL_law_4019 : decode cL_law 4019 = .ok (.iadd, 1) := by decide +kernel
theorem dL_law_4020 : decode cL_law 4020 = .ok (.iaload, 1) := by decide +kernel
theorem dL_law_4021 : decode cL_law 4021 = .ok (.aload_n 3, 1) := by decide +kernel
theorem dL_law_4022 : decode cL_law 4022 = .ok (.invokestatic 367, 3) := by decide +kernel
theorem dL_law_4025 : decode cL_law 4025 = .ok (.istore 6, 2) := by decide +kernel
theorem dL_law_4027 : decode cL_law 4027 = .ok (.aload_n 2, 1) := by decide +kernel
theorem dL_law_4028 : decode cL_law 4028 = .ok (.aload_n 0, 1) := by decide +kernel
theorem dL_law_4029 : decode cL_law 4029 = .ok (.iload 5, 2) := by decide +kernel
theorem dL_law_4031 : decode cL_law 4031 = .ok (.iconst 1, 1) := by decide +kernel
theorem dL_law_4032 : decode cL_law 4032 = .ok (.iadd, 1) := by decide +kernel
theorem dL_law_4033 : decode cL_law 4033 = .ok (.iaload, 1) := by decide +kernel
theorem dL_law_4034 : decode cL_law 4034 = .ok (.aload_n 0, 1) := by decide +kernel
theorem dL_law_4035 : decode cL_law 4035 = .ok (.iload 5, 2) := by decide +kernel
theorem dL_law_4037 : decode cL_law 4037 = .ok (.iconst 2, 1) := by decide +kernel
theorem dL_law_4038 : decode cL_law 4038 = .ok (.iadd, 1) := by decide +kernel
theorem dL_law_4039 : decode cL_law 4039 = .ok (.iaload, 1) := by decide +kernel
theorem dL_law_4040 : decode cL_law 4040 = .ok (.invokevirtual 369, 3) := by decide +kernel
theorem dL_law_4043 : decode cL_law 4043 = .ok (.istore 7, 2) := by decide +kernel
theorem dL_law_4045 : decode cL_law 4045 = .ok (.aload_n 2, 1) := by decide +kernel
theorem dL_law_4046 : decode cL_law 4046 = .ok (.invokevirtual 212, 3) := by decide +kernel
theorem dL_law_4049 : decode cL_law 4049 = .ok (.iload 6, 2) := by decide +kernel
theorem dL_law_4051 : decode cL_law 4051 = .ok (.if_icmp .eq 5, 3) := by decide +kernel
theorem dL_law_4054 : decode cL_law 4054 = .ok (.iconst 0, 1) := by decide +kernel
theorem dL_law_4055 : decode cL_law 4055 = .ok (.ireturn, 1) := by decide +kernel
theorem dL_law_4056 : decode cL_law 4056 = .ok (.iload 6, 2) := by decide +kernel
theorem dL_law_4058 : decode cL_law 4058 = .ok (.ifCond .ne 15, 3) := by decide +kernel
theorem dL_law_4061 : decode cL_law 4061 = .ok (.aload_n 3, 1) := by decide +kernel
theorem dL_law_4062 : decode cL_law 4062 = .ok (.iconst 0, 1) := by decide +kernel
theorem dL_law_4063 : decode cL_law 4063 = .ok (.laload, 1) := by decide +kernel
theorem dL_law_4064 : decode cL_law 4064 = .ok (.iload 7, 2) := by decide +kernel
theorem dL_law_4066 : decode cL_law 4066 = .ok (.i2l, 1) := by decide +kernel
theorem dL_law_4067 : decode cL_law 4067 = .ok (.lcmp, 1) := by decide +kernel
theorem dL_law_4068 : decode cL_law 4068 = .ok (.ifCond .eq 5, 3) := by decide +kernel
theorem dL_law_4071 : decode cL_law 4071 = .ok (.iconst 0, 1) := by decide +kernel
theorem dL_law_4072 : decode cL_law 4072 = .ok (.ireturn, 1) := by decide +kernel
theorem dL_law_4073 : decode cL_law 4073 = .ok (.goto 153, 3) := by decide +kernel
theorem dL_law_4076 : decode cL_law 4076 = .ok (.aload_n 1, 1) := by decide +kernel
theorem dL_law_4077 : decode cL_law 4077 = .ok (.aload_n 0, 1) := by decide +kernel
theorem dL_law_4078 : decode cL_law 4078 = .ok (.iload 5, 2) := by decide +kernel
theorem dL_law_4080 : decode cL_law 4080 = .ok (.iconst 1, 1) := by decide +kernel
theorem dL_law_4081 : decode cL_law 4081 = .ok (.iadd, 1) := by decide +kernel
theorem dL_law_4082 : decode cL_law 4082 = .ok (.iaload, 1) := by decide +kernel
theorem dL_law_4083 : decode cL_law 4083 = .ok (.invokevirtual 370, 3) := by decide +kernel
theorem dL_law_4086 : decode cL_law 4086 = .ok (.aload_n 2, 1) := by decide +kernel
theorem dL_law_4087 : decode cL_law 4087 = .ok (.aload_n 0, 1) := by decide +kernel
theorem dL_law_4088 : decode cL_law 4088 = .ok (.iload 5, 2) := by decide +kernel
theorem dL_law_4090 : decode cL_law 4090 = .ok (.iconst 1, 1) := by decide +kernel
theorem dL_law_4091 : decode cL_law 4091 = .ok (.iadd, 1) := by decide +kernel
theorem dL_law_4092 : decode cL_law 4092 = .ok (.iaload, 1) := by decide +kernel
theorem dL_law_4093 : decode cL_law 4093 = .ok (.invokevirtual 373, 3) := by decide +kernel
theorem dL_law_4096 : decode cL_law 4096 = .ok (.if_icmp .eq 130, 3) := by decide +kernel
theorem dL_law_4099 : decode cL_law 4099 = .ok (.iconst 0, 1) := by decide +kernel
theorem dL_law_4100 : decode cL_law 4100 = .ok (.ireturn, 1) := by decide +kernel
theorem dL_law_4101 : decode cL_law 4101 = .ok (.aload_n 1, 1) := by decide +kernel
theorem dL_law_4102 : decode cL_law 4102 = .ok (.invokevirtual 374, 3) := by decide +kernel
theorem dL_law_4105 : decode cL_law 4105 = .ok (.aload_n 2, 1) := by decide +kernel
theorem dL_law_4106 : decode cL_law 4106 = .ok (.invokevirtual 377, 3) := by decide +kernel
theorem dL_law_4109 : decode cL_law 4109 = .ok (.if_icmp .eq 117, 3) := by decide +kernel
theorem dL_law_4112 : decode cL_law 4112 = .ok (.iconst 0, 1) := by decide +kernel
theorem dL_law_4113 : decode cL_law 4113 = .ok (.ireturn, 1) := by decide +kernel
theorem dL_law_4114 : decode cL_law 4114 = .ok (.aload_n 1, 1) := by decide +kernel
theorem dL_law_4115 : decode cL_law 4115 = .ok (.aload_n 0, 1) := by decide +kernel
theorem dL_law_4116 : decode cL_law 4116 = .ok (.iload 5, 2) := by decide +kernel
theorem dL_law_4118 : decode cL_law 4118 = .ok (.iconst 1, 1) := by decide +kernel
theorem dL_law_4119 : decode cL_law 4119 = .ok (.iadd, 1) := by decide +kernel
theorem dL_law_4120 : decode cL_law 4120 = .ok (.iaload, 1) := by decide +kernel
theorem dL_law_4121 : decode cL_law 4121 = .ok (.aload_n 3, 1) := by decide +kernel
theorem dL_law_4122 : decode cL_law 4122 = .ok (.invokestatic 378, 3) := by decide +kernel
theorem dL_law_4125 : decode cL_law 4125 = .ok (.istore 6, 2) := by decide +kernel
theorem dL_law_4127 : decode cL_law 4127 = .ok (.aload_n 2, 1) := by decide +kernel
theorem dL_law_4128 : decode cL_law 4128 = .ok (.aload_n 0, 1) := by decide +kernel
theorem dL_law_4129 : decode cL_law 4129 = .ok (.iload 5, 2) := by decide +kernel
theorem dL_law_4131 : decode cL_law 4131 = .ok (.iconst 1, 1) := by decide +kernel
theorem dL_law_4132 : decode cL_law 4132 = .ok (.iadd, 1) := by decide +kernel
theorem dL_law_4133 : decode cL_law 4133 = .ok (.iaload, 1) := by decide +kernel
theorem dL_law_4134 : decode cL_law 4134 = .ok (.invokevirtual 380, 3) := by decide +kernel
theorem dL_law_4137 : decode cL_law 4137 = .ok (.istore 7, 2) := by decide +kernel
theorem dL_law_4139 : decode cL_law 4139 = .ok (.aload_n 2, 1) := by decide +kernel
theorem dL_law_4140 : decode cL_law 4140 = .ok (.invokevirtual 212, 3) := by decide +kernel
theorem dL_law_4143 : decode cL_law 4143 = .ok (.iload 6, 2) := by decide +kernel
theorem dL_law_4145 : decode cL_law 4145 = .ok (.if_icmp .eq 5, 3) := by decide +kernel
theorem dL_law_4148 : decode cL_law 4148 = .ok (.iconst 0, 1) := by decide +kernel
theorem dL_law_4149 : decode cL_law 4149 = .ok (.ireturn, 1) := by decide +kernel
theorem dL_law_4150 : decode cL_law 4150 = .ok (.iload 6, 2) := by decide +kernel
theorem dL_law_4152 : decode cL_law 4152 = .ok (.ifCond .ne 15, 3) := by decide +kernel
theorem dL_law_4155 : decode cL_law 4155 = .ok (.aload_n 3, 1) := by decide +kernel
theorem dL_law_4156 : decode cL_law 4156 = .ok (.iconst 0, 1) := by decide +kernel
theorem dL_law_4157 : decode cL_law 4157 = .ok (.laload, 1) := by decide +kernel
theorem dL_law_4158 : decode cL_law 4158 = .ok (.iload 7, 2) := by decide +kernel
theorem dL_law_4160 : decode cL_law 4160 = .ok (.i2l, 1) := by decide +kernel
theorem dL_law_4161 : decode cL_law 4161 = .ok (.lcmp, 1) := by decide +kernel
theorem dL_law_4162 : decode cL_law 4162 = .ok (.ifCond .eq 5, 3) := by decide +kernel
theorem dL_law_4165 : decode cL_law 4165 = .ok (.iconst 0, 1) := by decide +kernel
theorem dL_law_4166 : decode cL_law 4166 = .ok (.ireturn, 1) := by decide +kernel
theorem dL_law_4167 : decode cL_law 4167 = .ok (.goto 59, 3) := by decide +kernel
theorem dL_law_4170 : decode cL_law 4170 = .ok (.aload_n 1, 1) := by decide +kernel
theorem dL_law_4171 : decode cL_law 4171 = .ok (.aload_n 0, 1) := by decide +kernel
theorem dL_law_4172 : decode cL_law 4172 = .ok (.iload 5, 2) := by decide +kernel
theorem dL_law_4174 : decode cL_law 4174 = .ok (.iconst 1, 1) := by decide +kernel
theorem dL_law_4175 : decode cL_law 4175 = .ok (.iadd, 1) := by decide +kernel
theorem dL_law_4176 : decode cL_law 4176 = .ok (.iaload, 1) := by decide +kernel
theorem dL_law_4177 : decode cL_law 4177 = .ok (.aload_n 3, 1) := by decide +kernel
theorem dL_law_4178 : decode cL_law 4178 = .ok (.invokestatic 381, 3) := by decide +kernel
theorem dL_law_4181 : decode cL_law 4181 = .ok (.istore 6, 2) := by decide +kernel
theorem dL_law_4183 : decode cL_law 4183 = .ok (.aload_n 2, 1) := by decide +kernel
theorem dL_law_4184 : decode cL_law 4184 = .ok (.aload_n 0, 1) := by decide +kernel
theorem dL_law_4185 : decode cL_law 4185 = .ok (.iload 5, 2) := by decide +kernel
theorem dL_law_4187 : decode cL_law 4187 = .ok (.iconst 1, 1) := by decide +kernel
theorem dL_law_4188 : decode cL_law 4188 = .ok (.iadd, 1) := by decide +kernel
theorem dL_law_4189 : decode cL_law 4189 = .ok (.iaload, 1) := by decide +kernel
theorem dL_law_4190 : decode cL_law 4190 = .ok (.invokevirtual 383, 3) := by decide +kernel
theorem dL_law_4193 : decode cL_law 4193 = .ok (.istore 7, 2) := by decide +kernel
theorem dL_law_4195 : decode cL_law 4195 = .ok (.aload_n 2, 1) := by decide +kernel
theorem dL_law_4196 : decode cL_law 4196 = .ok (.invokevirtual 212, 3) := by decide +kernel
theorem dL_law_4199 : decode cL_law 4199 = .ok (.iload 6, 2) := by decide +kernel
theorem dL_law_4201 : decode cL_law 4201 = .ok (.if_icmp .eq 5, 3) := by decide +kernel
theorem dL_law_4204 : decode cL_law 4204 = .ok (.iconst 0, 1) := by decide +kernel
theorem dL_law_4205 : decode cL_law 4205 = .ok (.ireturn, 1) := by decide +kernel
theorem dL_law_4206 : decode cL_law 4206 = .ok (.iload 6, 2) := by decide +kernel
theorem dL_law_4208 : decode cL_law 4208 = .ok (.ifCond .ne 15, 3) := by decide +kernel
theorem dL_law_4211 : decode cL_law 4211 = .ok (.aload_n 3, 1) := by decide +kernel
theorem dL_law_4212 : decode cL_law 4212 = .ok (.iconst 0, 1) := by decide +kernel
theorem dL_law_4213 : decode cL_law 4213 = .ok (.laload, 1) := by decide +kernel
theorem dL_law_4214 : decode cL_law 4214 = .ok (.iload 7, 2) := by decide +kernel
theorem dL_law_4216 : decode cL_law 4216 = .ok (.i2l, 1) := by decide +kernel
theorem dL_law_4217 : decode cL_law 4217 = .ok (.lcmp, 1) := by decide +kernel
theorem dL_law_4218 : decode cL_law 4218 = .ok (.ifCond .eq 5, 3) := by decide +kernel
theorem dL_law_4221 : decode cL_law 4221 = .ok (.iconst 0, 1) := by decide +kernel
theorem dL_law_4222 : decode cL_law 4222 = .ok (.ireturn, 1) := by decide +kernel
theorem dL_law_4223 : decode cL_law 4223 = .ok (.goto 3, 3) := by decide +kernel
theorem dL_law_4226 : decode cL_law 4226 = .ok (.iinc 5 5, 3) := by decide +kernel
theorem dL_law_4229 : decode cL_law 4229 = .ok (.goto (-4201), 3) := by decide +kernel
theorem dL_law_4232 : decode cL_law 4232 = .ok (.iconst 1, 1) := by decide +kernel
theorem dL_law_4233 : decode cL_law 4233 = .ok (.ireturn, 1) := by decide +kernel
