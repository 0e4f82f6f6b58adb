theorem d_w_1614 : decode code 1614 = .ok (.lcmp, 1) := by decide +kernel
theorem d_w_1615 : decode code 1615 = .ok (.ifCond .eq 5, 3) := by decide +kernel
theorem d_w_1618 : decode code 1618 = .ok (.iconst 0, 1) := by decide +kernel
theorem d_w_1619 : decode code 1619 = .ok (.ireturn, 1) := by decide +kernel
theorem d_w_1620 : decode code 1620 = .ok (.goto 619, 3) := by decide +kernel
theorem d_w_1623 : decode code 1623 = .ok (.aload_n 1, 1) := by decide +kernel
theorem d_w_1624 : decode code 1624 = .ok (.invokevirtual 225, 3) := by decide +kernel
theorem d_w_1627 : decode code 1627 = .ok (.aload_n 2, 1) := by decide +kernel
theorem d_w_1628 : decode code 1628 = .ok (.invokevirtual 228, 3) := by decide +kernel
theorem d_w_1631 : decode code 1631 = .ok (.if_icmp .eq 608, 3) := by decide +kernel
theorem d_w_1634 : decode code 1634 = .ok (.iconst 0, 1) := by decide +kernel
theorem d_w_1635 : decode code 1635 = .ok (.ireturn, 1) := by decide +kernel
theorem d_w_1636 : decode code 1636 = .ok (.aload_n 1, 1) := by decide +kernel
theorem d_w_1637 : decode code 1637 = .ok (.invokevirtual 229, 3) := by decide +kernel
theorem d_w_1640 : decode code 1640 = .ok (.aload_n 2, 1) := by decide +kernel
theorem d_w_1641 : decode code 1641 = .ok (.invokevirtual 232, 3) := by decide +kernel
theorem d_w_1644 : decode code 1644 = .ok (.if_icmp .eq 595, 3) := by decide +kernel
theorem d_w_1647 : decode code 1647 = .ok (.iconst 0, 1) := by decide +kernel
theorem d_w_1648 : decode code 1648 = .ok (.ireturn, 1) := by decide +kernel
theorem d_w_1649 : decode code 1649 = .ok (.aload_n 1, 1) := by decide +kernel
theorem d_w_1650 : decode code 1650 = .ok (.aload_n 0, 1) := by decide +kernel
theorem d_w_1651 : decode code 1651 = .ok (.iload 5, 2) := by decide +kernel
theorem d_w_1653 : decode code 1653 = .ok (.iconst 1, 1) := by decide +kernel
theorem d_w_1654 : decode code 1654 = .ok (.iadd, 1) := by decide +kernel
theorem d_w_1655 : decode code 1655 = .ok (.iaload, 1) := by decide +kernel
theorem d_w_1656 : decode code 1656 = .ok (.aload_n 0, 1) := by decide +kernel
theorem d_w_1657 : decode code 1657 = .ok (.iload 5, 2) := by decide +kernel
theorem d_w_1659 : decode code 1659 = .ok (.iconst 2, 1) := by decide +kernel
theorem d_w_1660 : decode code 1660 = .ok (.iadd, 1) := by decide +kernel
theorem d_w_1661 : decode code 1661 = .ok (.iaload, 1) := by decide +kernel
theorem d_w_1662 : decode code 1662 = .ok (.aload_n 3, 1) := by decide +kernel
theorem d_w_1663 : decode code 1663 = .ok (.invokestatic 233, 3) := by decide +kernel
theorem d_w_1666 : decode code 1666 = .ok (.istore 6, 2) := by decide +kernel
theorem d_w_1668 : decode code 1668 = .ok (.aload_n 2, 1) := by decide +kernel
theorem d_w_1669 : decode code 1669 = .ok (.aload_n 0, 1) := by decide +kernel
theorem d_w_1670 : decode code 1670 = .ok (.iload 5, 2) := by decide +kernel
theorem d_w_1672 : decode code 1672 = .ok (.iconst 1, 1) := by decide +kernel
theorem d_w_1673 : decode code 1673 = .ok (.iadd, 1) := by decide +kernel
theorem d_w_1674 : decode code 1674 = .ok (.iaload, 1) := by decide +kernel
theorem d_w_1675 : decode code 1675 = .ok (.aload_n 0, 1) := by decide +kernel
theorem d_w_1676 : decode code 1676 = .ok (.iload 5, 2) := by decide +kernel
theorem d_w_1678 : decode code 1678 = .ok (.iconst 2, 1) := by decide +kernel
theorem d_w_1679 : decode code 1679 = .ok (.iadd, 1) := by decide +kernel
theorem d_w_1680 : decode code 1680 = .ok (.iaload, 1) := by decide +kernel
theorem d_w_1681 : decode code 1681 = .ok (.invokevirtual 235, 3) := by decide +kernel
theorem d_w_1684 : decode code 1684 = .ok (.istore 7, 2) := by decide +kernel
theorem d_w_1686 : decode code 1686 = .ok (.aload_n 2, 1) := by decide +kernel
theorem d_w_1687 : decode code 1687 = .ok (.invokevirtual 114, 3) := by decide +kernel
theorem d_w_1690 : decode code 1690 = .ok (.iload 6, 2) := by decide +kernel
theorem d_w_1692 : decode code 1692 = .ok (.if_icmp .eq 5, 3) := by decide +kernel
theorem d_w_1695 : decode code 1695 = .ok (.iconst 0, 1) := by decide +kernel
theorem d_w_1696 : decode code 1696 = .ok (.ireturn, 1) := by decide +kernel
theorem d_w_1697 : decode code 1697 = .ok (.iload 6, 2) := by decide +kernel
theorem d_w_1699 : decode code 1699 = .ok (.ifCond .ne 15, 3) := by decide +kernel
theorem d_w_1702 : decode code 1702 = .ok (.aload_n 3, 1) := by decide +kernel
theorem d_w_1703 : decode code 1703 = .ok (.iconst 0, 1) := by decide +kernel
theorem d_w_1704 : decode code 1704 = .ok (.laload, 1) := by decide +kernel
theorem d_w_1705 : decode code 1705 = .ok (.iload 7, 2) := by decide +kernel
theorem d_w_1707 : decode code 1707 = .ok (.i2l, 1) := by decide +kernel
theorem d_w_1708 : decode code 1708 = .ok (.lcmp, 1) := by decide +kernel
theorem d_w_1709 : decode code 1709 = .ok (.ifCond .eq 5, 3) := by decide +kernel
theorem d_w_1712 : decode code 1712 = .ok (.iconst 0, 1) := by decide +kernel
theorem d_w_1713 : decode code 1713 = .ok (.ireturn, 1) := by decide +kernel
theorem d_w_1714 : decode code 1714 = .ok (.goto 525, 3) := by decide +kernel
theorem d_w_1717 : decode code 1717 = .ok (.aload_n 1, 1) := by decide +kernel
theorem d_w_1718 : decode code 1718 = .ok (.aload_n 0, 1) := by decide +kernel
theorem d_w_1719 : decode code 1719 = .ok (.iload 5, 2) := by decide +kernel
theorem d_w_1721 : decode code 1721 = .ok (.iconst 1, 1) := by decide +kernel
theorem d_w_1722 : decode code 1722 = .ok (.iadd, 1) := by decide +kernel
theorem d_w_1723 : decode code 1723 = .ok (.iaload, 1) := by decide +kernel
theorem d_w_1724 : decode code 1724 = .ok (.aload_n 3, 1) := by decide +kernel
theorem d_w_1725 : decode code 1725 = .ok (.invokestatic 236, 3) := by decide +kernel
theorem d_w_1728 : decode code 1728 = .ok (.istore 6, 2) := by decide +kernel
theorem d_w_1730 : decode code 1730 = .ok (.aload_n 2, 1) := by decide +kernel
theorem d_w_1731 : decode code 1731 = .ok (.aload_n 0, 1) := by decide +kernel
theorem d_w_1732 : decode code 1732 = .ok (.iload 5, 2) := by decide +kernel
theorem d_w_1734 : decode code 1734 = .ok (.iconst 1, 1) := by decide +kernel
theorem d_w_1735 : decode code 1735 = .ok (.iadd, 1) := by decide +kernel
theorem d_w_1736 : decode code 1736 = .ok (.iaload, 1) := by decide +kernel
theorem d_w_1737 : decode code 1737 = .ok (.invokevirtual 238, 3) := by decide +kernel
theorem d_w_1740 : decode code 1740 = .ok (.istore 7, 2) := by decide +kernel
theorem d_w_1742 : decode code 1742 = .ok (.aload_n 2, 1) := by decide +kernel
theorem d_w_1743 : decode code 1743 = .ok (.invokevirtual 114, 3) := by decide +kernel
theorem d_w_1746 : decode code 1746 = .ok (.iload 6, 2) := by decide +kernel
theorem d_w_1748 : decode code 1748 = .ok (.if_icmp .eq 5, 3) := by decide +kernel
theorem d_w_1751 : decode code 1751 = .ok (.iconst 0, 1) := by decide +kernel
theorem d_w_1752 : decode code 1752 = .ok (.ireturn, 1) := by decide +kernel
theorem d_w_1753 : decode code 1753 = .ok (.iload 6, 2) := by decide +kernel
theorem d_w_1755 : decode code 1755 = .ok (.ifCond .ne 15, 3) := by decide +kernel
theorem d_w_1758 : decode code 1758 = .ok (.aload_n 3, 1) := by decide +kernel
theorem d_w_1759 : decode code 1759 = .ok (.iconst 0, 1) := by decide +kernel
theorem d_w_1760 : decode code 1760 = .ok (.laload, 1) := by decide +kernel
theorem d_w_1761 : decode code 1761 = .ok (.iload 7, 2) := by decide +kernel
theorem d_w_1763 : decode code 1763 = .ok (.i2l, 1) := by decide +kernel
theorem d_w_1764 : decode code 1764 = .ok (.lcmp, 1) := by decide +kernel
theorem d_w_1765 : decode code 1765 = .ok (.ifCond .eq 5, 3) := by decide +kernel
theorem d_w_1768 : decode code 1768 = .ok (.iconst 0, 1) := by decide +kernel
theorem d_w_1769 : decode code 1769 = .ok (.ireturn, 1) := by decide +kernel
theorem d_w_1770 : decode code 1770 = .ok (.goto 469, 3) := by decide +kernel
theorem d_w_1773 : decode code 1773 = .ok (.aload_n 1, 1) := by decide +kernel
theorem d_w_1774 : decode code 1774 = .ok (.aload_n 0, 1) := by decide +kernel
theorem d_w_1775 : decode code 1775 = .ok (.iload 5, 2) := by decide +kernel
theorem d_w_1777 : decode code 1777 = .ok (.iconst 1, 1) := by decide +kernel
theorem d_w_1778 : decode code 1778 = .ok (.iadd, 1) := by decide +kernel
theorem d_w_1779 : decode code 1779 = .ok (.iaload, 1) := by decide +kernel
theorem d_w_1780 : decode code 1780 = .ok (.aload_n 3, 1) := by decide +kernel
theorem d_w_1781 : decode code 1781 = .ok (.invokestatic 239, 3) := by decide +kernel
theorem d_w_1784 : decode code 1784 = .ok (.istore 6, 2) := by decide +kernel
theorem d_w_1786 : decode code 1786 = .ok (.aload_n 2, 1) := by decide +kernel
theorem d_w_1787 : decode code 1787 = .ok (.aload_n 0, 1) := by decide +kernel
