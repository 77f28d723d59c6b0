/-! THE LAW: its decode rows, 5 -/
theorem dL_law_1628 : decode code 1628 = .ok (.aload_n 2, 1) := by decide +kernel
theorem dL_law_1629 : decode code 1629 = .ok (.aload_n 0, 1) := by decide +kernel
theorem dL_law_1630 : decode code 1630 = .ok (.iload_n 3, 1) := by decide +kernel
theorem dL_law_1631 : decode code 1631 = .ok (.iconst 1, 1) := by decide +kernel
theorem dL_law_1632 : decode code 1632 = .ok (.iadd, 1) := by decide +kernel
theorem dL_law_1633 : decode code 1633 = .ok (.iaload, 1) := by decide +kernel
theorem dL_law_1634 : decode code 1634 = .ok (.aload_n 0, 1) := by decide +kernel
theorem dL_law_1635 : decode code 1635 = .ok (.iload_n 3, 1) := by decide +kernel
theorem dL_law_1636 : decode code 1636 = .ok (.iconst 2, 1) := by decide +kernel
theorem dL_law_1637 : decode code 1637 = .ok (.iadd, 1) := by decide +kernel
theorem dL_law_1638 : decode code 1638 = .ok (.iaload, 1) := by decide +kernel
theorem dL_law_1639 : decode code 1639 = .ok (.aload_n 0, 1) := by decide +kernel
theorem dL_law_1640 : decode code 1640 = .ok (.iload_n 3, 1) := by decide +kernel
theorem dL_law_1641 : decode code 1641 = .ok (.iconst 3, 1) := by decide +kernel
theorem dL_law_1642 : decode code 1642 = .ok (.iadd, 1) := by decide +kernel
theorem dL_law_1643 : decode code 1643 = .ok (.iaload, 1) := by decide +kernel
theorem dL_law_1644 : decode code 1644 = .ok (.ifCond .eq 7, 3) := by decide +kernel
theorem dL_law_1647 : decode code 1647 = .ok (.iconst 1, 1) := by decide +kernel
theorem dL_law_1648 : decode code 1648 = .ok (.goto 4, 3) := by decide +kernel
theorem dL_law_1651 : decode code 1651 = .ok (.iconst 0, 1) := by decide +kernel
theorem dL_law_1652 : decode code 1652 = .ok (.aload_n 0, 1) := by decide +kernel
theorem dL_law_1653 : decode code 1653 = .ok (.iload_n 3, 1) := by decide +kernel
theorem dL_law_1654 : decode code 1654 = .ok (.iconst 4, 1) := by decide +kernel
theorem dL_law_1655 : decode code 1655 = .ok (.iadd, 1) := by decide +kernel
theorem dL_law_1656 : decode code 1656 = .ok (.iaload, 1) := by decide +kernel
theorem dL_law_1657 : decode code 1657 = .ok (.invokevirtual 161, 3) := by decide +kernel
theorem dL_law_1660 : decode code 1660 = .ok (.if_icmp .eq 681, 3) := by decide +kernel
theorem dL_law_1663 : decode code 1663 = .ok (.iconst 0, 1) := by decide +kernel
theorem dL_law_1664 : decode code 1664 = .ok (.ireturn, 1) := by decide +kernel
theorem dL_law_1665 : decode code 1665 = .ok (.aload_n 1, 1) := by decide +kernel
theorem dL_law_1666 : decode code 1666 = .ok (.aload_n 0, 1) := by decide +kernel
theorem dL_law_1667 : decode code 1667 = .ok (.iload_n 3, 1) := by decide +kernel
theorem dL_law_1668 : decode code 1668 = .ok (.iconst 1, 1) := by decide +kernel
theorem dL_law_1669 : decode code 1669 = .ok (.iadd, 1) := by decide +kernel
theorem dL_law_1670 : decode code 1670 = .ok (.iaload, 1) := by decide +kernel
theorem dL_law_1671 : decode code 1671 = .ok (.aload_n 0, 1) := by decide +kernel
theorem dL_law_1672 : decode code 1672 = .ok (.iload_n 3, 1) := by decide +kernel
theorem dL_law_1673 : decode code 1673 = .ok (.iconst 2, 1) := by decide +kernel
theorem dL_law_1674 : decode code 1674 = .ok (.iadd, 1) := by decide +kernel
theorem dL_law_1675 : decode code 1675 = .ok (.iaload, 1) := by decide +kernel
theorem dL_law_1676 : decode code 1676 = .ok (.invokevirtual 162, 3) := by decide +kernel
theorem dL_law_1679 : decode code 1679 = .ok (.aload_n 2, 1) := by decide +kernel
theorem dL_law_1680 : decode code 1680 = .ok (.aload_n 0, 1) := by decide +kernel
theorem dL_law_1681 : decode code 1681 = .ok (.iload_n 3, 1) := by decide +kernel
theorem dL_law_1682 : decode code 1682 = .ok (.iconst 1, 1) := by decide +kernel
theorem dL_law_1683 : decode code 1683 = .ok (.iadd, 1) := by decide +kernel
theorem dL_law_1684 : decode code 1684 = .ok (.iaload, 1) := by decide +kernel
theorem dL_law_1685 : decode code 1685 = .ok (.aload_n 0, 1) := by decide +kernel
theorem dL_law_1686 : decode code 1686 = .ok (.iload_n 3, 1) := by decide +kernel
theorem dL_law_1687 : decode code 1687 = .ok (.iconst 2, 1) := by decide +kernel
theorem dL_law_1688 : decode code 1688 = .ok (.iadd, 1) := by decide +kernel
theorem dL_law_1689 : decode code 1689 = .ok (.iaload, 1) := by decide +kernel
theorem dL_law_1690 : decode code 1690 = .ok (.invokevirtual 165, 3) := by decide +kernel
theorem dL_law_1693 : decode code 1693 = .ok (.if_icmp .eq 648, 3) := by decide +kernel
theorem dL_law_1696 : decode code 1696 = .ok (.iconst 0, 1) := by decide +kernel
theorem dL_law_1697 : decode code 1697 = .ok (.ireturn, 1) := by decide +kernel
theorem dL_law_1698 : decode code 1698 = .ok (.aload_n 1, 1) := by decide +kernel
theorem dL_law_1699 : decode code 1699 = .ok (.aload_n 0, 1) := by decide +kernel
theorem dL_law_1700 : decode code 1700 = .ok (.iload_n 3, 1) := by decide +kernel
theorem dL_law_1701 : decode code 1701 = .ok (.iconst 1, 1) := by decide +kernel
theorem dL_law_1702 : decode code 1702 = .ok (.iadd, 1) := by decide +kernel
theorem dL_law_1703 : decode code 1703 = .ok (.iaload, 1) := by decide +kernel
theorem dL_law_1704 : decode code 1704 = .ok (.aload_n 0, 1) := by decide +kernel
theorem dL_law_1705 : decode code 1705 = .ok (.iload_n 3, 1) := by decide +kernel
theorem dL_law_1706 : decode code 1706 = .ok (.iconst 2, 1) := by decide +kernel
theorem dL_law_1707 : decode code 1707 = .ok (.iadd, 1) := by decide +kernel
theorem dL_law_1708 : decode code 1708 = .ok (.iaload, 1) := by decide +kernel
theorem dL_law_1709 : decode code 1709 = .ok (.aload_n 0, 1) := by decide +kernel
theorem dL_law_1710 : decode code 1710 = .ok (.iload_n 3, 1) := by decide +kernel
theorem dL_law_1711 : decode code 1711 = .ok (.iconst 3, 1) := by decide +kernel
theorem dL_law_1712 : decode code 1712 = .ok (.iadd, 1) := by decide +kernel
theorem dL_law_1713 : decode code 1713 = .ok (.iaload, 1) := by decide +kernel
theorem dL_law_1714 : decode code 1714 = .ok (.invokevirtual 166, 3) := by decide +kernel
theorem dL_law_1717 : decode code 1717 = .ok (.aload_n 2, 1) := by decide +kernel
theorem dL_law_1718 : decode code 1718 = .ok (.aload_n 0, 1) := by decide +kernel
theorem dL_law_1719 : decode code 1719 = .ok (.iload_n 3, 1) := by decide +kernel
theorem dL_law_1720 : decode code 1720 = .ok (.iconst 1, 1) := by decide +kernel
theorem dL_law_1721 : decode code 1721 = .ok (.iadd, 1) := by decide +kernel
theorem dL_law_1722 : decode code 1722 = .ok (.iaload, 1) := by decide +kernel
theorem dL_law_1723 : decode code 1723 = .ok (.aload_n 0, 1) := by decide +kernel
theorem dL_law_1724 : decode code 1724 = .ok (.iload_n 3, 1) := by decide +kernel
theorem dL_law_1725 : decode code 1725 = .ok (.iconst 2, 1) := by decide +kernel
theorem dL_law_1726 : decode code 1726 = .ok (.iadd, 1) := by decide +kernel
theorem dL_law_1727 : decode code 1727 = .ok (.iaload, 1) := by decide +kernel
theorem dL_law_1728 : decode code 1728 = .ok (.aload_n 0, 1) := by decide +kernel
theorem dL_law_1729 : decode code 1729 = .ok (.iload_n 3, 1) := by decide +kernel
theorem dL_law_1730 : decode code 1730 = .ok (.iconst 3, 1) := by decide +kernel
theorem dL_law_1731 : decode code 1731 = .ok (.iadd, 1) := by decide +kernel
theorem dL_law_1732 : decode code 1732 = .ok (.iaload, 1) := by decide +kernel
theorem dL_law_1733 : decode code 1733 = .ok (.invokevirtual 169, 3) := by decide +kernel
theorem dL_law_1736 : decode code 1736 = .ok (.if_icmp .eq 605, 3) := by decide +kernel
theorem dL_law_1739 : decode code 1739 = .ok (.iconst 0, 1) := by decide +kernel
theorem dL_law_1740 : decode code 1740 = .ok (.ireturn, 1) := by decide +kernel
theorem dL_law_1741 : decode code 1741 = .ok (.aload_n 1, 1) := by decide +kernel
theorem dL_law_1742 : decode code 1742 = .ok (.aload_n 0, 1) := by decide +kernel
theorem dL_law_1743 : decode code 1743 = .ok (.iload_n 3, 1) := by decide +kernel
theorem dL_law_1744 : decode code 1744 = .ok (.iconst 1, 1) := by decide +kernel
theorem dL_law_1745 : decode code 1745 = .ok (.iadd, 1) := by decide +kernel
theorem dL_law_1746 : decode code 1746 = .ok (.iaload, 1) := by decide +kernel
theorem dL_law_1747 : decode code 1747 = .ok (.aload_n 0, 1) := by decide +kernel
theorem dL_law_1748 : decode code 1748 = .ok (.iload_n 3, 1) := by decide +kernel
theorem dL_law_1749 : decode code 1749 = .ok (.iconst 2, 1) := by decide +kernel
theorem dL_law_1750 : decode code 1750 = .ok (.iadd, 1) := by decide +kernel
theorem dL_law_1751 : decode code 1751 = .ok (.iaload, 1) := by decide +kernel
theorem dL_law_1752 : decode code 1752 = .ok (.aload_n 0, 1) := by decide +kernel
theorem dL_law_1753 : decode code 1753 = .ok (.iload_n 3, 1) := by decide +kernel
theorem dL_law_1754 : decode code 1754 = .ok (.iconst 3, 1) := by decide +kernel
theorem dL_law_1755 : decode code 1755 = .ok (.iadd, 1) := by decide +kernel
theorem dL_law_1756 : decode code 1756 = .ok (.iaload, 1) := by decide +kernel
theorem dL_law_1757 : decode code 1757 = .ok (.invokevirtual 170, 3) := by decide +kernel
theorem dL_law_1760 : decode code 1760 = .ok (.aload_n 2, 1) := by decide +kernel
theorem dL_law_1761 : decode code 1761 = .ok (.aload_n 0, 1) := by decide +kernel
theorem dL_law_1762 : decode code 1762 = .ok (.iload_n 3, 1) := by decide +kernel
theorem dL_law_1763 : decode code 1763 = .ok (.iconst 1, 1) := by decide +kernel
theorem dL_law_1764 : decode code 1764 = .ok (.iadd, 1) := by decide +kernel
theorem dL_law_1765 : decode code 1765 = .ok (.iaload, 1) := by decide +kernel
theorem dL_law_1766 : decode code 1766 = .ok (.aload_n 0, 1) := by decide +kernel
theorem dL_law_1767 : decode code 1767 = .ok (.iload_n 3, 1) := by decide +kernel
theorem dL_law_1768 : decode code 1768 = .ok (.iconst 2, 1) := by decide +kernel
theorem dL_law_1769 : decode code 1769 = .ok (.iadd, 1) := by decide +kernel
theorem dL_law_1770 : decode code 1770 = .ok (.iaload, 1) := by decide +kernel
theorem dL_law_1771 : decode code 1771 = .ok (.aload_n 0, 1) := by decide +kernel
theorem dL_law_1772 : decode code 1772 = .ok (.iload_n 3, 1) := by decide +kernel
theorem dL_law_1773 : decode code 1773 = .ok (.iconst 3, 1) := by decide +kernel
theorem dL_law_1774 : decode code 1774 = .ok (.iadd, 1) := by decide +kernel
theorem dL_law_1775 : decode code 1775 = .ok (.iaload, 1) := by decide +kernel
theorem dL_law_1776 : decode code 1776 = .ok (.invokevirtual 173, 3) := by decide +kernel
theorem dL_law_1779 : decode code 1779 = .ok (.if_icmp .eq 562, 3) := by decide +kernel
theorem dL_law_1782 : decode code 1782 = .ok (.iconst 0, 1) := by decide +kernel
theorem dL_law_1783 : decode code 1783 = .ok (.ireturn, 1) := by decide +kernel
theorem dL_law_1784 : decode code 1784 = .ok (.aload_n 1, 1) := by decide +kernel
theorem dL_law_1785 : decode code 1785 = .ok (.aload_n 0, 1) := by decide +kernel
theorem dL_law_1786 : decode code 1786 = .ok (.iload_n 3, 1) := by decide +kernel
theorem dL_law_1787 : decode code 1787 = .ok (.iconst 1, 1) := by decide +kernel
theorem dL_law_1788 : decode code 1788 = .ok (.iadd, 1) := by decide +kernel
theorem dL_law_1789 : decode code 1789 = .ok (.iaload, 1) := by decide +kernel
theorem dL_law_1790 : decode code 1790 = .ok (.aload_n 0, 1) := by decide +kernel
theorem dL_law_1791 : decode code 1791 = .ok (.iload_n 3, 1) := by decide +kernel
theorem dL_law_1792 : decode code 1792 = .ok (.iconst 2, 1) := by decide +kernel
theorem dL_law_1793 : decode code 1793 = .ok (.iadd, 1) := by decide +kernel
theorem dL_law_1794 : decode code 1794 = .ok (.iaload, 1) := by decide +kernel
theorem dL_law_1795 : decode code 1795 = .ok (.aload_n 0, 1) := by decide +kernel
theorem dL_law_1796 : decode code 1796 = .ok (.iload_n 3, 1) := by decide +kernel
theorem dL_law_1797 : decode code 1797 = .ok (.iconst 3, 1) := by decide +kernel
theorem dL_law_1798 : decode code 1798 = .ok (.iadd, 1) := by decide +kernel
theorem dL_law_1799 : decode code 1799 = .ok (.iaload, 1) := by decide +kernel
theorem dL_law_1800 : decode code 1800 = .ok (.invokevirtual 174, 3) := by decide +kernel
theorem dL_law_1803 : decode code 1803 = .ok (.aload_n 2, 1) := by decide +kernel
theorem dL_law_1804 : decode code 1804 = .ok (.aload_n 0, 1) := by decide +kernel
theorem dL_law_1805 : decode code 1805 = .ok (.iload_n 3, 1) := by decide +kernel
theorem dL_law_1806 : decode code 1806 = .ok (.iconst 1, 1) := by decide +kernel
theorem dL_law_1807 : decode code 1807 = .ok (.iadd, 1) := by decide +kernel
theorem dL_law_1808 : decode code 1808 = .ok (.iaload, 1) := by decide +kernel
theorem dL_law_1809 : decode code 1809 = .ok (.aload_n 0, 1) := by decide +kernel
theorem dL_law_1810 : decode code 1810 = .ok (.iload_n 3, 1) := by decide +kernel
theorem dL_law_1811 : decode code 1811 = .ok (.iconst 2, 1) := by decide +kernel
theorem dL_law_1812 : decode code 1812 = .ok (.iadd, 1) := by decide +kernel
theorem dL_law_1813 : decode code 1813 = .ok (.iaload, 1) := by decide +kernel
theorem dL_law_1814 : decode code 1814 = .ok (.aload_n 0, 1) := by decide +kernel
theorem dL_law_1815 : decode code 1815 = .ok (.iload_n 3, 1) := by decide +kernel
theorem dL_law_1816 : decode code 1816 = .ok (.iconst 3, 1) := by decide +kernel
theorem dL_law_1817 : decode code 1817 = .ok (.iadd, 1) := by decide +kernel
theorem dL_law_1818 : decode code 1818 = .ok (.iaload, 1) := by decide +kernel
theorem dL_law_1819 : decode code 1819 = .ok (.invokevirtual 177, 3) := by decide +kernel
theorem dL_law_1822 : decode code 1822 = .ok (.if_icmp .eq 519, 3) := by decide +kernel
theorem dL_law_1825 : decode code 1825 = .ok (.iconst 0, 1) := by decide +kernel
theorem dL_law_1826 : decode code 1826 = .ok (.ireturn, 1) := by decide +kernel
theorem dL_law_1827 : decode code 1827 = .ok (.aload_n 1, 1) := by decide +kernel
theorem dL_law_1828 : decode code 1828 = .ok (.aload_n 0, 1) := by decide +kernel
theorem dL_law_1829 : decode code 1829 = .ok (.iload_n 3, 1) := by decide +kernel
theorem dL_law_1830 : decode code 1830 = .ok (.iconst 1, 1) := by decide +kernel
theorem dL_law_1831 : decode code 1831 = .ok (.iadd, 1) := by decide +kernel
theorem dL_law_1832 : decode code 1832 = .ok (.iaload, 1) := by decide +kernel
theorem dL_law_1833 : decode code 1833 = .ok (.aload_n 0, 1) := by decide +kernel
theorem dL_law_1834 : decode code 1834 = .ok (.iload_n 3, 1) := by decide +kernel
theorem dL_law_1835 : decode code 1835 = .ok (.iconst 2, 1) := by decide +kernel
theorem dL_law_1836 : decode code 1836 = .ok (.iadd, 1) := by decide +kernel
theorem dL_law_1837 : decode code 1837 = .ok (.iaload, 1) := by decide +kernel
theorem dL_law_1838 : decode code 1838 = .ok (.invokevirtual 178, 3) := by decide +kernel
theorem dL_law_1841 : decode code 1841 = .ok (.aload_n 2, 1) := by decide +kernel
theorem dL_law_1842 : decode code 1842 = .ok (.aload_n 0, 1) := by decide +kernel
theorem dL_law_1843 : decode code 1843 = .ok (.iload_n 3, 1) := by decide +kernel
theorem dL_law_1844 : decode code 1844 = .ok (.iconst 1, 1) := by decide +kernel
theorem dL_law_1845 : decode code 1845 = .ok (.iadd, 1) := by decide +kernel
theorem dL_law_1846 : decode code 1846 = .ok (.iaload, 1) := by decide +kernel
theorem dL_law_1847 : decode code 1847 = .ok (.aload_n 0, 1) := by decide +kernel
theorem dL_law_1848 : decode code 1848 = .ok (.iload_n 3, 1) := by decide +kernel
theorem dL_law_1849 : decode code 1849 = .ok (.iconst 2, 1) := by decide +kernel
theorem dL_law_1850 : decode code 1850 = .ok (.iadd, 1) := by decide +kernel
theorem dL_law_1851 : decode code 1851 = .ok (.iaload, 1) := by decide +kernel
theorem dL_law_1852 : decode code 1852 = .ok (.invokevirtual 181, 3) := by decide +kernel
theorem dL_law_1855 : decode code 1855 = .ok (.if_icmp .eq 486, 3) := by decide +kernel
theorem dL_law_1858 : decode code 1858 = .ok (.iconst 0, 1) := by decide +kernel
theorem dL_law_1859 : decode code 1859 = .ok (.ireturn, 1) := by decide +kernel
theorem dL_law_1860 : decode code 1860 = .ok (.aload_n 1, 1) := by decide +kernel
theorem dL_law_1861 : decode code 1861 = .ok (.aload_n 0, 1) := by decide +kernel
theorem dL_law_1862 : decode code 1862 = .ok (.iload_n 3, 1) := by decide +kernel
theorem dL_law_1863 : decode code 1863 = .ok (.iconst 1, 1) := by decide +kernel
theorem dL_law_1864 : decode code 1864 = .ok (.iadd, 1) := by decide +kernel
theorem dL_law_1865 : decode code 1865 = .ok (.iaload, 1) := by decide +kernel
theorem dL_law_1866 : decode code 1866 = .ok (.aload_n 0, 1) := by decide +kernel
theorem dL_law_1867 : decode code 1867 = .ok (.iload_n 3, 1) := by decide +kernel
theorem dL_law_1868 : decode code 1868 = .ok (.iconst 2, 1) := by decide +kernel
theorem dL_law_1869 : decode code 1869 = .ok (.iadd, 1) := by decide +kernel
theorem dL_law_1870 : decode code 1870 = .ok (.iaload, 1) := by decide +kernel
theorem dL_law_1871 : decode code 1871 = .ok (.aload_n 0, 1) := by decide +kernel
theorem dL_law_1872 : decode code 1872 = .ok (.iload_n 3, 1) := by decide +kernel
theorem dL_law_1873 : decode code 1873 = .ok (.iconst 3, 1) := by decide +kernel
theorem dL_law_1874 : decode code 1874 = .ok (.iadd, 1) := by decide +kernel
theorem dL_law_1875 : decode code 1875 = .ok (.iaload, 1) := by decide +kernel
theorem dL_law_1876 : decode code 1876 = .ok (.ifCond .eq 7, 3) := by decide +kernel
theorem dL_law_1879 : decode code 1879 = .ok (.iconst 1, 1) := by decide +kernel
theorem dL_law_1880 : decode code 1880 = .ok (.goto 4, 3) := by decide +kernel
theorem dL_law_1883 : decode code 1883 = .ok (.iconst 0, 1) := by decide +kernel
theorem dL_law_1884 : decode code 1884 = .ok (.invokevirtual 182, 3) := by decide +kernel
theorem dL_law_1887 : decode code 1887 = .ok (.aload_n 2, 1) := by decide +kernel
theorem dL_law_1888 : decode code 1888 = .ok (.aload_n 0, 1) := by decide +kernel
theorem dL_law_1889 : decode code 1889 = .ok (.iload_n 3, 1) := by decide +kernel
theorem dL_law_1890 : decode code 1890 = .ok (.iconst 1, 1) := by decide +kernel
theorem dL_law_1891 : decode code 1891 = .ok (.iadd, 1) := by decide +kernel
theorem dL_law_1892 : decode code 1892 = .ok (.iaload, 1) := by decide +kernel
theorem dL_law_1893 : decode code 1893 = .ok (.aload_n 0, 1) := by decide +kernel
theorem dL_law_1894 : decode code 1894 = .ok (.iload_n 3, 1) := by decide +kernel
theorem dL_law_1895 : decode code 1895 = .ok (.iconst 2, 1) := by decide +kernel
theorem dL_law_1896 : decode code 1896 = .ok (.iadd, 1) := by decide +kernel
theorem dL_law_1897 : decode code 1897 = .ok (.iaload, 1) := by decide +kernel
theorem dL_law_1898 : decode code 1898 = .ok (.aload_n 0, 1) := by decide +kernel
theorem dL_law_1899 : decode code 1899 = .ok (.iload_n 3, 1) := by decide +kernel
theorem dL_law_1900 : decode code 1900 = .ok (.iconst 3, 1) := by decide +kernel
theorem dL_law_1901 : decode code 1901 = .ok (.iadd, 1) := by decide +kernel
theorem dL_law_1902 : decode code 1902 = .ok (.iaload, 1) := by decide +kernel
theorem dL_law_1903 : decode code 1903 = .ok (.ifCond .eq 7, 3) := by decide +kernel
theorem dL_law_1906 : decode code 1906 = .ok (.iconst 1, 1) := by decide +kernel
theorem dL_law_1907 : decode code 1907 = .ok (.goto 4, 3) := by decide +kernel
theorem dL_law_1910 : decode code 1910 = .ok (.iconst 0, 1) := by decide +kernel
theorem dL_law_1911 : decode code 1911 = .ok (.invokevirtual 185, 3) := by decide +kernel
theorem dL_law_1914 : decode code 1914 = .ok (.if_icmp .eq 427, 3) := by decide +kernel
theorem dL_law_1917 : decode code 1917 = .ok (.iconst 0, 1) := by decide +kernel
theorem dL_law_1918 : decode code 1918 = .ok (.ireturn, 1) := by decide +kernel
theorem dL_law_1919 : decode code 1919 = .ok (.aload_n 1, 1) := by decide +kernel
theorem dL_law_1920 : decode code 1920 = .ok (.aload_n 0, 1) := by decide +kernel
theorem dL_law_1921 : decode code 1921 = .ok (.iload_n 3, 1) := by decide +kernel
theorem dL_law_1922 : decode code 1922 = .ok (.iconst 1, 1) := by decide +kernel
theorem dL_law_1923 : decode code 1923 = .ok (.iadd, 1) := by decide +kernel
theorem dL_law_1924 : decode code 1924 = .ok (.iaload, 1) := by decide +kernel
theorem dL_law_1925 : decode code 1925 = .ok (.invokevirtual 186, 3) := by decide +kernel
theorem dL_law_1928 : decode code 1928 = .ok (.aload_n 2, 1) := by decide +kernel
theorem dL_law_1929 : decode code 1929 = .ok (.aload_n 0, 1) := by decide +kernel
theorem dL_law_1930 : decode code 1930 = .ok (.iload_n 3, 1) := by decide +kernel
theorem dL_law_1931 : decode code 1931 = .ok (.iconst 1, 1) := by decide +kernel
theorem dL_law_1932 : decode code 1932 = .ok (.iadd, 1) := by decide +kernel
theorem dL_law_1933 : decode code 1933 = .ok (.iaload, 1) := by decide +kernel
theorem dL_law_1934 : decode code 1934 = .ok (.invokevirtual 189, 3) := by decide +kernel
theorem dL_law_1937 : decode code 1937 = .ok (.if_icmp .eq 404, 3) := by decide +kernel
theorem dL_law_1940 : decode code 1940 = .ok (.iconst 0, 1) := by decide +kernel
theorem dL_law_1941 : decode code 1941 = .ok (.ireturn, 1) := by decide +kernel
theorem dL_law_1942 : decode code 1942 = .ok (.aload_n 1, 1) := by decide +kernel
theorem dL_law_1943 : decode code 1943 = .ok (.aload_n 0, 1) := by decide +kernel
theorem dL_law_1944 : decode code 1944 = .ok (.iload_n 3, 1) := by decide +kernel
theorem dL_law_1945 : decode code 1945 = .ok (.iconst 1, 1) := by decide +kernel
theorem dL_law_1946 : decode code 1946 = .ok (.iadd, 1) := by decide +kernel
theorem dL_law_1947 : decode code 1947 = .ok (.iaload, 1) := by decide +kernel
theorem dL_law_1948 : decode code 1948 = .ok (.aload_n 0, 1) := by decide +kernel
theorem dL_law_1949 : decode code 1949 = .ok (.iload_n 3, 1) := by decide +kernel
theorem dL_law_1950 : decode code 1950 = .ok (.iconst 2, 1) := by decide +kernel
theorem dL_law_1951 : decode code 1951 = .ok (.iadd, 1) := by decide +kernel
theorem dL_law_1952 : decode code 1952 = .ok (.iaload, 1) := by decide +kernel
theorem dL_law_1953 : decode code 1953 = .ok (.invokevirtual 190, 3) := by decide +kernel
theorem dL_law_1956 : decode code 1956 = .ok (.aload_n 2, 1) := by decide +kernel
theorem dL_law_1957 : decode code 1957 = .ok (.aload_n 0, 1) := by decide +kernel
theorem dL_law_1958 : decode code 1958 = .ok (.iload_n 3, 1) := by decide +kernel
theorem dL_law_1959 : decode code 1959 = .ok (.iconst 1, 1) := by decide +kernel
theorem dL_law_1960 : decode code 1960 = .ok (.iadd, 1) := by decide +kernel
theorem dL_law_1961 : decode code 1961 = .ok (.iaload, 1) := by decide +kernel
theorem dL_law_1962 : decode code 1962 = .ok (.aload_n 0, 1) := by decide +kernel
theorem dL_law_1963 : decode code 1963 = .ok (.iload_n 3, 1) := by decide +kernel
theorem dL_law_1964 : decode code 1964 = .ok (.iconst 2, 1) := by decide +kernel
theorem dL_law_1965 : decode code 1965 = .ok (.iadd, 1) := by decide +kernel
theorem dL_law_1966 : decode code 1966 = .ok (.iaload, 1) := by decide +kernel
theorem dL_law_1967 : decode code 1967 = .ok (.invokevirtual 193, 3) := by decide +kernel
theorem dL_law_1970 : decode code 1970 = .ok (.if_icmp .eq 371, 3) := by decide +kernel
theorem dL_law_1973 : decode code 1973 = .ok (.iconst 0, 1) := by decide +kernel
theorem dL_law_1974 : decode code 1974 = .ok (.ireturn, 1) := by decide +kernel
theorem dL_law_1975 : decode code 1975 = .ok (.aload_n 1, 1) := by decide +kernel
theorem dL_law_1976 : decode code 1976 = .ok (.aload_n 0, 1) := by decide +kernel
theorem dL_law_1977 : decode code 1977 = .ok (.iload_n 3, 1) := by decide +kernel
theorem dL_law_1978 : decode code 1978 = .ok (.iconst 1, 1) := by decide +kernel
theorem dL_law_1979 : decode code 1979 = .ok (.iadd, 1) := by decide +kernel
theorem dL_law_1980 : decode code 1980 = .ok (.iaload, 1) := by decide +kernel
theorem dL_law_1981 : decode code 1981 = .ok (.aload_n 0, 1) := by decide +kernel
theorem dL_law_1982 : decode code 1982 = .ok (.iload_n 3, 1) := by decide +kernel
